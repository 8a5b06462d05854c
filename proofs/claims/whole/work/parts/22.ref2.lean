def rCan (hp : HPt) (j : Nat) : Bool := rAwk hp && !decide (999 ≤ hp (17, 0, 0, 0) (cI j 15))
theorem tX7_canRefresh {g : Gh} {j : Nat} {hp : HPt} (hj : j < 8) : Ci g mX7_canRefresh [vR (16, 0, 0, 0), vI (nI j)] hp (bi (rCan hp j)) hp := by
  unfold Ci
  refine r_aload_n dX7_canRefresh_0 (i := 0) rfl rfl ?_
  refine sX7_canRefresh_1 (Nat.le_refl _) (Nat.le_refl _) rfl lv16 (Nat.le_of_ble_eq_true rfl) (tX7_areAwake) ?_
  refine r_if_eq dX7_canRefresh_4 (tgt := 28) rfl (fun h4 => ?_) (fun h4 => ?_)
  · refine r_iconst dX7_canRefresh_28 (v := 0) rfl ?_
    exact e_i dX7_canRefresh_29 rfl (by first | rfl | exact bi_nar _) (by (simp only [bi_0, bi_n0] at *; first | rfl | simp_all [bi, rCan])) rfl
  · refine r_aload_n dX7_canRefresh_7 (i := 0) rfl rfl ?_
    refine r_getR dX7_canRefresh_8 f_7_7 rfl rfl rfl lv16 ?_
    refine r_iload_n dX7_canRefresh_11 (i := 1) rfl rfl ?_
    refine r_iconst dX7_canRefresh_12 (v := 0) rfl ?_
    refine r_iconst dX7_canRefresh_13 (v := 0) rfl ?_
    refine sX7_canRefresh_14 (Nat.le_refl _) (Nat.le_refl _) (Nat.le_of_ble_eq_true rfl) (tX7_at rfl (r := 0) rfl (w := 0) rfl (f := 15) rfl) ?_
    refine n_iald dX7_canRefresh_17 rfl lv17 rfl (by first | assumption | omega | (unfold cI; omega)) ?_
    refine r_sipush dX7_canRefresh_18 (v := 999) rfl ?_
    refine r_icmp_ge dX7_canRefresh_21 (tgt := 28) rfl (fun h21 => ?_) (fun h21 => ?_)
    · refine r_iconst dX7_canRefresh_28 (v := 0) rfl ?_
      exact e_i dX7_canRefresh_29 rfl (by first | rfl | exact bi_nar _) (by (simp only [bi_0, bi_n0] at *; first | rfl | simp_all [bi, rCan])) rfl
    · refine r_iconst dX7_canRefresh_24 (v := 1) rfl ?_
      refine r_goto dX7_canRefresh_25 (tgt := 29) rfl ?_
      exact e_i dX7_canRefresh_29 rfl (by first | rfl | exact bi_nar _) (by (simp only [bi_0, bi_n0] at *; first | rfl | simp_all [bi, rCan])) rfl
/-- the versions' cells above k, moved by one version -/
def rsh (hp : HPt) (j k : Nat) : HPt := fun a i => if a = (17, 0, 0, 0) ∧ cI j (15 + k) < i ∧ i < cI j 35 then hp a (i - 4) else hp a i
theorem rsh_set {hp : HPt} {j k : Nat} (hk : k + 1 < 20) (h3 : 3 ≤ k) : hset (rsh hp j (k + 1)) (17, 0, 0, 0) (cI j (15 + (k + 1))) (rsh hp j (k + 1) (17, 0, 0, 0) (cI j (15 + (k + 1) - 4))) = rsh hp j k := by
  funext a i
  unfold hset rsh
  by_cases ha : a = (17, 0, 0, 0)
  · subst ha
    by_cases hi : i = cI j (15 + (k + 1))
    · subst hi
      unfold cI
      simp only [and_self, if_true, true_and]
      rw [if_neg (by omega), if_pos (by omega)]
      congr 1
      omega
    · simp only [hi, and_false, if_false, true_and]
      by_cases h1 : cI j (15 + (k + 1)) < i ∧ i < cI j 35
      · rw [if_pos h1, if_pos (by unfold cI at *; omega)]
      · rw [if_neg h1, if_neg (by unfold cI at *; omega)]
  · simp [ha]
theorem rsh_19 {hp : HPt} {j : Nat} : rsh hp j 19 = hp := by
  funext a i
  unfold rsh cI
  rw [if_neg (by omega)]
theorem lX7_refreshes {g : Gh} {j : Nat} {hp : HPt} {P : Pst} {x2 x3 : Option Vv} {x4 : Int32} (hj : j < 8) (hE : ∀ x5, V g mX7_refreshes 0 0 0 0 616 115 [some (vR (16, 0, 0, 0)), some (vI (nI j)), x2, x3, some (vI x4), x5] [] RP (rsh hp j 3) P) : ∀ d k, k = 3 + d → k < 20 → V g mX7_refreshes 0 0 0 0 616 73 [some (vR (16, 0, 0, 0)), some (vI (nI j)), x2, x3, some (vI x4), some (vI (nI k))] [] RP (rsh hp j k) P := by
  intro d
  induction d with
  | zero =>
    intro k hk h20
    have hk : k = 3 := by omega
    subst hk
    refine r_iload dX7_refreshes_73 rfl ?_
    refine r_iconst dX7_refreshes_75 (v := 4) rfl ?_
    refine r_icmp_lt dX7_refreshes_76 (tgt := 115) rfl (fun _ => ?_) (fun h76 => absurd ((by decide : nI 3 < (4 : Int32))) h76)
    exact hE _
  | succ d ih =>
    intro k hk h20
    obtain ⟨q, rfl⟩ : ∃ q, k = q + 1 := ⟨k - 1, by omega⟩
    have h := ih q (by omega) (by omega)
    have e1 : (15 : Int32) + nI (q + 1) - 4 = nI (15 + (q + 1) - 4) := by
      rw [show (15 : Int32) = nI 15 from rfl, nI_add, show (4 : Int32) = nI 4 from rfl, pk_sub (by omega)]
    refine r_iload dX7_refreshes_73 rfl ?_
    refine r_iconst dX7_refreshes_75 (v := 4) rfl ?_
    refine r_icmp_lt dX7_refreshes_76 (tgt := 115) rfl (fun h76 => absurd h76 (nI_nlt (a := q + 1) (b := 4) (by omega) (by omega))) (fun _ => ?_)
    refine r_aload_n dX7_refreshes_79 (i := 0) rfl rfl ?_
    refine r_getR dX7_refreshes_80 f_7_7 rfl rfl rfl lv16 ?_
    refine r_iload_n dX7_refreshes_83 (i := 1) rfl rfl ?_
    refine r_bipush dX7_refreshes_84 (v := 15) rfl ?_
    refine r_iload dX7_refreshes_86 rfl ?_
    refine r_iadd dX7_refreshes_88 ?_
    refine sX7_refreshes_89 (Nat.le_refl _) (Nat.le_refl _) (Nat.le_of_ble_eq_true rfl) (tX7_cell rfl (nI_add 15 (q + 1))) ?_
    refine r_aload_n dX7_refreshes_92 (i := 0) rfl rfl ?_
    refine r_getR dX7_refreshes_93 f_7_7 rfl rfl rfl lv16 ?_
    refine r_iload_n dX7_refreshes_96 (i := 1) rfl rfl ?_
    refine r_bipush dX7_refreshes_97 (v := 15) rfl ?_
    refine r_iload dX7_refreshes_99 rfl ?_
    refine r_iadd dX7_refreshes_101 ?_
    refine r_iconst dX7_refreshes_102 (v := 4) rfl ?_
    refine r_isub dX7_refreshes_103 ?_
    refine sX7_refreshes_104 (Nat.le_refl _) (Nat.le_refl _) (Nat.le_of_ble_eq_true rfl) (tX7_cell rfl e1) ?_
    refine n_iald dX7_refreshes_107 rfl lv17 rfl (by first | assumption | omega | (unfold cI; omega)) ?_
    refine n_iast dX7_refreshes_108 rfl lv17 rfl (by first | assumption | omega | (unfold cI; omega)) ?_
    refine V.eqH (rsh_set (by omega) (by omega)) ?_
    refine r_dec1 dX7_refreshes_109 rfl (Nat.le_of_ble_eq_true rfl) rfl ?_
    refine r_goto dX7_refreshes_112 (tgt := 73) rfl ?_
    refine V.eqL ?_ h
    show [_, _, _, _, _, some (vI (nI (q + 1) + (-1)))] = _
    rw [pk_m1]
def rVal (hp : HPt) (j : Nat) : Int32 := jrem (hp (17, 0, 0, 0) (cI j 16) + hp (17, 0, 0, 0) (cI j 17)) 256
/-- the reference's refreshing: m old versions, o of them kept at most -/
def rf1 (hp : HPt) (j m o : Nat) : HPt := if 0 < o then hset (rsh (RB hp j m (o - 1)) j 3) (17, 0, 0, 0) (cI j 0) (RB hp j m (o - 1) (17, 0, 0, 0) (cI j 0) + 1) else hset (RB hp j m 0) (17, 0, 0, 0) 9 (RB hp j m 0 (17, 0, 0, 0) 9 + 1)
def RF (hp : HPt) (j m o : Nat) : HPt := RM (rf1 hp j m o) j (rVal hp j) (hp (17, 0, 0, 0) (cI j 15) + 1)
theorem RB_i {hp : HPt} {j m l i : Nat} (h : (i < cI j 0 ∧ i ≠ 9) ∨ (cI j 0 < i ∧ i < cI j 19) ∨ cI j 35 ≤ i) (hm : m < 5) : RB hp j m l (17, 0, 0, 0) i = hp (17, 0, 0, 0) i := by
  unfold RB
  rw [hs_i (by unfold cI at h; omega)]
  exact rbs_i (by unfold cI at h ⊢; omega) hm _ (by omega)
theorem tX7_refreshes {g : Gh} {j m o : Nat} {hp : HPt} (hj : j < 8) (hm : m < 5) (hM : hp (17, 0, 0, 0) (cI j 0) = nI m) (ho : o < 5) (hO : hp (17, 0, 0, 0) 2 = nI o) : Cv g mX7_refreshes [vR (16, 0, 0, 0), vI (nI j)] hp (RF hp j m o) := by
  unfold Cv
  by_cases h0 : 0 < o
  · have e1 : nI o - 1 = nI (o - 1) := by
      obtain ⟨q, rfl⟩ : ∃ q, o = q + 1 := ⟨o - 1, by omega⟩
      exact nI_pred q
    have e2 : RB hp j m (o - 1) (17, 0, 0, 0) 2 = nI o := by rw [RB_i (Or.inl (by unfold cI; omega)) hm]; exact hO
    have e3 : rsh (RB hp j m (o - 1)) j 3 (17, 0, 0, 0) (cI j 0) = RB hp j m (o - 1) (17, 0, 0, 0) (cI j 0) := by
      unfold rsh
      rw [if_neg (by unfold cI; omega)]
    have hE : ∀ x5, V g mX7_refreshes 0 0 0 0 616 115 [some (vR (16, 0, 0, 0)), some (vI (nI j)), some (vI (rVal hp j)), some (vI (hp (17, 0, 0, 0) (cI j 15) + 1)), some (vI (nI (m - (o - 1)))), x5] [] RP (rsh (RB hp j m (o - 1)) j 3) (Pv (RF hp j m o)) := by
      intro x5
      refine r_aload_n dX7_refreshes_115 (i := 0) rfl rfl ?_
      refine r_getR dX7_refreshes_116 f_7_7 rfl rfl rfl lv16 ?_
      refine r_iload_n dX7_refreshes_119 (i := 1) rfl rfl ?_
      refine r_iconst dX7_refreshes_120 (v := 0) rfl ?_
      refine sX7_refreshes_121 (Nat.le_refl _) (Nat.le_refl _) (Nat.le_of_ble_eq_true rfl) (tX7_cell rfl (f := 0) rfl) ?_
      refine r_dup2 dX7_refreshes_124 rfl rfl ?_
      refine n_iald dX7_refreshes_125 rfl lv17 rfl (by first | assumption | omega | (unfold cI; omega)) ?_
      refine r_iconst dX7_refreshes_126 (v := 1) rfl ?_
      refine r_iadd dX7_refreshes_127 ?_
      refine n_iast dX7_refreshes_128 rfl lv17 rfl (by first | assumption | omega | (unfold cI; omega)) ?_
      refine V.eqH (hp2 := rf1 hp j m o) (by rw [e3]; simp [rf1, h0]) ?_
      refine r_goto dX7_refreshes_129 (tgt := 143) rfl ?_
      refine r_aload_n dX7_refreshes_143 (i := 0) rfl rfl ?_
      refine r_iload_n dX7_refreshes_144 (i := 1) rfl rfl ?_
      refine r_iload_n dX7_refreshes_145 (i := 2) rfl rfl ?_
      refine r_iload_n dX7_refreshes_146 (i := 3) rfl rfl ?_
      refine sX7_refreshes_147 (Nat.le_refl _) (Nat.le_refl _) rfl lv16 (Nat.le_of_ble_eq_true rfl) (tX7_makes hj) ?_
      exact e_v dX7_refreshes_150 rfl (by first | rfl | simp [hset])
    have hL := lX7_refreshes (g := g) hj hE 16 19 rfl (by decide)
    rw [rsh_19] at hL
    refine r_aload_n dX7_refreshes_0 (i := 0) rfl rfl ?_
    refine r_iconst dX7_refreshes_1 (v := 0) rfl ?_
    refine r_iload_n dX7_refreshes_2 (i := 1) rfl rfl ?_
    refine sX7_refreshes_3 (Nat.le_refl _) (Nat.le_refl _) rfl lv16 (Nat.le_of_ble_eq_true rfl) (tX7_partOf (b := 0) hj (by decide)) ?_
    refine r_aload_n dX7_refreshes_6 (i := 0) rfl rfl ?_
    refine r_iconst dX7_refreshes_7 (v := 1) rfl ?_
    refine r_iload_n dX7_refreshes_8 (i := 1) rfl rfl ?_
    refine sX7_refreshes_9 (Nat.le_refl _) (Nat.le_refl _) rfl lv16 (Nat.le_of_ble_eq_true rfl) (tX7_partOf (b := 1) hj (by decide)) ?_
    refine r_iadd dX7_refreshes_12 ?_
    refine r_sipush dX7_refreshes_13 (v := 256) rfl ?_
    refine r_irem dX7_refreshes_16 (by decide) ?_
    refine r_istore_n dX7_refreshes_17 (i := 2) rfl (Nat.le_of_ble_eq_true rfl) rfl rfl ?_
    refine r_aload_n dX7_refreshes_18 (i := 0) rfl rfl ?_
    refine r_getR dX7_refreshes_19 f_7_7 rfl rfl rfl lv16 ?_
    refine r_iload_n dX7_refreshes_22 (i := 1) rfl rfl ?_
    refine r_iconst dX7_refreshes_23 (v := 0) rfl ?_
    refine r_iconst dX7_refreshes_24 (v := 0) rfl ?_
    refine sX7_refreshes_25 (Nat.le_refl _) (Nat.le_refl _) (Nat.le_of_ble_eq_true rfl) (tX7_at rfl (r := 0) rfl (w := 0) rfl (f := 15) rfl) ?_
    refine n_iald dX7_refreshes_28 rfl lv17 rfl (by first | assumption | omega | (unfold cI; omega)) ?_
    refine r_iconst dX7_refreshes_29 (v := 1) rfl ?_
    refine r_iadd dX7_refreshes_30 ?_
    refine r_istore_n dX7_refreshes_31 (i := 3) rfl (Nat.le_of_ble_eq_true rfl) rfl rfl ?_
    refine r_aload_n dX7_refreshes_32 (i := 0) rfl rfl ?_
    refine r_iload_n dX7_refreshes_33 (i := 1) rfl rfl ?_
    refine r_aload_n dX7_refreshes_34 (i := 0) rfl rfl ?_
    refine r_getR dX7_refreshes_35 f_7_7 rfl rfl rfl lv16 ?_
    refine r_iconst dX7_refreshes_38 (v := 2) rfl ?_
    refine n_iald dX7_refreshes_39 rfl lv17 (k := 2) rfl (by decide) ?_
    refine r_if_le dX7_refreshes_40 (tgt := 54) rfl (fun h40 => absurd h40 ((by rw [hO]; exact nI_nle h0 (by omega)))) (fun _ => ?_)
    refine r_aload_n dX7_refreshes_43 (i := 0) rfl rfl ?_
    refine r_getR dX7_refreshes_44 f_7_7 rfl rfl rfl lv16 ?_
    refine r_iconst dX7_refreshes_47 (v := 2) rfl ?_
    refine n_iald dX7_refreshes_48 rfl lv17 (k := 2) rfl (by decide) ?_
    refine r_iconst dX7_refreshes_49 (v := 1) rfl ?_
    refine r_isub dX7_refreshes_50 ?_
    rw [hO, e1]
    refine r_goto dX7_refreshes_51 (tgt := 55) rfl ?_
    refine sX7_refreshes_55 (Nat.le_refl _) (Nat.le_refl _) rfl lv16 (Nat.le_of_ble_eq_true rfl) (tX7_burns hj hm hM (by omega)) ?_
    refine r_istore dX7_refreshes_58 (Nat.le_of_ble_eq_true rfl) rfl rfl ?_
    refine r_aload_n dX7_refreshes_60 (i := 0) rfl rfl ?_
    refine r_getR dX7_refreshes_61 f_7_7 rfl rfl rfl lv16 ?_
    refine r_iconst dX7_refreshes_64 (v := 2) rfl ?_
    refine n_iald dX7_refreshes_65 rfl lv17 (k := 2) rfl (by decide) ?_
    refine r_if_le dX7_refreshes_66 (tgt := 132) rfl (fun h66 => absurd h66 ((by rw [e2]; exact nI_nle h0 (by omega)))) (fun _ => ?_)
    refine r_bipush dX7_refreshes_69 (v := 19) rfl ?_
    refine r_istore dX7_refreshes_71 (Nat.le_of_ble_eq_true rfl) rfl rfl ?_
    exact hL
  · have h00 : o = 0 := by omega
    subst h00
    have e2 : RB hp j m 0 (17, 0, 0, 0) 2 = 0 := by rw [RB_i (Or.inl (by unfold cI; omega)) hm]; exact hO
    refine r_aload_n dX7_refreshes_0 (i := 0) rfl rfl ?_
    refine r_iconst dX7_refreshes_1 (v := 0) rfl ?_
    refine r_iload_n dX7_refreshes_2 (i := 1) rfl rfl ?_
    refine sX7_refreshes_3 (Nat.le_refl _) (Nat.le_refl _) rfl lv16 (Nat.le_of_ble_eq_true rfl) (tX7_partOf (b := 0) hj (by decide)) ?_
    refine r_aload_n dX7_refreshes_6 (i := 0) rfl rfl ?_
    refine r_iconst dX7_refreshes_7 (v := 1) rfl ?_
    refine r_iload_n dX7_refreshes_8 (i := 1) rfl rfl ?_
    refine sX7_refreshes_9 (Nat.le_refl _) (Nat.le_refl _) rfl lv16 (Nat.le_of_ble_eq_true rfl) (tX7_partOf (b := 1) hj (by decide)) ?_
    refine r_iadd dX7_refreshes_12 ?_
    refine r_sipush dX7_refreshes_13 (v := 256) rfl ?_
    refine r_irem dX7_refreshes_16 (by decide) ?_
    refine r_istore_n dX7_refreshes_17 (i := 2) rfl (Nat.le_of_ble_eq_true rfl) rfl rfl ?_
    refine r_aload_n dX7_refreshes_18 (i := 0) rfl rfl ?_
    refine r_getR dX7_refreshes_19 f_7_7 rfl rfl rfl lv16 ?_
    refine r_iload_n dX7_refreshes_22 (i := 1) rfl rfl ?_
    refine r_iconst dX7_refreshes_23 (v := 0) rfl ?_
    refine r_iconst dX7_refreshes_24 (v := 0) rfl ?_
    refine sX7_refreshes_25 (Nat.le_refl _) (Nat.le_refl _) (Nat.le_of_ble_eq_true rfl) (tX7_at rfl (r := 0) rfl (w := 0) rfl (f := 15) rfl) ?_
    refine n_iald dX7_refreshes_28 rfl lv17 rfl (by first | assumption | omega | (unfold cI; omega)) ?_
    refine r_iconst dX7_refreshes_29 (v := 1) rfl ?_
    refine r_iadd dX7_refreshes_30 ?_
    refine r_istore_n dX7_refreshes_31 (i := 3) rfl (Nat.le_of_ble_eq_true rfl) rfl rfl ?_
    refine r_aload_n dX7_refreshes_32 (i := 0) rfl rfl ?_
    refine r_iload_n dX7_refreshes_33 (i := 1) rfl rfl ?_
    refine r_aload_n dX7_refreshes_34 (i := 0) rfl rfl ?_
    refine r_getR dX7_refreshes_35 f_7_7 rfl rfl rfl lv16 ?_
    refine r_iconst dX7_refreshes_38 (v := 2) rfl ?_
    refine n_iald dX7_refreshes_39 rfl lv17 (k := 2) rfl (by decide) ?_
    refine r_if_le dX7_refreshes_40 (tgt := 54) rfl (fun _ => ?_) (fun h40 => absurd ((by rw [hO]; decide)) h40)
    refine r_iconst dX7_refreshes_54 (v := 0) rfl ?_
    refine sX7_refreshes_55 (Nat.le_refl _) (Nat.le_refl _) rfl lv16 (Nat.le_of_ble_eq_true rfl) (tX7_burns (l := 0) hj hm hM (by decide)) ?_
    refine r_istore dX7_refreshes_58 (Nat.le_of_ble_eq_true rfl) rfl rfl ?_
    refine r_aload_n dX7_refreshes_60 (i := 0) rfl rfl ?_
    refine r_getR dX7_refreshes_61 f_7_7 rfl rfl rfl lv16 ?_
    refine r_iconst dX7_refreshes_64 (v := 2) rfl ?_
    refine n_iald dX7_refreshes_65 rfl lv17 (k := 2) rfl (by decide) ?_
    refine r_if_le dX7_refreshes_66 (tgt := 132) rfl (fun _ => ?_) (fun h66 => absurd ((by rw [e2]; decide)) h66)
    refine r_aload_n dX7_refreshes_132 (i := 0) rfl rfl ?_
    refine r_getR dX7_refreshes_133 f_7_7 rfl rfl rfl lv16 ?_
    refine r_bipush dX7_refreshes_136 (v := 9) rfl ?_
    refine r_dup2 dX7_refreshes_138 rfl rfl ?_
    refine n_iald dX7_refreshes_139 rfl lv17 (k := 9) rfl (by decide) ?_
    refine r_iconst dX7_refreshes_140 (v := 1) rfl ?_
    refine r_iadd dX7_refreshes_141 ?_
    refine n_iast dX7_refreshes_142 rfl lv17 (k := 9) rfl (by decide) ?_
    refine V.eqH (hp2 := rf1 hp j m 0) (by simp [rf1]) ?_
    refine r_aload_n dX7_refreshes_143 (i := 0) rfl rfl ?_
    refine r_iload_n dX7_refreshes_144 (i := 1) rfl rfl ?_
    refine r_iload_n dX7_refreshes_145 (i := 2) rfl rfl ?_
    refine r_iload_n dX7_refreshes_146 (i := 3) rfl rfl ?_
    refine sX7_refreshes_147 (Nat.le_refl _) (Nat.le_refl _) rfl lv16 (Nat.le_of_ble_eq_true rfl) (tX7_makes hj) ?_
    exact e_v dX7_refreshes_150 rfl (by first | rfl | simp [hset])
def rTag (hp : HPt) (j b : Nat) : Int32 := jrem (hp (17, 0, 0, 0) (cI j (11 + b)) * hp (17, 0, 0, 0) (cI j (16 + b)) + hp (17, 0, 0, 0) (cI j (13 + b))) 257
theorem tX7_tagOf {g : Gh} {j b : Nat} {hp : HPt} (hj : j < 8) (hb : b < 2) : Ci g mX7_tagOf [vR (16, 0, 0, 0), vI (nI b), vI (nI j)] hp (rTag hp j b) hp := by
  unfold Ci
  refine r_aload_n dX7_tagOf_0 (i := 0) rfl rfl ?_
  refine r_getR dX7_tagOf_1 f_7_7 rfl rfl rfl lv16 ?_
  refine r_iload_n dX7_tagOf_4 (i := 2) rfl rfl ?_
  refine r_bipush dX7_tagOf_5 (v := 11) rfl ?_
  refine r_iload_n dX7_tagOf_7 (i := 1) rfl rfl ?_
  refine r_iadd dX7_tagOf_8 ?_
  refine sX7_tagOf_9 (Nat.le_refl _) (Nat.le_refl _) (Nat.le_of_ble_eq_true rfl) (tX7_cell rfl (nI_add 11 _)) ?_
  refine n_iald dX7_tagOf_12 rfl lv17 rfl (by first | assumption | omega | (unfold cI; omega)) ?_
  refine r_aload_n dX7_tagOf_13 (i := 0) rfl rfl ?_
  refine r_iload_n dX7_tagOf_14 (i := 1) rfl rfl ?_
  refine r_iload_n dX7_tagOf_15 (i := 2) rfl rfl ?_
  refine sX7_tagOf_16 (Nat.le_refl _) (Nat.le_refl _) rfl lv16 (Nat.le_of_ble_eq_true rfl) (tX7_partOf hj hb) ?_
  refine r_imul dX7_tagOf_19 ?_
  refine r_aload_n dX7_tagOf_20 (i := 0) rfl rfl ?_
  refine r_getR dX7_tagOf_21 f_7_7 rfl rfl rfl lv16 ?_
  refine r_iload_n dX7_tagOf_24 (i := 2) rfl rfl ?_
  refine r_bipush dX7_tagOf_25 (v := 13) rfl ?_
  refine r_iload_n dX7_tagOf_27 (i := 1) rfl rfl ?_
  refine r_iadd dX7_tagOf_28 ?_
  refine sX7_tagOf_29 (Nat.le_refl _) (Nat.le_refl _) (Nat.le_of_ble_eq_true rfl) (tX7_cell rfl (nI_add 13 _)) ?_
  refine n_iald dX7_tagOf_32 rfl lv17 rfl (by first | assumption | omega | (unfold cI; omega)) ?_
  refine r_iadd dX7_tagOf_33 ?_
  refine r_sipush dX7_tagOf_34 (v := 257) rfl ?_
  refine r_irem dX7_tagOf_37 (by decide) ?_
  exact e_i dX7_tagOf_38 rfl (by first | rfl | exact bi_nar _) (by first | rfl | simp [bi, *]) rfl
def rTold (hp : HPt) (j b : Nat) (o : Int32) : Int32 := jrem (hp (17, 0, 0, 0) (cI j (16 + b)) + o) 256
theorem tX7_toldPart {g : Gh} {j b : Nat} {o : Int32} {hp : HPt} (hj : j < 8) (hb : b < 2) : Ci g mX7_toldPart [vR (16, 0, 0, 0), vI (nI b), vI (nI j), vI o] hp (rTold hp j b o) hp := by
  unfold Ci
  refine r_aload_n dX7_toldPart_0 (i := 0) rfl rfl ?_
  refine r_iload_n dX7_toldPart_1 (i := 1) rfl rfl ?_
  refine r_iload_n dX7_toldPart_2 (i := 2) rfl rfl ?_
  refine sX7_toldPart_3 (Nat.le_refl _) (Nat.le_refl _) rfl lv16 (Nat.le_of_ble_eq_true rfl) (tX7_partOf hj hb) ?_
  refine r_iload_n dX7_toldPart_6 (i := 3) rfl rfl ?_
  refine r_iadd dX7_toldPart_7 ?_
  refine r_sipush dX7_toldPart_8 (v := 256) rfl ?_
  refine r_irem dX7_toldPart_11 (by decide) ?_
  exact e_i dX7_toldPart_12 rfl (by first | rfl | exact bi_nar _) (by first | rfl | simp [bi, *]) rfl
def rPs (hp : HPt) (j b : Nat) (o q : Int32) : Bool := decide (jrem (hp (17, 0, 0, 0) (cI j (11 + b)) * rTold hp j b o + hp (17, 0, 0, 0) (cI j (13 + b))) 257 = jrem (rTag hp j b + q) 257)
theorem tX7_isPassed {g : Gh} {j b : Nat} {o q : Int32} {hp : HPt} (hj : j < 8) (hb : b < 2) : Ci g mX7_isPassed [vR (16, 0, 0, 0), vI (nI b), vI (nI j), vI o, vI q] hp (bi (rPs hp j b o q)) hp := by
  unfold Ci
  refine r_aload_n dX7_isPassed_0 (i := 0) rfl rfl ?_
  refine r_getR dX7_isPassed_1 f_7_7 rfl rfl rfl lv16 ?_
  refine r_iload_n dX7_isPassed_4 (i := 2) rfl rfl ?_
  refine r_bipush dX7_isPassed_5 (v := 11) rfl ?_
  refine r_iload_n dX7_isPassed_7 (i := 1) rfl rfl ?_
  refine r_iadd dX7_isPassed_8 ?_
  refine sX7_isPassed_9 (Nat.le_refl _) (Nat.le_refl _) (Nat.le_of_ble_eq_true rfl) (tX7_cell rfl (nI_add 11 _)) ?_
  refine n_iald dX7_isPassed_12 rfl lv17 rfl (by first | assumption | omega | (unfold cI; omega)) ?_
  refine r_aload_n dX7_isPassed_13 (i := 0) rfl rfl ?_
  refine r_iload_n dX7_isPassed_14 (i := 1) rfl rfl ?_
  refine r_iload_n dX7_isPassed_15 (i := 2) rfl rfl ?_
  refine r_iload_n dX7_isPassed_16 (i := 3) rfl rfl ?_
  refine sX7_isPassed_17 (Nat.le_refl _) (Nat.le_refl _) rfl lv16 (Nat.le_of_ble_eq_true rfl) (tX7_toldPart hj hb) ?_
  refine r_imul dX7_isPassed_20 ?_
  refine r_aload_n dX7_isPassed_21 (i := 0) rfl rfl ?_
  refine r_getR dX7_isPassed_22 f_7_7 rfl rfl rfl lv16 ?_
  refine r_iload_n dX7_isPassed_25 (i := 2) rfl rfl ?_
  refine r_bipush dX7_isPassed_26 (v := 13) rfl ?_
  refine r_iload_n dX7_isPassed_28 (i := 1) rfl rfl ?_
  refine r_iadd dX7_isPassed_29 ?_
  refine sX7_isPassed_30 (Nat.le_refl _) (Nat.le_refl _) (Nat.le_of_ble_eq_true rfl) (tX7_cell rfl (nI_add 13 _)) ?_
  refine n_iald dX7_isPassed_33 rfl lv17 rfl (by first | assumption | omega | (unfold cI; omega)) ?_
  refine r_iadd dX7_isPassed_34 ?_
  refine r_sipush dX7_isPassed_35 (v := 257) rfl ?_
  refine r_irem dX7_isPassed_38 (by decide) ?_
  refine r_istore dX7_isPassed_39 (Nat.le_of_ble_eq_true rfl) rfl rfl ?_
  refine r_iload dX7_isPassed_41 rfl ?_
  refine r_aload_n dX7_isPassed_43 (i := 0) rfl rfl ?_
  refine r_iload_n dX7_isPassed_44 (i := 1) rfl rfl ?_
  refine r_iload_n dX7_isPassed_45 (i := 2) rfl rfl ?_
  refine sX7_isPassed_46 (Nat.le_refl _) (Nat.le_refl _) rfl lv16 (Nat.le_of_ble_eq_true rfl) (tX7_tagOf hj hb) ?_
  refine r_iload dX7_isPassed_49 rfl ?_
  refine r_iadd dX7_isPassed_51 ?_
  refine r_sipush dX7_isPassed_52 (v := 257) rfl ?_
  refine r_irem dX7_isPassed_55 (by decide) ?_
  refine r_icmp_ne dX7_isPassed_56 (tgt := 63) rfl (fun h56 => ?_) (fun h56 => ?_)
  · refine r_iconst dX7_isPassed_63 (v := 0) rfl ?_
    exact e_i dX7_isPassed_64 rfl (by first | rfl | exact bi_nar _) (by first | rfl | simp_all [bi, rPs]) rfl
  · refine r_iconst dX7_isPassed_59 (v := 1) rfl ?_
    refine r_goto dX7_isPassed_60 (tgt := 64) rfl ?_
    exact e_i dX7_isPassed_64 rfl (by first | rfl | exact bi_nar _) (by first | rfl | simp_all [bi, rPs]) rfl
def rPn (hp : HPt) (j b : Nat) : Bool := rPs hp j b (hp (17, 0, 0, 0) (cI j (7 + b))) (hp (17, 0, 0, 0) (cI j (9 + b)))
theorem tX7_isPassedNow {g : Gh} {j b : Nat} {hp : HPt} (hj : j < 8) (hb : b < 2) : Ci g mX7_isPassedNow [vR (16, 0, 0, 0), vI (nI b), vI (nI j)] hp (bi (rPn hp j b)) hp := by
  unfold Ci
  refine r_aload_n dX7_isPassedNow_0 (i := 0) rfl rfl ?_
  refine r_iload_n dX7_isPassedNow_1 (i := 1) rfl rfl ?_
  refine r_iload_n dX7_isPassedNow_2 (i := 2) rfl rfl ?_
  refine r_aload_n dX7_isPassedNow_3 (i := 0) rfl rfl ?_
  refine r_getR dX7_isPassedNow_4 f_7_7 rfl rfl rfl lv16 ?_
  refine r_iload_n dX7_isPassedNow_7 (i := 2) rfl rfl ?_
  refine r_bipush dX7_isPassedNow_8 (v := 7) rfl ?_
  refine r_iload_n dX7_isPassedNow_10 (i := 1) rfl rfl ?_
  refine r_iadd dX7_isPassedNow_11 ?_
  refine sX7_isPassedNow_12 (Nat.le_refl _) (Nat.le_refl _) (Nat.le_of_ble_eq_true rfl) (tX7_cell rfl (nI_add 7 _)) ?_
  refine n_iald dX7_isPassedNow_15 rfl lv17 rfl (by first | assumption | omega | (unfold cI; omega)) ?_
  refine r_aload_n dX7_isPassedNow_16 (i := 0) rfl rfl ?_
  refine r_getR dX7_isPassedNow_17 f_7_7 rfl rfl rfl lv16 ?_
  refine r_iload_n dX7_isPassedNow_20 (i := 2) rfl rfl ?_
  refine r_bipush dX7_isPassedNow_21 (v := 9) rfl ?_
  refine r_iload_n dX7_isPassedNow_23 (i := 1) rfl rfl ?_
  refine r_iadd dX7_isPassedNow_24 ?_
  refine sX7_isPassedNow_25 (Nat.le_refl _) (Nat.le_refl _) (Nat.le_of_ble_eq_true rfl) (tX7_cell rfl (nI_add 9 _)) ?_
  refine n_iald dX7_isPassedNow_28 rfl lv17 rfl (by first | assumption | omega | (unfold cI; omega)) ?_
  refine sX7_isPassedNow_29 (Nat.le_refl _) (Nat.le_refl _) rfl lv16 (Nat.le_of_ble_eq_true rfl) (tX7_isPassed hj hb) ?_
  exact e_i dX7_isPassedNow_32 rfl (by first | rfl | exact bi_nar _) (by first | rfl | simp [bi, *]) rfl
def rMg (hp : HPt) (j : Nat) : Int32 := if rPn hp j 1 = true then (if rPn hp j 0 = true then jrem (rTold hp j 0 (hp (17, 0, 0, 0) (cI j 7)) + rTold hp j 1 (hp (17, 0, 0, 0) (cI j 8))) 256 else 1001) else 1000
theorem tX7_merged {g : Gh} {j : Nat} {hp : HPt} (hj : j < 8) : Ci g mX7_merged [vR (16, 0, 0, 0), vI (nI j)] hp (rMg hp j) hp := by
  unfold Ci
  refine r_aload_n dX7_merged_0 (i := 0) rfl rfl ?_
  refine r_iconst dX7_merged_1 (v := 1) rfl ?_
  refine r_iload_n dX7_merged_2 (i := 1) rfl rfl ?_
  refine sX7_merged_3 (Nat.le_refl _) (Nat.le_refl _) rfl lv16 (Nat.le_of_ble_eq_true rfl) (tX7_isPassedNow (b := 1) hj (by decide)) ?_
  refine r_if_ne dX7_merged_6 (tgt := 13) rfl (fun h6 => ?_) (fun h6 => ?_)
  · refine r_aload_n dX7_merged_13 (i := 0) rfl rfl ?_
    refine r_iconst dX7_merged_14 (v := 0) rfl ?_
    refine r_iload_n dX7_merged_15 (i := 1) rfl rfl ?_
    refine sX7_merged_16 (Nat.le_refl _) (Nat.le_refl _) rfl lv16 (Nat.le_of_ble_eq_true rfl) (tX7_isPassedNow (b := 0) hj (by decide)) ?_
    refine r_if_ne dX7_merged_19 (tgt := 26) rfl (fun h19 => ?_) (fun h19 => ?_)
    · refine r_aload_n dX7_merged_26 (i := 0) rfl rfl ?_
      refine r_iconst dX7_merged_27 (v := 0) rfl ?_
      refine r_iload_n dX7_merged_28 (i := 1) rfl rfl ?_
      refine r_aload_n dX7_merged_29 (i := 0) rfl rfl ?_
      refine r_getR dX7_merged_30 f_7_7 rfl rfl rfl lv16 ?_
      refine r_iload_n dX7_merged_33 (i := 1) rfl rfl ?_
      refine r_bipush dX7_merged_34 (v := 7) rfl ?_
      refine sX7_merged_36 (Nat.le_refl _) (Nat.le_refl _) (Nat.le_of_ble_eq_true rfl) (tX7_cell rfl (f := 7) rfl) ?_
      refine n_iald dX7_merged_39 rfl lv17 rfl (by first | assumption | omega | (unfold cI; omega)) ?_
      refine sX7_merged_40 (Nat.le_refl _) (Nat.le_refl _) rfl lv16 (Nat.le_of_ble_eq_true rfl) (tX7_toldPart (b := 0) hj (by decide)) ?_
      refine r_aload_n dX7_merged_43 (i := 0) rfl rfl ?_
      refine r_iconst dX7_merged_44 (v := 1) rfl ?_
      refine r_iload_n dX7_merged_45 (i := 1) rfl rfl ?_
      refine r_aload_n dX7_merged_46 (i := 0) rfl rfl ?_
      refine r_getR dX7_merged_47 f_7_7 rfl rfl rfl lv16 ?_
      refine r_iload_n dX7_merged_50 (i := 1) rfl rfl ?_
      refine r_bipush dX7_merged_51 (v := 8) rfl ?_
      refine sX7_merged_53 (Nat.le_refl _) (Nat.le_refl _) (Nat.le_of_ble_eq_true rfl) (tX7_cell rfl (f := 8) rfl) ?_
      refine n_iald dX7_merged_56 rfl lv17 rfl (by first | assumption | omega | (unfold cI; omega)) ?_
      refine sX7_merged_57 (Nat.le_refl _) (Nat.le_refl _) rfl lv16 (Nat.le_of_ble_eq_true rfl) (tX7_toldPart (b := 1) hj (by decide)) ?_
      refine r_iadd dX7_merged_60 ?_
      refine r_sipush dX7_merged_61 (v := 256) rfl ?_
      refine r_irem dX7_merged_64 (by decide) ?_
      exact e_i dX7_merged_65 rfl (by first | rfl | exact bi_nar _) (by (simp only [bi_0, bi_n0] at *; simp [rMg, *])) rfl
    · refine r_sipush dX7_merged_22 (v := 1001) rfl ?_
      exact e_i dX7_merged_25 rfl (by first | rfl | exact bi_nar _) (by (simp only [bi_0, bi_n0] at *; simp [rMg, *])) rfl
  · refine r_sipush dX7_merged_9 (v := 1000) rfl ?_
    exact e_i dX7_merged_12 rfl (by first | rfl | exact bi_nar _) (by (simp only [bi_0, bi_n0] at *; simp [rMg, *])) rfl
def rLie (hp : HPt) (j : Nat) : Bool := !decide (hp (17, 0, 0, 0) (cI j 7) + hp (17, 0, 0, 0) (cI j 8) + hp (17, 0, 0, 0) (cI j 9) + hp (17, 0, 0, 0) (cI j 10) ≤ 0)
theorem tX7_isLiedAbout {g : Gh} {j : Nat} {hp : HPt} (hj : j < 8) : Ci g mX7_isLiedAbout [vR (16, 0, 0, 0), vI (nI j)] hp (bi (rLie hp j)) hp := by
  unfold Ci
  refine r_aload_n dX7_isLiedAbout_0 (i := 0) rfl rfl ?_
  refine r_getR dX7_isLiedAbout_1 f_7_7 rfl rfl rfl lv16 ?_
  refine r_iload_n dX7_isLiedAbout_4 (i := 1) rfl rfl ?_
  refine r_bipush dX7_isLiedAbout_5 (v := 7) rfl ?_
  refine sX7_isLiedAbout_7 (Nat.le_refl _) (Nat.le_refl _) (Nat.le_of_ble_eq_true rfl) (tX7_cell rfl (f := 7) rfl) ?_
  refine n_iald dX7_isLiedAbout_10 rfl lv17 rfl (by first | assumption | omega | (unfold cI; omega)) ?_
  refine r_aload_n dX7_isLiedAbout_11 (i := 0) rfl rfl ?_
  refine r_getR dX7_isLiedAbout_12 f_7_7 rfl rfl rfl lv16 ?_
  refine r_iload_n dX7_isLiedAbout_15 (i := 1) rfl rfl ?_
  refine r_bipush dX7_isLiedAbout_16 (v := 8) rfl ?_
  refine sX7_isLiedAbout_18 (Nat.le_refl _) (Nat.le_refl _) (Nat.le_of_ble_eq_true rfl) (tX7_cell rfl (f := 8) rfl) ?_
  refine n_iald dX7_isLiedAbout_21 rfl lv17 rfl (by first | assumption | omega | (unfold cI; omega)) ?_
  refine r_iadd dX7_isLiedAbout_22 ?_
  refine r_aload_n dX7_isLiedAbout_23 (i := 0) rfl rfl ?_
  refine r_getR dX7_isLiedAbout_24 f_7_7 rfl rfl rfl lv16 ?_
  refine r_iload_n dX7_isLiedAbout_27 (i := 1) rfl rfl ?_
  refine r_bipush dX7_isLiedAbout_28 (v := 9) rfl ?_
  refine sX7_isLiedAbout_30 (Nat.le_refl _) (Nat.le_refl _) (Nat.le_of_ble_eq_true rfl) (tX7_cell rfl (f := 9) rfl) ?_
  refine n_iald dX7_isLiedAbout_33 rfl lv17 rfl (by first | assumption | omega | (unfold cI; omega)) ?_
  refine r_iadd dX7_isLiedAbout_34 ?_
  refine r_aload_n dX7_isLiedAbout_35 (i := 0) rfl rfl ?_
  refine r_getR dX7_isLiedAbout_36 f_7_7 rfl rfl rfl lv16 ?_
  refine r_iload_n dX7_isLiedAbout_39 (i := 1) rfl rfl ?_
  refine r_bipush dX7_isLiedAbout_40 (v := 10) rfl ?_
  refine sX7_isLiedAbout_42 (Nat.le_refl _) (Nat.le_refl _) (Nat.le_of_ble_eq_true rfl) (tX7_cell rfl (f := 10) rfl) ?_
  refine n_iald dX7_isLiedAbout_45 rfl lv17 rfl (by first | assumption | omega | (unfold cI; omega)) ?_
  refine r_iadd dX7_isLiedAbout_46 ?_
  refine r_if_le dX7_isLiedAbout_47 (tgt := 54) rfl (fun h47 => ?_) (fun h47 => ?_)
  · refine r_iconst dX7_isLiedAbout_54 (v := 0) rfl ?_
    exact e_i dX7_isLiedAbout_55 rfl (by first | rfl | exact bi_nar _) (by first | rfl | simp_all [bi, rLie]) rfl
  · refine r_iconst dX7_isLiedAbout_50 (v := 1) rfl ?_
    refine r_goto dX7_isLiedAbout_51 (tgt := 55) rfl ?_
    exact e_i dX7_isLiedAbout_55 rfl (by first | rfl | exact bi_nar _) (by first | rfl | simp_all [bi, rLie]) rfl
theorem tX7_keeps_e {g : Gh} {x : Int32} {hp : HPt} (hx : fIn x 0 255 = false) : Ci g mX7_keeps [vR (16, 0, 0, 0), vI x] hp (-2) hp := by
  unfold Ci
  refine r_iload_n dX7_keeps_0 (i := 1) rfl rfl ?_
  refine r_iconst dX7_keeps_1 (v := 0) rfl ?_
  refine r_sipush dX7_keeps_2 (v := 255) rfl ?_
  refine sX7_keeps_5 (Nat.le_refl _) (Nat.le_refl _) (Nat.le_of_ble_eq_true rfl) (tX7_in) ?_
  refine r_if_ne dX7_keeps_8 (tgt := 14) rfl (fun h8 => absurd (bi_0.mpr hx) h8) (fun _ => ?_)
  refine r_bipush dX7_keeps_11 (v := (-2)) rfl ?_
  exact e_i dX7_keeps_13 rfl (by first | rfl | exact bi_nar _) (by first | rfl | simp [bi, *]) rfl
theorem tX7_keeps_e2 {g : Gh} {x : Int32} {hp : HPt} (hx : fIn x 0 255 = true) (hn : hp (17, 0, 0, 0) 5 = 8) : Ci g mX7_keeps [vR (16, 0, 0, 0), vI x] hp (-4) hp := by
  unfold Ci
  refine r_iload_n dX7_keeps_0 (i := 1) rfl rfl ?_
  refine r_iconst dX7_keeps_1 (v := 0) rfl ?_
  refine r_sipush dX7_keeps_2 (v := 255) rfl ?_
  refine sX7_keeps_5 (Nat.le_refl _) (Nat.le_refl _) (Nat.le_of_ble_eq_true rfl) (tX7_in) ?_
  refine r_if_ne dX7_keeps_8 (tgt := 14) rfl (fun _ => ?_) (fun h8 => absurd h8 (bi_n0.mpr hx))
  refine r_aload_n dX7_keeps_14 (i := 0) rfl rfl ?_
  refine r_getR dX7_keeps_15 f_7_7 rfl rfl rfl lv16 ?_
  refine r_iconst dX7_keeps_18 (v := 5) rfl ?_
  refine n_iald dX7_keeps_19 rfl lv17 (k := 5) rfl (by decide) ?_
  refine r_bipush dX7_keeps_20 (v := 8) rfl ?_
  refine r_icmp_ne dX7_keeps_22 (tgt := 28) rfl (fun h22 => absurd (hn) h22) (fun _ => ?_)
  refine r_bipush dX7_keeps_25 (v := (-4)) rfl ?_
  exact e_i dX7_keeps_27 rfl (by first | rfl | exact bi_nar _) (by first | rfl | simp [bi, *]) rfl
theorem tX7_keeps_e3 {g : Gh} {x : Int32} {hp : HPt} (hx : fIn x 0 255 = true) (hn : ¬ hp (17, 0, 0, 0) 5 = 8) (hs : rAwk hp = false) : Ci g mX7_keeps [vR (16, 0, 0, 0), vI x] hp (-5) hp := by
  unfold Ci
  refine r_iload_n dX7_keeps_0 (i := 1) rfl rfl ?_
  refine r_iconst dX7_keeps_1 (v := 0) rfl ?_
  refine r_sipush dX7_keeps_2 (v := 255) rfl ?_
  refine sX7_keeps_5 (Nat.le_refl _) (Nat.le_refl _) (Nat.le_of_ble_eq_true rfl) (tX7_in) ?_
  refine r_if_ne dX7_keeps_8 (tgt := 14) rfl (fun _ => ?_) (fun h8 => absurd h8 (bi_n0.mpr hx))
  refine r_aload_n dX7_keeps_14 (i := 0) rfl rfl ?_
  refine r_getR dX7_keeps_15 f_7_7 rfl rfl rfl lv16 ?_
  refine r_iconst dX7_keeps_18 (v := 5) rfl ?_
  refine n_iald dX7_keeps_19 rfl lv17 (k := 5) rfl (by decide) ?_
  refine r_bipush dX7_keeps_20 (v := 8) rfl ?_
  refine r_icmp_ne dX7_keeps_22 (tgt := 28) rfl (fun _ => ?_) (fun h22 => absurd h22 (hn))
  refine r_aload_n dX7_keeps_28 (i := 0) rfl rfl ?_
  refine sX7_keeps_29 (Nat.le_refl _) (Nat.le_refl _) rfl lv16 (Nat.le_of_ble_eq_true rfl) (tX7_areAwake) ?_
  refine r_if_ne dX7_keeps_32 (tgt := 38) rfl (fun h32 => absurd (bi_0.mpr hs) h32) (fun _ => ?_)
  refine r_bipush dX7_keeps_35 (v := (-5)) rfl ?_
  exact e_i dX7_keeps_37 rfl (by first | rfl | exact bi_nar _) (by first | rfl | simp [bi, *]) rfl
def RK (hp : HPt) (n : Nat) (x : Int32) : HPt := RM (hset hp (17, 0, 0, 0) 5 (nI (n + 1))) n x 1
theorem RM_i {hp : HPt} {j i : Nat} {v num : Int32} (h : i ≠ 3 ∧ i ≠ 8) (h2 : i < cI j 11 ∨ cI j 19 ≤ i) : RM hp j v num (17, 0, 0, 0) i = hp (17, 0, 0, 0) i := by
  have e : ∀ f, 11 ≤ f → f < 19 → i ≠ cI j f := fun f h3 h4 => by unfold cI at *; omega
  simp [RM, rm4, rm3, rm2, rm1, rdr, hset, h, e 11 (by decide) (by decide), e 12 (by decide) (by decide), e 13 (by decide) (by decide), e 14 (by decide) (by decide), e 15 (by decide) (by decide), e 16 (by decide) (by decide), e 17 (by decide) (by decide), e 18 (by decide) (by decide)]
theorem tX7_keeps {g : Gh} {n : Nat} {x : Int32} {hp : HPt} (hx : fIn x 0 255 = true) (hn8 : n < 8) (hn : hp (17, 0, 0, 0) 5 = nI n) (hs : rAwk hp = true) : Ci g mX7_keeps [vR (16, 0, 0, 0), vI x] hp (nI n) (RK hp n x) := by
  have hnn : ¬ hp (17, 0, 0, 0) 5 = 8 := by
    rw [hn, show (8 : Int32) = nI 8 from rfl, nI_eq (by omega) (by decide)]
    omega
  have e1 : hset hp (17, 0, 0, 0) 5 (nI (n + 1)) (17, 0, 0, 0) 5 - 1 = nI n := by rw [hs_eq]; exact nI_pred n
  have e2 : RK hp n x (17, 0, 0, 0) 5 - 1 = nI n := by
    unfold RK
    rw [RM_i (by decide) (Or.inl (by unfold cI; omega))]
    exact e1
  unfold Ci
  refine r_iload_n dX7_keeps_0 (i := 1) rfl rfl ?_
  refine r_iconst dX7_keeps_1 (v := 0) rfl ?_
  refine r_sipush dX7_keeps_2 (v := 255) rfl ?_
  refine sX7_keeps_5 (Nat.le_refl _) (Nat.le_refl _) (Nat.le_of_ble_eq_true rfl) (tX7_in) ?_
  refine r_if_ne dX7_keeps_8 (tgt := 14) rfl (fun _ => ?_) (fun h8 => absurd h8 (bi_n0.mpr hx))
  refine r_aload_n dX7_keeps_14 (i := 0) rfl rfl ?_
  refine r_getR dX7_keeps_15 f_7_7 rfl rfl rfl lv16 ?_
  refine r_iconst dX7_keeps_18 (v := 5) rfl ?_
  refine n_iald dX7_keeps_19 rfl lv17 (k := 5) rfl (by decide) ?_
  refine r_bipush dX7_keeps_20 (v := 8) rfl ?_
  refine r_icmp_ne dX7_keeps_22 (tgt := 28) rfl (fun _ => ?_) (fun h22 => absurd h22 (hnn))
  refine r_aload_n dX7_keeps_28 (i := 0) rfl rfl ?_
  refine sX7_keeps_29 (Nat.le_refl _) (Nat.le_refl _) rfl lv16 (Nat.le_of_ble_eq_true rfl) (tX7_areAwake) ?_
  refine r_if_ne dX7_keeps_32 (tgt := 38) rfl (fun _ => ?_) (fun h32 => absurd h32 (bi_n0.mpr hs))
  refine r_aload_n dX7_keeps_38 (i := 0) rfl rfl ?_
  refine r_getR dX7_keeps_39 f_7_7 rfl rfl rfl lv16 ?_
  refine r_iconst dX7_keeps_42 (v := 5) rfl ?_
  refine r_dup2 dX7_keeps_43 rfl rfl ?_
  refine n_iald dX7_keeps_44 rfl lv17 (k := 5) rfl (by decide) ?_
  refine r_iconst dX7_keeps_45 (v := 1) rfl ?_
  refine r_iadd dX7_keeps_46 ?_
  refine n_iast dX7_keeps_47 rfl lv17 (k := 5) rfl (by decide) ?_
  refine V.eqH (hp2 := hset hp (17, 0, 0, 0) 5 (nI (n + 1))) (by rw [hn, nI_1]) ?_
  refine r_aload_n dX7_keeps_48 (i := 0) rfl rfl ?_
  refine r_aload_n dX7_keeps_49 (i := 0) rfl rfl ?_
  refine r_getR dX7_keeps_50 f_7_7 rfl rfl rfl lv16 ?_
  refine r_iconst dX7_keeps_53 (v := 5) rfl ?_
  refine n_iald dX7_keeps_54 rfl lv17 (k := 5) rfl (by decide) ?_
  refine r_iconst dX7_keeps_55 (v := 1) rfl ?_
  refine r_isub dX7_keeps_56 ?_
  rw [e1]
  refine r_iload_n dX7_keeps_57 (i := 1) rfl rfl ?_
  refine r_iconst dX7_keeps_58 (v := 1) rfl ?_
  refine sX7_keeps_59 (Nat.le_refl _) (Nat.le_refl _) rfl lv16 (Nat.le_of_ble_eq_true rfl) (tX7_makes hn8) ?_
  refine r_aload_n dX7_keeps_62 (i := 0) rfl rfl ?_
  refine r_getR dX7_keeps_63 f_7_7 rfl rfl rfl lv16 ?_
  refine r_iconst dX7_keeps_66 (v := 5) rfl ?_
  refine n_iald dX7_keeps_67 rfl lv17 (k := 5) rfl (by decide) ?_
  refine r_iconst dX7_keeps_68 (v := 1) rfl ?_
  refine r_isub dX7_keeps_69 ?_
  exact e_i dX7_keeps_70 rfl rfl e2 rfl
theorem tX7_refreshed_e {g : Gh} {x : Int32} {hp : HPt} (hx : rHas hp x = false) : Ci g mX7_refreshed [vR (16, 0, 0, 0), vI x] hp (-1) hp := by
  unfold Ci
  refine r_aload_n dX7_refreshed_0 (i := 0) rfl rfl ?_
  refine r_iload_n dX7_refreshed_1 (i := 1) rfl rfl ?_
  refine sX7_refreshed_2 (Nat.le_refl _) (Nat.le_refl _) rfl lv16 (Nat.le_of_ble_eq_true rfl) (tX7_isSecret) ?_
  refine r_if_ne dX7_refreshed_5 (tgt := 10) rfl (fun h5 => absurd (bi_0.mpr hx) h5) (fun _ => ?_)
  refine r_iconst dX7_refreshed_8 (v := (-1)) rfl ?_
  exact e_i dX7_refreshed_9 rfl (by first | rfl | exact bi_nar _) (by first | rfl | simp [bi, *]) rfl
theorem tX7_refreshed_e2 {g : Gh} {j : Nat} {hp : HPt} (hj : j < 8) (hx : rHas hp (nI j) = true) (hc : rCan hp j = false) : Ci g mX7_refreshed [vR (16, 0, 0, 0), vI (nI j)] hp (-5) hp := by
  unfold Ci
  refine r_aload_n dX7_refreshed_0 (i := 0) rfl rfl ?_
  refine r_iload_n dX7_refreshed_1 (i := 1) rfl rfl ?_
  refine sX7_refreshed_2 (Nat.le_refl _) (Nat.le_refl _) rfl lv16 (Nat.le_of_ble_eq_true rfl) (tX7_isSecret) ?_
  refine r_if_ne dX7_refreshed_5 (tgt := 10) rfl (fun _ => ?_) (fun h5 => absurd h5 (bi_n0.mpr hx))
  refine r_aload_n dX7_refreshed_10 (i := 0) rfl rfl ?_
  refine r_iload_n dX7_refreshed_11 (i := 1) rfl rfl ?_
  refine sX7_refreshed_12 (Nat.le_refl _) (Nat.le_refl _) rfl lv16 (Nat.le_of_ble_eq_true rfl) (tX7_canRefresh hj) ?_
  refine r_if_ne dX7_refreshed_15 (tgt := 21) rfl (fun h15 => absurd (bi_0.mpr hc) h15) (fun _ => ?_)
  refine r_bipush dX7_refreshed_18 (v := (-5)) rfl ?_
  exact e_i dX7_refreshed_20 rfl (by first | rfl | exact bi_nar _) (by first | rfl | simp [bi, *]) rfl
theorem tX7_refreshed {g : Gh} {j m o : Nat} {hp : HPt} (hj : j < 8) (hm : m < 5) (hM : hp (17, 0, 0, 0) (cI j 0) = nI m) (ho : o < 5) (hO : hp (17, 0, 0, 0) 2 = nI o) (hx : rHas hp (nI j) = true) (hc : rCan hp j = true) : Ci g mX7_refreshed [vR (16, 0, 0, 0), vI (nI j)] hp (RF hp j m o (17, 0, 0, 0) (cI j 15)) (RF hp j m o) := by
  unfold Ci
  refine r_aload_n dX7_refreshed_0 (i := 0) rfl rfl ?_
  refine r_iload_n dX7_refreshed_1 (i := 1) rfl rfl ?_
  refine sX7_refreshed_2 (Nat.le_refl _) (Nat.le_refl _) rfl lv16 (Nat.le_of_ble_eq_true rfl) (tX7_isSecret) ?_
  refine r_if_ne dX7_refreshed_5 (tgt := 10) rfl (fun _ => ?_) (fun h5 => absurd h5 (bi_n0.mpr hx))
  refine r_aload_n dX7_refreshed_10 (i := 0) rfl rfl ?_
  refine r_iload_n dX7_refreshed_11 (i := 1) rfl rfl ?_
  refine sX7_refreshed_12 (Nat.le_refl _) (Nat.le_refl _) rfl lv16 (Nat.le_of_ble_eq_true rfl) (tX7_canRefresh hj) ?_
  refine r_if_ne dX7_refreshed_15 (tgt := 21) rfl (fun _ => ?_) (fun h15 => absurd h15 (bi_n0.mpr hc))
  refine r_aload_n dX7_refreshed_21 (i := 0) rfl rfl ?_
  refine r_iload_n dX7_refreshed_22 (i := 1) rfl rfl ?_
  refine sX7_refreshed_23 (Nat.le_refl _) (Nat.le_refl _) rfl lv16 (Nat.le_of_ble_eq_true rfl) (tX7_refreshes hj hm hM ho hO) ?_
  refine r_aload_n dX7_refreshed_26 (i := 0) rfl rfl ?_
  refine r_getR dX7_refreshed_27 f_7_7 rfl rfl rfl lv16 ?_
  refine r_iload_n dX7_refreshed_30 (i := 1) rfl rfl ?_
  refine r_iconst dX7_refreshed_31 (v := 0) rfl ?_
  refine r_iconst dX7_refreshed_32 (v := 0) rfl ?_
  refine sX7_refreshed_33 (Nat.le_refl _) (Nat.le_refl _) (Nat.le_of_ble_eq_true rfl) (tX7_at rfl (r := 0) rfl (w := 0) rfl (f := 15) rfl) ?_
  refine n_iald dX7_refreshed_36 rfl lv17 rfl (by first | assumption | omega | (unfold cI; omega)) ?_
  exact e_i dX7_refreshed_37 rfl (by first | rfl | exact bi_nar _) (by first | rfl | simp [bi, *]) rfl
theorem tX7_burnt_e {g : Gh} {x : Int32} {hp : HPt} (hx : rHas hp x = false) : Ci g mX7_burnt [vR (16, 0, 0, 0), vI x] hp (-1) hp := by
  unfold Ci
  refine r_aload_n dX7_burnt_0 (i := 0) rfl rfl ?_
  refine r_iload_n dX7_burnt_1 (i := 1) rfl rfl ?_
  refine sX7_burnt_2 (Nat.le_refl _) (Nat.le_refl _) rfl lv16 (Nat.le_of_ble_eq_true rfl) (tX7_isSecret) ?_
  refine r_if_ne dX7_burnt_5 (tgt := 12) rfl (fun h5 => absurd (bi_0.mpr hx) h5) (fun _ => ?_)
  refine r_iconst dX7_burnt_8 (v := (-1)) rfl ?_
  refine r_goto dX7_burnt_9 (tgt := 30) rfl ?_
  exact e_i dX7_burnt_30 rfl (by first | rfl | exact bi_nar _) (by first | rfl | simp [bi, *]) rfl
theorem tX7_burnt_e2 {g : Gh} {j : Nat} {hp : HPt} (hj : j < 8) (hx : rHas hp (nI j) = true) (hs : rAwk hp = false) : Ci g mX7_burnt [vR (16, 0, 0, 0), vI (nI j)] hp (-5) hp := by
  unfold Ci
  refine r_aload_n dX7_burnt_0 (i := 0) rfl rfl ?_
  refine r_iload_n dX7_burnt_1 (i := 1) rfl rfl ?_
  refine sX7_burnt_2 (Nat.le_refl _) (Nat.le_refl _) rfl lv16 (Nat.le_of_ble_eq_true rfl) (tX7_isSecret) ?_
  refine r_if_ne dX7_burnt_5 (tgt := 12) rfl (fun _ => ?_) (fun h5 => absurd h5 (bi_n0.mpr hx))
  refine r_aload_n dX7_burnt_12 (i := 0) rfl rfl ?_
  refine sX7_burnt_13 (Nat.le_refl _) (Nat.le_refl _) rfl lv16 (Nat.le_of_ble_eq_true rfl) (tX7_areAwake) ?_
  refine r_if_eq dX7_burnt_16 (tgt := 28) rfl (fun _ => ?_) (fun h16 => absurd (bi_0.mpr hs) h16)
  refine r_bipush dX7_burnt_28 (v := (-5)) rfl ?_
  exact e_i dX7_burnt_30 rfl (by first | rfl | exact bi_nar _) (by first | rfl | simp [bi, *]) rfl
theorem tX7_burnt {g : Gh} {j m : Nat} {hp : HPt} (hj : j < 8) (hm : m < 5) (hM : hp (17, 0, 0, 0) (cI j 0) = nI m) (hx : rHas hp (nI j) = true) (hs : rAwk hp = true) : Ci g mX7_burnt [vR (16, 0, 0, 0), vI (nI j)] hp (nI m) (RB hp j m 0) := by
  unfold Ci
  refine r_aload_n dX7_burnt_0 (i := 0) rfl rfl ?_
  refine r_iload_n dX7_burnt_1 (i := 1) rfl rfl ?_
  refine sX7_burnt_2 (Nat.le_refl _) (Nat.le_refl _) rfl lv16 (Nat.le_of_ble_eq_true rfl) (tX7_isSecret) ?_
  refine r_if_ne dX7_burnt_5 (tgt := 12) rfl (fun _ => ?_) (fun h5 => absurd h5 (bi_n0.mpr hx))
  refine r_aload_n dX7_burnt_12 (i := 0) rfl rfl ?_
  refine sX7_burnt_13 (Nat.le_refl _) (Nat.le_refl _) rfl lv16 (Nat.le_of_ble_eq_true rfl) (tX7_areAwake) ?_
  refine r_if_eq dX7_burnt_16 (tgt := 28) rfl (fun h16 => absurd h16 (bi_n0.mpr hs)) (fun _ => ?_)
  refine r_aload_n dX7_burnt_19 (i := 0) rfl rfl ?_
  refine r_iload_n dX7_burnt_20 (i := 1) rfl rfl ?_
  refine r_iconst dX7_burnt_21 (v := 0) rfl ?_
  refine sX7_burnt_22 (Nat.le_refl _) (Nat.le_refl _) rfl lv16 (Nat.le_of_ble_eq_true rfl) (tX7_burns (l := 0) hj hm hM (by decide)) ?_
  refine r_goto dX7_burnt_25 (tgt := 30) rfl ?_
  exact e_i dX7_burnt_30 rfl (by first | rfl | exact bi_nar _) (by first | rfl | simp [bi, *]) rfl
theorem tX7_sleeps_e {g : Gh} {x : Int32} {hp : HPt} (hx : fIn x 0 1 = false) : Ci g mX7_sleeps [vR (16, 0, 0, 0), vI x] hp (-1) hp := by
  unfold Ci
  refine r_iload_n dX7_sleeps_0 (i := 1) rfl rfl ?_
  refine sX7_sleeps_1 (Nat.le_refl _) (Nat.le_refl _) (Nat.le_of_ble_eq_true rfl) (tX7_isStore) ?_
  refine r_if_ne dX7_sleeps_4 (tgt := 9) rfl (fun h4 => absurd (bi_0.mpr hx) h4) (fun _ => ?_)
  refine r_iconst dX7_sleeps_7 (v := (-1)) rfl ?_
  exact e_i dX7_sleeps_8 rfl (by first | rfl | exact bi_nar _) (by first | rfl | simp [bi, *]) rfl
theorem fIn_nI {b l : Nat} (hb : b ≤ l) (hl : l < 2 ^ 31) : fIn (nI b) 0 (nI l) = true := by
  unfold fIn
  have h1 : ¬ nI b < 0 := nI_pos (by omega)
  have h2 : ¬ nI l < nI b := nI_nlt hb hl
  simp [h1, h2]
theorem tX7_sleeps {g : Gh} {b : Nat} {hp : HPt} (hb : b < 2) : Ci g mX7_sleeps [vR (16, 0, 0, 0), vI (nI b)] hp (1 - hp (17, 0, 0, 0) (6 + b)) (hset hp (17, 0, 0, 0) (6 + b) (1 - hp (17, 0, 0, 0) (6 + b))) := by
  have e : (6 : Int32) + nI b = nI (6 + b) := nI_add 6 b
  unfold Ci
  refine r_iload_n dX7_sleeps_0 (i := 1) rfl rfl ?_
  refine sX7_sleeps_1 (Nat.le_refl _) (Nat.le_refl _) (Nat.le_of_ble_eq_true rfl) (tX7_isStore) ?_
  refine r_if_ne dX7_sleeps_4 (tgt := 9) rfl (fun _ => ?_) (fun h4 => absurd h4 (bi_n0.mpr (fIn_nI (l := 1) (by omega) (by decide))))
  refine r_aload_n dX7_sleeps_9 (i := 0) rfl rfl ?_
  refine r_getR dX7_sleeps_10 f_7_7 rfl rfl rfl lv16 ?_
  refine r_bipush dX7_sleeps_13 (v := 6) rfl ?_
  refine r_iload_n dX7_sleeps_15 (i := 1) rfl rfl ?_
  refine r_iadd dX7_sleeps_16 ?_
  refine r_iconst dX7_sleeps_17 (v := 1) rfl ?_
  refine r_aload_n dX7_sleeps_18 (i := 0) rfl rfl ?_
  refine r_getR dX7_sleeps_19 f_7_7 rfl rfl rfl lv16 ?_
  refine r_bipush dX7_sleeps_22 (v := 6) rfl ?_
  refine r_iload_n dX7_sleeps_24 (i := 1) rfl rfl ?_
  refine r_iadd dX7_sleeps_25 ?_
  refine n_iald dX7_sleeps_26 rfl lv17 e (by omega) ?_
  refine r_isub dX7_sleeps_27 ?_
  refine n_iast dX7_sleeps_28 rfl lv17 e (by omega) ?_
  refine r_aload_n dX7_sleeps_29 (i := 0) rfl rfl ?_
  refine r_getR dX7_sleeps_30 f_7_7 rfl rfl rfl lv16 ?_
  refine r_bipush dX7_sleeps_33 (v := 6) rfl ?_
  refine r_iload_n dX7_sleeps_35 (i := 1) rfl rfl ?_
  refine r_iadd dX7_sleeps_36 ?_
  refine n_iald dX7_sleeps_37 rfl lv17 e (by omega) ?_
  exact e_i dX7_sleeps_38 rfl (by first | rfl | exact bi_nar _) hs_eq rfl
theorem tX7_lies_e {g : Gh} {s x o q : Int32} {hp : HPt} (hx : (fIn s 0 1 && rHas hp x) = false) : Ci g mX7_lies [vR (16, 0, 0, 0), vI s, vI x, vI o, vI q] hp (-1) hp := by
  unfold Ci
  refine r_iload_n dX7_lies_0 (i := 1) rfl rfl ?_
  refine sX7_lies_1 (Nat.le_refl _) (Nat.le_refl _) (Nat.le_of_ble_eq_true rfl) (tX7_isStore) ?_
  refine r_if_eq dX7_lies_4 (tgt := 15) rfl (fun h4 => ?_) (fun h4 => ?_)
  · refine r_iconst dX7_lies_15 (v := (-1)) rfl ?_
    exact e_i dX7_lies_16 rfl (by first | rfl | exact bi_nar _) (by first | rfl | simp [bi, *]) rfl
  · refine r_aload_n dX7_lies_7 (i := 0) rfl rfl ?_
    refine r_iload_n dX7_lies_8 (i := 2) rfl rfl ?_
    refine sX7_lies_9 (Nat.le_refl _) (Nat.le_refl _) rfl lv16 (Nat.le_of_ble_eq_true rfl) (tX7_isSecret) ?_
    refine r_if_ne dX7_lies_12 (tgt := 17) rfl (fun h12 => ?_) (fun h12 => ?_)
    · simp_all [bi]
    · refine r_iconst dX7_lies_15 (v := (-1)) rfl ?_
      exact e_i dX7_lies_16 rfl (by first | rfl | exact bi_nar _) (by first | rfl | simp [bi, *]) rfl
theorem tX7_lies_e2 {g : Gh} {s x o q : Int32} {hp : HPt} (hx : (fIn s 0 1 && rHas hp x) = true) (ho : (fIn o 0 255 && fIn q 0 256) = false) : Ci g mX7_lies [vR (16, 0, 0, 0), vI s, vI x, vI o, vI q] hp (-2) hp := by
  simp only [Bool.and_eq_true] at hx
  unfold Ci
  refine r_iload_n dX7_lies_0 (i := 1) rfl rfl ?_
  refine sX7_lies_1 (Nat.le_refl _) (Nat.le_refl _) (Nat.le_of_ble_eq_true rfl) (tX7_isStore) ?_
  refine r_if_eq dX7_lies_4 (tgt := 15) rfl (fun h4 => absurd h4 (bi_n0.mpr hx.1)) (fun _ => ?_)
  refine r_aload_n dX7_lies_7 (i := 0) rfl rfl ?_
  refine r_iload_n dX7_lies_8 (i := 2) rfl rfl ?_
  refine sX7_lies_9 (Nat.le_refl _) (Nat.le_refl _) rfl lv16 (Nat.le_of_ble_eq_true rfl) (tX7_isSecret) ?_
  refine r_if_ne dX7_lies_12 (tgt := 17) rfl (fun _ => ?_) (fun h12 => absurd h12 (bi_n0.mpr hx.2))
  refine r_iload_n dX7_lies_17 (i := 3) rfl rfl ?_
  refine r_iconst dX7_lies_18 (v := 0) rfl ?_
  refine r_sipush dX7_lies_19 (v := 255) rfl ?_
  refine sX7_lies_22 (Nat.le_refl _) (Nat.le_refl _) (Nat.le_of_ble_eq_true rfl) (tX7_in) ?_
  refine r_if_eq dX7_lies_25 (tgt := 40) rfl (fun h25 => ?_) (fun h25 => ?_)
  · refine r_bipush dX7_lies_40 (v := (-2)) rfl ?_
    exact e_i dX7_lies_42 rfl (by first | rfl | exact bi_nar _) (by first | rfl | simp [bi, *]) rfl
  · refine r_iload dX7_lies_28 rfl ?_
    refine r_iconst dX7_lies_30 (v := 0) rfl ?_
    refine r_sipush dX7_lies_31 (v := 256) rfl ?_
    refine sX7_lies_34 (Nat.le_refl _) (Nat.le_refl _) (Nat.le_of_ble_eq_true rfl) (tX7_in) ?_
    refine r_if_ne dX7_lies_37 (tgt := 43) rfl (fun h37 => ?_) (fun h37 => ?_)
    · simp_all [bi]
    · refine r_bipush dX7_lies_40 (v := (-2)) rfl ?_
      exact e_i dX7_lies_42 rfl (by first | rfl | exact bi_nar _) (by first | rfl | simp [bi, *]) rfl
theorem tX7_lies {g : Gh} {j b : Nat} {o q : Int32} {hp : HPt} (hj : j < 8) (hb : b < 2) (hx : rHas hp (nI j) = true) (ho : fIn o 0 255 = true) (hq : fIn q 0 256 = true) : Ci g mX7_lies [vR (16, 0, 0, 0), vI (nI b), vI (nI j), vI o, vI q] hp (hp (17, 0, 0, 0) (cI j (7 + b))) (hset (hset hp (17, 0, 0, 0) (cI j (7 + b)) o) (17, 0, 0, 0) (cI j (9 + b)) q) := by
  unfold Ci
  refine r_iload_n dX7_lies_0 (i := 1) rfl rfl ?_
  refine sX7_lies_1 (Nat.le_refl _) (Nat.le_refl _) (Nat.le_of_ble_eq_true rfl) (tX7_isStore) ?_
  refine r_if_eq dX7_lies_4 (tgt := 15) rfl (fun h4 => absurd h4 (bi_n0.mpr (fIn_nI (l := 1) (by omega) (by decide)))) (fun _ => ?_)
  refine r_aload_n dX7_lies_7 (i := 0) rfl rfl ?_
  refine r_iload_n dX7_lies_8 (i := 2) rfl rfl ?_
  refine sX7_lies_9 (Nat.le_refl _) (Nat.le_refl _) rfl lv16 (Nat.le_of_ble_eq_true rfl) (tX7_isSecret) ?_
  refine r_if_ne dX7_lies_12 (tgt := 17) rfl (fun _ => ?_) (fun h12 => absurd h12 (bi_n0.mpr hx))
  refine r_iload_n dX7_lies_17 (i := 3) rfl rfl ?_
  refine r_iconst dX7_lies_18 (v := 0) rfl ?_
  refine r_sipush dX7_lies_19 (v := 255) rfl ?_
  refine sX7_lies_22 (Nat.le_refl _) (Nat.le_refl _) (Nat.le_of_ble_eq_true rfl) (tX7_in) ?_
  refine r_if_eq dX7_lies_25 (tgt := 40) rfl (fun h25 => absurd h25 (bi_n0.mpr ho)) (fun _ => ?_)
  refine r_iload dX7_lies_28 rfl ?_
  refine r_iconst dX7_lies_30 (v := 0) rfl ?_
  refine r_sipush dX7_lies_31 (v := 256) rfl ?_
  refine sX7_lies_34 (Nat.le_refl _) (Nat.le_refl _) (Nat.le_of_ble_eq_true rfl) (tX7_in) ?_
  refine r_if_ne dX7_lies_37 (tgt := 43) rfl (fun _ => ?_) (fun h37 => absurd h37 (bi_n0.mpr hq))
  refine r_aload_n dX7_lies_43 (i := 0) rfl rfl ?_
  refine r_getR dX7_lies_44 f_7_7 rfl rfl rfl lv16 ?_
  refine r_iload_n dX7_lies_47 (i := 2) rfl rfl ?_
  refine r_bipush dX7_lies_48 (v := 7) rfl ?_
  refine r_iload_n dX7_lies_50 (i := 1) rfl rfl ?_
  refine r_iadd dX7_lies_51 ?_
  refine sX7_lies_52 (Nat.le_refl _) (Nat.le_refl _) (Nat.le_of_ble_eq_true rfl) (tX7_cell rfl (nI_add 7 _)) ?_
  refine n_iald dX7_lies_55 rfl lv17 rfl (by first | assumption | omega | (unfold cI; omega)) ?_
  refine r_istore dX7_lies_56 (Nat.le_of_ble_eq_true rfl) rfl rfl ?_
  refine r_aload_n dX7_lies_58 (i := 0) rfl rfl ?_
  refine r_getR dX7_lies_59 f_7_7 rfl rfl rfl lv16 ?_
  refine r_iload_n dX7_lies_62 (i := 2) rfl rfl ?_
  refine r_bipush dX7_lies_63 (v := 7) rfl ?_
  refine r_iload_n dX7_lies_65 (i := 1) rfl rfl ?_
  refine r_iadd dX7_lies_66 ?_
  refine sX7_lies_67 (Nat.le_refl _) (Nat.le_refl _) (Nat.le_of_ble_eq_true rfl) (tX7_cell rfl (nI_add 7 _)) ?_
  refine r_iload_n dX7_lies_70 (i := 3) rfl rfl ?_
  refine n_iast dX7_lies_71 rfl lv17 rfl (by first | assumption | omega | (unfold cI; omega)) ?_
  refine r_aload_n dX7_lies_72 (i := 0) rfl rfl ?_
  refine r_getR dX7_lies_73 f_7_7 rfl rfl rfl lv16 ?_
  refine r_iload_n dX7_lies_76 (i := 2) rfl rfl ?_
  refine r_bipush dX7_lies_77 (v := 9) rfl ?_
  refine r_iload_n dX7_lies_79 (i := 1) rfl rfl ?_
  refine r_iadd dX7_lies_80 ?_
  refine sX7_lies_81 (Nat.le_refl _) (Nat.le_refl _) (Nat.le_of_ble_eq_true rfl) (tX7_cell rfl (nI_add 9 _)) ?_
  refine r_iload dX7_lies_84 rfl ?_
  refine n_iast dX7_lies_86 rfl lv17 rfl (by first | assumption | omega | (unfold cI; omega)) ?_
  refine r_iload dX7_lies_87 rfl ?_
  exact e_i dX7_lies_89 rfl (by first | rfl | exact bi_nar _) (by first | rfl | simp [bi, *]) rfl
