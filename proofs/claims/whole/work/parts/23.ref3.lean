theorem tX7_merges_e {g : Gh} {x : Int32} {hp : HPt} (hx : rHas hp x = false) : Ci g mX7_merges [vR (16, 0, 0, 0), vI x] hp (-1) hp := by
  unfold Ci
  refine r_aload_n dX7_merges_0 (i := 0) rfl rfl ?_
  refine r_iload_n dX7_merges_1 (i := 1) rfl rfl ?_
  refine sX7_merges_2 (Nat.le_refl _) (Nat.le_refl _) rfl lv16 (Nat.le_of_ble_eq_true rfl) (tX7_isSecret) ?_
  refine r_if_ne dX7_merges_5 (tgt := 10) rfl (fun h5 => absurd (bi_0.mpr hx) h5) (fun _ => ?_)
  refine r_iconst dX7_merges_8 (v := (-1)) rfl ?_
  exact e_i dX7_merges_9 rfl (by first | rfl | exact bi_nar _) (by first | rfl | simp [bi, *]) rfl
theorem tX7_merges_e2 {g : Gh} {j : Nat} {hp : HPt} (hx : rHas hp (nI j) = true) (hs : rAwk hp = false) : Ci g mX7_merges [vR (16, 0, 0, 0), vI (nI j)] hp (-5) hp := by
  unfold Ci
  refine r_aload_n dX7_merges_0 (i := 0) rfl rfl ?_
  refine r_iload_n dX7_merges_1 (i := 1) rfl rfl ?_
  refine sX7_merges_2 (Nat.le_refl _) (Nat.le_refl _) rfl lv16 (Nat.le_of_ble_eq_true rfl) (tX7_isSecret) ?_
  refine r_if_ne dX7_merges_5 (tgt := 10) rfl (fun _ => ?_) (fun h5 => absurd h5 (bi_n0.mpr hx))
  refine r_aload_n dX7_merges_10 (i := 0) rfl rfl ?_
  refine sX7_merges_11 (Nat.le_refl _) (Nat.le_refl _) rfl lv16 (Nat.le_of_ble_eq_true rfl) (tX7_areAwake) ?_
  refine r_if_ne dX7_merges_14 (tgt := 20) rfl (fun h14 => absurd (bi_0.mpr hs) h14) (fun _ => ?_)
  refine r_bipush dX7_merges_17 (v := (-5)) rfl ?_
  exact e_i dX7_merges_19 rfl (by first | rfl | exact bi_nar _) (by first | rfl | simp [bi, *]) rfl
def rmC (hp : HPt) (j : Nat) : HPt := hset (hset hp (17, 0, 0, 0) (cI j 3) (hp (17, 0, 0, 0) (cI j 3) + 1)) (17, 0, 0, 0) 10 (hp (17, 0, 0, 0) 10 + 1)
def rmO (hp : HPt) (j : Nat) (v : Int32) : HPt := hset (hset (hset hp (17, 0, 0, 0) (cI j 1) v) (17, 0, 0, 0) (cI j 2) (hp (17, 0, 0, 0) 0)) (17, 0, 0, 0) (cI j 4) (hp (17, 0, 0, 0) (cI j 4) + 1)
def RG (hp : HPt) (j : Nat) : HPt := if rMg hp j < 1000 then hset (rmO hp j (rMg hp j)) (17, 0, 0, 0) 11 (hp (17, 0, 0, 0) 11 + bi (rLie hp j)) else rmC hp j
theorem cI_ne {j f i : Nat} (h : i < 12) : i ≠ cI j f := by unfold cI; omega
theorem cI_ff {j f k : Nat} (h : f ≠ k) : cI j f ≠ cI j k := by unfold cI; omega
theorem tX7_merges {g : Gh} {j : Nat} {hp : HPt} (hj : j < 8) (hx : rHas hp (nI j) = true) (hs : rAwk hp = true) : Ci g mX7_merges [vR (16, 0, 0, 0), vI (nI j)] hp (rMg hp j) (RG hp j) := by
  have n0 : ∀ i f, i < 12 → ¬ i = cI j f := fun i f h => cI_ne h
  have e1 : hset hp (17, 0, 0, 0) (cI j 1) (rMg hp j) (17, 0, 0, 0) 0 = hp (17, 0, 0, 0) 0 := hs_i (n0 _ _ (by decide))
  have e2 : hset (hset hp (17, 0, 0, 0) (cI j 1) (rMg hp j)) (17, 0, 0, 0) (cI j 2) (hp (17, 0, 0, 0) 0) (17, 0, 0, 0) (cI j 4) = hp (17, 0, 0, 0) (cI j 4) := by
    rw [hs_i (cI_ff (by decide)), hs_i (cI_ff (by decide))]
  have e3 : rmO hp j (rMg hp j) (17, 0, 0, 0) 11 = hp (17, 0, 0, 0) 11 := by
    unfold rmO
    rw [hs_i (n0 _ _ (by decide)), hs_i (n0 _ _ (by decide)), hs_i (n0 _ _ (by decide))]
  have e4 : rLie (rmO hp j (rMg hp j)) j = rLie hp j := by
    have e5 : ∀ f, f ≠ 1 → f ≠ 2 → f ≠ 4 → rmO hp j (rMg hp j) (17, 0, 0, 0) (cI j f) = hp (17, 0, 0, 0) (cI j f) := by
      intro f h1 h2 h4
      unfold rmO
      rw [hs_i (cI_ff h4), hs_i (cI_ff h2), hs_i (cI_ff h1)]
    unfold rLie
    rw [e5 7 (by decide) (by decide) (by decide), e5 8 (by decide) (by decide) (by decide), e5 9 (by decide) (by decide) (by decide), e5 10 (by decide) (by decide) (by decide)]
  have fin : ∀ x, x = bi (rLie hp j) → rMg hp j < 1000 → V g mX7_merges 0 0 0 0 616 123 [some (vR (16, 0, 0, 0)), some (vI (nI j)), some (vI (rMg hp j))] [vI x, vI (rmO hp j (rMg hp j) (17, 0, 0, 0) 11), vI 11, vR (17, 0, 0, 0)] RP (rmO hp j (rMg hp j)) (Pi (rMg hp j) (RG hp j)) := by
    intro x hx hr
    subst hx
    refine r_iadd dX7_merges_123 ?_
    refine n_iast dX7_merges_124 rfl lv17 (k := 11) rfl (by decide) ?_
    refine r_iload_n dX7_merges_125 (i := 2) rfl rfl ?_
    exact e_i dX7_merges_126 rfl rfl rfl (by simp [RG, hr, e3])
  unfold Ci
  refine r_aload_n dX7_merges_0 (i := 0) rfl rfl ?_
  refine r_iload_n dX7_merges_1 (i := 1) rfl rfl ?_
  refine sX7_merges_2 (Nat.le_refl _) (Nat.le_refl _) rfl lv16 (Nat.le_of_ble_eq_true rfl) (tX7_isSecret) ?_
  refine r_if_ne dX7_merges_5 (tgt := 10) rfl (fun _ => ?_) (fun h5 => absurd h5 (bi_n0.mpr hx))
  refine r_aload_n dX7_merges_10 (i := 0) rfl rfl ?_
  refine sX7_merges_11 (Nat.le_refl _) (Nat.le_refl _) rfl lv16 (Nat.le_of_ble_eq_true rfl) (tX7_areAwake) ?_
  refine r_if_ne dX7_merges_14 (tgt := 20) rfl (fun _ => ?_) (fun h14 => absurd h14 (bi_n0.mpr hs))
  refine r_aload_n dX7_merges_20 (i := 0) rfl rfl ?_
  refine r_iload_n dX7_merges_21 (i := 1) rfl rfl ?_
  refine sX7_merges_22 (Nat.le_refl _) (Nat.le_refl _) rfl lv16 (Nat.le_of_ble_eq_true rfl) (tX7_merged hj) ?_
  refine r_istore_n dX7_merges_25 (i := 2) rfl (Nat.le_of_ble_eq_true rfl) rfl rfl ?_
  refine r_iload_n dX7_merges_26 (i := 2) rfl rfl ?_
  refine r_sipush dX7_merges_27 (v := 1000) rfl ?_
  refine r_icmp_lt dX7_merges_30 (tgt := 61) rfl (fun h30 => ?_) (fun h30 => ?_)
  · refine r_aload_n dX7_merges_61 (i := 0) rfl rfl ?_
    refine r_getR dX7_merges_62 f_7_7 rfl rfl rfl lv16 ?_
    refine r_iload_n dX7_merges_65 (i := 1) rfl rfl ?_
    refine r_iconst dX7_merges_66 (v := 1) rfl ?_
    refine sX7_merges_67 (Nat.le_refl _) (Nat.le_refl _) (Nat.le_of_ble_eq_true rfl) (tX7_cell rfl (f := 1) rfl) ?_
    refine r_iload_n dX7_merges_70 (i := 2) rfl rfl ?_
    refine n_iast dX7_merges_71 rfl lv17 rfl (by first | assumption | omega | (unfold cI; omega)) ?_
    refine r_aload_n dX7_merges_72 (i := 0) rfl rfl ?_
    refine r_getR dX7_merges_73 f_7_7 rfl rfl rfl lv16 ?_
    refine r_iload_n dX7_merges_76 (i := 1) rfl rfl ?_
    refine r_iconst dX7_merges_77 (v := 2) rfl ?_
    refine sX7_merges_78 (Nat.le_refl _) (Nat.le_refl _) (Nat.le_of_ble_eq_true rfl) (tX7_cell rfl (f := 2) rfl) ?_
    refine r_aload_n dX7_merges_81 (i := 0) rfl rfl ?_
    refine r_getR dX7_merges_82 f_7_7 rfl rfl rfl lv16 ?_
    refine r_iconst dX7_merges_85 (v := 0) rfl ?_
    refine n_iald dX7_merges_86 rfl lv17 (k := 0) rfl (by decide) ?_
    refine n_iast dX7_merges_87 rfl lv17 rfl (by first | assumption | omega | (unfold cI; omega)) ?_
    refine r_aload_n dX7_merges_88 (i := 0) rfl rfl ?_
    refine r_getR dX7_merges_89 f_7_7 rfl rfl rfl lv16 ?_
    refine r_iload_n dX7_merges_92 (i := 1) rfl rfl ?_
    refine r_iconst dX7_merges_93 (v := 4) rfl ?_
    refine sX7_merges_94 (Nat.le_refl _) (Nat.le_refl _) (Nat.le_of_ble_eq_true rfl) (tX7_cell rfl (f := 4) rfl) ?_
    refine r_dup2 dX7_merges_97 rfl rfl ?_
    refine n_iald dX7_merges_98 rfl lv17 rfl (by first | assumption | omega | (unfold cI; omega)) ?_
    refine r_iconst dX7_merges_99 (v := 1) rfl ?_
    refine r_iadd dX7_merges_100 ?_
    refine n_iast dX7_merges_101 rfl lv17 rfl (by first | assumption | omega | (unfold cI; omega)) ?_
    rw [e1, e2]
    refine r_aload_n dX7_merges_102 (i := 0) rfl rfl ?_
    refine r_getR dX7_merges_103 f_7_7 rfl rfl rfl lv16 ?_
    refine r_bipush dX7_merges_106 (v := 11) rfl ?_
    refine r_dup2 dX7_merges_108 rfl rfl ?_
    refine n_iald dX7_merges_109 rfl lv17 (k := 11) rfl (by decide) ?_
    refine r_aload_n dX7_merges_110 (i := 0) rfl rfl ?_
    refine r_iload_n dX7_merges_111 (i := 1) rfl rfl ?_
    refine sX7_merges_112 (Nat.le_refl _) (Nat.le_refl _) rfl lv16 (Nat.le_of_ble_eq_true rfl) (tX7_isLiedAbout hj) ?_
    refine r_if_eq dX7_merges_115 (tgt := 122) rfl (fun h115 => ?_) (fun h115 => ?_)
    · refine r_iconst dX7_merges_122 (v := 0) rfl ?_
      refine fin _ ?_ ?_
      · first | exact bi_t (by rw [← e4]; exact bi_n0.mp h115) | exact bi_f (by rw [← e4]; exact bi_0.mp h115)
      · assumption
    · refine r_iconst dX7_merges_118 (v := 1) rfl ?_
      refine r_goto dX7_merges_119 (tgt := 123) rfl ?_
      refine fin _ ?_ ?_
      · first | exact bi_t (by rw [← e4]; exact bi_n0.mp h115) | exact bi_f (by rw [← e4]; exact bi_0.mp h115)
      · assumption
  · refine r_aload_n dX7_merges_33 (i := 0) rfl rfl ?_
    refine r_getR dX7_merges_34 f_7_7 rfl rfl rfl lv16 ?_
    refine r_iload_n dX7_merges_37 (i := 1) rfl rfl ?_
    refine r_iconst dX7_merges_38 (v := 3) rfl ?_
    refine sX7_merges_39 (Nat.le_refl _) (Nat.le_refl _) (Nat.le_of_ble_eq_true rfl) (tX7_cell rfl (f := 3) rfl) ?_
    refine r_dup2 dX7_merges_42 rfl rfl ?_
    refine n_iald dX7_merges_43 rfl lv17 rfl (by first | assumption | omega | (unfold cI; omega)) ?_
    refine r_iconst dX7_merges_44 (v := 1) rfl ?_
    refine r_iadd dX7_merges_45 ?_
    refine n_iast dX7_merges_46 rfl lv17 rfl (by first | assumption | omega | (unfold cI; omega)) ?_
    refine r_aload_n dX7_merges_47 (i := 0) rfl rfl ?_
    refine r_getR dX7_merges_48 f_7_7 rfl rfl rfl lv16 ?_
    refine r_bipush dX7_merges_51 (v := 10) rfl ?_
    refine r_dup2 dX7_merges_53 rfl rfl ?_
    refine n_iald dX7_merges_54 rfl lv17 (k := 10) rfl (by decide) ?_
    refine r_iconst dX7_merges_55 (v := 1) rfl ?_
    refine r_iadd dX7_merges_56 ?_
    refine n_iast dX7_merges_57 rfl lv17 (k := 10) rfl (by decide) ?_
    refine r_goto dX7_merges_58 (tgt := 125) rfl ?_
    refine r_iload_n dX7_merges_125 (i := 2) rfl rfl ?_
    refine e_i dX7_merges_126 rfl rfl rfl ?_
    rw [hs_i (n0 _ _ (by decide))]
    simp [RG, rmC, Int32.not_lt.mpr, *]
def rkF (hp : HPt) (j : Nat) (v : Int32) : Nat → Int32
  | 0 => -6
  | r + 1 => if hp (17, 0, 0, 0) (cI j (15 + 4 * r)) = v then nI r else rkF hp j v r
theorem tX7_rankOf {g : Gh} {j m : Nat} {v : Int32} {hp : HPt} (hj : j < 8) (hm : m < 5) (hM : hp (17, 0, 0, 0) (cI j 0) = nI m) : Ci g mX7_rankOf [vR (16, 0, 0, 0), vI (nI j), vI v] hp (rkF hp j v (m + 1)) hp := by
  have key : ∀ k r, r + k = m + 1 → V g mX7_rankOf 0 0 0 0 616 6 [some (vR (16, 0, 0, 0)), some (vI (nI j)), some (vI v), some (vI (rkF hp j v r)), some (vI (nI r))] [] RP hp (Pi (rkF hp j v (m + 1)) hp) := by
    intro k
    induction k with
    | zero =>
      intro r hr
      have hr : r = m + 1 := by omega
      subst hr
      refine r_iload dX7_rankOf_6 rfl ?_
      refine r_aload_n dX7_rankOf_8 (i := 0) rfl rfl ?_
      refine r_getR dX7_rankOf_9 f_7_7 rfl rfl rfl lv16 ?_
      refine r_iload_n dX7_rankOf_12 (i := 1) rfl rfl ?_
      refine r_iconst dX7_rankOf_13 (v := 0) rfl ?_
      refine sX7_rankOf_14 (Nat.le_refl _) (Nat.le_refl _) (Nat.le_of_ble_eq_true rfl) (tX7_cell rfl (f := 0) rfl) ?_
      refine n_iald dX7_rankOf_17 rfl lv17 rfl (by first | assumption | omega | (unfold cI; omega)) ?_
      refine r_icmp_gt dX7_rankOf_18 (tgt := 50) rfl (fun _ => ?_) (fun h18 => absurd ((by rw [hM]; exact nI_lt (by omega) (by omega) : hp (17, 0, 0, 0) (cI j 0) < nI (m + 1))) h18)
      refine r_iload_n dX7_rankOf_50 (i := 3) rfl rfl ?_
      exact e_i dX7_rankOf_51 rfl (by first | rfl | exact bi_nar _) (by first | rfl | simp [bi, *]) rfl
    | succ k ih =>
      intro r hr
      have hr5 : r < 5 := by omega
      have h := ih (r + 1) (by omega)
      refine r_iload dX7_rankOf_6 rfl ?_
      refine r_aload_n dX7_rankOf_8 (i := 0) rfl rfl ?_
      refine r_getR dX7_rankOf_9 f_7_7 rfl rfl rfl lv16 ?_
      refine r_iload_n dX7_rankOf_12 (i := 1) rfl rfl ?_
      refine r_iconst dX7_rankOf_13 (v := 0) rfl ?_
      refine sX7_rankOf_14 (Nat.le_refl _) (Nat.le_refl _) (Nat.le_of_ble_eq_true rfl) (tX7_cell rfl (f := 0) rfl) ?_
      refine n_iald dX7_rankOf_17 rfl lv17 rfl (by first | assumption | omega | (unfold cI; omega)) ?_
      refine r_icmp_gt dX7_rankOf_18 (tgt := 50) rfl (fun h18 => absurd h18 ((by rw [hM]; exact nI_nlt (by omega) (by omega) : ¬ hp (17, 0, 0, 0) (cI j 0) < nI r))) (fun _ => ?_)
      refine r_aload_n dX7_rankOf_21 (i := 0) rfl rfl ?_
      refine r_getR dX7_rankOf_22 f_7_7 rfl rfl rfl lv16 ?_
      refine r_iload_n dX7_rankOf_25 (i := 1) rfl rfl ?_
      refine r_iload dX7_rankOf_26 rfl ?_
      refine r_iconst dX7_rankOf_28 (v := 0) rfl ?_
      refine sX7_rankOf_29 (Nat.le_refl _) (Nat.le_refl _) (Nat.le_of_ble_eq_true rfl) (tX7_at rfl rfl (w := 0) rfl (f := 15 + 4 * r) rfl) ?_
      refine n_iald dX7_rankOf_32 rfl lv17 rfl (by first | assumption | omega | (unfold cI; omega)) ?_
      refine r_iload_n dX7_rankOf_33 (i := 2) rfl rfl ?_
      refine r_icmp_ne dX7_rankOf_34 (tgt := 42) rfl (fun h34 => ?_) (fun h34 => ?_)
      · refine r_iload_n dX7_rankOf_42 (i := 3) rfl rfl ?_
        refine r_istore_n dX7_rankOf_43 (i := 3) rfl (Nat.le_of_ble_eq_true rfl) rfl rfl ?_
        refine r_inc1 dX7_rankOf_44 rfl (Nat.le_of_ble_eq_true rfl) rfl ?_
        refine r_goto dX7_rankOf_47 (tgt := 6) rfl ?_
        refine V.eqL ?_ h
        simp [rkF, h34, nI_1]
      · refine r_iload dX7_rankOf_37 rfl ?_
        refine r_goto dX7_rankOf_39 (tgt := 43) rfl ?_
        refine r_istore_n dX7_rankOf_43 (i := 3) rfl (Nat.le_of_ble_eq_true rfl) rfl rfl ?_
        refine r_inc1 dX7_rankOf_44 rfl (Nat.le_of_ble_eq_true rfl) rfl ?_
        refine r_goto dX7_rankOf_47 (tgt := 6) rfl ?_
        refine V.eqL ?_ h
        simp [rkF, h34, nI_1]
  unfold Ci
  refine r_bipush dX7_rankOf_0 (v := (-6)) rfl ?_
  refine r_istore_n dX7_rankOf_2 (i := 3) rfl (Nat.le_of_ble_eq_true rfl) rfl rfl ?_
  refine r_iconst dX7_rankOf_3 (v := 0) rfl ?_
  refine r_istore dX7_rankOf_4 (Nat.le_of_ble_eq_true rfl) rfl rfl ?_
  exact key (m + 1) 0 (by omega)
theorem tX7_steals_e {g : Gh} {s x v : Int32} {hp : HPt} (hx : (fIn s 0 1 && rHas hp x) = false) : Ci g mX7_steals [vR (16, 0, 0, 0), vI s, vI x, vI v] hp (-1) hp := by
  unfold Ci
  refine r_iload_n dX7_steals_0 (i := 1) rfl rfl ?_
  refine sX7_steals_1 (Nat.le_refl _) (Nat.le_refl _) (Nat.le_of_ble_eq_true rfl) (tX7_isStore) ?_
  refine r_if_eq dX7_steals_4 (tgt := 24) rfl (fun h4 => ?_) (fun h4 => ?_)
  · refine r_bipush dX7_steals_24 (v := (-6)) rfl ?_
    refine r_istore dX7_steals_26 (Nat.le_of_ble_eq_true rfl) rfl rfl ?_
    refine r_iload dX7_steals_28 rfl ?_
    refine r_bipush dX7_steals_30 (v := (-6)) rfl ?_
    refine r_icmp_ne dX7_steals_32 (tgt := 37) rfl (fun h => absurd rfl h) (fun _ => ?_)
    refine r_iconst dX7_steals_35 (v := (-1)) rfl ?_
    exact e_i dX7_steals_36 rfl rfl rfl rfl
  · refine r_aload_n dX7_steals_7 (i := 0) rfl rfl ?_
    refine r_iload_n dX7_steals_8 (i := 2) rfl rfl ?_
    refine sX7_steals_9 (Nat.le_refl _) (Nat.le_refl _) rfl lv16 (Nat.le_of_ble_eq_true rfl) (tX7_isSecret) ?_
    refine r_if_eq dX7_steals_12 (tgt := 24) rfl (fun h12 => ?_) (fun h12 => ?_)
    · refine r_bipush dX7_steals_24 (v := (-6)) rfl ?_
      refine r_istore dX7_steals_26 (Nat.le_of_ble_eq_true rfl) rfl rfl ?_
      refine r_iload dX7_steals_28 rfl ?_
      refine r_bipush dX7_steals_30 (v := (-6)) rfl ?_
      refine r_icmp_ne dX7_steals_32 (tgt := 37) rfl (fun h => absurd rfl h) (fun _ => ?_)
      refine r_iconst dX7_steals_35 (v := (-1)) rfl ?_
      exact e_i dX7_steals_36 rfl rfl rfl rfl
    · simp_all [bi]
theorem tX7_steals_e2 {g : Gh} {j m : Nat} {s v : Int32} {hp : HPt} (hj : j < 8) (hm : m < 5) (hM : hp (17, 0, 0, 0) (cI j 0) = nI m) (hx : (fIn s 0 1 && rHas hp (nI j)) = true) (hr : rkF hp j v (m + 1) = -6) : Ci g mX7_steals [vR (16, 0, 0, 0), vI s, vI (nI j), vI v] hp (-1) hp := by
  simp only [Bool.and_eq_true] at hx
  unfold Ci
  refine r_iload_n dX7_steals_0 (i := 1) rfl rfl ?_
  refine sX7_steals_1 (Nat.le_refl _) (Nat.le_refl _) (Nat.le_of_ble_eq_true rfl) (tX7_isStore) ?_
  refine r_if_eq dX7_steals_4 (tgt := 24) rfl (fun h4 => absurd h4 (bi_n0.mpr hx.1)) (fun _ => ?_)
  refine r_aload_n dX7_steals_7 (i := 0) rfl rfl ?_
  refine r_iload_n dX7_steals_8 (i := 2) rfl rfl ?_
  refine sX7_steals_9 (Nat.le_refl _) (Nat.le_refl _) rfl lv16 (Nat.le_of_ble_eq_true rfl) (tX7_isSecret) ?_
  refine r_if_eq dX7_steals_12 (tgt := 24) rfl (fun h12 => absurd h12 (bi_n0.mpr hx.2)) (fun _ => ?_)
  refine r_aload_n dX7_steals_15 (i := 0) rfl rfl ?_
  refine r_iload_n dX7_steals_16 (i := 2) rfl rfl ?_
  refine r_iload_n dX7_steals_17 (i := 3) rfl rfl ?_
  refine sX7_steals_18 (Nat.le_refl _) (Nat.le_refl _) rfl lv16 (Nat.le_of_ble_eq_true rfl) (tX7_rankOf hj hm hM) ?_
  refine r_goto dX7_steals_21 (tgt := 26) rfl ?_
  refine r_istore dX7_steals_26 (Nat.le_of_ble_eq_true rfl) rfl rfl ?_
  refine r_iload dX7_steals_28 rfl ?_
  refine r_bipush dX7_steals_30 (v := (-6)) rfl ?_
  refine r_icmp_ne dX7_steals_32 (tgt := 37) rfl (fun h32 => absurd (hr) h32) (fun _ => ?_)
  refine r_iconst dX7_steals_35 (v := (-1)) rfl ?_
  exact e_i dX7_steals_36 rfl (by first | rfl | exact bi_nar _) (by first | rfl | simp [bi, *]) rfl
def rNw (hp : HPt) (j b r : Nat) : Bool := decide ((hp (17, 0, 0, 0) (cI j (18 + 4 * r)) >>> (nI b &&& 31)) &&& 1 = 0)
def rt1 (hp : HPt) (j b r : Nat) : HPt := hset hp (17, 0, 0, 0) (cI j (18 + 4 * r)) (hp (17, 0, 0, 0) (cI j (18 + 4 * r)) ||| ((1 : Int32) <<< (nI b &&& 31)))
def rt2 (hp : HPt) (j b r : Nat) : HPt := hset (rt1 hp j b r) (17, 0, 0, 0) (cI j 6) (rt1 hp j b r (17, 0, 0, 0) (cI j 6) + bi (rNw hp j b r))
def RT3 (hp : HPt) (j b r : Nat) : HPt := hset (rt2 hp j b r) (17, 0, 0, 0) (cI j 5) (if rt2 hp j b r (17, 0, 0, 0) (cI j (18 + 4 * r)) = 3 then 1 else rt2 hp j b r (17, 0, 0, 0) (cI j 5))
theorem tX7_steals {g : Gh} {j m b r : Nat} {v : Int32} {hp : HPt} (hj : j < 8) (hb : b < 2) (hm : m < 5) (hM : hp (17, 0, 0, 0) (cI j 0) = nI m) (hx : rHas hp (nI j) = true) (hr5 : r < 5) (hr : rkF hp j v (m + 1) = nI r) : Ci g mX7_steals [vR (16, 0, 0, 0), vI (nI b), vI (nI j), vI v] hp (hp (17, 0, 0, 0) (cI j (16 + 4 * r + b))) (RT3 hp j b r) := by
  have e16 : RT3 hp j b r (17, 0, 0, 0) (cI j (16 + 4 * r + b)) = hp (17, 0, 0, 0) (cI j (16 + 4 * r + b)) := by
    unfold RT3 rt2 rt1
    rw [hs_i (cI_ff (by omega)), hs_i (cI_ff (by omega)), hs_i (cI_ff (by omega))]
  have hn6 : ¬ rkF hp j v (m + 1) = -6 := by
    rw [hr]
    intro h
    have h2 := congrArg Int32.toInt h
    rw [nI_toInt (by omega)] at h2
    have h3 : (-6 : Int32).toInt = -6 := by decide
    omega
  have f3 : V g mX7_steals 0 0 0 0 616 149 [some (vR (16, 0, 0, 0)), some (vI (nI b)), some (vI (nI j)), some (vI v), some (vI (nI r)), some (vI (hp (17, 0, 0, 0) (cI j (18 + 4 * r)))), some (vI (bi (rNw hp j b r)))] [] RP (RT3 hp j b r) (Pi (hp (17, 0, 0, 0) (cI j (16 + 4 * r + b))) (RT3 hp j b r)) := by
    refine r_aload_n dX7_steals_149 (i := 0) rfl rfl ?_
    refine r_getR dX7_steals_150 f_7_7 rfl rfl rfl lv16 ?_
    refine r_iload_n dX7_steals_153 (i := 2) rfl rfl ?_
    refine r_iload dX7_steals_154 rfl ?_
    refine r_iconst dX7_steals_156 (v := 1) rfl ?_
    refine r_iload_n dX7_steals_157 (i := 1) rfl rfl ?_
    refine r_iadd dX7_steals_158 ?_
    refine sX7_steals_159 (Nat.le_refl _) (Nat.le_refl _) (Nat.le_of_ble_eq_true rfl) (tX7_at rfl rfl (nI_add 1 b) (f := 16 + 4 * r + b) (by omega)) ?_
    refine n_iald dX7_steals_162 rfl lv17 rfl (by first | assumption | omega | (unfold cI; omega)) ?_
    exact e_i dX7_steals_163 rfl (by first | rfl | exact bi_nar _) e16 rfl
  have f2 : V g mX7_steals 0 0 0 0 616 109 [some (vR (16, 0, 0, 0)), some (vI (nI b)), some (vI (nI j)), some (vI v), some (vI (nI r)), some (vI (hp (17, 0, 0, 0) (cI j (18 + 4 * r)))), some (vI (bi (rNw hp j b r)))] [] RP (rt2 hp j b r) (Pi (hp (17, 0, 0, 0) (cI j (16 + 4 * r + b))) (RT3 hp j b r)) := by
    refine r_aload_n dX7_steals_109 (i := 0) rfl rfl ?_
    refine r_getR dX7_steals_110 f_7_7 rfl rfl rfl lv16 ?_
    refine r_iload_n dX7_steals_113 (i := 2) rfl rfl ?_
    refine r_iconst dX7_steals_114 (v := 5) rfl ?_
    refine sX7_steals_115 (Nat.le_refl _) (Nat.le_refl _) (Nat.le_of_ble_eq_true rfl) (tX7_cell rfl (f := 5) rfl) ?_
    refine r_aload_n dX7_steals_118 (i := 0) rfl rfl ?_
    refine r_getR dX7_steals_119 f_7_7 rfl rfl rfl lv16 ?_
    refine r_iload_n dX7_steals_122 (i := 2) rfl rfl ?_
    refine r_iload dX7_steals_123 rfl ?_
    refine r_iconst dX7_steals_125 (v := 3) rfl ?_
    refine sX7_steals_126 (Nat.le_refl _) (Nat.le_refl _) (Nat.le_of_ble_eq_true rfl) (tX7_at rfl rfl (w := 3) rfl (f := 18 + 4 * r) (by omega)) ?_
    refine n_iald dX7_steals_129 rfl lv17 rfl (by first | assumption | omega | (unfold cI; omega)) ?_
    refine r_iconst dX7_steals_130 (v := 3) rfl ?_
    refine r_icmp_ne dX7_steals_131 (tgt := 138) rfl (fun h131 => ?_) (fun h131 => ?_)
    · refine r_aload_n dX7_steals_138 (i := 0) rfl rfl ?_
      refine r_getR dX7_steals_139 f_7_7 rfl rfl rfl lv16 ?_
      refine r_iload_n dX7_steals_142 (i := 2) rfl rfl ?_
      refine r_iconst dX7_steals_143 (v := 5) rfl ?_
      refine sX7_steals_144 (Nat.le_refl _) (Nat.le_refl _) (Nat.le_of_ble_eq_true rfl) (tX7_cell rfl (f := 5) rfl) ?_
      refine n_iald dX7_steals_147 rfl lv17 rfl (by first | assumption | omega | (unfold cI; omega)) ?_
      refine n_iast dX7_steals_148 rfl lv17 rfl (by first | assumption | omega | (unfold cI; omega)) ?_
      refine V.eqH ?_ f3
      simp [RT3, h131]
    · refine r_iconst dX7_steals_134 (v := 1) rfl ?_
      refine r_goto dX7_steals_135 (tgt := 148) rfl ?_
      refine n_iast dX7_steals_148 rfl lv17 rfl (by first | assumption | omega | (unfold cI; omega)) ?_
      refine V.eqH ?_ f3
      simp [RT3, h131]
  have f1 : V g mX7_steals 0 0 0 0 616 67 [some (vR (16, 0, 0, 0)), some (vI (nI b)), some (vI (nI j)), some (vI v), some (vI (nI r)), some (vI (hp (17, 0, 0, 0) (cI j (18 + 4 * r)))), some (vI (bi (rNw hp j b r)))] [] RP hp (Pi (hp (17, 0, 0, 0) (cI j (16 + 4 * r + b))) (RT3 hp j b r)) := by
    refine r_aload_n dX7_steals_67 (i := 0) rfl rfl ?_
    refine r_getR dX7_steals_68 f_7_7 rfl rfl rfl lv16 ?_
    refine r_iload_n dX7_steals_71 (i := 2) rfl rfl ?_
    refine r_iload dX7_steals_72 rfl ?_
    refine r_iconst dX7_steals_74 (v := 3) rfl ?_
    refine sX7_steals_75 (Nat.le_refl _) (Nat.le_refl _) (Nat.le_of_ble_eq_true rfl) (tX7_at rfl rfl (w := 3) rfl (f := 18 + 4 * r) (by omega)) ?_
    refine r_iload dX7_steals_78 rfl ?_
    refine r_iconst dX7_steals_80 (v := 1) rfl ?_
    refine r_iload_n dX7_steals_81 (i := 1) rfl rfl ?_
    refine r_ishl dX7_steals_82 ?_
    refine r_ior dX7_steals_83 ?_
    refine n_iast dX7_steals_84 rfl lv17 rfl (by first | assumption | omega | (unfold cI; omega)) ?_
    refine r_aload_n dX7_steals_85 (i := 0) rfl rfl ?_
    refine r_getR dX7_steals_86 f_7_7 rfl rfl rfl lv16 ?_
    refine r_iload_n dX7_steals_89 (i := 2) rfl rfl ?_
    refine r_bipush dX7_steals_90 (v := 6) rfl ?_
    refine sX7_steals_92 (Nat.le_refl _) (Nat.le_refl _) (Nat.le_of_ble_eq_true rfl) (tX7_cell rfl (f := 6) rfl) ?_
    refine r_dup2 dX7_steals_95 rfl rfl ?_
    refine n_iald dX7_steals_96 rfl lv17 rfl (by first | assumption | omega | (unfold cI; omega)) ?_
    refine r_iload dX7_steals_97 rfl ?_
    refine r_if_eq dX7_steals_99 (tgt := 106) rfl (fun h99 => ?_) (fun h99 => ?_)
    · refine r_iconst dX7_steals_106 (v := 0) rfl ?_
      refine r_iadd dX7_steals_107 ?_
      refine n_iast dX7_steals_108 rfl lv17 rfl (by first | assumption | omega | (unfold cI; omega)) ?_
      refine V.eqH ?_ f2
      first | (have hq := bi_0.mp h99; simp [rt2, rt1, hq, bi]; done) | (have hq := bi_n0.mp h99; simp [rt2, rt1, hq, bi]; done)
    · refine r_iconst dX7_steals_102 (v := 1) rfl ?_
      refine r_goto dX7_steals_103 (tgt := 107) rfl ?_
      refine r_iadd dX7_steals_107 ?_
      refine n_iast dX7_steals_108 rfl lv17 rfl (by first | assumption | omega | (unfold cI; omega)) ?_
      refine V.eqH ?_ f2
      first | (have hq := bi_0.mp h99; simp [rt2, rt1, hq, bi]; done) | (have hq := bi_n0.mp h99; simp [rt2, rt1, hq, bi]; done)
  unfold Ci
  refine r_iload_n dX7_steals_0 (i := 1) rfl rfl ?_
  refine sX7_steals_1 (Nat.le_refl _) (Nat.le_refl _) (Nat.le_of_ble_eq_true rfl) (tX7_isStore) ?_
  refine r_if_eq dX7_steals_4 (tgt := 24) rfl (fun h4 => absurd h4 (bi_n0.mpr (fIn_nI (l := 1) (by omega) (by decide)))) (fun _ => ?_)
  refine r_aload_n dX7_steals_7 (i := 0) rfl rfl ?_
  refine r_iload_n dX7_steals_8 (i := 2) rfl rfl ?_
  refine sX7_steals_9 (Nat.le_refl _) (Nat.le_refl _) rfl lv16 (Nat.le_of_ble_eq_true rfl) (tX7_isSecret) ?_
  refine r_if_eq dX7_steals_12 (tgt := 24) rfl (fun h12 => absurd h12 (bi_n0.mpr hx)) (fun _ => ?_)
  refine r_aload_n dX7_steals_15 (i := 0) rfl rfl ?_
  refine r_iload_n dX7_steals_16 (i := 2) rfl rfl ?_
  refine r_iload_n dX7_steals_17 (i := 3) rfl rfl ?_
  refine sX7_steals_18 (Nat.le_refl _) (Nat.le_refl _) rfl lv16 (Nat.le_of_ble_eq_true rfl) (tX7_rankOf hj hm hM) ?_
  refine r_goto dX7_steals_21 (tgt := 26) rfl ?_
  refine r_istore dX7_steals_26 (Nat.le_of_ble_eq_true rfl) rfl rfl ?_
  refine r_iload dX7_steals_28 rfl ?_
  refine r_bipush dX7_steals_30 (v := (-6)) rfl ?_
  refine r_icmp_ne dX7_steals_32 (tgt := 37) rfl (fun _ => ?_) (fun h32 => absurd h32 (hn6))
  refine V.eqL (L2 := [some (vR (16, 0, 0, 0)), some (vI (nI b)), some (vI (nI j)), some (vI v), some (vI (nI r)), none, none]) (by rw [← hr]; rfl) ?_
  refine r_aload_n dX7_steals_37 (i := 0) rfl rfl ?_
  refine r_getR dX7_steals_38 f_7_7 rfl rfl rfl lv16 ?_
  refine r_iload_n dX7_steals_41 (i := 2) rfl rfl ?_
  refine r_iload dX7_steals_42 rfl ?_
  refine r_iconst dX7_steals_44 (v := 3) rfl ?_
  refine sX7_steals_45 (Nat.le_refl _) (Nat.le_refl _) (Nat.le_of_ble_eq_true rfl) (tX7_at rfl rfl (w := 3) rfl (f := 18 + 4 * r) (by omega)) ?_
  refine n_iald dX7_steals_48 rfl lv17 rfl (by first | assumption | omega | (unfold cI; omega)) ?_
  refine r_istore dX7_steals_49 (Nat.le_of_ble_eq_true rfl) rfl rfl ?_
  refine r_iload dX7_steals_51 rfl ?_
  refine r_iload_n dX7_steals_53 (i := 1) rfl rfl ?_
  refine r_ishr dX7_steals_54 ?_
  refine r_iconst dX7_steals_55 (v := 1) rfl ?_
  refine r_iand dX7_steals_56 ?_
  refine r_if_ne dX7_steals_57 (tgt := 64) rfl (fun h57 => ?_) (fun h57 => ?_)
  · refine r_iconst dX7_steals_64 (v := 0) rfl ?_
    refine r_istore dX7_steals_65 (Nat.le_of_ble_eq_true rfl) rfl rfl ?_
    refine V.eqL ?_ f1
    simp [rNw, h57, bi, List.set]
  · refine r_iconst dX7_steals_60 (v := 1) rfl ?_
    refine r_goto dX7_steals_61 (tgt := 65) rfl ?_
    refine r_istore dX7_steals_65 (Nat.le_of_ble_eq_true rfl) rfl rfl ?_
    refine V.eqL ?_ f1
    simp [rNw, h57, bi, List.set]
