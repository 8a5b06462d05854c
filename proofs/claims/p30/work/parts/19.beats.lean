theorem dr_WT {hp : HPt} {t : Nat} (h : WT hp) : WT (dr hp t) := h.set (okv_free rfl rfl)
theorem MV_WT {hp : HPt} {t j : Nat} {v : Int32} (h : WT hp) : WT (MV hp t j v) := by
  have h1 : WT (mv1 hp t j v) := ((dr_WT h).set (okv_free rfl rfl)).set (okv_free rfl rfl)
  have h2 : ∀ (H : HPt) (b : Nat), WT H → WT (mv2 H t j b) := fun H b hH => (dr_WT hH).set (okv_free rfl rfl)
  have h3 : ∀ (H : HPt) (b : Nat), WT H → WT (mv3 H t j b) := fun H b hH => (dr_WT hH).set (okv_free rfl rfl)
  have h4 : ∀ (H : HPt) (b : Nat), WT H → WT (mv4 H t j b) := fun H b hH => hH.set (okv_free rfl rfl)
  have h5 : ∀ (H : HPt), WT H → WT (mv5 H t j) := fun H hH => hH.set (okv_free rfl rfl)
  have h6 : ∀ (H : HPt), WT H → WT (mv6 H t) := fun H hH => hH.set (okv_free rfl rfl)
  exact h6 _ (h5 _ (h4 _ _ (h4 _ _ (h3 _ _ (h2 _ _ (h3 _ _ (h2 _ _ h1)))))))
theorem MN_WT {hp : HPt} {t j : Nat} (h : WT hp) : WT (MN hp t j) := MV_WT (((frS_WT h).set (okv_free rfl rfl)).set (okv_free rfl rfl))
/-- cells of a Stores outside of a version's making stay -/
theorem MV_off {hp : HPt} {t j : Nat} {v : Int32} {a : A4} {i : Nat} (h0 : a = (0, t, 0, 0) → i ≠ 4 ∧ i ≠ 6) (h4 : a = (4, t, j, 0) → i ≠ 2) (h5 : ∀ b, a ≠ (5, t, j, b)) (h6 : ∀ b, a ≠ (6, t, j, b)) : MV hp t j v a i = hp a i := by
  by_cases e0 : a = (0, t, 0, 0)
  · have h := h0 e0
    subst e0
    simp [MV, mv1, mv2, mv3, mv4, mv5, mv6, dr, hset, h]
  · by_cases e4 : a = (4, t, j, 0)
    · have h := h4 e4
      subst e4
      simp [MV, mv1, mv2, mv3, mv4, mv5, mv6, dr, hset, h]
    · simp [MV, mv1, mv2, mv3, mv4, mv5, mv6, dr, hset, e0, e4, h5, h6]
theorem frS_off {hp : HPt} {t j : Nat} {a : A4} {i : Nat} (h6 : ∀ b, a ≠ (6, t, j, b)) (h7 : ∀ b, a ≠ (7, t, j, b)) : frS hp t j a i = hp a i := by
  simp [frS, frH, shR, hset, h6, h7]
theorem MN_off {hp : HPt} {t j : Nat} {a : A4} {i : Nat} (h0 : a = (0, t, 0, 0) → i ≠ 4 ∧ i ≠ 6 ∧ i ≠ 7) (h4 : a = (4, t, j, 0) → i ≠ 2 ∧ i ≠ 3) (h5 : ∀ b, a ≠ (5, t, j, b)) (h6 : ∀ b, a ≠ (6, t, j, b)) (h7 : ∀ b, a ≠ (7, t, j, b)) : MN hp t j a i = hp a i := by
  unfold MN
  rw [MV_off (fun e => ⟨(h0 e).1, (h0 e).2.1⟩) (fun e => (h4 e).1) h5 h6]
  unfold mn1
  by_cases e0 : a = (0, t, 0, 0)
  · have h := h0 e0
    subst e0
    simp [hset, h, frS_off]
  · by_cases e4 : a = (4, t, j, 0)
    · have h := h4 e4
      subst e4
      simp [hset, h, frS_off]
    · simp [hset, e0, e4, frS_off h6 h7]
/-- a beat passes: for the first i secrets -/
def p1 (hp : HPt) (t : Nat) : Nat → HPt
  | 0 => hp
  | i + 1 => hset (p1 hp t i) (4, t, i, 0) 5 (if 0 < p1 hp t i (4, t, i, 0) 5 - 1 then p1 hp t i (4, t, i, 0) 5 - 1 else 0)
theorem p1_WT {hp : HPt} {t : Nat} (h : WT hp) : ∀ i, WT (p1 hp t i)
  | 0 => h
  | i + 1 => (p1_WT h i).set (okv_free rfl rfl)
theorem p1_off {hp : HPt} {t : Nat} {a : A4} {k : Nat} (h : a.1 ≠ 4 ∨ k ≠ 5) : ∀ i, p1 hp t i a k = hp a k
  | 0 => rfl
  | i + 1 => by
    have ih := p1_off (hp := hp) (t := t) h i
    have h2 : ¬ (a = (4, t, i, 0) ∧ k = 5) := by
      rintro ⟨rfl, rfl⟩
      simp at h
    show hset _ _ _ _ a k = _
    unfold hset
    rw [if_neg h2, ih]
def p2 (hp : HPt) (t n : Nat) : HPt := hset (p1 hp t n) (0, t, 0, 0) 5 (hp (0, t, 0, 0) 5 + 1)
/-- all secrets are refreshed, but those whose version would be above 999 -/
def q1 (hp : HPt) (t : Nat) : Nat → HPt
  | 0 => hp
  | i + 1 => if 999 ≤ q1 hp t i (4, t, i, 0) 2 then q1 hp t i else MN (q1 hp t i) t i
theorem q1_WT {hp : HPt} {t : Nat} (h : WT hp) : ∀ i, WT (q1 hp t i)
  | 0 => h
  | i + 1 => by
    unfold q1
    split
    · exact q1_WT h i
    · exact MN_WT (q1_WT h i)
theorem q1_0 {hp : HPt} {t : Nat} {k : Nat} (h : k ≠ 4 ∧ k ≠ 6 ∧ k ≠ 7) : ∀ i, q1 hp t i (0, t, 0, 0) k = hp (0, t, 0, 0) k
  | 0 => rfl
  | i + 1 => by
    unfold q1
    split
    · exact q1_0 h i
    · rw [MN_off (fun _ => h) (by simp) (by simp) (by simp) (by simp)]
      exact q1_0 h i
def fSkip (hp : HPt) (t : Nat) : Bool := decide (hp (2, t, 0, 0) 1 = 0) || !decide (jrem (hp (0, t, 0, 0) 5) (hp (2, t, 0, 0) 1) = 0) || fSlp hp t
def PB (hp : HPt) (t n : Nat) : HPt := if fSkip (p2 hp t n) t = true then p2 hp t n else q1 (p2 hp t n) t n
theorem p2_WT {hp : HPt} {t n : Nat} (h : WT hp) : WT (p2 hp t n) := (p1_WT h n).set (okv_free rfl rfl)
theorem PB_WT {hp : HPt} {t n : Nat} (h : WT hp) : WT (PB hp t n) := by
  unfold PB
  split
  · exact p2_WT h
  · exact q1_WT (p2_WT h) n
theorem tX5_passOneBeat {g : Gh} {t n : Nat} {hp : HPt} (ht : t < 10) (hn : n ≤ 8) (hN : hp (0, t, 0, 0) 3 = nI n) (hW : WT hp) : Cv g mX5_passOneBeat [vR (0, t, 0, 0)] hp (PB hp t n) := by
  have hN1 : ∀ r, p1 hp t r (0, t, 0, 0) 3 = nI n := fun r => by rw [p1_off (by simp)]; exact hN
  have hN2 : p2 hp t n (0, t, 0, 0) 3 = nI n := by
    unfold p2
    rw [hs_i (by decide)]
    exact hN1 n
  have hN3 : ∀ r, q1 (p2 hp t n) t r (0, t, 0, 0) 3 = nI n := fun r => by rw [q1_0 (by decide)]; exact hN2
  have k2 : fSkip (p2 hp t n) t = false → ∀ k r, r + k = n → V g mX5_passOneBeat 0 0 0 0 609 83 [some (vR (0, t, 0, 0)), some (vI (nI r))] [] RP (q1 (p2 hp t n) t r) (Pv (PB hp t n)) := by
    intro hs k
    induction k with
    | zero =>
      intro r hr
      have hr : r = n := by omega
      subst hr
      refine r_iload_n dX5_passOneBeat_83 (i := 1) rfl rfl ?_
      refine r_aload_n dX5_passOneBeat_84 (i := 0) rfl rfl ?_
      refine r_getI dX5_passOneBeat_85 f_5_34 rfl rfl (lv0 (by first | assumption | decide | omega)) ?_
      refine r_icmp_ge dX5_passOneBeat_88 (tgt := 122) rfl (fun _ => ?_) (fun h88 => absurd ((by rw [hN3]; exact Int32.le_refl _)) h88)
      exact e_v dX5_passOneBeat_122 rfl (by simp [PB, hs])
    | succ k ih =>
      intro r hr
      have hr8 : r < 8 := by omega
      have h := ih (r + 1) (by omega)
      rw [nI_succ] at h
      refine r_iload_n dX5_passOneBeat_83 (i := 1) rfl rfl ?_
      refine r_aload_n dX5_passOneBeat_84 (i := 0) rfl rfl ?_
      refine r_getI dX5_passOneBeat_85 f_5_34 rfl rfl (lv0 (by first | assumption | decide | omega)) ?_
      refine r_icmp_ge dX5_passOneBeat_88 (tgt := 122) rfl (fun h88 => absurd h88 ((by rw [hN3]; exact nI_ge (by omega) (by omega)))) (fun _ => ?_)
      refine r_aload_n dX5_passOneBeat_91 (i := 0) rfl rfl ?_
      refine r_getR dX5_passOneBeat_92 f_5_11 rfl rfl rfl (lv0 (by first | assumption | decide | omega)) ?_
      refine r_iload_n dX5_passOneBeat_95 (i := 1) rfl rfl ?_
      refine n_aald dX5_passOneBeat_96 rfl (lv1 (by first | assumption | decide | omega)) rfl (by first | assumption | omega | (unfold cI; omega)) rfl ?_
      refine r_getI dX5_passOneBeat_97 f_5_59 rfl rfl (lv4 (by first | assumption | decide | omega) (by first | assumption | decide | omega)) ?_
      refine r_sipush dX5_passOneBeat_100 (v := 999) rfl ?_
      refine r_icmp_ge dX5_passOneBeat_103 (tgt := 116) rfl (fun h103 => ?_) (fun h103 => ?_)
      · refine V.eqH (hp2 := q1 (p2 hp t n) t (r + 1)) (by simp [q1, h103]) ?_
        refine r_inc1 dX5_passOneBeat_116 rfl (Nat.le_of_ble_eq_true rfl) rfl ?_
        refine r_goto dX5_passOneBeat_119 (tgt := 83) rfl ?_
        exact h
      · refine r_aload_n dX5_passOneBeat_106 (i := 0) rfl rfl ?_
        refine r_aload_n dX5_passOneBeat_107 (i := 0) rfl rfl ?_
        refine r_getR dX5_passOneBeat_108 f_5_11 rfl rfl rfl (lv0 (by first | assumption | decide | omega)) ?_
        refine r_iload_n dX5_passOneBeat_111 (i := 1) rfl rfl ?_
        refine n_aald dX5_passOneBeat_112 rfl (lv1 (by first | assumption | decide | omega)) rfl (by first | assumption | omega | (unfold cI; omega)) rfl ?_
        refine sX5_passOneBeat_113 (Nat.le_refl _) (Nat.le_refl _) rfl (lv0 (by first | assumption | decide | omega)) (Nat.le_of_ble_eq_true rfl) (tX5_makeNextVersion ht hr8 (q1_WT (p2_WT hW) r)) ?_
        refine V.eqH (hp2 := q1 (p2 hp t n) t (r + 1)) (by simp [q1, h103]) ?_
        refine r_inc1 dX5_passOneBeat_116 rfl (Nat.le_of_ble_eq_true rfl) rfl ?_
        refine r_goto dX5_passOneBeat_119 (tgt := 83) rfl ?_
        exact h
  have mid : V g mX5_passOneBeat 0 0 0 0 609 40 [some (vR (0, t, 0, 0)), some (vI (nI n))] [] RP (p1 hp t n) (Pv (PB hp t n)) := by
    refine r_aload_n dX5_passOneBeat_40 (i := 0) rfl rfl ?_
    refine r_dup dX5_passOneBeat_41 rfl ?_
    refine r_getI dX5_passOneBeat_42 f_5_37 rfl rfl (lv0 (by first | assumption | decide | omega)) ?_
    refine r_iconst dX5_passOneBeat_45 (v := 1) rfl ?_
    refine r_iadd dX5_passOneBeat_46 ?_
    refine r_putI dX5_passOneBeat_47 f_5_37 rfl rfl (lv0 (by first | assumption | decide | omega)) ⟨rfl, rfl⟩ ?_
    refine V.eqH (hp2 := p2 hp t n) (by unfold p2; rw [p1_off (by simp)]) ?_
    refine r_aload_n dX5_passOneBeat_50 (i := 0) rfl rfl ?_
    refine r_getR dX5_passOneBeat_51 f_5_17 rfl rfl rfl (lv0 (by first | assumption | decide | omega)) ?_
    refine r_iconst dX5_passOneBeat_54 (v := 1) rfl ?_
    refine n_iald dX5_passOneBeat_55 rfl (lv2 (by first | assumption | decide | omega)) (k := 1) rfl (by decide) ?_
    refine r_if_eq dX5_passOneBeat_56 (tgt := 80) rfl (fun h56 => ?_) (fun h56 => ?_)
    · refine e_v dX5_passOneBeat_80 rfl ?_
      simp_all [PB, fSkip, bi]
    · refine r_aload_n dX5_passOneBeat_59 (i := 0) rfl rfl ?_
      refine r_getI dX5_passOneBeat_60 f_5_37 rfl rfl (lv0 (by first | assumption | decide | omega)) ?_
      refine r_aload_n dX5_passOneBeat_63 (i := 0) rfl rfl ?_
      refine r_getR dX5_passOneBeat_64 f_5_17 rfl rfl rfl (lv0 (by first | assumption | decide | omega)) ?_
      refine r_iconst dX5_passOneBeat_67 (v := 1) rfl ?_
      refine n_iald dX5_passOneBeat_68 rfl (lv2 (by first | assumption | decide | omega)) (k := 1) rfl (by decide) ?_
      refine r_irem dX5_passOneBeat_69 h56 ?_
      refine r_if_ne dX5_passOneBeat_70 (tgt := 80) rfl (fun h70 => ?_) (fun h70 => ?_)
      · refine e_v dX5_passOneBeat_80 rfl ?_
        simp_all [PB, fSkip, bi]
      · refine r_aload_n dX5_passOneBeat_73 (i := 0) rfl rfl ?_
        refine sX5_passOneBeat_74 (Nat.le_refl _) (Nat.le_refl _) rfl (lv0 (by first | assumption | decide | omega)) (Nat.le_of_ble_eq_true rfl) (tX5_someStoreSleeps ht) ?_
        refine r_if_eq dX5_passOneBeat_77 (tgt := 81) rfl (fun h77 => ?_) (fun h77 => ?_)
        · refine r_iconst dX5_passOneBeat_81 (v := 0) rfl ?_
          refine r_istore_n dX5_passOneBeat_82 (i := 1) rfl (Nat.le_of_ble_eq_true rfl) rfl rfl ?_
          exact k2 (by simp_all [fSkip, bi]) n 0 (by omega)
        · refine e_v dX5_passOneBeat_80 rfl ?_
          simp_all [PB, fSkip, bi]
  have k1 : ∀ k r, r + k = n → V g mX5_passOneBeat 0 0 0 0 609 2 [some (vR (0, t, 0, 0)), some (vI (nI r))] [] RP (p1 hp t r) (Pv (PB hp t n)) := by
    intro k
    induction k with
    | zero =>
      intro r hr
      have hr : r = n := by omega
      subst hr
      refine r_iload_n dX5_passOneBeat_2 (i := 1) rfl rfl ?_
      refine r_aload_n dX5_passOneBeat_3 (i := 0) rfl rfl ?_
      refine r_getI dX5_passOneBeat_4 f_5_34 rfl rfl (lv0 (by first | assumption | decide | omega)) ?_
      refine r_icmp_ge dX5_passOneBeat_7 (tgt := 40) rfl (fun _ => ?_) (fun h7 => absurd ((by rw [hN1]; exact Int32.le_refl _)) h7)
      exact mid
    | succ k ih =>
      intro r hr
      have hr8 : r < 8 := by omega
      have h := ih (r + 1) (by omega)
      rw [nI_succ] at h
      refine r_iload_n dX5_passOneBeat_2 (i := 1) rfl rfl ?_
      refine r_aload_n dX5_passOneBeat_3 (i := 0) rfl rfl ?_
      refine r_getI dX5_passOneBeat_4 f_5_34 rfl rfl (lv0 (by first | assumption | decide | omega)) ?_
      refine r_icmp_ge dX5_passOneBeat_7 (tgt := 40) rfl (fun h7 => absurd h7 ((by rw [hN1]; exact nI_ge (by omega) (by omega)))) (fun _ => ?_)
      refine r_aload_n dX5_passOneBeat_10 (i := 0) rfl rfl ?_
      refine r_getR dX5_passOneBeat_11 f_5_11 rfl rfl rfl (lv0 (by first | assumption | decide | omega)) ?_
      refine r_iload_n dX5_passOneBeat_14 (i := 1) rfl rfl ?_
      refine n_aald dX5_passOneBeat_15 rfl (lv1 (by first | assumption | decide | omega)) rfl (by first | assumption | omega | (unfold cI; omega)) rfl ?_
      refine r_iconst dX5_passOneBeat_16 (v := 0) rfl ?_
      refine r_aload_n dX5_passOneBeat_17 (i := 0) rfl rfl ?_
      refine r_getR dX5_passOneBeat_18 f_5_11 rfl rfl rfl (lv0 (by first | assumption | decide | omega)) ?_
      refine r_iload_n dX5_passOneBeat_21 (i := 1) rfl rfl ?_
      refine n_aald dX5_passOneBeat_22 rfl (lv1 (by first | assumption | decide | omega)) rfl (by first | assumption | omega | (unfold cI; omega)) rfl ?_
      refine r_getI dX5_passOneBeat_23 f_5_164 rfl rfl (lv4 (by first | assumption | decide | omega) (by first | assumption | decide | omega)) ?_
      refine r_iconst dX5_passOneBeat_26 (v := 1) rfl ?_
      refine r_isub dX5_passOneBeat_27 ?_
      refine sX5_passOneBeat_28 (Nat.le_refl _) (Nat.le_refl _) (Nat.le_of_ble_eq_true rfl) (tJ9_max) ?_
      refine r_putI dX5_passOneBeat_31 f_5_164 rfl rfl (lv4 (by first | assumption | decide | omega) (by first | assumption | decide | omega)) ⟨rfl, rfl⟩ ?_
      refine r_inc1 dX5_passOneBeat_34 rfl (Nat.le_of_ble_eq_true rfl) rfl ?_
      refine r_goto dX5_passOneBeat_37 (tgt := 2) rfl ?_
      exact h
  unfold Cv
  refine r_iconst dX5_passOneBeat_0 (v := 0) rfl ?_
  refine r_istore_n dX5_passOneBeat_1 (i := 1) rfl (Nat.le_of_ble_eq_true rfl) rfl rfl ?_
  exact k1 n 0 (by omega)
def PBs (hp : HPt) (t n : Nat) : Nat → HPt
  | 0 => hp
  | k + 1 => PB (PBs hp t n k) t n
theorem PB_0 {hp : HPt} {t n k : Nat} (h : k ≠ 4 ∧ k ≠ 5 ∧ k ≠ 6 ∧ k ≠ 7) : PB hp t n (0, t, 0, 0) k = hp (0, t, 0, 0) k := by
  have h2 : p2 hp t n (0, t, 0, 0) k = hp (0, t, 0, 0) k := by
    unfold p2
    rw [hs_i h.2.1, p1_off (by simp)]
  unfold PB
  split
  · exact h2
  · rw [q1_0 ⟨h.1, h.2.2.1, h.2.2.2⟩]
    exact h2
theorem PBs_WT {hp : HPt} {t n : Nat} (h : WT hp) : ∀ k, WT (PBs hp t n k)
  | 0 => h
  | k + 1 => PB_WT (PBs_WT h k)
theorem PBs_0 {hp : HPt} {t n i : Nat} (h : i ≠ 4 ∧ i ≠ 5 ∧ i ≠ 6 ∧ i ≠ 7) : ∀ k, PBs hp t n k (0, t, 0, 0) i = hp (0, t, 0, 0) i
  | 0 => rfl
  | k + 1 => by
    unfold PBs
    rw [PB_0 h]
    exact PBs_0 h k
theorem tX5_passBeats_e {g : Gh} {t : Nat} {x : Int32} {hp : HPt} (ht : t < 10) (hx : (!decide (x < 1) && decide (x ≤ 99)) = false) : Ci g mX5_passBeats [vR (0, t, 0, 0), vI x] hp (-2) hp := by
  unfold Ci
  refine r_iload_n dX5_passBeats_0 (i := 1) rfl rfl ?_
  refine r_iconst dX5_passBeats_1 (v := 1) rfl ?_
  refine r_icmp_lt dX5_passBeats_2 (tgt := 11) rfl (fun h2 => ?_) (fun h2 => ?_)
  · refine r_bipush dX5_passBeats_11 (v := (-2)) rfl ?_
    exact e_i dX5_passBeats_13 rfl (by first | rfl | exact bi_nar _) (by first | rfl | simp [bi, *]) rfl
  · refine r_iload_n dX5_passBeats_5 (i := 1) rfl rfl ?_
    refine r_bipush dX5_passBeats_6 (v := 99) rfl ?_
    refine r_icmp_le dX5_passBeats_8 (tgt := 14) rfl (fun h8 => ?_) (fun h8 => ?_)
    · simp_all
    · refine r_bipush dX5_passBeats_11 (v := (-2)) rfl ?_
      exact e_i dX5_passBeats_13 rfl (by first | rfl | exact bi_nar _) (by first | rfl | simp [bi, *]) rfl
theorem tX5_passBeats_e2 {g : Gh} {t : Nat} {x : Int32} {hp : HPt} (ht : t < 10) (a1 : ¬ x < 1) (a2 : x ≤ 99) (a3 : ¬ hp (0, t, 0, 0) 5 + x ≤ 9999) : Ci g mX5_passBeats [vR (0, t, 0, 0), vI x] hp (-5) hp := by
  unfold Ci
  refine r_iload_n dX5_passBeats_0 (i := 1) rfl rfl ?_
  refine r_iconst dX5_passBeats_1 (v := 1) rfl ?_
  refine r_icmp_lt dX5_passBeats_2 (tgt := 11) rfl (fun h2 => absurd h2 (a1)) (fun _ => ?_)
  refine r_iload_n dX5_passBeats_5 (i := 1) rfl rfl ?_
  refine r_bipush dX5_passBeats_6 (v := 99) rfl ?_
  refine r_icmp_le dX5_passBeats_8 (tgt := 14) rfl (fun _ => ?_) (fun h8 => absurd (a2) h8)
  refine r_aload_n dX5_passBeats_14 (i := 0) rfl rfl ?_
  refine r_getI dX5_passBeats_15 f_5_37 rfl rfl (lv0 (by first | assumption | decide | omega)) ?_
  refine r_iload_n dX5_passBeats_18 (i := 1) rfl rfl ?_
  refine r_iadd dX5_passBeats_19 ?_
  refine r_sipush dX5_passBeats_20 (v := 9999) rfl ?_
  refine r_icmp_le dX5_passBeats_23 (tgt := 29) rfl (fun h23 => absurd h23 (a3)) (fun _ => ?_)
  refine r_bipush dX5_passBeats_26 (v := (-5)) rfl ?_
  exact e_i dX5_passBeats_28 rfl (by first | rfl | exact bi_nar _) (by first | rfl | simp [bi, *]) rfl
theorem tX5_passBeats {g : Gh} {t n b : Nat} {hp : HPt} (ht : t < 10) (hn : n ≤ 8) (hN : hp (0, t, 0, 0) 3 = nI n) (hW : WT hp) (hb : b < 100) (a1 : ¬ nI b < 1) (a2 : nI b ≤ 99) (a3 : hp (0, t, 0, 0) 5 + nI b ≤ 9999) : Ci g mX5_passBeats [vR (0, t, 0, 0), vI (nI b)] hp (PBs hp t n b (0, t, 0, 0) 6 - hp (0, t, 0, 0) 6) (PBs hp t n b) := by
  have hN1 : ∀ r, PBs hp t n r (0, t, 0, 0) 3 = nI n := fun r => by rw [PBs_0 (by decide)]; exact hN
  have key : ∀ k r, r + k = b → V g mX5_passBeats 0 0 0 0 609 36 [some (vR (0, t, 0, 0)), some (vI (nI b)), some (vI (hp (0, t, 0, 0) 6)), some (vI (nI r))] [] RP (PBs hp t n r) (Pi (PBs hp t n b (0, t, 0, 0) 6 - hp (0, t, 0, 0) 6) (PBs hp t n b)) := by
    intro k
    induction k with
    | zero =>
      intro r hr
      have hr : r = b := by omega
      subst hr
      refine r_iload_n dX5_passBeats_36 (i := 3) rfl rfl ?_
      refine r_iload_n dX5_passBeats_37 (i := 1) rfl rfl ?_
      refine r_icmp_ge dX5_passBeats_38 (tgt := 51) rfl (fun _ => ?_) (fun h38 => absurd (Int32.le_refl _) h38)
      refine r_aload_n dX5_passBeats_51 (i := 0) rfl rfl ?_
      refine r_getI dX5_passBeats_52 f_5_40 rfl rfl (lv0 (by first | assumption | decide | omega)) ?_
      refine r_iload_n dX5_passBeats_55 (i := 2) rfl rfl ?_
      refine r_isub dX5_passBeats_56 ?_
      exact e_i dX5_passBeats_57 rfl (by first | rfl | exact bi_nar _) (by first | rfl | simp [bi, *]) rfl
    | succ k ih =>
      intro r hr
      have h := ih (r + 1) (by omega)
      rw [nI_succ] at h
      refine r_iload_n dX5_passBeats_36 (i := 3) rfl rfl ?_
      refine r_iload_n dX5_passBeats_37 (i := 1) rfl rfl ?_
      refine r_icmp_ge dX5_passBeats_38 (tgt := 51) rfl (fun h38 => absurd h38 (nI_ge (by omega) (by omega))) (fun _ => ?_)
      refine r_aload_n dX5_passBeats_41 (i := 0) rfl rfl ?_
      refine sX5_passBeats_42 (Nat.le_refl _) (Nat.le_refl _) rfl (lv0 (by first | assumption | decide | omega)) (Nat.le_of_ble_eq_true rfl) (tX5_passOneBeat ht hn (hN1 r) (PBs_WT hW r)) ?_
      refine r_inc1 dX5_passBeats_45 rfl (Nat.le_of_ble_eq_true rfl) rfl ?_
      refine r_goto dX5_passBeats_48 (tgt := 36) rfl ?_
      exact h
  unfold Ci
  refine r_iload_n dX5_passBeats_0 (i := 1) rfl rfl ?_
  refine r_iconst dX5_passBeats_1 (v := 1) rfl ?_
  refine r_icmp_lt dX5_passBeats_2 (tgt := 11) rfl (fun h2 => absurd h2 (a1)) (fun _ => ?_)
  refine r_iload_n dX5_passBeats_5 (i := 1) rfl rfl ?_
  refine r_bipush dX5_passBeats_6 (v := 99) rfl ?_
  refine r_icmp_le dX5_passBeats_8 (tgt := 14) rfl (fun _ => ?_) (fun h8 => absurd (a2) h8)
  refine r_aload_n dX5_passBeats_14 (i := 0) rfl rfl ?_
  refine r_getI dX5_passBeats_15 f_5_37 rfl rfl (lv0 (by first | assumption | decide | omega)) ?_
  refine r_iload_n dX5_passBeats_18 (i := 1) rfl rfl ?_
  refine r_iadd dX5_passBeats_19 ?_
  refine r_sipush dX5_passBeats_20 (v := 9999) rfl ?_
  refine r_icmp_le dX5_passBeats_23 (tgt := 29) rfl (fun _ => ?_) (fun h23 => absurd (a3) h23)
  refine r_aload_n dX5_passBeats_29 (i := 0) rfl rfl ?_
  refine r_getI dX5_passBeats_30 f_5_40 rfl rfl (lv0 (by first | assumption | decide | omega)) ?_
  refine r_istore_n dX5_passBeats_33 (i := 2) rfl (Nat.le_of_ble_eq_true rfl) rfl rfl ?_
  refine r_iconst dX5_passBeats_34 (v := 0) rfl ?_
  refine r_istore_n dX5_passBeats_35 (i := 3) rfl (Nat.le_of_ble_eq_true rfl) rfl rfl ?_
  exact key b 0 (by omega)
