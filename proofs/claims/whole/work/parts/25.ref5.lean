/-- what the reference's row holds of numbers that are used as such -/
def RI (hp : HPt) (n : Nat) : Prop := n ≤ 8 ∧ hp (17, 0, 0, 0) 5 = nI n ∧ (∃ o, o < 5 ∧ hp (17, 0, 0, 0) 2 = nI o) ∧ ∀ j, j < 8 → ∃ m, m < 5 ∧ hp (17, 0, 0, 0) (cI j 0) = nI m
def bt1 (hp : HPt) : Nat → HPt
  | 0 => hp
  | i + 1 => hset (bt1 hp i) (17, 0, 0, 0) (cI i 2) (bt1 hp i (17, 0, 0, 0) (cI i 2) - (if bt1 hp i (17, 0, 0, 0) (cI i 2) ≤ 0 then 0 else 1))
theorem bt1_i {hp : HPt} {k : Nat} (h : ∀ i, k ≠ cI i 2) : ∀ i, bt1 hp i (17, 0, 0, 0) k = hp (17, 0, 0, 0) k
  | 0 => rfl
  | i + 1 => by
    show hset _ _ _ _ _ k = _
    rw [hs_i (h i)]
    exact bt1_i h i
theorem bt1_a {hp : HPt} {a : A4} {k : Nat} (h : a ≠ (17, 0, 0, 0)) : ∀ i, bt1 hp i a k = hp a k
  | 0 => rfl
  | i + 1 => by
    show hset _ _ _ _ a k = _
    rw [hs_a h]
    exact bt1_a h i
def bt2 (hp : HPt) (n : Nat) : HPt := hset (bt1 hp n) (17, 0, 0, 0) 4 (hp (17, 0, 0, 0) 4 + 1)
def RFn (hp : HPt) (j : Nat) : HPt := RF hp j (hp (17, 0, 0, 0) (cI j 0)).toNatClampNeg (hp (17, 0, 0, 0) 2).toNatClampNeg
def rEv (hp : HPt) : Bool := !decide (hp (17, 0, 0, 0) 1 ≤ 0) && decide (jrem (hp (17, 0, 0, 0) 4) (hp (17, 0, 0, 0) 1) = 0)
def rq (hp : HPt) : Nat → HPt
  | 0 => hp
  | i + 1 => if (rEv (rq hp i) && rCan (rq hp i) i) = true then RFn (rq hp i) i else rq hp i
theorem rf1_i {hp : HPt} {j m o i : Nat} (h : (i < cI j 0 ∧ i ≠ 9) ∨ cI j 35 ≤ i) (hm : m < 5) : rf1 hp j m o (17, 0, 0, 0) i = hp (17, 0, 0, 0) i := by
  have e1 : ∀ l, RB hp j m l (17, 0, 0, 0) i = hp (17, 0, 0, 0) i := fun l => RB_i (by rcases h with h | h; exact Or.inl h; exact Or.inr (Or.inr h)) hm
  unfold rf1
  split
  · rw [hs_i (by unfold cI at h ⊢; omega)]
    unfold rsh
    rw [if_neg (by unfold cI at h ⊢; omega)]
    exact e1 _
  · rw [hs_i (by unfold cI at h; omega)]
    exact e1 _
theorem RF_i {hp : HPt} {j m o i : Nat} (h : (i < cI j 0 ∧ i ≠ 9 ∧ i ≠ 3 ∧ i ≠ 8) ∨ cI j 35 ≤ i) (hm : m < 5) : RF hp j m o (17, 0, 0, 0) i = hp (17, 0, 0, 0) i := by
  unfold RF
  rw [RM_i (by unfold cI at h; omega) (by unfold cI at h ⊢; omega)]
  exact rf1_i (by omega) hm
theorem RF_olds {hp : HPt} {j m o : Nat} (hM : hp (17, 0, 0, 0) (cI j 0) = nI m) : RF hp j m o (17, 0, 0, 0) (cI j 0) = nI (if 0 < o then min m (o - 1) + 1 else 0) := by
  have e : ∀ l, RB hp j m l (17, 0, 0, 0) (cI j 0) = nI (min m l) := by
    intro l
    unfold RB
    rw [hs_i (by unfold cI; omega), rbs_0 hM]
    congr 1
    omega
  unfold RF
  rw [RM_i (by unfold cI; omega) (Or.inl (by unfold cI; omega))]
  unfold rf1
  split
  next h =>
    rw [hs_eq, e, nI_1]
  next h =>
    rw [hs_i (by unfold cI; omega), e]
    congr 1
    omega
theorem RI.fn {hp : HPt} {n j : Nat} (h : RI hp n) (hj : j < 8) : RI (RFn hp j) n := by
  obtain ⟨h1, h2, ⟨o, ho, hO⟩, h4⟩ := h
  obtain ⟨m, hm, hM⟩ := h4 j hj
  have hf : RFn hp j = RF hp j m o := by
    unfold RFn
    rw [hM, hO, nI_clamp (by omega), nI_clamp (by omega)]
  rw [hf]
  refine ⟨h1, ?_, ⟨o, ho, ?_⟩, fun k hk => ?_⟩
  · show RF hp j m o _ _ = _
    rw [RF_i (by unfold cI; omega) hm]
    exact h2
  · show RF hp j m o _ _ = _
    rw [RF_i (by unfold cI; omega) hm]
    exact hO
  · show ∃ m2, m2 < 5 ∧ RF hp j m o _ _ = _
    by_cases hkj : k = j
    · subst hkj
      exact ⟨_, by split <;> omega, RF_olds hM⟩
    · rw [RF_i (by unfold cI; omega) hm]
      exact h4 k hk
theorem RI.rqs {hp : HPt} {n : Nat} (h : RI hp n) : ∀ i, i ≤ 8 → RI (rq hp i) n
  | 0, _ => h
  | i + 1, hi => by
    show RI (if _ then _ else _) n
    split
    · exact (RI.rqs h i (by omega)).fn (by omega)
    · exact RI.rqs h i (by omega)
theorem RI.r2 {hp : HPt} {n : Nat} (h : RI hp n) : RI (bt2 hp n) n := by
  obtain ⟨h1, h2, ⟨o, ho, hO⟩, h4⟩ := h
  have e : ∀ k, (∀ i, k ≠ cI i 2) → k ≠ 4 → bt2 hp n (17, 0, 0, 0) k = hp (17, 0, 0, 0) k := by
    intro k hk h4
    show hset _ _ _ _ _ k = _
    rw [hs_i h4]
    exact bt1_i hk n
  refine ⟨h1, ?_, ⟨o, ho, ?_⟩, fun j hj => ?_⟩
  · rw [e 5 (fun i => cI_ne (by decide)) (by decide)]; exact h2
  · rw [e 2 (fun i => cI_ne (by decide)) (by decide)]; exact hO
  · rw [e (cI j 0) (fun i => by unfold cI; omega) (by unfold cI; omega)]; exact h4 j hj
def RPB (hp : HPt) (n : Nat) : HPt := rq (bt2 hp n) n
theorem RI.bt {hp : HPt} {n : Nat} (h : RI hp n) : RI (RPB hp n) n := RI.rqs h.r2 n h.1
theorem tX7_beat {g : Gh} {n : Nat} {hp : HPt} (hI : RI hp n) : Cv g mX7_beat [vR (16, 0, 0, 0)] hp (RPB hp n) := by
  have hn8 := hI.1
  have hN1 : ∀ r, bt1 hp r (17, 0, 0, 0) 5 = nI n := fun r => by rw [bt1_i (fun i => cI_ne (by decide))]; exact hI.2.1
  have k2 : ∀ k r, r + k = n → V g mX7_beat 0 0 0 0 616 61 [some (vR (16, 0, 0, 0)), some (vI (nI r))] [] RP (rq (bt2 hp n) r) (Pv (RPB hp n)) := by
    intro k
    induction k with
    | zero =>
      intro r hr
      have hr : r = n := by omega
      subst hr
      have hq := hI.r2.rqs r (by omega)
      refine r_iload_n dX7_beat_61 (i := 1) rfl rfl ?_
      refine r_aload_n dX7_beat_62 (i := 0) rfl rfl ?_
      refine r_getR dX7_beat_63 f_7_7 rfl rfl rfl lv16 ?_
      refine r_iconst dX7_beat_66 (v := 5) rfl ?_
      refine n_iald dX7_beat_67 rfl lv17 (k := 5) rfl (by decide) ?_
      refine r_icmp_ge dX7_beat_68 (tgt := 115) rfl (fun _ => ?_) (fun h68 => absurd ((by rw [hq.2.1]; exact Int32.le_refl _)) h68)
      exact e_v dX7_beat_115 rfl (by first | rfl | simp [hset])
    | succ k ih =>
      intro r hr
      have hr8 : r < 8 := by omega
      have h := ih (r + 1) (by omega)
      rw [nI_succ] at h
      have hq := hI.r2.rqs r (by omega)
      obtain ⟨m, hm, hM⟩ := hq.2.2.2 r hr8
      obtain ⟨o, ho, hO⟩ := hq.2.2.1
      have hRF := tX7_refreshes (g := g) hr8 hm hM ho hO
      have hf : RFn (rq (bt2 hp n) r) r = RF (rq (bt2 hp n) r) r m o := by
        unfold RFn
        rw [hM, hO, nI_clamp (by omega), nI_clamp (by omega)]
      have stay : rq (bt2 hp n) r (17, 0, 0, 0) 1 ≤ 0 → V g mX7_beat 0 0 0 0 616 115 [some (vR (16, 0, 0, 0)), some (vI (nI r))] [] RP (rq (bt2 hp n) r) (Pv (RPB hp n)) := by
        intro h0
        have all : ∀ i, rq (bt2 hp n) (r + i) = rq (bt2 hp n) r := by
          intro i
          induction i with
          | zero => rfl
          | succ i ih2 =>
            show (if (rEv (rq (bt2 hp n) (r + i)) && rCan (rq (bt2 hp n) (r + i)) (r + i)) = true then RFn (rq (bt2 hp n) (r + i)) (r + i) else rq (bt2 hp n) (r + i)) = _
            rw [ih2, if_neg]
            simp [rEv, h0]
        have e := all (k + 1)
        rw [hr] at e
        refine e_v dX7_beat_115 rfl ?_
        unfold RPB
        rw [e]
      have inc : V g mX7_beat 0 0 0 0 616 109 [some (vR (16, 0, 0, 0)), some (vI (nI r))] [] RP (rq (bt2 hp n) (r + 1)) (Pv (RPB hp n)) := by
        refine r_inc1 dX7_beat_109 rfl (Nat.le_of_ble_eq_true rfl) rfl ?_
        refine r_goto dX7_beat_112 (tgt := 61) rfl ?_
        exact h
      refine r_iload_n dX7_beat_61 (i := 1) rfl rfl ?_
      refine r_aload_n dX7_beat_62 (i := 0) rfl rfl ?_
      refine r_getR dX7_beat_63 f_7_7 rfl rfl rfl lv16 ?_
      refine r_iconst dX7_beat_66 (v := 5) rfl ?_
      refine n_iald dX7_beat_67 rfl lv17 (k := 5) rfl (by decide) ?_
      refine r_icmp_ge dX7_beat_68 (tgt := 115) rfl (fun h68 => absurd h68 ((by rw [hq.2.1]; exact nI_ge (by omega) (by omega)))) (fun _ => ?_)
      refine r_aload_n dX7_beat_71 (i := 0) rfl rfl ?_
      refine r_getR dX7_beat_72 f_7_7 rfl rfl rfl lv16 ?_
      refine r_iconst dX7_beat_75 (v := 1) rfl ?_
      refine n_iald dX7_beat_76 rfl lv17 (k := 1) rfl (by decide) ?_
      refine r_if_le dX7_beat_77 (tgt := 115) rfl (fun h77 => ?_) (fun h77 => ?_)
      · exact stay h77
      · refine r_aload_n dX7_beat_80 (i := 0) rfl rfl ?_
        refine r_getR dX7_beat_81 f_7_7 rfl rfl rfl lv16 ?_
        refine r_iconst dX7_beat_84 (v := 4) rfl ?_
        refine n_iald dX7_beat_85 rfl lv17 (k := 4) rfl (by decide) ?_
        refine r_aload_n dX7_beat_86 (i := 0) rfl rfl ?_
        refine r_getR dX7_beat_87 f_7_7 rfl rfl rfl lv16 ?_
        refine r_iconst dX7_beat_90 (v := 1) rfl ?_
        refine n_iald dX7_beat_91 rfl lv17 (k := 1) rfl (by decide) ?_
        refine r_irem dX7_beat_92 (by intro h0; exact h77 (by rw [h0]; exact Int32.le_refl _)) ?_
        refine r_if_ne dX7_beat_93 (tgt := 109) rfl (fun h93 => ?_) (fun h93 => ?_)
        · refine V.eqH ?_ inc
          try simp only [bi_0, bi_n0] at *
          simp [rq, rEv, hf, *]
        · refine r_aload_n dX7_beat_96 (i := 0) rfl rfl ?_
          refine r_iload_n dX7_beat_97 (i := 1) rfl rfl ?_
          refine sX7_beat_98 (Nat.le_refl _) (Nat.le_refl _) rfl lv16 (Nat.le_of_ble_eq_true rfl) (tX7_canRefresh hr8) ?_
          refine r_if_eq dX7_beat_101 (tgt := 109) rfl (fun h101 => ?_) (fun h101 => ?_)
          · refine V.eqH ?_ inc
            try simp only [bi_0, bi_n0] at *
            simp [rq, rEv, hf, *]
          · refine r_aload_n dX7_beat_104 (i := 0) rfl rfl ?_
            refine r_iload_n dX7_beat_105 (i := 1) rfl rfl ?_
            refine sX7_beat_106 (Nat.le_refl _) (Nat.le_refl _) rfl lv16 (Nat.le_of_ble_eq_true rfl) (hRF) ?_
            refine V.eqH ?_ inc
            try simp only [bi_0, bi_n0] at *
            simp [rq, rEv, hf, *]
  have mid : V g mX7_beat 0 0 0 0 616 49 [some (vR (16, 0, 0, 0)), some (vI (nI n))] [] RP (bt1 hp n) (Pv (RPB hp n)) := by
    have h := k2 n 0 (by omega)
    have e : bt1 hp n (17, 0, 0, 0) 4 = hp (17, 0, 0, 0) 4 := bt1_i (fun i => cI_ne (by decide)) n
    refine r_aload_n dX7_beat_49 (i := 0) rfl rfl ?_
    refine r_getR dX7_beat_50 f_7_7 rfl rfl rfl lv16 ?_
    refine r_iconst dX7_beat_53 (v := 4) rfl ?_
    refine r_dup2 dX7_beat_54 rfl rfl ?_
    refine n_iald dX7_beat_55 rfl lv17 (k := 4) rfl (by decide) ?_
    refine r_iconst dX7_beat_56 (v := 1) rfl ?_
    refine r_iadd dX7_beat_57 ?_
    refine n_iast dX7_beat_58 rfl lv17 (k := 4) rfl (by decide) ?_
    refine V.eqH (hp2 := bt2 hp n) (by rw [e]; rfl) ?_
    refine r_iconst dX7_beat_59 (v := 0) rfl ?_
    refine r_istore_n dX7_beat_60 (i := 1) rfl (Nat.le_of_ble_eq_true rfl) rfl rfl ?_
    exact h
  have k1 : ∀ k r, r + k = n → V g mX7_beat 0 0 0 0 616 2 [some (vR (16, 0, 0, 0)), some (vI (nI r))] [] RP (bt1 hp r) (Pv (RPB hp n)) := by
    intro k
    induction k with
    | zero =>
      intro r hr
      have hr : r = n := by omega
      subst hr
      refine r_iload_n dX7_beat_2 (i := 1) rfl rfl ?_
      refine r_aload_n dX7_beat_3 (i := 0) rfl rfl ?_
      refine r_getR dX7_beat_4 f_7_7 rfl rfl rfl lv16 ?_
      refine r_iconst dX7_beat_7 (v := 5) rfl ?_
      refine n_iald dX7_beat_8 rfl lv17 (k := 5) rfl (by decide) ?_
      refine r_icmp_ge dX7_beat_9 (tgt := 49) rfl (fun _ => ?_) (fun h9 => absurd ((by rw [hN1]; exact Int32.le_refl _)) h9)
      exact mid
    | succ k ih =>
      intro r hr
      have hr8 : r < 8 := by omega
      have h := ih (r + 1) (by omega)
      rw [nI_succ] at h
      refine r_iload_n dX7_beat_2 (i := 1) rfl rfl ?_
      refine r_aload_n dX7_beat_3 (i := 0) rfl rfl ?_
      refine r_getR dX7_beat_4 f_7_7 rfl rfl rfl lv16 ?_
      refine r_iconst dX7_beat_7 (v := 5) rfl ?_
      refine n_iald dX7_beat_8 rfl lv17 (k := 5) rfl (by decide) ?_
      refine r_icmp_ge dX7_beat_9 (tgt := 49) rfl (fun h9 => absurd h9 ((by rw [hN1]; exact nI_ge (by omega) (by omega)))) (fun _ => ?_)
      refine r_aload_n dX7_beat_12 (i := 0) rfl rfl ?_
      refine r_getR dX7_beat_13 f_7_7 rfl rfl rfl lv16 ?_
      refine r_iload_n dX7_beat_16 (i := 1) rfl rfl ?_
      refine r_iconst dX7_beat_17 (v := 2) rfl ?_
      refine sX7_beat_18 (Nat.le_refl _) (Nat.le_refl _) (Nat.le_of_ble_eq_true rfl) (tX7_cell rfl (f := 2) rfl) ?_
      refine r_dup2 dX7_beat_21 rfl rfl ?_
      refine n_iald dX7_beat_22 rfl lv17 rfl (by first | assumption | omega | (unfold cI; omega)) ?_
      refine r_aload_n dX7_beat_23 (i := 0) rfl rfl ?_
      refine r_getR dX7_beat_24 f_7_7 rfl rfl rfl lv16 ?_
      refine r_iload_n dX7_beat_27 (i := 1) rfl rfl ?_
      refine r_iconst dX7_beat_28 (v := 2) rfl ?_
      refine sX7_beat_29 (Nat.le_refl _) (Nat.le_refl _) (Nat.le_of_ble_eq_true rfl) (tX7_cell rfl (f := 2) rfl) ?_
      refine n_iald dX7_beat_32 rfl lv17 rfl (by first | assumption | omega | (unfold cI; omega)) ?_
      refine r_if_le dX7_beat_33 (tgt := 40) rfl (fun h33 => ?_) (fun h33 => ?_)
      · refine r_iconst dX7_beat_40 (v := 0) rfl ?_
        refine r_isub dX7_beat_41 ?_
        refine n_iast dX7_beat_42 rfl lv17 rfl (by first | assumption | omega | (unfold cI; omega)) ?_
        refine V.eqH (hp2 := bt1 hp (r + 1)) (by simp [bt1, h33]) ?_
        refine r_inc1 dX7_beat_43 rfl (Nat.le_of_ble_eq_true rfl) rfl ?_
        refine r_goto dX7_beat_46 (tgt := 2) rfl ?_
        exact h
      · refine r_iconst dX7_beat_36 (v := 1) rfl ?_
        refine r_goto dX7_beat_37 (tgt := 41) rfl ?_
        refine r_isub dX7_beat_41 ?_
        refine n_iast dX7_beat_42 rfl lv17 rfl (by first | assumption | omega | (unfold cI; omega)) ?_
        refine V.eqH (hp2 := bt1 hp (r + 1)) (by simp [bt1, h33]) ?_
        refine r_inc1 dX7_beat_43 rfl (Nat.le_of_ble_eq_true rfl) rfl ?_
        refine r_goto dX7_beat_46 (tgt := 2) rfl ?_
        exact h
  unfold Cv
  refine r_iconst dX7_beat_0 (v := 0) rfl ?_
  refine r_istore_n dX7_beat_1 (i := 1) rfl (Nat.le_of_ble_eq_true rfl) rfl rfl ?_
  exact k1 n 0 (by omega)
