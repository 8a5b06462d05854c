/-- a stretch of an array is copied -/
def cpK (hp : HPt) (d : A4) (dO : Nat) (s : A4) (sO n : Nat) : HPt := fun a i => if a = d ∧ dO ≤ i ∧ i < dO + n then hp s (sO + (i - dO)) else hp a i
theorem cpK_0 {hp : HPt} {d s : A4} {dO sO : Nat} : cpK hp d dO s sO 0 = hp := by
  funext a i
  unfold cpK
  rw [if_neg (by omega)]
theorem cpK_set {hp : HPt} {d s : A4} {dO sO n : Nat} (h : d ≠ s ∨ dO ≤ sO) : hset (cpK hp d dO s sO n) d (dO + n) (cpK hp d dO s sO n s (sO + n)) = cpK hp d dO s sO (n + 1) := by
  have hr : cpK hp d dO s sO n s (sO + n) = hp s (sO + n) := by
    unfold cpK
    rw [if_neg]
    rintro ⟨e, h1, h2⟩
    rcases h with h | h
    · exact h e.symm
    · omega
  rw [hr]
  funext a i
  unfold hset cpK
  by_cases ha : a = d
  · subst ha
    by_cases hi : i = dO + n
    · subst hi
      simp only [and_self, if_true, true_and]
      rw [if_pos (by omega)]
      congr 1
      omega
    · simp only [hi, and_false, if_false, true_and]
      by_cases h1 : dO ≤ i ∧ i < dO + n
      · rw [if_pos h1, if_pos (by omega)]
      · rw [if_neg h1, if_neg (by omega)]
  · simp [ha]
theorem cpK_off {hp : HPt} {d s a : A4} {dO sO n i : Nat} (h : a ≠ d ∨ i < dO ∨ dO + n ≤ i) : cpK hp d dO s sO n a i = hp a i := by
  unfold cpK
  rw [if_neg]
  rintro ⟨h1, h2, h3⟩
  rcases h with h | h | h
  · exact h h1
  · omega
  · omega
theorem cpK_on {hp : HPt} {d s : A4} {dO sO n i : Nat} (h : i < n) : cpK hp d dO s sO n d (dO + i) = hp s (sO + i) := by
  unfold cpK
  rw [if_pos ⟨rfl, by omega, by omega⟩]
  congr 1
  omega
theorem tX7_looks {g : Gh} {hp : HPt} : Cv g mX7_looks [vR (16, 0, 0, 0)] hp (cpK hp (22, 0, 0, 0) 0 (17, 0, 0, 0) 0 292) := by
  have key : ∀ k r, r + k = 292 → V g mX7_looks 0 0 0 0 616 2 [some (vR (16, 0, 0, 0)), some (vI (nI r))] [] RP (cpK hp (22, 0, 0, 0) 0 (17, 0, 0, 0) 0 r) (Pv (cpK hp (22, 0, 0, 0) 0 (17, 0, 0, 0) 0 292)) := by
    intro k
    induction k with
    | zero =>
      intro r hr
      have hr : r = 292 := by omega
      subst hr
      refine r_iload_n dX7_looks_2 (i := 1) rfl rfl ?_
      refine r_sipush dX7_looks_3 (v := 292) rfl ?_
      refine r_icmp_ge dX7_looks_6 (tgt := 27) rfl (fun _ => ?_) (fun h6 => absurd ((by decide : (292 : Int32) ≤ nI 292)) h6)
      exact e_v dX7_looks_27 rfl (by first | rfl | simp [hset])
    | succ k ih =>
      intro r hr
      have hr2 : r < 292 := by omega
      have h := ih (r + 1) (by omega)
      rw [nI_succ] at h
      have e := cpK_set (hp := hp) (d := (22, 0, 0, 0)) (s := (17, 0, 0, 0)) (dO := 0) (sO := 0) (n := r) (Or.inl (by decide))
      rw [Nat.zero_add] at e
      refine r_iload_n dX7_looks_2 (i := 1) rfl rfl ?_
      refine r_sipush dX7_looks_3 (v := 292) rfl ?_
      refine r_icmp_ge dX7_looks_6 (tgt := 27) rfl (fun h6 => absurd h6 ((nI_ge (b := 292) hr2 (by decide) : ¬ (292 : Int32) ≤ nI r))) (fun _ => ?_)
      refine r_aload_n dX7_looks_9 (i := 0) rfl rfl ?_
      refine r_getR dX7_looks_10 f_7_26 rfl rfl rfl lv16 ?_
      refine r_iload_n dX7_looks_13 (i := 1) rfl rfl ?_
      refine r_aload_n dX7_looks_14 (i := 0) rfl rfl ?_
      refine r_getR dX7_looks_15 f_7_7 rfl rfl rfl lv16 ?_
      refine r_iload_n dX7_looks_18 (i := 1) rfl rfl ?_
      refine n_iald dX7_looks_19 rfl lv17 rfl (by first | assumption | omega | (unfold cI; omega)) ?_
      refine n_iast dX7_looks_20 rfl lv22 rfl (by first | assumption | omega | (unfold cI; omega)) ?_
      refine V.eqH e ?_
      refine r_inc1 dX7_looks_21 rfl (Nat.le_of_ble_eq_true rfl) rfl ?_
      refine r_goto dX7_looks_24 (tgt := 2) rfl ?_
      exact h
  unfold Cv
  refine r_iconst dX7_looks_0 (v := 0) rfl ?_
  refine r_istore_n dX7_looks_1 (i := 1) rfl (Nat.le_of_ble_eq_true rfl) rfl rfl ?_
  have h := key 292 0 rfl
  rw [cpK_0] at h
  exact h
/-- the reference's record: z states are kept -/
def rpA (hp : HPt) (z : Nat) : HPt := hset (cpK hp (18, 0, 0, 0) (292 * z) (22, 0, 0, 0) 0 292) (16, 0, 0, 0) 2 (nI (z + 1))
def rpB (hp : HPt) : HPt := hset (cpK hp (18, 0, 0, 0) 0 (18, 0, 0, 0) 292 1460) (16, 0, 0, 0) 2 (nI 5)
def RPu (hp : HPt) (z : Nat) : HPt := if z = 6 then rpA (rpB hp) 5 else rpA hp z
theorem lX7_pushes {g : Gh} {z : Nat} {hp : HPt} (hz : z < 6) (hZ : hp (16, 0, 0, 0) 2 = nI z) {x1 : Option Vv} : V g mX7_pushes 0 0 0 0 616 50 [some (vR (16, 0, 0, 0)), x1] [] RP hp (Pv (rpA hp z)) := by
  have e0 : (292 : Int32) * nI z = nI (292 * z) := pk_mul 292 z
  have key : ∀ k r, r + k = 292 → V g mX7_pushes 0 0 0 0 616 52 [some (vR (16, 0, 0, 0)), some (vI (nI r))] [] RP (cpK hp (18, 0, 0, 0) (292 * z) (22, 0, 0, 0) 0 r) (Pv (rpA hp z)) := by
    intro k
    induction k with
    | zero =>
      intro r hr
      have hr : r = 292 := by omega
      subst hr
      have e1 : cpK hp (18, 0, 0, 0) (292 * z) (22, 0, 0, 0) 0 292 (16, 0, 0, 0) 2 = nI z := by rw [cpK_off (Or.inl (by decide))]; exact hZ
      refine r_iload_n dX7_pushes_52 (i := 1) rfl rfl ?_
      refine r_sipush dX7_pushes_53 (v := 292) rfl ?_
      refine r_icmp_ge dX7_pushes_56 (tgt := 86) rfl (fun _ => ?_) (fun h56 => absurd ((by decide : (292 : Int32) ≤ nI 292)) h56)
      refine r_aload_n dX7_pushes_86 (i := 0) rfl rfl ?_
      refine r_dup dX7_pushes_87 rfl ?_
      refine r_getI dX7_pushes_88 f_7_44 rfl rfl lv16 ?_
      refine r_iconst dX7_pushes_91 (v := 1) rfl ?_
      refine r_iadd dX7_pushes_92 ?_
      refine r_putI dX7_pushes_93 f_7_44 rfl rfl lv16 ⟨rfl, rfl⟩ ?_
      exact e_v dX7_pushes_96 rfl (by rw [e1, nI_1]; rfl)
    | succ k ih =>
      intro r hr
      have hr2 : r < 292 := by omega
      have h := ih (r + 1) (by omega)
      rw [nI_succ] at h
      have e := cpK_set (hp := hp) (d := (18, 0, 0, 0)) (s := (22, 0, 0, 0)) (dO := 292 * z) (sO := 0) (n := r) (Or.inl (by decide))
      rw [Nat.zero_add] at e
      have e1 : cpK hp (18, 0, 0, 0) (292 * z) (22, 0, 0, 0) 0 r (16, 0, 0, 0) 2 = nI z := by rw [cpK_off (Or.inl (by decide))]; exact hZ
      refine r_iload_n dX7_pushes_52 (i := 1) rfl rfl ?_
      refine r_sipush dX7_pushes_53 (v := 292) rfl ?_
      refine r_icmp_ge dX7_pushes_56 (tgt := 86) rfl (fun h56 => absurd h56 ((nI_ge (b := 292) hr2 (by decide) : ¬ (292 : Int32) ≤ nI r))) (fun _ => ?_)
      refine r_aload_n dX7_pushes_59 (i := 0) rfl rfl ?_
      refine r_getR dX7_pushes_60 f_7_13 rfl rfl rfl lv16 ?_
      refine r_sipush dX7_pushes_63 (v := 292) rfl ?_
      refine r_aload_n dX7_pushes_66 (i := 0) rfl rfl ?_
      refine r_getI dX7_pushes_67 f_7_44 rfl rfl lv16 ?_
      refine r_imul dX7_pushes_70 ?_
      refine r_iload_n dX7_pushes_71 (i := 1) rfl rfl ?_
      refine r_iadd dX7_pushes_72 ?_
      refine r_aload_n dX7_pushes_73 (i := 0) rfl rfl ?_
      refine r_getR dX7_pushes_74 f_7_26 rfl rfl rfl lv16 ?_
      refine r_iload_n dX7_pushes_77 (i := 1) rfl rfl ?_
      refine n_iald dX7_pushes_78 rfl lv22 rfl (by first | assumption | omega | (unfold cI; omega)) ?_
      refine n_iast dX7_pushes_79 rfl lv18 (k := 292 * z + r) (by rw [e1, e0, nI_add]) (by omega) ?_
      refine V.eqH e ?_
      refine r_inc1 dX7_pushes_80 rfl (Nat.le_of_ble_eq_true rfl) rfl ?_
      refine r_goto dX7_pushes_83 (tgt := 52) rfl ?_
      exact h
  refine r_iconst dX7_pushes_50 (v := 0) rfl ?_
  refine r_istore_n dX7_pushes_51 (i := 1) rfl (Nat.le_of_ble_eq_true rfl) rfl rfl ?_
  have h := key 292 0 rfl
  rw [cpK_0] at h
  exact h
theorem tX7_pushes {g : Gh} {z : Nat} {hp : HPt} (hz : z ≤ 6) (hZ : hp (16, 0, 0, 0) 2 = nI z) : Cv g mX7_pushes [vR (16, 0, 0, 0)] hp (RPu hp z) := by
  unfold Cv
  by_cases h6 : z = 6
  · subst h6
    have key : ∀ k r, r + k = 1460 → V g mX7_pushes 0 0 0 0 616 11 [some (vR (16, 0, 0, 0)), some (vI (nI r))] [] RP (cpK hp (18, 0, 0, 0) 0 (18, 0, 0, 0) 292 r) (Pv (RPu hp 6)) := by
      intro k
      induction k with
      | zero =>
        intro r hr
        have hr : r = 1460 := by omega
        subst hr
        have e1 : cpK hp (18, 0, 0, 0) 0 (18, 0, 0, 0) 292 1460 (16, 0, 0, 0) 2 = nI 6 := by rw [cpK_off (Or.inl (by decide))]; exact hZ
        refine r_iload_n dX7_pushes_11 (i := 1) rfl rfl ?_
        refine r_sipush dX7_pushes_12 (v := 1460) rfl ?_
        refine r_icmp_ge dX7_pushes_15 (tgt := 40) rfl (fun _ => ?_) (fun h15 => absurd ((by decide : (1460 : Int32) ≤ nI 1460)) h15)
        refine r_aload_n dX7_pushes_40 (i := 0) rfl rfl ?_
        refine r_dup dX7_pushes_41 rfl ?_
        refine r_getI dX7_pushes_42 f_7_44 rfl rfl lv16 ?_
        refine r_iconst dX7_pushes_45 (v := 1) rfl ?_
        refine r_isub dX7_pushes_46 ?_
        refine r_putI dX7_pushes_47 f_7_44 rfl rfl lv16 ⟨rfl, rfl⟩ ?_
        refine V.eqH (hp2 := rpB hp) (by rw [e1]; rfl) ?_
        exact lX7_pushes (by decide) hs_eq
      | succ k ih =>
        intro r hr
        have hr2 : r < 1460 := by omega
        have h := ih (r + 1) (by omega)
        rw [nI_succ] at h
        have e := cpK_set (hp := hp) (d := (18, 0, 0, 0)) (s := (18, 0, 0, 0)) (dO := 0) (sO := 292) (n := r) (Or.inr (by decide))
        rw [Nat.zero_add] at e
        refine r_iload_n dX7_pushes_11 (i := 1) rfl rfl ?_
        refine r_sipush dX7_pushes_12 (v := 1460) rfl ?_
        refine r_icmp_ge dX7_pushes_15 (tgt := 40) rfl (fun h15 => absurd h15 ((nI_ge (b := 1460) hr2 (by decide) : ¬ (1460 : Int32) ≤ nI r))) (fun _ => ?_)
        refine r_aload_n dX7_pushes_18 (i := 0) rfl rfl ?_
        refine r_getR dX7_pushes_19 f_7_13 rfl rfl rfl lv16 ?_
        refine r_iload_n dX7_pushes_22 (i := 1) rfl rfl ?_
        refine r_aload_n dX7_pushes_23 (i := 0) rfl rfl ?_
        refine r_getR dX7_pushes_24 f_7_13 rfl rfl rfl lv16 ?_
        refine r_iload_n dX7_pushes_27 (i := 1) rfl rfl ?_
        refine r_sipush dX7_pushes_28 (v := 292) rfl ?_
        refine r_iadd dX7_pushes_31 ?_
        refine n_iald dX7_pushes_32 rfl lv18 (k := 292 + r) (by rw [Nat.add_comm]; exact nI_add r 292) (by omega) ?_
        refine n_iast dX7_pushes_33 rfl lv18 rfl (by first | assumption | omega | (unfold cI; omega)) ?_
        refine V.eqH e ?_
        refine r_inc1 dX7_pushes_34 rfl (Nat.le_of_ble_eq_true rfl) rfl ?_
        refine r_goto dX7_pushes_37 (tgt := 11) rfl ?_
        exact h
    have h := key 1460 0 rfl
    rw [cpK_0] at h
    refine r_aload_n dX7_pushes_0 (i := 0) rfl rfl ?_
    refine r_getI dX7_pushes_1 f_7_44 rfl rfl lv16 ?_
    refine r_bipush dX7_pushes_4 (v := 6) rfl ?_
    refine r_icmp_ne dX7_pushes_6 (tgt := 50) rfl (fun h6 => absurd (hZ) h6) (fun _ => ?_)
    refine r_iconst dX7_pushes_9 (v := 0) rfl ?_
    refine r_istore_n dX7_pushes_10 (i := 1) rfl (Nat.le_of_ble_eq_true rfl) rfl rfl ?_
    exact h
  · have hne : ¬ hp (16, 0, 0, 0) 2 = 6 := by
      rw [hZ, show (6 : Int32) = nI 6 from rfl, nI_eq (by omega) (by decide)]
      exact h6
    refine r_aload_n dX7_pushes_0 (i := 0) rfl rfl ?_
    refine r_getI dX7_pushes_1 f_7_44 rfl rfl lv16 ?_
    refine r_bipush dX7_pushes_4 (v := 6) rfl ?_
    refine r_icmp_ne dX7_pushes_6 (tgt := 50) rfl (fun _ => ?_) (fun h6 => absurd h6 (hne))
    refine (lX7_pushes (by omega) hZ).post ?_
    rintro v n' rp' hp' ⟨q1, q2, q3, q4⟩
    exact ⟨q1, q2, q3, by rw [q4]; simp [RPu, h6]⟩
def lkH (hp : HPt) : HPt := cpK hp (22, 0, 0, 0) 0 (17, 0, 0, 0) 0 292
theorem tX7_record {g : Gh} {z : Nat} {hp : HPt} (hz : z ≤ 6) (hZ : hp (16, 0, 0, 0) 2 = nI z) : Cv g mX7_record [vR (16, 0, 0, 0)] hp (RPu (lkH hp) z) := by
  have e : lkH hp (16, 0, 0, 0) 2 = nI z := by unfold lkH; rw [cpK_off (Or.inl (by decide))]; exact hZ
  unfold Cv
  refine r_aload_n dX7_record_0 (i := 0) rfl rfl ?_
  refine sX7_record_1 (Nat.le_refl _) (Nat.le_refl _) rfl lv16 (Nat.le_of_ble_eq_true rfl) (tX7_looks) ?_
  refine r_aload_n dX7_record_4 (i := 0) rfl rfl ?_
  refine sX7_record_5 (Nat.le_refl _) (Nat.le_refl _) rfl lv16 (Nat.le_of_ble_eq_true rfl) (tX7_pushes hz e) ?_
  exact e_v dX7_record_8 rfl (by first | rfl | simp [hset])
/-- a change tried: its end, recorded if it is no error -/
def rcA (hp : HPt) (z : Nat) (a : Int32) : HPt := if a < 0 then hp else RPu hp z
theorem tX7_tries {g : Gh} {z : Nat} {w a1 a2 a3 a4 r : Int32} {hp h1 : HPt} (C : Ci g mX7_does [vR (16, 0, 0, 0), vI w, vI a1, vI a2, vI a3, vI a4] (lkH hp) r h1) (hz : z ≤ 6) (hZ : h1 (16, 0, 0, 0) 2 = nI z) : Ci g mX7_tries [vR (16, 0, 0, 0), vI w, vI a1, vI a2, vI a3, vI a4] hp r (rcA h1 z r) := by
  unfold Ci
  refine r_aload_n dX7_tries_0 (i := 0) rfl rfl ?_
  refine sX7_tries_1 (Nat.le_refl _) (Nat.le_refl _) rfl lv16 (Nat.le_of_ble_eq_true rfl) (tX7_looks) ?_
  refine r_aload_n dX7_tries_4 (i := 0) rfl rfl ?_
  refine r_iload_n dX7_tries_5 (i := 1) rfl rfl ?_
  refine r_iload_n dX7_tries_6 (i := 2) rfl rfl ?_
  refine r_iload_n dX7_tries_7 (i := 3) rfl rfl ?_
  refine r_iload dX7_tries_8 rfl ?_
  refine r_iload dX7_tries_10 rfl ?_
  refine sX7_tries_12 (Nat.le_refl _) (Nat.le_refl _) rfl lv16 (Nat.le_of_ble_eq_true rfl) (C) ?_
  refine r_istore dX7_tries_15 (Nat.le_of_ble_eq_true rfl) rfl rfl ?_
  refine r_iload dX7_tries_17 rfl ?_
  refine r_if_lt dX7_tries_19 (tgt := 26) rfl (fun h19 => ?_) (fun h19 => ?_)
  · refine r_iload dX7_tries_26 rfl ?_
    exact e_i dX7_tries_28 rfl rfl rfl (by simp [rcA, h19])
  · refine r_aload_n dX7_tries_22 (i := 0) rfl rfl ?_
    refine sX7_tries_23 (Nat.le_refl _) (Nat.le_refl _) rfl lv16 (Nat.le_of_ble_eq_true rfl) (tX7_pushes hz hZ) ?_
    refine r_iload dX7_tries_26 rfl ?_
    exact e_i dX7_tries_28 rfl rfl rfl (by simp [rcA, h19])
theorem tX7_does_k {g : Gh} {a1 a2 a3 a4 r : Int32} {hp h1 : HPt} (C : Ci g mX7_keeps [vR (16, 0, 0, 0), vI a1] hp r h1) : Ci g mX7_does [vR (16, 0, 0, 0), vI 107, vI a1, vI a2, vI a3, vI a4] hp r h1 := by
  unfold Ci
  refine r_iload_n dX7_does_0 (i := 1) rfl rfl ?_
  refine r_tabIn dX7_does_1 (off := 79) (tgt := 80) (by decide) (by decide) (by decide) rfl ?_
  refine r_aload_n dX7_does_80 (i := 0) rfl rfl ?_
  refine r_iload_n dX7_does_81 (i := 2) rfl rfl ?_
  refine sX7_does_82 (Nat.le_refl _) (Nat.le_refl _) rfl lv16 (Nat.le_of_ble_eq_true rfl) (C) ?_
  exact e_i dX7_does_85 rfl (by first | rfl | exact bi_nar _) (by first | rfl | simp [bi, *]) rfl
theorem tX7_does_r {g : Gh} {a1 a2 a3 a4 r : Int32} {hp h1 : HPt} (C : Ci g mX7_refreshed [vR (16, 0, 0, 0), vI a1] hp r h1) : Ci g mX7_does [vR (16, 0, 0, 0), vI 114, vI a1, vI a2, vI a3, vI a4] hp r h1 := by
  unfold Ci
  refine r_iload_n dX7_does_0 (i := 1) rfl rfl ?_
  refine r_tabIn dX7_does_1 (off := 85) (tgt := 86) (by decide) (by decide) (by decide) rfl ?_
  refine r_aload_n dX7_does_86 (i := 0) rfl rfl ?_
  refine r_iload_n dX7_does_87 (i := 2) rfl rfl ?_
  refine sX7_does_88 (Nat.le_refl _) (Nat.le_refl _) rfl lv16 (Nat.le_of_ble_eq_true rfl) (C) ?_
  exact e_i dX7_does_91 rfl (by first | rfl | exact bi_nar _) (by first | rfl | simp [bi, *]) rfl
theorem tX7_does_u {g : Gh} {a1 a2 a3 a4 r : Int32} {hp h1 : HPt} (C : Ci g mX7_burnt [vR (16, 0, 0, 0), vI a1] hp r h1) : Ci g mX7_does [vR (16, 0, 0, 0), vI 117, vI a1, vI a2, vI a3, vI a4] hp r h1 := by
  unfold Ci
  refine r_iload_n dX7_does_0 (i := 1) rfl rfl ?_
  refine r_tabIn dX7_does_1 (off := 91) (tgt := 92) (by decide) (by decide) (by decide) rfl ?_
  refine r_aload_n dX7_does_92 (i := 0) rfl rfl ?_
  refine r_iload_n dX7_does_93 (i := 2) rfl rfl ?_
  refine sX7_does_94 (Nat.le_refl _) (Nat.le_refl _) rfl lv16 (Nat.le_of_ble_eq_true rfl) (C) ?_
  exact e_i dX7_does_97 rfl (by first | rfl | exact bi_nar _) (by first | rfl | simp [bi, *]) rfl
theorem tX7_does_m {g : Gh} {a1 a2 a3 a4 r : Int32} {hp h1 : HPt} (C : Ci g mX7_merges [vR (16, 0, 0, 0), vI a1] hp r h1) : Ci g mX7_does [vR (16, 0, 0, 0), vI 109, vI a1, vI a2, vI a3, vI a4] hp r h1 := by
  unfold Ci
  refine r_iload_n dX7_does_0 (i := 1) rfl rfl ?_
  refine r_tabIn dX7_does_1 (off := 97) (tgt := 98) (by decide) (by decide) (by decide) rfl ?_
  refine r_aload_n dX7_does_98 (i := 0) rfl rfl ?_
  refine r_iload_n dX7_does_99 (i := 2) rfl rfl ?_
  refine sX7_does_100 (Nat.le_refl _) (Nat.le_refl _) rfl lv16 (Nat.le_of_ble_eq_true rfl) (C) ?_
  exact e_i dX7_does_103 rfl (by first | rfl | exact bi_nar _) (by first | rfl | simp [bi, *]) rfl
theorem tX7_does_z {g : Gh} {a1 a2 a3 a4 r : Int32} {hp h1 : HPt} (C : Ci g mX7_sleeps [vR (16, 0, 0, 0), vI a1] hp r h1) : Ci g mX7_does [vR (16, 0, 0, 0), vI 122, vI a1, vI a2, vI a3, vI a4] hp r h1 := by
  unfold Ci
  refine r_iload_n dX7_does_0 (i := 1) rfl rfl ?_
  refine r_tabIn dX7_does_1 (off := 103) (tgt := 104) (by decide) (by decide) (by decide) rfl ?_
  refine r_aload_n dX7_does_104 (i := 0) rfl rfl ?_
  refine r_iload_n dX7_does_105 (i := 2) rfl rfl ?_
  refine sX7_does_106 (Nat.le_refl _) (Nat.le_refl _) rfl lv16 (Nat.le_of_ble_eq_true rfl) (C) ?_
  exact e_i dX7_does_109 rfl (by first | rfl | exact bi_nar _) (by first | rfl | simp [bi, *]) rfl
theorem tX7_does_l {g : Gh} {a1 a2 a3 a4 r : Int32} {hp h1 : HPt} (C : Ci g mX7_lies [vR (16, 0, 0, 0), vI a1, vI a2, vI a3, vI a4] hp r h1) : Ci g mX7_does [vR (16, 0, 0, 0), vI 108, vI a1, vI a2, vI a3, vI a4] hp r h1 := by
  unfold Ci
  refine r_iload_n dX7_does_0 (i := 1) rfl rfl ?_
  refine r_tabIn dX7_does_1 (off := 109) (tgt := 110) (by decide) (by decide) (by decide) rfl ?_
  refine r_aload_n dX7_does_110 (i := 0) rfl rfl ?_
  refine r_iload_n dX7_does_111 (i := 2) rfl rfl ?_
  refine r_iload_n dX7_does_112 (i := 3) rfl rfl ?_
  refine r_iload dX7_does_113 rfl ?_
  refine r_iload dX7_does_115 rfl ?_
  refine sX7_does_117 (Nat.le_refl _) (Nat.le_refl _) rfl lv16 (Nat.le_of_ble_eq_true rfl) (C) ?_
  exact e_i dX7_does_120 rfl (by first | rfl | exact bi_nar _) (by first | rfl | simp [bi, *]) rfl
theorem tX7_does_t {g : Gh} {a1 a2 a3 a4 r : Int32} {hp h1 : HPt} (C : Ci g mX7_steals [vR (16, 0, 0, 0), vI a1, vI a2, vI a3] hp r h1) : Ci g mX7_does [vR (16, 0, 0, 0), vI 116, vI a1, vI a2, vI a3, vI a4] hp r h1 := by
  unfold Ci
  refine r_iload_n dX7_does_0 (i := 1) rfl rfl ?_
  refine r_tabIn dX7_does_1 (off := 120) (tgt := 121) (by decide) (by decide) (by decide) rfl ?_
  refine r_aload_n dX7_does_121 (i := 0) rfl rfl ?_
  refine r_iload_n dX7_does_122 (i := 2) rfl rfl ?_
  refine r_iload_n dX7_does_123 (i := 3) rfl rfl ?_
  refine r_iload dX7_does_124 rfl ?_
  refine sX7_does_126 (Nat.le_refl _) (Nat.le_refl _) rfl lv16 (Nat.le_of_ble_eq_true rfl) (C) ?_
  exact e_i dX7_does_129 rfl (by first | rfl | exact bi_nar _) (by first | rfl | simp [bi, *]) rfl
theorem tX7_does_b {g : Gh} {a1 a2 a3 a4 r : Int32} {hp h1 : HPt} (C : Ci g mX7_passes [vR (16, 0, 0, 0), vI a1] hp r h1) : Ci g mX7_does [vR (16, 0, 0, 0), vI 98, vI a1, vI a2, vI a3, vI a4] hp r h1 := by
  unfold Ci
  refine r_iload_n dX7_does_0 (i := 1) rfl rfl ?_
  refine r_tabOut dX7_does_1 (tgt := 130) (Or.inl (by decide)) rfl ?_
  refine r_aload_n dX7_does_130 (i := 0) rfl rfl ?_
  refine r_iload_n dX7_does_131 (i := 2) rfl rfl ?_
  refine sX7_does_132 (Nat.le_refl _) (Nat.le_refl _) rfl lv16 (Nat.le_of_ble_eq_true rfl) (C) ?_
  exact e_i dX7_does_135 rfl (by first | rfl | exact bi_nar _) (by first | rfl | simp [bi, *]) rfl
section CH7
variable {g : Gh} {z : Nat} {a1 a2 a3 a4 r : Int32} {hp h1 : HPt}
theorem tX7_keep (C : Ci g mX7_keeps [vR (16, 0, 0, 0), vI a1] (lkH hp) r h1) (hz : z ≤ 6) (hZ : h1 (16, 0, 0, 0) 2 = nI z) : Ci g mX7_keep [vR (16, 0, 0, 0), vI a1] hp r (rcA h1 z r) := by
  unfold Ci
  refine r_aload_n dX7_keep_0 (i := 0) rfl rfl ?_
  refine r_bipush dX7_keep_1 (v := 107) rfl ?_
  refine r_iload_n dX7_keep_3 (i := 1) rfl rfl ?_
  refine r_iconst dX7_keep_4 (v := 0) rfl ?_
  refine r_iconst dX7_keep_5 (v := 0) rfl ?_
  refine r_iconst dX7_keep_6 (v := 0) rfl ?_
  refine sX7_keep_7 (Nat.le_refl _) (Nat.le_refl _) rfl lv16 (Nat.le_of_ble_eq_true rfl) (tX7_tries (tX7_does_k C) hz hZ) ?_
  exact e_i dX7_keep_10 rfl (by first | rfl | exact bi_nar _) (by first | rfl | simp [bi, *]) rfl
theorem tX7_refresh (C : Ci g mX7_refreshed [vR (16, 0, 0, 0), vI a1] (lkH hp) r h1) (hz : z ≤ 6) (hZ : h1 (16, 0, 0, 0) 2 = nI z) : Ci g mX7_refresh [vR (16, 0, 0, 0), vI a1] hp r (rcA h1 z r) := by
  unfold Ci
  refine r_aload_n dX7_refresh_0 (i := 0) rfl rfl ?_
  refine r_bipush dX7_refresh_1 (v := 114) rfl ?_
  refine r_iload_n dX7_refresh_3 (i := 1) rfl rfl ?_
  refine r_iconst dX7_refresh_4 (v := 0) rfl ?_
  refine r_iconst dX7_refresh_5 (v := 0) rfl ?_
  refine r_iconst dX7_refresh_6 (v := 0) rfl ?_
  refine sX7_refresh_7 (Nat.le_refl _) (Nat.le_refl _) rfl lv16 (Nat.le_of_ble_eq_true rfl) (tX7_tries (tX7_does_r C) hz hZ) ?_
  exact e_i dX7_refresh_10 rfl (by first | rfl | exact bi_nar _) (by first | rfl | simp [bi, *]) rfl
theorem tX7_burn (C : Ci g mX7_burnt [vR (16, 0, 0, 0), vI a1] (lkH hp) r h1) (hz : z ≤ 6) (hZ : h1 (16, 0, 0, 0) 2 = nI z) : Ci g mX7_burn [vR (16, 0, 0, 0), vI a1] hp r (rcA h1 z r) := by
  unfold Ci
  refine r_aload_n dX7_burn_0 (i := 0) rfl rfl ?_
  refine r_bipush dX7_burn_1 (v := 117) rfl ?_
  refine r_iload_n dX7_burn_3 (i := 1) rfl rfl ?_
  refine r_iconst dX7_burn_4 (v := 0) rfl ?_
  refine r_iconst dX7_burn_5 (v := 0) rfl ?_
  refine r_iconst dX7_burn_6 (v := 0) rfl ?_
  refine sX7_burn_7 (Nat.le_refl _) (Nat.le_refl _) rfl lv16 (Nat.le_of_ble_eq_true rfl) (tX7_tries (tX7_does_u C) hz hZ) ?_
  exact e_i dX7_burn_10 rfl (by first | rfl | exact bi_nar _) (by first | rfl | simp [bi, *]) rfl
theorem tX7_sleep (C : Ci g mX7_sleeps [vR (16, 0, 0, 0), vI a1] (lkH hp) r h1) (hz : z ≤ 6) (hZ : h1 (16, 0, 0, 0) 2 = nI z) : Ci g mX7_sleep [vR (16, 0, 0, 0), vI a1] hp r (rcA h1 z r) := by
  unfold Ci
  refine r_aload_n dX7_sleep_0 (i := 0) rfl rfl ?_
  refine r_bipush dX7_sleep_1 (v := 122) rfl ?_
  refine r_iload_n dX7_sleep_3 (i := 1) rfl rfl ?_
  refine r_iconst dX7_sleep_4 (v := 0) rfl ?_
  refine r_iconst dX7_sleep_5 (v := 0) rfl ?_
  refine r_iconst dX7_sleep_6 (v := 0) rfl ?_
  refine sX7_sleep_7 (Nat.le_refl _) (Nat.le_refl _) rfl lv16 (Nat.le_of_ble_eq_true rfl) (tX7_tries (tX7_does_z C) hz hZ) ?_
  exact e_i dX7_sleep_10 rfl (by first | rfl | exact bi_nar _) (by first | rfl | simp [bi, *]) rfl
theorem tX7_lie (C : Ci g mX7_lies [vR (16, 0, 0, 0), vI a1, vI a2, vI a3, vI a4] (lkH hp) r h1) (hz : z ≤ 6) (hZ : h1 (16, 0, 0, 0) 2 = nI z) : Ci g mX7_lie [vR (16, 0, 0, 0), vI a1, vI a2, vI a3, vI a4] hp r (rcA h1 z r) := by
  unfold Ci
  refine r_aload_n dX7_lie_0 (i := 0) rfl rfl ?_
  refine r_bipush dX7_lie_1 (v := 108) rfl ?_
  refine r_iload_n dX7_lie_3 (i := 1) rfl rfl ?_
  refine r_iload_n dX7_lie_4 (i := 2) rfl rfl ?_
  refine r_iload_n dX7_lie_5 (i := 3) rfl rfl ?_
  refine r_iload dX7_lie_6 rfl ?_
  refine sX7_lie_8 (Nat.le_refl _) (Nat.le_refl _) rfl lv16 (Nat.le_of_ble_eq_true rfl) (tX7_tries (tX7_does_l C) hz hZ) ?_
  exact e_i dX7_lie_11 rfl (by first | rfl | exact bi_nar _) (by first | rfl | simp [bi, *]) rfl
theorem tX7_merge (C : Ci g mX7_merges [vR (16, 0, 0, 0), vI a1] (lkH hp) r h1) (hz : z ≤ 6) (hZ : h1 (16, 0, 0, 0) 2 = nI z) : Ci g mX7_merge [vR (16, 0, 0, 0), vI a1] hp r (rcA h1 z r) := by
  unfold Ci
  refine r_aload_n dX7_merge_0 (i := 0) rfl rfl ?_
  refine r_bipush dX7_merge_1 (v := 109) rfl ?_
  refine r_iload_n dX7_merge_3 (i := 1) rfl rfl ?_
  refine r_iconst dX7_merge_4 (v := 0) rfl ?_
  refine r_iconst dX7_merge_5 (v := 0) rfl ?_
  refine r_iconst dX7_merge_6 (v := 0) rfl ?_
  refine sX7_merge_7 (Nat.le_refl _) (Nat.le_refl _) rfl lv16 (Nat.le_of_ble_eq_true rfl) (tX7_tries (tX7_does_m C) hz hZ) ?_
  exact e_i dX7_merge_10 rfl (by first | rfl | exact bi_nar _) (by first | rfl | simp [bi, *]) rfl
theorem tX7_steal (C : Ci g mX7_steals [vR (16, 0, 0, 0), vI a1, vI a2, vI a3] (lkH hp) r h1) (hz : z ≤ 6) (hZ : h1 (16, 0, 0, 0) 2 = nI z) : Ci g mX7_steal [vR (16, 0, 0, 0), vI a1, vI a2, vI a3] hp r (rcA h1 z r) := by
  unfold Ci
  refine r_aload_n dX7_steal_0 (i := 0) rfl rfl ?_
  refine r_bipush dX7_steal_1 (v := 116) rfl ?_
  refine r_iload_n dX7_steal_3 (i := 1) rfl rfl ?_
  refine r_iload_n dX7_steal_4 (i := 2) rfl rfl ?_
  refine r_iload_n dX7_steal_5 (i := 3) rfl rfl ?_
  refine r_iconst dX7_steal_6 (v := 0) rfl ?_
  refine sX7_steal_7 (Nat.le_refl _) (Nat.le_refl _) rfl lv16 (Nat.le_of_ble_eq_true rfl) (tX7_tries (tX7_does_t C) hz hZ) ?_
  exact e_i dX7_steal_10 rfl (by first | rfl | exact bi_nar _) (by first | rfl | simp [bi, *]) rfl
theorem tX7_pass (C : Ci g mX7_passes [vR (16, 0, 0, 0), vI a1] (lkH hp) r h1) (hz : z ≤ 6) (hZ : h1 (16, 0, 0, 0) 2 = nI z) : Ci g mX7_pass [vR (16, 0, 0, 0), vI a1] hp r (rcA h1 z r) := by
  unfold Ci
  refine r_aload_n dX7_pass_0 (i := 0) rfl rfl ?_
  refine r_bipush dX7_pass_1 (v := 98) rfl ?_
  refine r_iload_n dX7_pass_3 (i := 1) rfl rfl ?_
  refine r_iconst dX7_pass_4 (v := 0) rfl ?_
  refine r_iconst dX7_pass_5 (v := 0) rfl ?_
  refine r_iconst dX7_pass_6 (v := 0) rfl ?_
  refine sX7_pass_7 (Nat.le_refl _) (Nat.le_refl _) rfl lv16 (Nat.le_of_ble_eq_true rfl) (tX7_tries (tX7_does_b C) hz hZ) ?_
  exact e_i dX7_pass_10 rfl (by first | rfl | exact bi_nar _) (by first | rfl | simp [bi, *]) rfl
end CH7
