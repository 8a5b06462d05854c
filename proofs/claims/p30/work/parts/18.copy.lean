def cpS (hp : HPt) (t u j : Nat) : HPt := fun a i => if a = (4, t, j, 0) ∧ 2 ≤ i ∧ i < 10 then hp (4, u, j, 0) i else cpH (cpH hp t u j 0) t u j 1 a i
theorem cpH_WT {hp : HPt} {t u j b : Nat} (h : WT hp) : WT (cpH hp t u j b) := by
  intro a i
  unfold cpH
  split
  next e => exact h (a.1, u, j, b) i
  next => exact h a i
theorem cpS_WT {hp : HPt} {t u j : Nat} (h : WT hp) : WT (cpS hp t u j) := by
  intro a i
  unfold cpS
  split
  next e => obtain ⟨rfl, -⟩ := e; exact h (4, u, j, 0) i
  next => exact cpH_WT (cpH_WT h) a i
theorem tX4_copySecret {g : Gh} {t u j : Nat} {hp : HPt} (ht : t < 10) (hu : u < 10) (htu : t ≠ u) (hj : j < 8) (hW : WT hp) : Cv g mX4_copySecret [vR (4, t, j, 0), vR (4, u, j, 0)] hp (cpS hp t u j) := by
  have hut : ¬ u = t := fun h => htu h.symm
  have e0 : ∀ i, cpH (cpH hp t u j 0) t u j 1 (4, u, j, 0) i = hp (4, u, j, 0) i := fun i => by simp [cpH]
  have hk : ∀ H : HPt, (∀ i, H (4, u, j, 0) i = hp (4, u, j, 0) i) → ∀ i x k, hset H (4, t, j, 0) i x (4, u, j, 0) k = hp (4, u, j, 0) k := fun H h i x k => by simp [hset, hut, h]
  have h9 : hp (4, u, j, 0) 9 = 0 ∨ hp (4, u, j, 0) 9 = 1 := hW.b rfl
  unfold Cv
  refine r_aload_n dX4_copySecret_0 (i := 0) rfl rfl ?_
  refine r_getR dX4_copySecret_1 f_4_12 rfl rfl rfl (lv4 (by first | assumption | decide | omega) (by first | assumption | decide | omega)) ?_
  refine r_aload_n dX4_copySecret_4 (i := 1) rfl rfl ?_
  refine r_getR dX4_copySecret_5 f_4_12 rfl rfl rfl (lv4 (by first | assumption | decide | omega) (by first | assumption | decide | omega)) ?_
  refine sX4_copySecret_8 (Nat.le_refl _) (Nat.le_refl _) rfl (lv5 (by first | assumption | decide | omega) (by first | assumption | decide | omega) (by first | assumption | decide | omega)) (Nat.le_of_ble_eq_true rfl) (tX0_copyHalf ht hu htu hj (by decide) hW) ?_
  refine r_aload_n dX4_copySecret_11 (i := 0) rfl rfl ?_
  refine r_getR dX4_copySecret_12 f_4_18 rfl rfl rfl (lv4 (by first | assumption | decide | omega) (by first | assumption | decide | omega)) ?_
  refine r_aload_n dX4_copySecret_15 (i := 1) rfl rfl ?_
  refine r_getR dX4_copySecret_16 f_4_18 rfl rfl rfl (lv4 (by first | assumption | decide | omega) (by first | assumption | decide | omega)) ?_
  refine sX4_copySecret_19 (Nat.le_refl _) (Nat.le_refl _) rfl (lv5 (by first | assumption | decide | omega) (by first | assumption | decide | omega) (by first | assumption | decide | omega)) (Nat.le_of_ble_eq_true rfl) (tX0_copyHalf ht hu htu hj (by decide) (cpH_WT hW)) ?_
  refine r_aload_n dX4_copySecret_22 (i := 0) rfl rfl ?_
  refine r_aload_n dX4_copySecret_23 (i := 1) rfl rfl ?_
  refine r_getI dX4_copySecret_24 f_4_25 rfl rfl (lv4 (by first | assumption | decide | omega) (by first | assumption | decide | omega)) ?_
  refine r_putI dX4_copySecret_27 f_4_25 rfl rfl (lv4 (by first | assumption | decide | omega) (by first | assumption | decide | omega)) ⟨rfl, rfl⟩ ?_
  refine r_aload_n dX4_copySecret_30 (i := 0) rfl rfl ?_
  refine r_aload_n dX4_copySecret_31 (i := 1) rfl rfl ?_
  refine r_getI dX4_copySecret_32 f_4_29 rfl rfl (lv4 (by first | assumption | decide | omega) (by first | assumption | decide | omega)) ?_
  refine r_putI dX4_copySecret_35 f_4_29 rfl rfl (lv4 (by first | assumption | decide | omega) (by first | assumption | decide | omega)) ⟨rfl, rfl⟩ ?_
  refine r_aload_n dX4_copySecret_38 (i := 0) rfl rfl ?_
  refine r_aload_n dX4_copySecret_39 (i := 1) rfl rfl ?_
  refine r_getI dX4_copySecret_40 f_4_32 rfl rfl (lv4 (by first | assumption | decide | omega) (by first | assumption | decide | omega)) ?_
  refine r_putI dX4_copySecret_43 f_4_32 rfl rfl (lv4 (by first | assumption | decide | omega) (by first | assumption | decide | omega)) ⟨rfl, rfl⟩ ?_
  refine r_aload_n dX4_copySecret_46 (i := 0) rfl rfl ?_
  refine r_aload_n dX4_copySecret_47 (i := 1) rfl rfl ?_
  refine r_getI dX4_copySecret_48 f_4_35 rfl rfl (lv4 (by first | assumption | decide | omega) (by first | assumption | decide | omega)) ?_
  refine r_putI dX4_copySecret_51 f_4_35 rfl rfl (lv4 (by first | assumption | decide | omega) (by first | assumption | decide | omega)) ⟨rfl, rfl⟩ ?_
  refine r_aload_n dX4_copySecret_54 (i := 0) rfl rfl ?_
  refine r_aload_n dX4_copySecret_55 (i := 1) rfl rfl ?_
  refine r_getI dX4_copySecret_56 f_4_38 rfl rfl (lv4 (by first | assumption | decide | omega) (by first | assumption | decide | omega)) ?_
  refine r_putI dX4_copySecret_59 f_4_38 rfl rfl (lv4 (by first | assumption | decide | omega) (by first | assumption | decide | omega)) ⟨rfl, rfl⟩ ?_
  refine r_aload_n dX4_copySecret_62 (i := 0) rfl rfl ?_
  refine r_aload_n dX4_copySecret_63 (i := 1) rfl rfl ?_
  refine r_getI dX4_copySecret_64 f_4_41 rfl rfl (lv4 (by first | assumption | decide | omega) (by first | assumption | decide | omega)) ?_
  refine r_putI dX4_copySecret_67 f_4_41 rfl rfl (lv4 (by first | assumption | decide | omega) (by first | assumption | decide | omega)) ⟨rfl, rfl⟩ ?_
  refine r_aload_n dX4_copySecret_70 (i := 0) rfl rfl ?_
  refine r_aload_n dX4_copySecret_71 (i := 1) rfl rfl ?_
  refine r_getI dX4_copySecret_72 f_4_44 rfl rfl (lv4 (by first | assumption | decide | omega) (by first | assumption | decide | omega)) ?_
  refine r_putI dX4_copySecret_75 f_4_44 rfl rfl (lv4 (by first | assumption | decide | omega) (by first | assumption | decide | omega)) ⟨rfl, rfl⟩ ?_
  refine r_aload_n dX4_copySecret_78 (i := 0) rfl rfl ?_
  refine r_aload_n dX4_copySecret_79 (i := 1) rfl rfl ?_
  refine r_getI dX4_copySecret_80 f_4_47 rfl rfl (lv4 (by first | assumption | decide | omega) (by first | assumption | decide | omega)) ?_
  refine r_putI dX4_copySecret_83 f_4_47 rfl rfl (lv4 (by first | assumption | decide | omega) (by first | assumption | decide | omega)) (by simp [hset, hut, e0]; exact fit01 h9) ?_
  refine e_v dX4_copySecret_86 rfl ?_
  funext a i
  unfold cpS
  by_cases h5 : a = (4, t, j, 0)
  · subst h5
    by_cases hi : 2 ≤ i ∧ i < 10
    · have : i = 2 ∨ i = 3 ∨ i = 4 ∨ i = 5 ∨ i = 6 ∨ i = 7 ∨ i = 8 ∨ i = 9 := by omega
      rcases this with rfl | rfl | rfl | rfl | rfl | rfl | rfl | rfl <;> simp [hset, hut, e0]
    · have h2 : i ≠ 2 ∧ i ≠ 3 ∧ i ≠ 4 ∧ i ≠ 5 ∧ i ≠ 6 ∧ i ≠ 7 ∧ i ≠ 8 ∧ i ≠ 9 := by omega
      simp [hset, h2, hi]
  · simp [hset, h5]
/-- the first n secrets are copied -/
def cpN (hp : HPt) (t u : Nat) : Nat → HPt
  | 0 => hp
  | n + 1 => cpS (cpN hp t u n) t u n
theorem cpN_WT {hp : HPt} {t u : Nat} (h : WT hp) : ∀ n, WT (cpN hp t u n)
  | 0 => h
  | n + 1 => cpS_WT (cpN_WT h n)
/-- n words of the array of kind k are copied -/
def cpA (hp : HPt) (k t u n : Nat) : HPt := fun a i => if a = (k, t, 0, 0) ∧ i < n then hp (k, u, 0, 0) i else hp a i
theorem cpA_0 {hp : HPt} {k t u : Nat} : cpA hp k t u 0 = hp := by
  funext a i
  unfold cpA
  rw [if_neg (by omega)]
theorem cpA_set {hp : HPt} {k t u n : Nat} (htu : t ≠ u) : hset (cpA hp k t u n) (k, t, 0, 0) n (cpA hp k t u n (k, u, 0, 0) n) = cpA hp k t u (n + 1) := by
  have hut : ¬ u = t := fun h => htu h.symm
  funext a i
  unfold hset cpA
  by_cases h6 : a = (k, t, 0, 0)
  · subst h6
    by_cases hi : i = n
    · subst hi; simp [hut]
    · simp [hi]
      by_cases h1 : i < n
      · simp [h1, show i < n + 1 by omega]
      · simp [h1, show ¬ i < n + 1 by omega]
  · simp [h6]
theorem cpA_WT {hp : HPt} {k t u n : Nat} (h : WT hp) : WT (cpA hp k t u n) := by
  intro a i
  unfold cpA
  split
  next e => obtain ⟨rfl, -⟩ := e; exact h (k, u, 0, 0) i
  next => exact h a i
def cpB (hp : HPt) (t u : Nat) : HPt := cpA (cpA (cpN hp t u 8) 2 t u 3) 3 t u 2
def CPS (hp : HPt) (t u : Nat) : HPt := fun a i => if a = (0, t, 0, 0) ∧ 3 ≤ i ∧ i < 10 then hp (0, u, 0, 0) i else cpB hp t u a i
theorem CPS_WT {hp : HPt} {t u : Nat} (h : WT hp) : WT (CPS hp t u) := by
  intro a i
  unfold CPS
  split
  next e => obtain ⟨rfl, -⟩ := e; exact h (0, u, 0, 0) i
  next => exact cpA_WT (cpA_WT (cpN_WT h 8)) a i
theorem cpN_off {hp : HPt} {t u : Nat} {a : A4} {i : Nat} (h : a.2.1 ≠ t ∨ a.1 < 4 ∨ 8 ≤ a.1) : ∀ n, cpN hp t u n a i = hp a i
  | 0 => rfl
  | n + 1 => by
    have ih := cpN_off (hp := hp) (u := u) (i := i) h n
    have h4 : ∀ k j b, 4 ≤ k → k < 8 → ¬ a = (k, t, j, b) := by
      rintro k j b h1 h2 rfl
      simp at h
      omega
    unfold cpN cpS cpH
    simp [h4 4 _ _ (by decide) (by decide), h4 5 _ _ (by decide) (by decide), h4 6 _ _ (by decide) (by decide), h4 7 _ _ (by decide) (by decide), ih]
theorem tX5_copyState {g : Gh} {t u : Nat} {hp : HPt} (ht : t < 10) (hu : u < 10) (htu : t ≠ u) (hW : WT hp) : Cv g mX5_copyState [vR (0, t, 0, 0), vR (0, u, 0, 0)] hp (CPS hp t u) := by
  have hut : ¬ u = t := fun h => htu h.symm
  have fin : V g mX5_copyState 0 0 0 0 609 79 [some (vR (0, t, 0, 0)), some (vR (0, u, 0, 0)), some (vI (nI 2))] [] RP (cpB hp t u) (Pv (CPS hp t u)) := by
    have e0 : ∀ i, cpB hp t u (0, u, 0, 0) i = hp (0, u, 0, 0) i := fun i => by simp [cpB, cpA, cpN_off]
    refine r_aload_n dX5_copyState_79 (i := 0) rfl rfl ?_
    refine r_aload_n dX5_copyState_80 (i := 1) rfl rfl ?_
    refine r_getI dX5_copyState_81 f_5_34 rfl rfl (lv0 (by first | assumption | decide | omega)) ?_
    refine r_putI dX5_copyState_84 f_5_34 rfl rfl (lv0 (by first | assumption | decide | omega)) ⟨rfl, rfl⟩ ?_
    refine r_aload_n dX5_copyState_87 (i := 0) rfl rfl ?_
    refine r_aload_n dX5_copyState_88 (i := 1) rfl rfl ?_
    refine r_getI dX5_copyState_89 f_5_25 rfl rfl (lv0 (by first | assumption | decide | omega)) ?_
    refine r_putI dX5_copyState_92 f_5_25 rfl rfl (lv0 (by first | assumption | decide | omega)) ⟨rfl, rfl⟩ ?_
    refine r_aload_n dX5_copyState_95 (i := 0) rfl rfl ?_
    refine r_aload_n dX5_copyState_96 (i := 1) rfl rfl ?_
    refine r_getI dX5_copyState_97 f_5_37 rfl rfl (lv0 (by first | assumption | decide | omega)) ?_
    refine r_putI dX5_copyState_100 f_5_37 rfl rfl (lv0 (by first | assumption | decide | omega)) ⟨rfl, rfl⟩ ?_
    refine r_aload_n dX5_copyState_103 (i := 0) rfl rfl ?_
    refine r_aload_n dX5_copyState_104 (i := 1) rfl rfl ?_
    refine r_getI dX5_copyState_105 f_5_40 rfl rfl (lv0 (by first | assumption | decide | omega)) ?_
    refine r_putI dX5_copyState_108 f_5_40 rfl rfl (lv0 (by first | assumption | decide | omega)) ⟨rfl, rfl⟩ ?_
    refine r_aload_n dX5_copyState_111 (i := 0) rfl rfl ?_
    refine r_aload_n dX5_copyState_112 (i := 1) rfl rfl ?_
    refine r_getI dX5_copyState_113 f_5_43 rfl rfl (lv0 (by first | assumption | decide | omega)) ?_
    refine r_putI dX5_copyState_116 f_5_43 rfl rfl (lv0 (by first | assumption | decide | omega)) ⟨rfl, rfl⟩ ?_
    refine r_aload_n dX5_copyState_119 (i := 0) rfl rfl ?_
    refine r_aload_n dX5_copyState_120 (i := 1) rfl rfl ?_
    refine r_getI dX5_copyState_121 f_5_46 rfl rfl (lv0 (by first | assumption | decide | omega)) ?_
    refine r_putI dX5_copyState_124 f_5_46 rfl rfl (lv0 (by first | assumption | decide | omega)) ⟨rfl, rfl⟩ ?_
    refine r_aload_n dX5_copyState_127 (i := 0) rfl rfl ?_
    refine r_aload_n dX5_copyState_128 (i := 1) rfl rfl ?_
    refine r_getI dX5_copyState_129 f_5_49 rfl rfl (lv0 (by first | assumption | decide | omega)) ?_
    refine r_putI dX5_copyState_132 f_5_49 rfl rfl (lv0 (by first | assumption | decide | omega)) ⟨rfl, rfl⟩ ?_
    refine e_v dX5_copyState_135 rfl ?_
    funext a i
    unfold CPS
    by_cases h5 : a = (0, t, 0, 0)
    · subst h5
      by_cases hi : 3 ≤ i ∧ i < 10
      · have : i = 3 ∨ i = 4 ∨ i = 5 ∨ i = 6 ∨ i = 7 ∨ i = 8 ∨ i = 9 := by omega
        rcases this with rfl | rfl | rfl | rfl | rfl | rfl | rfl <;> simp [hset, hut, e0]
      · have h2 : i ≠ 3 ∧ i ≠ 4 ∧ i ≠ 5 ∧ i ≠ 6 ∧ i ≠ 7 ∧ i ≠ 8 ∧ i ≠ 9 := by omega
        simp [hset, h2, hi]
    · simp [hset, h5]
  have l3 : ∀ m r, r + m = 2 → V g mX5_copyState 0 0 0 0 609 56 [some (vR (0, t, 0, 0)), some (vR (0, u, 0, 0)), some (vI (nI r))] [] RP (cpA (cpA (cpN hp t u 8) 2 t u 3) 3 t u r) (Pv (CPS hp t u)) := by
    intro m
    induction m with
    | zero =>
      intro r hr
      have hr : r = 2 := by omega
      subst hr
      refine r_iload_n dX5_copyState_56 (i := 2) rfl rfl ?_
      refine r_iconst dX5_copyState_57 (v := 2) rfl ?_
      refine r_icmp_ge dX5_copyState_58 (tgt := 79) rfl (fun _ => ?_) (fun h58 => absurd ((by decide : (2 : Int32) ≤ nI 2)) h58)
      exact fin
    | succ m ih =>
      intro r hr
      have hr2 : r < 2 := by omega
      have h := ih (r + 1) (by omega)
      rw [nI_succ] at h
      refine r_iload_n dX5_copyState_56 (i := 2) rfl rfl ?_
      refine r_iconst dX5_copyState_57 (v := 2) rfl ?_
      refine r_icmp_ge dX5_copyState_58 (tgt := 79) rfl (fun h58 => absurd h58 ((nI_ge (b := 2) hr2 (by decide) : ¬ (2 : Int32) ≤ nI r))) (fun _ => ?_)
      refine r_aload_n dX5_copyState_61 (i := 0) rfl rfl ?_
      refine r_getR dX5_copyState_62 f_5_21 rfl rfl rfl (lv0 (by first | assumption | decide | omega)) ?_
      refine r_iload_n dX5_copyState_65 (i := 2) rfl rfl ?_
      refine r_aload_n dX5_copyState_66 (i := 1) rfl rfl ?_
      refine r_getR dX5_copyState_67 f_5_21 rfl rfl rfl (lv0 (by first | assumption | decide | omega)) ?_
      refine r_iload_n dX5_copyState_70 (i := 2) rfl rfl ?_
      refine n_zald dX5_copyState_71 rfl (lv3 (by first | assumption | decide | omega)) rfl (by first | assumption | omega | (unfold cI; omega)) ?_
      refine n_zast dX5_copyState_72 rfl (lv3 (by first | assumption | decide | omega)) (k := r) rfl hr2 ((cpA_WT (cpA_WT (cpN_WT hW 8))).vp rfl) ?_
      refine V.eqH (cpA_set htu) ?_
      refine r_inc1 dX5_copyState_73 rfl (Nat.le_of_ble_eq_true rfl) rfl ?_
      refine r_goto dX5_copyState_76 (tgt := 56) rfl ?_
      exact h
  have l2 : ∀ m r, r + m = 3 → V g mX5_copyState 0 0 0 0 609 31 [some (vR (0, t, 0, 0)), some (vR (0, u, 0, 0)), some (vI (nI r))] [] RP (cpA (cpN hp t u 8) 2 t u r) (Pv (CPS hp t u)) := by
    intro m
    induction m with
    | zero =>
      intro r hr
      have hr : r = 3 := by omega
      subst hr
      have h := l3 2 0 rfl
      rw [cpA_0] at h
      refine r_iload_n dX5_copyState_31 (i := 2) rfl rfl ?_
      refine r_iconst dX5_copyState_32 (v := 3) rfl ?_
      refine r_icmp_ge dX5_copyState_33 (tgt := 54) rfl (fun _ => ?_) (fun h33 => absurd ((by decide : (3 : Int32) ≤ nI 3)) h33)
      refine r_iconst dX5_copyState_54 (v := 0) rfl ?_
      refine r_istore_n dX5_copyState_55 (i := 2) rfl (Nat.le_of_ble_eq_true rfl) rfl rfl ?_
      exact h
    | succ m ih =>
      intro r hr
      have hr3 : r < 3 := by omega
      have h := ih (r + 1) (by omega)
      rw [nI_succ] at h
      refine r_iload_n dX5_copyState_31 (i := 2) rfl rfl ?_
      refine r_iconst dX5_copyState_32 (v := 3) rfl ?_
      refine r_icmp_ge dX5_copyState_33 (tgt := 54) rfl (fun h33 => absurd h33 ((nI_ge (b := 3) hr3 (by decide) : ¬ (3 : Int32) ≤ nI r))) (fun _ => ?_)
      refine r_aload_n dX5_copyState_36 (i := 0) rfl rfl ?_
      refine r_getR dX5_copyState_37 f_5_17 rfl rfl rfl (lv0 (by first | assumption | decide | omega)) ?_
      refine r_iload_n dX5_copyState_40 (i := 2) rfl rfl ?_
      refine r_aload_n dX5_copyState_41 (i := 1) rfl rfl ?_
      refine r_getR dX5_copyState_42 f_5_17 rfl rfl rfl (lv0 (by first | assumption | decide | omega)) ?_
      refine r_iload_n dX5_copyState_45 (i := 2) rfl rfl ?_
      refine n_iald dX5_copyState_46 rfl (lv2 (by first | assumption | decide | omega)) rfl (by first | assumption | omega | (unfold cI; omega)) ?_
      refine n_iast dX5_copyState_47 rfl (lv2 (by first | assumption | decide | omega)) rfl (by first | assumption | omega | (unfold cI; omega)) ?_
      refine V.eqH (cpA_set htu) ?_
      refine r_inc1 dX5_copyState_48 rfl (Nat.le_of_ble_eq_true rfl) rfl ?_
      refine r_goto dX5_copyState_51 (tgt := 31) rfl ?_
      exact h
  have l1 : ∀ m r, r + m = 8 → V g mX5_copyState 0 0 0 0 609 2 [some (vR (0, t, 0, 0)), some (vR (0, u, 0, 0)), some (vI (nI r))] [] RP (cpN hp t u r) (Pv (CPS hp t u)) := by
    intro m
    induction m with
    | zero =>
      intro r hr
      have hr : r = 8 := by omega
      subst hr
      have h := l2 3 0 rfl
      rw [cpA_0] at h
      refine r_iload_n dX5_copyState_2 (i := 2) rfl rfl ?_
      refine r_bipush dX5_copyState_3 (v := 8) rfl ?_
      refine r_icmp_ge dX5_copyState_5 (tgt := 29) rfl (fun _ => ?_) (fun h5 => absurd ((by decide : (8 : Int32) ≤ nI 8)) h5)
      refine r_iconst dX5_copyState_29 (v := 0) rfl ?_
      refine r_istore_n dX5_copyState_30 (i := 2) rfl (Nat.le_of_ble_eq_true rfl) rfl rfl ?_
      exact h
    | succ m ih =>
      intro r hr
      have hr8 : r < 8 := by omega
      have h := ih (r + 1) (by omega)
      rw [nI_succ] at h
      refine r_iload_n dX5_copyState_2 (i := 2) rfl rfl ?_
      refine r_bipush dX5_copyState_3 (v := 8) rfl ?_
      refine r_icmp_ge dX5_copyState_5 (tgt := 29) rfl (fun h5 => absurd h5 ((nI_ge (b := 8) hr8 (by decide) : ¬ (8 : Int32) ≤ nI r))) (fun _ => ?_)
      refine r_aload_n dX5_copyState_8 (i := 0) rfl rfl ?_
      refine r_getR dX5_copyState_9 f_5_11 rfl rfl rfl (lv0 (by first | assumption | decide | omega)) ?_
      refine r_iload_n dX5_copyState_12 (i := 2) rfl rfl ?_
      refine n_aald dX5_copyState_13 rfl (lv1 (by first | assumption | decide | omega)) rfl (by first | assumption | omega | (unfold cI; omega)) rfl ?_
      refine r_aload_n dX5_copyState_14 (i := 1) rfl rfl ?_
      refine r_getR dX5_copyState_15 f_5_11 rfl rfl rfl (lv0 (by first | assumption | decide | omega)) ?_
      refine r_iload_n dX5_copyState_18 (i := 2) rfl rfl ?_
      refine n_aald dX5_copyState_19 rfl (lv1 (by first | assumption | decide | omega)) rfl (by first | assumption | omega | (unfold cI; omega)) rfl ?_
      refine sX5_copyState_20 (Nat.le_refl _) (Nat.le_refl _) rfl (lv4 (by first | assumption | decide | omega) (by first | assumption | decide | omega)) (Nat.le_of_ble_eq_true rfl) (tX4_copySecret ht hu htu hr8 (cpN_WT hW r)) ?_
      refine r_inc1 dX5_copyState_23 rfl (Nat.le_of_ble_eq_true rfl) rfl ?_
      refine r_goto dX5_copyState_26 (tgt := 2) rfl ?_
      exact h
  unfold Cv
  refine r_iconst dX5_copyState_0 (v := 0) rfl ?_
  refine r_istore_n dX5_copyState_1 (i := 2) rfl (Nat.le_of_ble_eq_true rfl) rfl rfl ?_
  exact l1 8 0 rfl
/-- what the copy holds -/
theorem cpN_on {hp : HPt} {t u k j b : Nat} {i : Nat} (htu : t ≠ u) (hr : (k = 4 ∧ b = 0 ∧ 2 ≤ i ∧ i < 10) ∨ (k = 5 ∧ b < 2 ∧ 2 ≤ i ∧ i < 7) ∨ ((k = 6 ∨ k = 7) ∧ b < 2 ∧ i < 5)) : ∀ n, cpN hp t u n (k, t, j, b) i = if j < n then hp (k, u, j, b) i else hp (k, t, j, b) i
  | 0 => by simp [cpN]
  | n + 1 => by
    have hut : ¬ u = t := fun h => htu h.symm
    have ih := cpN_on (hp := hp) (j := j) htu hr n
    have iu : ∀ k2 j2 b2 i2, cpN hp t u n (k2, u, j2, b2) i2 = hp (k2, u, j2, b2) i2 := fun k2 j2 b2 i2 => cpN_off (Or.inl hut) n
    unfold cpN cpS cpH
    by_cases hj : j = n
    · subst hj
      simp only [show j < j + 1 by omega, if_true]
      rcases hr with ⟨rfl, rfl, h1, h2⟩ | ⟨rfl, hb, h1, h2⟩ | ⟨hk, hb, h1⟩
      · simp [h1, h2, iu]
      · have : b = 0 ∨ b = 1 := by omega
        rcases this with rfl | rfl <;> simp [h1, h2, iu, hut]
      · have : b = 0 ∨ b = 1 := by omega
        rcases hk with rfl | rfl <;> rcases this with rfl | rfl <;> simp [h1, iu, hut]
    · have hlt : (j < n + 1) = (j < n) := by
        apply propext
        omega
      simp only [hlt]
      simp [hj, ih]
theorem CPS_on {hp : HPt} {t u k j b : Nat} {i : Nat} (htu : t ≠ u) (hj : j < 8) (hr : (k = 4 ∧ b = 0 ∧ 2 ≤ i ∧ i < 10) ∨ (k = 5 ∧ b < 2 ∧ 2 ≤ i ∧ i < 7) ∨ ((k = 6 ∨ k = 7) ∧ b < 2 ∧ i < 5)) : CPS hp t u (k, t, j, b) i = hp (k, u, j, b) i := by
  have h := cpN_on (hp := hp) (j := j) htu hr 8
  rw [if_pos hj] at h
  have hk : ¬ k = 0 ∧ ¬ k = 2 ∧ ¬ k = 3 := by omega
  simp [CPS, cpB, cpA, hk, h]
theorem CPS_0 {hp : HPt} {t u i : Nat} (h1 : 3 ≤ i) (h2 : i < 10) : CPS hp t u (0, t, 0, 0) i = hp (0, u, 0, 0) i := by simp [CPS, h1, h2]
theorem CPS_2 {hp : HPt} {t u i : Nat} (htu : t ≠ u) (h1 : i < 3) : CPS hp t u (2, t, 0, 0) i = hp (2, u, 0, 0) i := by
  have e : cpN hp t u 8 (2, u, 0, 0) i = hp (2, u, 0, 0) i := cpN_off (Or.inr (Or.inl (show (2 : Nat) < 4 by decide))) 8
  simp [CPS, cpB, cpA, h1, e]
theorem CPS_3 {hp : HPt} {t u i : Nat} (htu : t ≠ u) (h1 : i < 2) : CPS hp t u (3, t, 0, 0) i = hp (3, u, 0, 0) i := by
  have e : cpN hp t u 8 (3, u, 0, 0) i = hp (3, u, 0, 0) i := cpN_off (Or.inr (Or.inl (show (3 : Nat) < 4 by decide))) 8
  simp [CPS, cpB, cpA, h1, e]
theorem CPS_off {hp : HPt} {t u : Nat} {a : A4} {i : Nat} (h : a.2.1 ≠ t ∨ 8 ≤ a.1) : CPS hp t u a i = hp a i := by
  have e : cpN hp t u 8 a i = hp a i := cpN_off (by rcases h with h | h; exact Or.inl h; exact Or.inr (Or.inr h)) 8
  have h4 : ∀ k j b, k < 8 → ¬ a = (k, t, j, b) := by
    rintro k j b h2 rfl
    simp at h
    omega
  simp [CPS, cpB, cpA, h4 0 _ _ (by decide), h4 2 _ _ (by decide), h4 3 _ _ (by decide), e]
