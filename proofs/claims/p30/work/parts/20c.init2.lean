section CD
variable {g : Gh} {t j cu su : Nat} {rp r0 : RPt} {hp h0 : HPt} {f : Nat → Option A4} {P : Pst}
theorem cX5 (ht : t < 10) (hf : fr (baseT t) rp hp) : V g mX5_init 59 365 0 0 (baseT t + 1) 0 (inL [vR (0, t, 0, 0)] 2) [] rp hp (fun v n' rp' hp' => v = none ∧ n' = baseT t + 60 ∧ DN (baseT t) (baseT t + 60) rp hp rp' hp') := by
  obtain ⟨e0, e1, e2, e3, e6⟩ := sb_2 t ht
  have e2b : nm (baseT t + 1 + 1) = (2, t, 0, 0) := e2
  have e3b : nm (baseT t + 1 + 1 + 1) = (3, t, 0, 0) := e3
  have z0 := hf (baseT t) (by omega) (by omega)
  have z1 := hf (baseT t + 1) (by omega) (by omega)
  have z2 := hf (baseT t + 2) (by omega) (by omega)
  have z3 := hf (baseT t + 3) (by omega) (by omega)
  rw [e0] at z0
  rw [e1] at z1
  rw [e2] at z2
  rw [e3] at z3
  refine r_aload_n dX5_init_0 (i := 0) rfl rfl ?_
  refine r_objInit dX5_init_1 wd_74 wd_67 wd_68 (by decide) (Nat.le_of_ble_eq_true rfl) ?_
  refine r_aload_n dX5_init_4 (i := 0) rfl rfl ?_
  refine r_bipush dX5_init_5 (v := 8) rfl ?_
  refine r_anew dX5_init_7 (t := 4) (len := 8) (Cn := RX4) wd_75 (Or.inr rfl) rfl rfl (by decide) (by omega) (by rw [e1]; rfl) (by rw [e1]; exact z1.1) (by decide) (by decide) ?_
  rw [e1]
  refine r_pf dX5_init_10 f_5_11 rfl rfl (lv_nm e0 (by omega) (by omega)) rfl rfl ?_
  refine r_aload_n dX5_init_13 (i := 0) rfl rfl ?_
  refine r_iconst dX5_init_14 (v := 3) rfl ?_
  refine r_newa dX5_init_15 (ty := .int) (t := 0) (len := 3) wd_118 rfl rfl (fun _ h => by cases h) rfl rfl (by decide) (by omega) (by rw [e2b]; rfl) (by decide) (by rw [e2b]; exact z2.2) (by decide) (by decide) ?_
  rw [e2b]
  refine r_dup dX5_init_17 rfl ?_
  refine r_iconst dX5_init_18 (v := 0) rfl ?_
  refine r_iconst dX5_init_19 (v := 1) rfl ?_
  refine n_iast dX5_init_20 (k := 0) (len := 3) rfl (lv_nm e2 (by omega) (by omega)) rfl (by decide) ?_
  refine r_dup dX5_init_21 rfl ?_
  refine r_iconst dX5_init_22 (v := 1) rfl ?_
  refine r_iconst dX5_init_23 (v := 0) rfl ?_
  refine n_iast dX5_init_24 (k := 1) (len := 3) rfl (lv_nm e2 (by omega) (by omega)) rfl (by decide) ?_
  refine r_dup dX5_init_25 rfl ?_
  refine r_iconst dX5_init_26 (v := 2) rfl ?_
  refine r_iconst dX5_init_27 (v := 2) rfl ?_
  refine n_iast dX5_init_28 (k := 2) (len := 3) rfl (lv_nm e2 (by omega) (by omega)) rfl (by decide) ?_
  refine r_pf dX5_init_29 f_5_17 rfl rfl (lv_nm e0 (by omega) (by omega)) rfl rfl ?_
  refine r_aload_n dX5_init_32 (i := 0) rfl rfl ?_
  refine r_iconst dX5_init_33 (v := 2) rfl ?_
  refine r_newa dX5_init_34 (ty := .boolean) (t := 1) (len := 2) wd_119 rfl rfl (fun _ h => by cases h) rfl rfl (by decide) (by omega) (by rw [e3b]; rfl) (by decide) (by
    rw [e3b]
    funext x
    rw [hs_a (by simp), hs_a (by simp), hs_a (by simp)]
    exact congrFun z3.2 x) (by decide) (by decide) ?_
  rw [e3b]
  refine r_pf dX5_init_36 f_5_21 rfl rfl (lv_nm e0 (by omega) (by omega)) rfl rfl ?_
  refine r_aload_n dX5_init_39 (i := 0) rfl rfl ?_
  refine r_iconst dX5_init_40 (v := 1) rfl ?_
  refine r_putI dX5_init_41 f_5_25 rfl rfl (lv_nm e0 (by omega) (by omega)) ⟨rfl, rfl⟩ ?_
  refine r_iconst dX5_init_44 (v := 0) rfl ?_
  refine r_istore_n dX5_init_45 (i := 1) rfl (Nat.le_of_ble_eq_true rfl) rfl rfl ?_
  refine V.eqC (cu2 := 3 + 7 * 0) (su2 := 13 + 44 * 0) (n2 := baseT t + 4 + 7 * 0) (by omega) (by omega) (by omega) ?_
  refine lX5 ht hf 8 0 rfl _ _ ⟨fun i h1 h2 h3 => ?_, ⟨?_, ?_⟩, fun _ => ⟨?_, ?_⟩, fun i h6 h => ⟨?_, ?_⟩⟩
  · rcases (show i = baseT t + 2 ∨ i = baseT t + 3 by omega) with rfl | rfl
    · rw [e2]
      refine ⟨by funext x; simp [rset, RPx, RP, z2.1], ?_⟩
      funext x
      match x with
      | 0 => simp [hset, HPx]
      | 1 => simp [hset, HPx]
      | 2 => simp [hset, HPx]
      | x + 3 => simp [hset, HPx, z2.2]
    · rw [e3]
      exact ⟨by funext x; simp [rset, RPx, RP, z3.1], by funext x; simp [hset, HPx, z3.2]⟩
  · rw [e0]
    funext x
    match x with
    | 0 => simp [rset, RPx, RP]
    | 1 => simp [rset, RPx, RP]
    | 2 => simp [rset, RPx, RP]
    | x + 3 => simp [rset, RPx, RP, z0.1]
  · rw [e0]
    funext x
    by_cases hx : x = 4
    · simp [hset, HPx, hx]
    · simp [hset, HPx, hx, z0.2]
  · rw [e1]
    funext x
    simp [rset, z1.1]
  · rw [e1]
    funext x
    simp [hset, HPx, z1.2]
  · rw [← e0, rset_nm h6 (by omega) (by omega), rset_nm h6 (by omega) (by omega), rset_nm h6 (by omega) (by omega)]
  · rw [← e0, ← e2, hset_nm h6 (by omega) (by omega), hset_nm h6 (by omega) (by omega), hset_nm h6 (by omega) (by omega), hset_nm h6 (by omega) (by omega)]
theorem JJ.start {lo e : Nat} {s : Nat → Option A4} (hf : fr lo rp hp) (h6 : lo < 609) (he : lo < e) (hH : HPx (nm lo) = fun _ => 0) : JJ lo e (lo + 1) (fun _ => none) s rp hp rp hp := by
  have z := hf lo (Nat.le_refl _) h6
  exact ⟨fun i h1 h2 _ => by omega, ⟨z.1, by rw [z.2, hH]⟩, fun h => by omega, fun i _ _ => ⟨rfl, rfl⟩⟩
theorem nm_483 : nm 483 = (10, 0, 0, 0) := by decide +kernel
theorem nm_61 : nm 61 = (8, 0, 0, 0) := by decide +kernel
theorem nm_62 : nm 62 = (9, 0, 0, 0) := by decide +kernel
theorem nm_0 : nm 0 = (15, 0, 0, 0) := by decide +kernel
theorem nm_604 : nm 604 = (11, 0, 0, 0) := by decide +kernel
theorem nm_605 : nm 605 = (12, 0, 0, 0) := by decide +kernel
theorem nm_606 : nm 606 = (13, 0, 0, 0) := by decide +kernel
theorem nm_607 : nm 607 = (14, 0, 0, 0) := by decide +kernel
theorem nm_608 : nm 608 = (16, 0, 0, 0) := by decide +kernel
theorem HPx_0 {a : A4} (h : a.1 ≠ 0 ∧ a.1 ≠ 2) : HPx a = fun _ => 0 := by
  funext x
  simp [HPx, h.1, h.2]
theorem RPx_0 {a : A4} (h : RP a = fun _ => none) : RPx a = fun _ => none := by
  funext x
  simp [RPx, h]
theorem bT_1 {j : Nat} (hj : j < 7) : baseT (j + 1) = 63 + 60 * j := by
  unfold baseT
  rw [if_neg (by omega), if_pos (by omega)]
  omega
theorem bT_8 {j : Nat} : baseT (j + 8) = 484 + 60 * j := by
  unfold baseT
  rw [if_neg (by omega), if_neg (by omega)]
  omega

theorem lX1 (hf : fr 61 r0 h0) : ∀ k j, j + k = 7 → ∀ rp hp, JJ 61 62 (63 + 60 * j) (RPx (8, 0, 0, 0)) (fun x => if x < j then some (0, x + 1, 0, 0) else none) r0 h0 rp hp → V g mX1_init 421 2632 (1 + 60 * j) (7 + 375 * j) (63 + 60 * j) 15 [some (vR (8, 0, 0, 0)), some (vI (nI j))] [] rp hp (fun v n' rp' hp' => v = none ∧ n' = 483 ∧ DN 61 483 r0 h0 rp' hp') := by
  intro k
  induction k with
  | zero =>
    intro j hj rp hp hJ
    obtain rfl : j = 7 := by omega
    refine r_iload_n dX1_init_15 (i := 1) rfl rfl ?_
    refine r_bipush dX1_init_16 (v := 7) rfl ?_
    refine r_icmp_ge dX1_init_18 (tgt := 40) rfl (fun _ => ?_) (fun h => absurd (by decide) h)
    refine r_retV dX1_init_40 rfl (by decide) (by decide) ⟨rfl, rfl, hJ.fin (by rw [nm_61]) ?_⟩
    rw [nm_62]
    funext x
    by_cases hx : x < 7
    · simp [hx, RPx, RP, Nat.not_le.mpr hx]
    · simp [hx, RPx, Nat.not_lt.mp hx]
  | succ k ih =>
    intro j hj rp hp hJ
    have hj7 : j < 7 := by omega
    obtain ⟨s0, -, -, -, s7⟩ := sb_2 (j + 1) (by omega)
    have hB := bT_1 hj7
    have hfn := hJ.free hf (by omega)
    have hr0 : rp (8, 0, 0, 0) = RPx (8, 0, 0, 0) := by
      have z := hJ.2.1.1
      rw [nm_61] at z
      exact z
    rw [← hB] at hfn
    refine V.eqC rfl rfl hB.symm ?_
    refine r_iload_n dX1_init_15 (i := 1) rfl rfl ?_
    refine r_bipush dX1_init_16 (v := 7) rfl ?_
    refine r_icmp_ge dX1_init_18 (tgt := 40) rfl (fun h => absurd h (nI_ge (b := 7) hj7 (by decide))) (fun _ => ?_)
    refine r_aload_n dX1_init_21 (i := 0) rfl rfl ?_
    refine r_getR dX1_init_22 f_1_11 rfl rfl (b := (9, 0, 0, 0)) (by rw [hr0]; simp [RPx, RP]) (lv_nm nm_61 (by omega) (by omega)) ?_
    refine r_iload_n dX1_init_25 (i := 1) rfl rfl ?_
    refine r_new dX1_init_26 (ci := 5) (Cn := RX5) (T := TX5) (N := 10) rfl wd_198 wd_70 wd_54 (by omega) (by rw [s0]; rfl) (hfn _ (Nat.le_refl _) (by omega)).1 (hfn _ (Nat.le_refl _) (by omega)).2 (by omega) (by omega) ?_
    rw [s0]
    refine r_dup dX1_init_29 rfl ?_
    refine r_callIN dX1_init_30 (coX5_init (by decide) (by decide)) (as := []) (b := (0, j + 1, 0, 0)) wd_200 wd_72 rfl rfl rfl rfl (Nat.le_of_ble_eq_true rfl) (by omega) (by omega) (Nat.le_of_ble_eq_true rfl) (cX5 (by omega) hfn) ?_
    rintro v n' rp1 hp1 ⟨rfl, rfl, hD⟩
    refine n_aast dX1_init_33 (k := j) (ci := 5) (q := (RX5, TX5, 10)) rfl (lv_nm nm_62 (by omega) (by omega)) (lv_nm s0 (by omega) (by omega)) rfl rfl rfl rfl hj7 ?_
    refine r_inc1 dX1_init_34 rfl (Nat.le_of_ble_eq_true rfl) rfl ?_
    refine r_goto dX1_init_37 (tgt := 15) rfl ?_
    refine V.eqC (cu2 := 1 + 60 * (j + 1)) (su2 := 7 + 375 * (j + 1)) (n2 := 63 + 60 * (j + 1)) (by omega) (by omega) (by omega) ?_
    refine V.eqL (L2 := [some (vR (8, 0, 0, 0)), some (vI (nI (j + 1)))]) (by rw [← nI_1]; rfl) ?_
    refine ih (j + 1) (by omega) _ _ ?_
    rw [hB] at hD
    have h3 := (hJ.dn hD (by omega) (by omega) (by omega) (by omega)).ss (k := j) (b := (0, j + 1, 0, 0)) (s2 := fun x => if x < j + 1 then some (0, x + 1, 0, 0) else none) nm_62 (by omega) (by omega) (by omega) (fun x => by
      by_cases h : x = j
      · subst h
        rw [if_pos rfl, if_pos (Nat.lt_succ_self _)]
      · rw [if_neg h]
        by_cases h2 : x < j
        · rw [if_pos h2, if_pos (by omega)]
        · rw [if_neg h2, if_neg (by omega)])
    rw [show 63 + 60 * (j + 1) = 63 + 60 * j + 60 by omega]
    exact h3
theorem cX1 (hf : fr 61 rp hp) : V g mX1_init 421 2632 0 0 62 0 (inL [vR (8, 0, 0, 0)] 2) [] rp hp (fun v n' rp' hp' => v = none ∧ n' = 483 ∧ DN 61 483 rp hp rp' hp') := by
  have z := hf 62 (by decide) (by decide)
  refine r_aload_n dX1_init_0 (i := 0) rfl rfl ?_
  refine r_objInit dX1_init_1 wd_197 wd_67 wd_68 (by decide) (Nat.le_of_ble_eq_true rfl) ?_
  refine r_aload_n dX1_init_4 (i := 0) rfl rfl ?_
  refine r_bipush dX1_init_5 (v := 7) rfl ?_
  refine r_anew dX1_init_7 (t := 3) (len := 7) (Cn := RX5) wd_198 (Or.inl rfl) rfl rfl (by decide) (by decide) (by rw [nm_62]; rfl) z.1 (by decide) (by decide) ?_
  rw [nm_62]
  refine r_pf dX1_init_10 f_1_11 rfl rfl (lv_nm nm_61 (by decide) (by decide)) rfl rfl ?_
  refine r_iconst dX1_init_13 (v := 0) rfl ?_
  refine r_istore_n dX1_init_14 (i := 1) rfl (Nat.le_of_ble_eq_true rfl) rfl rfl ?_
  have h1 : JJ 61 62 62 (fun _ => none) (fun _ => none) rp hp rp hp := JJ.start hf (by decide) (by decide) (by rw [nm_61]; exact HPx_0 (by decide))
  have h2 := (h1.arr hf (by decide) (by decide) (by rw [nm_62]; exact HPx_0 (by decide))).sf (k := 0) (b := (9, 0, 0, 0)) nm_61 (by decide) (by decide) (by decide)
  have ef : (fun x => if x = 0 then some ((9, 0, 0, 0) : A4) else none) = RPx (8, 0, 0, 0) := by
    funext x
    match x with
    | 0 => simp [RPx, RP]
    | x + 1 => simp [RPx, RP]
  rw [ef] at h2
  exact lX1 hf 7 0 rfl _ _ h2
theorem cX2 (hf : fr 605 rp hp) : V g mX2_init 1 80 0 0 606 0 (inL [vR (12, 0, 0, 0)] 1) [] rp hp (fun v n' rp' hp' => v = none ∧ n' = 607 ∧ DN 605 607 rp hp rp' hp') := by
  have z := hf 606 (by decide) (by decide)
  refine r_aload_n dX2_init_0 (i := 0) rfl rfl ?_
  refine r_objInit dX2_init_1 wd_217 wd_67 wd_68 (by decide) (Nat.le_of_ble_eq_true rfl) ?_
  refine r_aload_n dX2_init_4 (i := 0) rfl rfl ?_
  refine r_bipush dX2_init_5 (v := 80) rfl ?_
  refine r_newa dX2_init_7 (ty := .char) (t := 2) (len := 80) wd_225 rfl rfl (fun _ h => by cases h) rfl rfl (by decide) (by decide) (by rw [nm_606]; rfl) (by decide) z.2 (by decide) (by decide) ?_
  rw [nm_606]
  refine r_pf dX2_init_9 f_2_9 rfl rfl (lv_nm nm_605 (by decide) (by decide)) rfl rfl ?_
  have h1 : JJ 605 700 606 (fun _ => none) (RPx (nm 700)) rp hp rp hp := JJ.start hf (by decide) (by decide) (by rw [nm_605]; exact HPx_0 (by decide))
  have h2 := (h1.new hf (by decide) (by decide) (by decide) (by rw [nm_606]; exact RPx_0 rfl) (by rw [nm_606]; exact HPx_0 (by decide))).sf (k := 0) (b := (13, 0, 0, 0)) nm_605 (by decide) (by decide) (by decide)
  refine r_retV dX2_init_12 rfl (by decide) (by decide) ⟨rfl, rfl, h2.fin ?_ rfl⟩
  rw [nm_605]
  funext x
  match x with
  | 0 => simp [RPx, RP]
  | x + 1 => simp [RPx, RP]
theorem cX3 (hf : fr 607 rp hp) : V g mX3_init 0 0 0 0 608 0 (inL [vR (14, 0, 0, 0), vR (12, 0, 0, 0)] 2) [] rp hp (fun v n' rp' hp' => v = none ∧ n' = 608 ∧ DN 607 608 rp hp rp' hp') := by
  refine r_aload_n dX3_init_0 (i := 0) rfl rfl ?_
  refine r_objInit dX3_init_1 wd_231 wd_67 wd_68 (by decide) (Nat.le_of_ble_eq_true rfl) ?_
  refine r_aload_n dX3_init_4 (i := 0) rfl rfl ?_
  refine r_aload_n dX3_init_5 (i := 1) rfl rfl ?_
  refine r_pf dX3_init_6 f_3_9 rfl rfl (lv_nm nm_607 (by decide) (by decide)) rfl rfl ?_
  have h1 : JJ 607 700 608 (fun _ => none) (RPx (nm 700)) rp hp rp hp := JJ.start hf (by decide) (by decide) (by rw [nm_607]; exact HPx_0 (by decide))
  have h2 := h1.sf (k := 0) (b := (12, 0, 0, 0)) nm_607 (by decide) (by decide) (by decide)
  refine r_retV dX3_init_9 rfl (by decide) (by decide) ⟨rfl, rfl, h2.fin ?_ rfl⟩
  rw [nm_607]
  funext x
  match x with
  | 0 => simp [RPx, RP]
  | x + 1 => simp [RPx, RP]
theorem lX6 (hj : j < 2) (hf : fr 0 r0 h0) (hJ : JJ 0 483 (484 + 60 * j) f (fun x => if x < j then some (0, x + 8, 0, 0) else none) r0 h0 rp hp) (hf2 : f 2 = some (10, 0, 0, 0)) (hcu : cu + 60 ≤ 607) (hsu : su + 375 ≤ 3853) (kk : ∀ rp' hp', JJ 0 483 (484 + 60 * (j + 1)) f (fun x => if x < j + 1 then some (0, x + 8, 0, 0) else none) r0 h0 rp' hp' → V g mX6_init 607 3853 (cu + 60) (su + 375) (484 + 60 * (j + 1)) 36 [some (vR (15, 0, 0, 0)), some (vI (nI (j + 1)))] [] rp' hp' P) : V g mX6_init 607 3853 cu su (484 + 60 * j) 36 [some (vR (15, 0, 0, 0)), some (vI (nI j))] [] rp hp P := by
  obtain ⟨s0, -, -, -, s7⟩ := sb_2 (j + 8) (by omega)
  have hB := bT_8 (j := j)
  have hfn := hJ.free hf (by omega)
  have hr0 : rp (15, 0, 0, 0) = f := by
    have z := hJ.2.1.1
    rw [nm_0] at z
    exact z
  rw [← hB] at hfn
  refine V.eqC rfl rfl hB.symm ?_
  refine r_iload_n dX6_init_36 (i := 1) rfl rfl ?_
  refine r_iconst dX6_init_37 (v := 2) rfl ?_
  refine r_icmp_ge dX6_init_38 (tgt := 60) rfl (fun h => absurd h (nI_ge (b := 2) hj (by decide))) (fun _ => ?_)
  refine r_aload_n dX6_init_41 (i := 0) rfl rfl ?_
  refine r_getR dX6_init_42 f_6_23 rfl rfl (b := (10, 0, 0, 0)) (by rw [hr0]; exact hf2) (lv_nm nm_0 (by omega) (by omega)) ?_
  refine r_iload_n dX6_init_45 (i := 1) rfl rfl ?_
  refine r_new dX6_init_46 (ci := 5) (Cn := RX5) (T := TX5) (N := 10) rfl wd_69 wd_70 wd_54 (by omega) (by rw [s0]; rfl) (hfn _ (Nat.le_refl _) (by omega)).1 (hfn _ (Nat.le_refl _) (by omega)).2 (by omega) (by omega) ?_
  rw [s0]
  refine r_dup dX6_init_49 rfl ?_
  refine r_callIN dX6_init_50 (coX5_init (by decide) (by decide)) (as := []) (b := (0, j + 8, 0, 0)) wd_71 wd_72 rfl rfl rfl rfl (Nat.le_of_ble_eq_true rfl) (by omega) (by omega) (Nat.le_of_ble_eq_true rfl) (cX5 (by omega) hfn) ?_
  rintro v n' rp1 hp1 ⟨rfl, rfl, hD⟩
  refine n_aast dX6_init_53 (k := j) (ci := 5) (q := (RX5, TX5, 10)) rfl (lv_nm nm_483 (by omega) (by omega)) (lv_nm s0 (by omega) (by omega)) rfl rfl rfl rfl hj ?_
  refine r_inc1 dX6_init_54 rfl (Nat.le_of_ble_eq_true rfl) rfl ?_
  refine r_goto dX6_init_57 (tgt := 36) rfl ?_
  refine V.eqC (cu2 := cu + 60) (su2 := su + 375) (n2 := 484 + 60 * (j + 1)) (by omega) (by omega) (by omega) ?_
  refine V.eqL (L2 := [some (vR (15, 0, 0, 0)), some (vI (nI (j + 1)))]) (by rw [← nI_1]; rfl) ?_
  refine kk _ _ ?_
  rw [hB] at hD
  have h3 := (hJ.dn hD (by omega) (by omega) (by omega) (by omega)).ss (k := j) (b := (0, j + 8, 0, 0)) (s2 := fun x => if x < j + 1 then some (0, x + 8, 0, 0) else none) nm_483 (by omega) (by omega) (by omega) (fun x => by
    by_cases h : x = j
    · subst h
      rw [if_pos rfl, if_pos (Nat.lt_succ_self _)]
    · rw [if_neg h]
      by_cases h2 : x < j
      · rw [if_pos h2, if_pos (by omega)]
      · rw [if_neg h2, if_neg (by omega)])
  rw [show 484 + 60 * (j + 1) = 484 + 60 * j + 60 by omega]
  exact h3
theorem cX6 (hf : fr 0 rp hp) : V g mX6_init 607 3853 0 0 1 0 (inL [vR (15, 0, 0, 0)] 2) [] rp hp (fun v n' rp' hp' => v = none ∧ n' = 608 ∧ DN 0 608 rp hp rp' hp') := by
  have e1 : nm 1 = (0, 0, 0, 0) := (sb_2 0 (by decide)).1
  have j1 : JJ 0 483 1 (fun _ => none) (fun _ => none) rp hp rp hp := JJ.start hf (by decide) (by decide) (by rw [nm_0]; exact HPx_0 (by decide))
  have f1 := j1.free hf (by decide)
  refine r_aload_n dX6_init_0 (i := 0) rfl rfl ?_
  refine r_objInit dX6_init_1 wd_66 wd_67 wd_68 (by decide) (Nat.le_of_ble_eq_true rfl) ?_
  refine r_aload_n dX6_init_4 (i := 0) rfl rfl ?_
  refine r_new dX6_init_5 (ci := 5) (Cn := RX5) (T := TX5) (N := 10) rfl wd_69 wd_70 wd_54 (by decide) (by rw [e1]; rfl) (f1 _ (Nat.le_refl _) (by decide)).1 (f1 _ (Nat.le_refl _) (by decide)).2 (by decide) (by decide) ?_
  rw [e1]
  refine r_dup dX6_init_8 rfl ?_
  refine r_callIN dX6_init_9 (coX5_init (by decide) (by decide)) (as := []) (b := (0, 0, 0, 0)) wd_71 wd_72 rfl rfl rfl rfl (Nat.le_of_ble_eq_true rfl) (by decide) (by decide) (Nat.le_of_ble_eq_true rfl) (cX5 (t := 0) (by decide) f1) ?_
  rintro v n' rp1 hp1 ⟨rfl, rfl, hD⟩
  refine V.eqC (cu2 := 60) (su2 := 375) (n2 := 61) rfl rfl rfl ?_
  have j2 : JJ 0 483 61 _ _ rp hp rp1 hp1 := j1.dn hD (by decide) (by decide) (by decide) (Or.inr (by decide))
  refine r_pf dX6_init_12 f_6_12 rfl rfl (lv_nm nm_0 (by decide) (by decide)) rfl rfl ?_
  have j3 := j2.sf (k := 0) (b := (0, 0, 0, 0)) nm_0 (by decide) (by decide) (by decide)
  have f3 := j3.free hf (by decide)
  refine r_aload_n dX6_init_15 (i := 0) rfl rfl ?_
  refine r_new dX6_init_16 (ci := 1) (Cn := RX1) (T := TX1) (N := 3) rfl wd_192 wd_193 wd_57 (by decide) (by rw [nm_61]; rfl) (f3 _ (Nat.le_refl _) (by decide)).1 (f3 _ (Nat.le_refl _) (by decide)).2 (by decide) (by decide) ?_
  rw [nm_61]
  refine r_dup dX6_init_19 rfl ?_
  refine r_callIN dX6_init_20 (coX1_init (by decide) (by decide)) (as := []) (b := (8, 0, 0, 0)) wd_194 wd_195 rfl rfl rfl rfl (Nat.le_of_ble_eq_true rfl) (by decide) (by decide) (Nat.le_of_ble_eq_true rfl) (cX1 f3) ?_
  rintro v n' rp2 hp2 ⟨rfl, rfl, hD⟩
  refine V.eqC (cu2 := 482) (su2 := 3010) (n2 := 483) rfl rfl rfl ?_
  have j4 := j3.dn hD (by decide) (by decide) (by decide) (Or.inr (by decide))
  refine r_pf dX6_init_23 f_6_19 rfl rfl (lv_nm nm_0 (by decide) (by decide)) rfl rfl ?_
  have j5 := j4.sf (k := 1) (b := (8, 0, 0, 0)) nm_0 (by decide) (by decide) (by decide)
  have f5 := j5.free hf (by decide)
  refine r_aload_n dX6_init_26 (i := 0) rfl rfl ?_
  refine r_iconst dX6_init_27 (v := 2) rfl ?_
  refine r_anew dX6_init_28 (t := 3) (len := 2) (Cn := RX5) wd_69 (Or.inl rfl) rfl rfl (by decide) (by decide) (by rw [nm_483]; rfl) (f5 _ (Nat.le_refl _) (by decide)).1 (by decide) (by decide) ?_
  rw [nm_483]
  have j6 := j5.arr hf (by decide) (by decide) (by rw [nm_483]; exact HPx_0 (by decide))
  refine r_pf dX6_init_31 f_6_23 rfl rfl (lv_nm nm_0 (by decide) (by decide)) rfl rfl ?_
  have j7 := j6.sf (k := 2) (b := (10, 0, 0, 0)) nm_0 (by decide) (by decide) (by decide)
  refine r_iconst dX6_init_34 (v := 0) rfl ?_
  refine r_istore_n dX6_init_35 (i := 1) rfl (Nat.le_of_ble_eq_true rfl) rfl rfl ?_
  refine V.eqC (cu2 := 483) (su2 := 3012) (n2 := 484 + 60 * 0) rfl rfl rfl ?_
  refine lX6 (j := 0) (by decide) hf j7 rfl (by decide) (by decide) (fun rp3 hp3 j8 => ?_)
  refine lX6 (j := 1) (by decide) hf j8 rfl (by decide) (by decide) (fun rp4 hp4 j9 => ?_)
  refine V.eqC (cu2 := 603) (su2 := 3762) (n2 := 604) rfl rfl rfl ?_
  refine r_iload_n dX6_init_36 (i := 1) rfl rfl ?_
  refine r_iconst dX6_init_37 (v := 2) rfl ?_
  refine r_icmp_ge dX6_init_38 (tgt := 60) rfl (fun _ => ?_) (fun h => absurd (by decide) h)
  have f9 := j9.free hf (by decide)
  refine r_aload_n dX6_init_60 (i := 0) rfl rfl ?_
  refine r_iconst dX6_init_61 (v := 2) rfl ?_
  refine r_newa dX6_init_62 (ty := .boolean) (t := 1) (len := 2) wd_119 rfl rfl (fun _ h => by cases h) rfl rfl (by decide) (by decide) (by rw [nm_604]; rfl) (by decide) (f9 604 (by decide) (by decide)).2 (by decide) (by decide) ?_
  rw [nm_604]
  have j10 : JJ 0 483 605 _ _ rp hp rp4 hp4 := j9.new hf (by decide) (by decide) (by decide) (by rw [show 484 + 60 * (1 + 1) = 604 from rfl, nm_604]; exact RPx_0 rfl) (by rw [show 484 + 60 * (1 + 1) = 604 from rfl, nm_604]; exact HPx_0 (by decide))
  refine r_pf dX6_init_64 f_6_27 rfl rfl (lv_nm nm_0 (by decide) (by decide)) rfl rfl ?_
  have j11 := j10.sf (k := 3) (b := (11, 0, 0, 0)) nm_0 (by decide) (by decide) (by decide)
  have f11 := j11.free hf (by decide)
  refine r_aload_n dX6_init_67 (i := 0) rfl rfl ?_
  refine r_new dX6_init_68 (ci := 2) (Cn := RX2) (T := TX2) (N := 2) rfl wd_212 wd_213 wd_58 (by decide) (by rw [nm_605]; rfl) (f11 _ (Nat.le_refl _) (by decide)).1 (f11 _ (Nat.le_refl _) (by decide)).2 (by decide) (by decide) ?_
  rw [nm_605]
  refine r_dup dX6_init_71 rfl ?_
  refine r_callIN dX6_init_72 (coX2_init (by decide) (by decide)) (as := []) (b := (12, 0, 0, 0)) wd_214 wd_215 rfl rfl rfl rfl (Nat.le_of_ble_eq_true rfl) (by decide) (by decide) (Nat.le_of_ble_eq_true rfl) (cX2 f11) ?_
  rintro v n' rp5 hp5 ⟨rfl, rfl, hD⟩
  have j12 := j11.dn hD (by decide) (by decide) (by decide) (Or.inl (by decide))
  refine r_pf dX6_init_75 f_6_34 rfl rfl (lv_nm nm_0 (by decide) (by decide)) rfl rfl ?_
  have j13 := j12.sf (k := 4) (b := (12, 0, 0, 0)) nm_0 (by decide) (by decide) (by decide)
  have f13 := j13.free hf (by decide)
  refine r_aload_n dX6_init_78 (i := 0) rfl rfl ?_
  refine r_new dX6_init_79 (ci := 3) (Cn := RX3) (T := TX3) (N := 7) rfl wd_226 wd_227 wd_59 (by decide) (by rw [nm_607]; rfl) (f13 _ (Nat.le_refl _) (by decide)).1 (f13 _ (Nat.le_refl _) (by decide)).2 (by decide) (by decide) ?_
  rw [nm_607]
  refine r_dup dX6_init_82 rfl ?_
  refine r_aload_n dX6_init_83 (i := 0) rfl rfl ?_
  refine r_getR dX6_init_84 f_6_34 rfl rfl (b := (12, 0, 0, 0)) (by simp [rset]) (lv_nm nm_0 (by decide) (by decide)) ?_
  refine r_callIN dX6_init_87 (coX3_init (by decide) (by decide)) (as := [vR (12, 0, 0, 0)]) (b := (14, 0, 0, 0)) wd_228 wd_229 rfl rfl rfl rfl (Nat.le_of_ble_eq_true rfl) (by decide) (by decide) (Nat.le_of_ble_eq_true rfl) (cX3 f13) ?_
  rintro v n' rp6 hp6 ⟨rfl, rfl, hD⟩
  have j14 := j13.dn hD (by decide) (by decide) (by decide) (Or.inl (by decide))
  refine r_pf dX6_init_90 f_6_43 rfl rfl (lv_nm nm_0 (by decide) (by decide)) rfl rfl ?_
  have j15 := j14.sf (k := 5) (b := (14, 0, 0, 0)) nm_0 (by decide) (by decide) (by decide)
  refine r_retV dX6_init_93 rfl (by decide) (by decide) ⟨rfl, rfl, j15.fin ?_ ?_⟩
  · rw [nm_0]
    funext x
    match x with
    | 0 => simp [RPx, RP]
    | 1 => simp [RPx, RP]
    | 2 => simp [RPx, RP]
    | 3 => simp [RPx, RP]
    | 4 => simp [RPx, RP]
    | 5 => simp [RPx, RP]
    | x + 6 => simp [RPx, RP]
  · rw [nm_483]
    funext x
    by_cases hx : x < 2
    · simp [hx, RPx, RP, Nat.not_le.mpr hx]
    · simp [hx, RPx, Nat.not_lt.mp hx]
end CD
