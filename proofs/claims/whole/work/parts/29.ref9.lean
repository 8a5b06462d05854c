/-- a number read: what takesNumber answers, where it stops, whether it is wrong -/
def isD (x : Int32) : Bool := fIn x 48 57
theorem isD_of {x : Int32} (h : isD x = true) : ∃ d, d < 10 ∧ x - 48 = nI d := by
  unfold isD fIn at h
  simp only [Bool.and_eq_true, Bool.not_eq_true', decide_eq_false_iff_not] at h
  obtain ⟨h1, h2⟩ := h
  have h3 : ¬ x < 0 := fun h => h1 (by
    have e1 := Int32.lt_iff_toInt_lt.mp h
    refine Int32.lt_iff_toInt_lt.mpr ?_
    have e2 : (48 : Int32).toInt = 48 := by decide
    have e3 : (0 : Int32).toInt = 0 := by decide
    omega)
  obtain ⟨j, hj, rfl⟩ := nI_of h3
  have h4 : 48 ≤ j := by
    apply Nat.le_of_not_lt
    intro h5
    exact h1 (nI_lt (b := 48) h5 (by decide))
  have h5 : j ≤ 57 := by
    apply Nat.le_of_not_lt
    intro h6
    exact h2 (nI_lt (a := 57) h6 (by omega))
  exact ⟨j - 48, by omega, pk_sub (b := 48) h4⟩
theorem isD_n0 {x : Int32} (h : isD x = true) : ¬ x = 0 := by
  intro h0
  subst h0
  revert h
  decide
theorem isD_pos {v d : Nat} (h1 : ¬ nI v ≤ 0) (hv : v < 1000) (hd : d < 10) : ¬ 10 * nI v + nI d ≤ 0 := by
  have hv0 : 0 < v := by
    apply Nat.pos_of_ne_zero
    intro h
    subst h
    exact h1 (by decide)
  rw [show (10 : Int32) = nI 10 from rfl, pk_mul, nI_add]
  exact nI_nle (by omega) (by omega)
abbrev TS := Int32 × Nat × Bool
def tk (c : Nat → Int32) (lo hi : Int32) (p : Nat) (w : Bool) : TS := (c p - lo, tkP c lo hi p w, tkW c lo hi p w)
def tN (c : Nat → Int32) (p : Nat) (w : Bool) : TS :=
  if w = true ∨ isD (c p) = false then (c p - 48, p, true)
  else if c p - 48 ≤ 0 then (c p - 48, p + 1, false)
  else if isD (c (p + 1)) = false then (c p - 48, p + 1, false)
  else if isD (c (p + 2)) = false then (10 * (c p - 48) + (c (p + 1) - 48), p + 2, false)
  else (10 * (10 * (c p - 48) + (c (p + 1) - 48)) + (c (p + 2) - 48), p + 3, false)
def tB (c : Nat → Int32) (x wo : Int32) (p : Nat) (w : Bool) : TS := if (!w && decide (c p = x)) = true then tN c (p + 1) w else (wo, p, w)
section RN
variable {g : Gh} {hp : HPt} {len p : Nat} {w : Bool} {o : Nat → Int32}
theorem cRf_lt {x : Int32} (h : cRf hp len p = x) (hx : ¬ x = 0) : p < len := by
  apply Nat.lt_of_not_le
  intro h2
  exact hx (by rw [← h]; exact if_neg (by omega))
theorem cRf_on (h : p < len) : cRf hp len p = hp (21, 0, 0, 0) p := if_pos h
theorem lN_exit {k : Nat} {v : Int32} (hl : len ≤ 80) (hL : hp (16, 0, 0, 0) 6 = nI len) (hpl : p ≤ len) (hk : k = 2 ∨ v ≤ 0 ∨ w = true ∨ isD (cRf hp len p) = false) : V g mX7_takesNumber 0 0 0 0 616 11 [some (vR (16, 0, 0, 0)), some (vI v), some (vI (nI k))] [] RP (PQ hp p w o) (Pi v (PQ hp p w o)) := by
  by_cases h : p < len
  · rw [cRf_on h] at hk
    refine r_iload_n dX7_takesNumber_11 (i := 2) rfl rfl ?_
    refine r_iconst dX7_takesNumber_12 (v := 2) rfl ?_
    refine r_icmp_ge dX7_takesNumber_13 (tgt := 77) rfl (fun h13 => ?_) (fun h13 => ?_)
    · refine r_iload_n dX7_takesNumber_77 (i := 1) rfl rfl ?_
      exact e_i dX7_takesNumber_78 rfl (by first | rfl | exact bi_nar _) (by first | rfl | simp [bi, *]) rfl
    · refine r_iload_n dX7_takesNumber_16 (i := 1) rfl rfl ?_
      refine r_if_le dX7_takesNumber_17 (tgt := 77) rfl (fun h17 => ?_) (fun h17 => ?_)
      · refine r_iload_n dX7_takesNumber_77 (i := 1) rfl rfl ?_
        exact e_i dX7_takesNumber_78 rfl (by first | rfl | exact bi_nar _) (by first | rfl | simp [bi, *]) rfl
      · refine r_aload_n dX7_takesNumber_20 (i := 0) rfl rfl ?_
        refine r_getI dX7_takesNumber_21 f_7_159 rfl rfl lv16 ?_
        refine r_if_ne dX7_takesNumber_24 (tgt := 77) rfl (fun h24 => ?_) (fun h24 => ?_)
        · refine r_iload_n dX7_takesNumber_77 (i := 1) rfl rfl ?_
          exact e_i dX7_takesNumber_78 rfl (by first | rfl | exact bi_nar _) (by first | rfl | simp [bi, *]) rfl
        · refine r_aload_n dX7_takesNumber_27 (i := 0) rfl rfl ?_
          refine r_getI dX7_takesNumber_28 f_7_163 rfl rfl lv16 ?_
          refine r_aload_n dX7_takesNumber_31 (i := 0) rfl rfl ?_
          refine r_getI dX7_takesNumber_32 f_7_151 rfl rfl lv16 ?_
          refine r_icmp_ge dX7_takesNumber_35 (tgt := 77) rfl (fun h35 => absurd h35 ((by rw [PQ_8, PQ_6, hL]; exact nI_ge h (by omega)))) (fun _ => ?_)
          refine r_aload_n dX7_takesNumber_38 (i := 0) rfl rfl ?_
          refine r_getR dX7_takesNumber_39 f_7_23 rfl rfl rfl lv16 ?_
          refine r_aload_n dX7_takesNumber_42 (i := 0) rfl rfl ?_
          refine r_getI dX7_takesNumber_43 f_7_163 rfl rfl lv16 ?_
          refine n_iald dX7_takesNumber_46 rfl lv21 (k := p) PQ_8 (by omega) ?_
          refine r_bipush dX7_takesNumber_47 (v := 48) rfl ?_
          refine r_bipush dX7_takesNumber_49 (v := 57) rfl ?_
          refine sX7_takesNumber_51 (Nat.le_refl _) (Nat.le_refl _) (Nat.le_of_ble_eq_true rfl) (tX7_in) ?_
          refine r_if_eq dX7_takesNumber_54 (tgt := 77) rfl (fun h54 => ?_) (fun h54 => ?_)
          · refine r_iload_n dX7_takesNumber_77 (i := 1) rfl rfl ?_
            exact e_i dX7_takesNumber_78 rfl (by first | rfl | exact bi_nar _) (by first | rfl | simp [bi, *]) rfl
          · exfalso
            rw [PQ_9] at h24
            rw [PQ_21, bi_n0] at h54
            rcases hk with rfl | hk | hk | hk
            · exact h13 (by decide)
            · exact h17 hk
            · rw [hk] at h24; exact absurd h24 (by decide)
            · unfold isD at hk; rw [hk] at h54; exact absurd h54 (by decide)
  · refine r_iload_n dX7_takesNumber_11 (i := 2) rfl rfl ?_
    refine r_iconst dX7_takesNumber_12 (v := 2) rfl ?_
    refine r_icmp_ge dX7_takesNumber_13 (tgt := 77) rfl (fun h13 => ?_) (fun h13 => ?_)
    · refine r_iload_n dX7_takesNumber_77 (i := 1) rfl rfl ?_
      exact e_i dX7_takesNumber_78 rfl (by first | rfl | exact bi_nar _) (by first | rfl | simp [bi, *]) rfl
    · refine r_iload_n dX7_takesNumber_16 (i := 1) rfl rfl ?_
      refine r_if_le dX7_takesNumber_17 (tgt := 77) rfl (fun h17 => ?_) (fun h17 => ?_)
      · refine r_iload_n dX7_takesNumber_77 (i := 1) rfl rfl ?_
        exact e_i dX7_takesNumber_78 rfl (by first | rfl | exact bi_nar _) (by first | rfl | simp [bi, *]) rfl
      · refine r_aload_n dX7_takesNumber_20 (i := 0) rfl rfl ?_
        refine r_getI dX7_takesNumber_21 f_7_159 rfl rfl lv16 ?_
        refine r_if_ne dX7_takesNumber_24 (tgt := 77) rfl (fun h24 => ?_) (fun h24 => ?_)
        · refine r_iload_n dX7_takesNumber_77 (i := 1) rfl rfl ?_
          exact e_i dX7_takesNumber_78 rfl (by first | rfl | exact bi_nar _) (by first | rfl | simp [bi, *]) rfl
        · refine r_aload_n dX7_takesNumber_27 (i := 0) rfl rfl ?_
          refine r_getI dX7_takesNumber_28 f_7_163 rfl rfl lv16 ?_
          refine r_aload_n dX7_takesNumber_31 (i := 0) rfl rfl ?_
          refine r_getI dX7_takesNumber_32 f_7_151 rfl rfl lv16 ?_
          refine r_icmp_ge dX7_takesNumber_35 (tgt := 77) rfl (fun _ => ?_) (fun h35 => absurd ((by rw [PQ_8, PQ_6, hL]; exact nI_le (by omega) (by omega))) h35)
          refine r_iload_n dX7_takesNumber_77 (i := 1) rfl rfl ?_
          exact e_i dX7_takesNumber_78 rfl (by first | rfl | exact bi_nar _) (by first | rfl | simp [bi, *]) rfl
theorem lN_step {k : Nat} {v : Int32} {P : Pst} (hl : len ≤ 80) (hL : hp (16, 0, 0, 0) 6 = nI len) (hk : k < 2) (hv : ¬ v ≤ 0) (hd : isD (cRf hp len p) = true) (hE : V g mX7_takesNumber 0 0 0 0 616 11 [some (vR (16, 0, 0, 0)), some (vI (10 * v + (cRf hp len p - 48))), some (vI (nI (k + 1)))] [] RP (PQ hp (p + 1) false o) P) : V g mX7_takesNumber 0 0 0 0 616 11 [some (vR (16, 0, 0, 0)), some (vI v), some (vI (nI k))] [] RP (PQ hp p false o) P := by
  have h : p < len := cRf_lt rfl (isD_n0 hd)
  have eW : tkW (cRf hp len) 48 57 p false = false := by
    unfold isD at hd
    simp [tkW, hd]
  have eP : tkP (cRf hp len) 48 57 p false = p + 1 := by
    unfold tkP
    rw [eW]
    rfl
  have ht := tX7_takes (g := g) (hp := hp) (w := false) (o := o) (lo := 48) (hi := 57) hl hL (Nat.le_of_lt h)
  rw [eW, eP] at ht
  have hd2 := hd
  rw [cRf_on h] at hd2
  rw [nI_succ] at hE
  refine r_iload_n dX7_takesNumber_11 (i := 2) rfl rfl ?_
  refine r_iconst dX7_takesNumber_12 (v := 2) rfl ?_
  refine r_icmp_ge dX7_takesNumber_13 (tgt := 77) rfl (fun h13 => absurd h13 ((nI_ge (b := 2) hk (by decide) : ¬ (2 : Int32) ≤ nI k))) (fun _ => ?_)
  refine r_iload_n dX7_takesNumber_16 (i := 1) rfl rfl ?_
  refine r_if_le dX7_takesNumber_17 (tgt := 77) rfl (fun h17 => absurd h17 (hv)) (fun _ => ?_)
  refine r_aload_n dX7_takesNumber_20 (i := 0) rfl rfl ?_
  refine r_getI dX7_takesNumber_21 f_7_159 rfl rfl lv16 ?_
  refine r_if_ne dX7_takesNumber_24 (tgt := 77) rfl (fun h24 => absurd ((PQ_9 : _ = bi false)) h24) (fun _ => ?_)
  refine r_aload_n dX7_takesNumber_27 (i := 0) rfl rfl ?_
  refine r_getI dX7_takesNumber_28 f_7_163 rfl rfl lv16 ?_
  refine r_aload_n dX7_takesNumber_31 (i := 0) rfl rfl ?_
  refine r_getI dX7_takesNumber_32 f_7_151 rfl rfl lv16 ?_
  refine r_icmp_ge dX7_takesNumber_35 (tgt := 77) rfl (fun h35 => absurd h35 ((by rw [PQ_8, PQ_6, hL]; exact nI_ge h (by omega)))) (fun _ => ?_)
  refine r_aload_n dX7_takesNumber_38 (i := 0) rfl rfl ?_
  refine r_getR dX7_takesNumber_39 f_7_23 rfl rfl rfl lv16 ?_
  refine r_aload_n dX7_takesNumber_42 (i := 0) rfl rfl ?_
  refine r_getI dX7_takesNumber_43 f_7_163 rfl rfl lv16 ?_
  refine n_iald dX7_takesNumber_46 rfl lv21 (k := p) PQ_8 (by omega) ?_
  refine r_bipush dX7_takesNumber_47 (v := 48) rfl ?_
  refine r_bipush dX7_takesNumber_49 (v := 57) rfl ?_
  refine sX7_takesNumber_51 (Nat.le_refl _) (Nat.le_refl _) (Nat.le_of_ble_eq_true rfl) (tX7_in) ?_
  refine r_if_eq dX7_takesNumber_54 (tgt := 77) rfl (fun h54 => absurd h54 ((by rw [PQ_21]; exact bi_n0.mpr hd2))) (fun _ => ?_)
  refine r_bipush dX7_takesNumber_57 (v := 10) rfl ?_
  refine r_iload_n dX7_takesNumber_59 (i := 1) rfl rfl ?_
  refine r_imul dX7_takesNumber_60 ?_
  refine r_aload_n dX7_takesNumber_61 (i := 0) rfl rfl ?_
  refine r_bipush dX7_takesNumber_62 (v := 48) rfl ?_
  refine r_bipush dX7_takesNumber_64 (v := 57) rfl ?_
  refine sX7_takesNumber_66 (Nat.le_refl _) (Nat.le_refl _) rfl lv16 (Nat.le_of_ble_eq_true rfl) (ht) ?_
  refine r_iadd dX7_takesNumber_69 ?_
  refine r_istore_n dX7_takesNumber_70 (i := 1) rfl (Nat.le_of_ble_eq_true rfl) rfl rfl ?_
  refine r_inc1 dX7_takesNumber_71 rfl (Nat.le_of_ble_eq_true rfl) rfl ?_
  refine r_goto dX7_takesNumber_74 (tgt := 11) rfl ?_
  exact hE
theorem tX7_takesNumber (hl : len ≤ 80) (hL : hp (16, 0, 0, 0) 6 = nI len) (hpl : p ≤ len) : Ci g mX7_takesNumber [vR (16, 0, 0, 0)] (PQ hp p w o) (tN (cRf hp len) p w).1 (PQ hp (tN (cRf hp len) p w).2.1 (tN (cRf hp len) p w).2.2 o) := by
  unfold Ci
  by_cases h0 : w = true ∨ isD (cRf hp len p) = false
  · have eW : tkW (cRf hp len) 48 57 p w = true := by
      unfold tkW
      rcases h0 with h | h
      · simp [h]
      · unfold isD at h; simp [h]
    have eP : tkP (cRf hp len) 48 57 p w = p := by
      unfold tkP
      rw [eW]
      rfl
    have ht := tX7_takes (g := g) (hp := hp) (w := w) (o := o) (lo := 48) (hi := 57) hl hL hpl
    rw [eW, eP] at ht
    have e : tN (cRf hp len) p w = (cRf hp len p - 48, p, true) := if_pos h0
    rw [e]
    refine r_aload_n dX7_takesNumber_0 (i := 0) rfl rfl ?_
    refine r_bipush dX7_takesNumber_1 (v := 48) rfl ?_
    refine r_bipush dX7_takesNumber_3 (v := 57) rfl ?_
    refine sX7_takesNumber_5 (Nat.le_refl _) (Nat.le_refl _) rfl lv16 (Nat.le_of_ble_eq_true rfl) (ht) ?_
    refine r_istore_n dX7_takesNumber_8 (i := 1) rfl (Nat.le_of_ble_eq_true rfl) rfl rfl ?_
    refine r_iconst dX7_takesNumber_9 (v := 0) rfl ?_
    refine r_istore_n dX7_takesNumber_10 (i := 2) rfl (Nat.le_of_ble_eq_true rfl) rfl rfl ?_
    exact lN_exit (k := 0) hl hL hpl (Or.inr (Or.inr (Or.inl rfl)))
  · have hw : w = false := by
      cases w
      · rfl
      · exact absurd (Or.inl rfl) h0
    subst hw
    have hd : isD (cRf hp len p) = true := by
      cases hq : isD (cRf hp len p)
      · exact absurd (Or.inr hq) h0
      · rfl
    have hlt : p < len := cRf_lt rfl (isD_n0 hd)
    have eW : tkW (cRf hp len) 48 57 p false = false := by
      unfold isD at hd
      simp [tkW, hd]
    have eP : tkP (cRf hp len) 48 57 p false = p + 1 := by
      unfold tkP
      rw [eW]
      rfl
    have ht := tX7_takes (g := g) (hp := hp) (w := false) (o := o) (lo := 48) (hi := 57) hl hL hpl
    rw [eW, eP] at ht
    obtain ⟨d0, hd0, e0⟩ := isD_of hd
    have main : V g mX7_takesNumber 0 0 0 0 616 11 [some (vR (16, 0, 0, 0)), some (vI (cRf hp len p - 48)), some (vI (nI 0))] [] RP (PQ hp (p + 1) false o) (Pi (tN (cRf hp len) p false).1 (PQ hp (tN (cRf hp len) p false).2.1 (tN (cRf hp len) p false).2.2 o)) := by
      unfold tN
      rw [if_neg h0]
      split
      next h1 => exact lN_exit hl hL (by omega) (Or.inr (Or.inl h1))
      next h1 =>
        split
        next h2 => exact lN_exit hl hL (by omega) (Or.inr (Or.inr (Or.inr h2)))
        next h2 =>
          have hd1 : isD (cRf hp len (p + 1)) = true := by simpa using h2
          have hlt1 : p + 1 < len := cRf_lt rfl (isD_n0 hd1)
          obtain ⟨d1, hd1b, e1⟩ := isD_of hd1
          have hv1 : ¬ 10 * (cRf hp len p - 48) + (cRf hp len (p + 1) - 48) ≤ 0 := by
            rw [e0] at h1 ⊢
            rw [e1]
            exact isD_pos h1 (by omega) hd1b
          split
          next h3 => exact lN_step hl hL (by decide) h1 hd1 (lN_exit hl hL (by omega) (Or.inr (Or.inr (Or.inr h3))))
          next h3 =>
            have hd2 : isD (cRf hp len (p + 2)) = true := by simpa using h3
            have hlt2 : p + 2 < len := cRf_lt rfl (isD_n0 hd2)
            exact lN_step hl hL (by decide) h1 hd1 (lN_step hl hL (by decide) hv1 hd2 (lN_exit hl hL (by omega) (Or.inl rfl)))
    refine r_aload_n dX7_takesNumber_0 (i := 0) rfl rfl ?_
    refine r_bipush dX7_takesNumber_1 (v := 48) rfl ?_
    refine r_bipush dX7_takesNumber_3 (v := 57) rfl ?_
    refine sX7_takesNumber_5 (Nat.le_refl _) (Nat.le_refl _) rfl lv16 (Nat.le_of_ble_eq_true rfl) (ht) ?_
    refine r_istore_n dX7_takesNumber_8 (i := 1) rfl (Nat.le_of_ble_eq_true rfl) rfl rfl ?_
    refine r_iconst dX7_takesNumber_9 (v := 0) rfl ?_
    refine r_istore_n dX7_takesNumber_10 (i := 2) rfl (Nat.le_of_ble_eq_true rfl) rfl rfl ?_
    exact main
theorem tX7_takesBehind {x wo : Int32} (hl : len ≤ 80) (hL : hp (16, 0, 0, 0) 6 = nI len) (hpl : p ≤ len) (hx : ¬ x = 0) : Ci g mX7_takesBehind [vR (16, 0, 0, 0), vI x, vI wo] (PQ hp p w o) (tB (cRf hp len) x wo p w).1 (PQ hp (tB (cRf hp len) x wo p w).2.1 (tB (cRf hp len) x wo p w).2.2 o) := by
  unfold Ci
  cases hb : (!w && decide (cRf hp len p = x))
  · have e : tB (cRf hp len) x wo p w = (wo, p, w) := by simp [tB, hb]
    have hn := tX7_isNext (g := g) (hp := hp) (w := w) (o := o) hl hL hpl hx
    rw [hb] at hn
    rw [e]
    refine r_aload_n dX7_takesBehind_0 (i := 0) rfl rfl ?_
    refine r_iload_n dX7_takesBehind_1 (i := 1) rfl rfl ?_
    refine sX7_takesBehind_2 (Nat.le_refl _) (Nat.le_refl _) rfl lv16 (Nat.le_of_ble_eq_true rfl) (hn) ?_
    refine r_istore_n dX7_takesBehind_5 (i := 3) rfl (Nat.le_of_ble_eq_true rfl) rfl rfl ?_
    refine r_aload_n dX7_takesBehind_6 (i := 0) rfl rfl ?_
    refine r_dup dX7_takesBehind_7 rfl ?_
    refine r_getI dX7_takesBehind_8 f_7_163 rfl rfl lv16 ?_
    refine r_iload_n dX7_takesBehind_11 (i := 3) rfl rfl ?_
    refine r_if_eq dX7_takesBehind_12 (tgt := 19) rfl (fun _ => ?_) (fun h12 => absurd (rfl) h12)
    refine r_iconst dX7_takesBehind_19 (v := 0) rfl ?_
    refine r_iadd dX7_takesBehind_20 ?_
    refine r_putI dX7_takesBehind_21 f_7_163 rfl rfl lv16 ⟨rfl, rfl⟩ ?_
    refine V.eqH (hp2 := PQ hp p w o) (by rw [PQ_8, show nI p + 0 = nI p from nI_add p 0, PQ_sp]) ?_
    refine r_iload_n dX7_takesBehind_24 (i := 3) rfl rfl ?_
    refine r_if_eq dX7_takesBehind_25 (tgt := 35) rfl (fun _ => ?_) (fun h25 => absurd (rfl) h25)
    refine r_iload_n dX7_takesBehind_35 (i := 2) rfl rfl ?_
    exact e_i dX7_takesBehind_36 rfl (by first | rfl | exact bi_nar _) (by first | rfl | simp [bi, *]) rfl
  · have e : tB (cRf hp len) x wo p w = tN (cRf hp len) (p + 1) w := by simp [tB, hb]
    have hn := tX7_isNext (g := g) (hp := hp) (w := w) (o := o) hl hL hpl hx
    rw [hb] at hn
    rw [e]
    rw [Bool.and_eq_true] at hb
    have hlt : p < len := cRf_lt (of_decide_eq_true hb.2) hx
    refine r_aload_n dX7_takesBehind_0 (i := 0) rfl rfl ?_
    refine r_iload_n dX7_takesBehind_1 (i := 1) rfl rfl ?_
    refine sX7_takesBehind_2 (Nat.le_refl _) (Nat.le_refl _) rfl lv16 (Nat.le_of_ble_eq_true rfl) (hn) ?_
    refine r_istore_n dX7_takesBehind_5 (i := 3) rfl (Nat.le_of_ble_eq_true rfl) rfl rfl ?_
    refine r_aload_n dX7_takesBehind_6 (i := 0) rfl rfl ?_
    refine r_dup dX7_takesBehind_7 rfl ?_
    refine r_getI dX7_takesBehind_8 f_7_163 rfl rfl lv16 ?_
    refine r_iload_n dX7_takesBehind_11 (i := 3) rfl rfl ?_
    refine r_if_eq dX7_takesBehind_12 (tgt := 19) rfl (fun h12 => absurd h12 ((by decide))) (fun _ => ?_)
    refine r_iconst dX7_takesBehind_15 (v := 1) rfl ?_
    refine r_goto dX7_takesBehind_16 (tgt := 20) rfl ?_
    refine r_iadd dX7_takesBehind_20 ?_
    refine r_putI dX7_takesBehind_21 f_7_163 rfl rfl lv16 ⟨rfl, rfl⟩ ?_
    refine V.eqH (hp2 := PQ hp (p + 1) w o) (by rw [PQ_8, nI_1, PQ_sp]) ?_
    refine r_iload_n dX7_takesBehind_24 (i := 3) rfl rfl ?_
    refine r_if_eq dX7_takesBehind_25 (tgt := 35) rfl (fun h25 => absurd h25 ((by decide))) (fun _ => ?_)
    refine r_aload_n dX7_takesBehind_28 (i := 0) rfl rfl ?_
    refine sX7_takesBehind_29 (Nat.le_refl _) (Nat.le_refl _) rfl lv16 (Nat.le_of_ble_eq_true rfl) (tX7_takesNumber hl hL (by omega)) ?_
    refine r_goto dX7_takesBehind_32 (tgt := 36) rfl ?_
    exact e_i dX7_takesBehind_36 rfl (by first | rfl | exact bi_nar _) (by first | rfl | simp [bi, *]) rfl
theorem tN_le (hpl : p ≤ len) : (tN (cRf hp len) p w).2.1 ≤ len := by
  unfold tN
  split
  · exact hpl
  next h0 =>
    have hd : isD (cRf hp len p) = true := by
      cases hq : isD (cRf hp len p)
      · exact absurd (Or.inr hq) h0
      · rfl
    have hlt : p < len := cRf_lt rfl (isD_n0 hd)
    split
    · exact hlt
    · split
      · exact hlt
      next h2 =>
        have hlt1 : p + 1 < len := cRf_lt rfl (isD_n0 (by simpa using h2))
        split
        · exact hlt1
        next h3 => exact cRf_lt (p := p + 2) rfl (isD_n0 (by simpa using h3))
end RN
section RO
variable {g : Gh} {hp : HPt} {len p : Nat} {o : Nat → Int32}
theorem tX7_rO_k (hl : len ≤ 80) (hL : hp (16, 0, 0, 0) 6 = nI len) (hc : cRf hp len p = 107) : Cv g mX7_readOrder [vR (16, 0, 0, 0)] (PQ hp p false o) (PQ hp (tN (cRf hp len) (p + 1) false).2.1 (tN (cRf hp len) (p + 1) false).2.2 (up (up (up (up (up o 0 107) 1 (tN (cRf hp len) (p + 1) false).1) 2 0) 3 0) 4 0)) := by
  unfold Cv
  have h : p < len := cRf_lt hc (by decide)
  have hv : hp (21, 0, 0, 0) p = 107 := (cRf_on h).symm.trans hc
  refine r_aload_n dX7_readOrder_0 (i := 0) rfl rfl ?_
  refine r_getI dX7_readOrder_1 f_7_163 rfl rfl lv16 ?_
  refine r_aload_n dX7_readOrder_4 (i := 0) rfl rfl ?_
  refine r_getI dX7_readOrder_5 f_7_151 rfl rfl lv16 ?_
  refine r_icmp_ge dX7_readOrder_8 (tgt := 23) rfl (fun h8 => absurd h8 ((by rw [PQ_8, PQ_6, hL]; exact nI_ge h (by omega)))) (fun _ => ?_)
  refine r_aload_n dX7_readOrder_11 (i := 0) rfl rfl ?_
  refine r_getR dX7_readOrder_12 f_7_23 rfl rfl rfl lv16 ?_
  refine r_aload_n dX7_readOrder_15 (i := 0) rfl rfl ?_
  refine r_getI dX7_readOrder_16 f_7_163 rfl rfl lv16 ?_
  refine n_iald dX7_readOrder_19 rfl lv21 (k := p) PQ_8 (by omega) ?_
  refine r_goto dX7_readOrder_20 (tgt := 24) rfl ?_
  refine V.eqS (st2 := [vI 107]) (by rw [PQ_21, hv]) ?_
  refine r_istore_n dX7_readOrder_24 (i := 1) rfl (Nat.le_of_ble_eq_true rfl) rfl rfl ?_
  refine r_iload_n dX7_readOrder_25 (i := 1) rfl rfl ?_
  refine r_bipush dX7_readOrder_26 (v := 107) rfl ?_
  refine r_icmp_eq dX7_readOrder_28 (tgt := 73) rfl (fun _ => ?_) (fun h28 => absurd ((by decide)) h28)
  refine r_iconst dX7_readOrder_73 (v := 1) rfl ?_
  refine r_goto dX7_readOrder_74 (tgt := 78) rfl ?_
  refine r_istore_n dX7_readOrder_78 (i := 2) rfl (Nat.le_of_ble_eq_true rfl) rfl rfl ?_
  refine r_aload_n dX7_readOrder_79 (i := 0) rfl rfl ?_
  refine r_aload_n dX7_readOrder_80 (i := 0) rfl rfl ?_
  refine r_getI dX7_readOrder_81 f_7_159 rfl rfl lv16 ?_
  refine r_if_ne dX7_readOrder_84 (tgt := 91) rfl (fun h84 => absurd ((PQ_9 : _ = bi false)) h84) (fun _ => ?_)
  refine r_iload_n dX7_readOrder_87 (i := 2) rfl rfl ?_
  refine r_if_ne dX7_readOrder_88 (tgt := 95) rfl (fun _ => ?_) (fun h88 => absurd h88 ((by decide)))
  refine r_iconst dX7_readOrder_95 (v := 0) rfl ?_
  refine r_putI dX7_readOrder_96 f_7_159 rfl rfl lv16 ⟨rfl, rfl⟩ ?_
  refine V.eqH (PQ_sw (v := false)) ?_
  refine r_aload_n dX7_readOrder_99 (i := 0) rfl rfl ?_
  refine r_dup dX7_readOrder_100 rfl ?_
  refine r_getI dX7_readOrder_101 f_7_163 rfl rfl lv16 ?_
  refine r_aload_n dX7_readOrder_104 (i := 0) rfl rfl ?_
  refine r_getI dX7_readOrder_105 f_7_159 rfl rfl lv16 ?_
  refine r_if_eq dX7_readOrder_108 (tgt := 115) rfl (fun _ => ?_) (fun h108 => absurd ((PQ_9 : _ = bi false)) h108)
  refine r_iconst dX7_readOrder_115 (v := 1) rfl ?_
  refine r_iadd dX7_readOrder_116 ?_
  refine r_putI dX7_readOrder_117 f_7_163 rfl rfl lv16 ⟨rfl, rfl⟩ ?_
  refine V.eqH (hp2 := PQ hp (p + 1) false o) (by rw [PQ_8, nI_1, PQ_sp]) ?_
  refine r_aload_n dX7_readOrder_120 (i := 0) rfl rfl ?_
  refine r_getR dX7_readOrder_121 f_7_29 rfl rfl rfl lv16 ?_
  refine r_iconst dX7_readOrder_124 (v := 0) rfl ?_
  refine r_iload_n dX7_readOrder_125 (i := 1) rfl rfl ?_
  refine n_iast dX7_readOrder_126 rfl lv23 (k := 0) rfl (by decide) ?_
  refine V.eqH (PQ_so (by decide)) ?_
  refine r_aload_n dX7_readOrder_127 (i := 0) rfl rfl ?_
  refine r_getR dX7_readOrder_128 f_7_29 rfl rfl rfl lv16 ?_
  refine r_iconst dX7_readOrder_131 (v := 1) rfl ?_
  refine r_iload_n dX7_readOrder_132 (i := 1) rfl rfl ?_
  refine r_bipush dX7_readOrder_133 (v := 122) rfl ?_
  refine r_icmp_eq dX7_readOrder_135 (tgt := 150) rfl (fun h135 => absurd h135 ((by decide))) (fun _ => ?_)
  refine r_iload_n dX7_readOrder_138 (i := 1) rfl rfl ?_
  refine r_bipush dX7_readOrder_139 (v := 108) rfl ?_
  refine r_icmp_eq dX7_readOrder_141 (tgt := 150) rfl (fun h141 => absurd h141 ((by decide))) (fun _ => ?_)
  refine r_iload_n dX7_readOrder_144 (i := 1) rfl rfl ?_
  refine r_bipush dX7_readOrder_145 (v := 116) rfl ?_
  refine r_icmp_ne dX7_readOrder_147 (tgt := 161) rfl (fun _ => ?_) (fun h147 => absurd h147 ((by decide)))
  refine r_iload_n dX7_readOrder_161 (i := 1) rfl rfl ?_
  refine r_bipush dX7_readOrder_162 (v := 107) rfl ?_
  refine r_icmp_eq dX7_readOrder_164 (tgt := 173) rfl (fun _ => ?_) (fun h164 => absurd ((by decide)) h164)
  refine r_aload_n dX7_readOrder_173 (i := 0) rfl rfl ?_
  refine sX7_readOrder_174 (Nat.le_refl _) (Nat.le_refl _) rfl lv16 (Nat.le_of_ble_eq_true rfl) (tX7_takesNumber hl hL (by omega)) ?_
  refine r_goto dX7_readOrder_177 (tgt := 188) rfl ?_
  refine n_iast dX7_readOrder_188 rfl lv23 (k := 1) rfl (by decide) ?_
  refine V.eqH (PQ_so (by decide)) ?_
  refine r_aload_n dX7_readOrder_189 (i := 0) rfl rfl ?_
  refine r_getR dX7_readOrder_190 f_7_29 rfl rfl rfl lv16 ?_
  refine r_iconst dX7_readOrder_193 (v := 2) rfl ?_
  refine r_iload_n dX7_readOrder_194 (i := 1) rfl rfl ?_
  refine r_bipush dX7_readOrder_195 (v := 108) rfl ?_
  refine r_icmp_eq dX7_readOrder_197 (tgt := 206) rfl (fun h197 => absurd h197 ((by decide))) (fun _ => ?_)
  refine r_iload_n dX7_readOrder_200 (i := 1) rfl rfl ?_
  refine r_bipush dX7_readOrder_201 (v := 116) rfl ?_
  refine r_icmp_ne dX7_readOrder_203 (tgt := 217) rfl (fun _ => ?_) (fun h203 => absurd h203 ((by decide)))
  refine r_iconst dX7_readOrder_217 (v := 0) rfl ?_
  refine n_iast dX7_readOrder_218 rfl lv23 (k := 2) rfl (by decide) ?_
  refine V.eqH (PQ_so (by decide)) ?_
  refine r_aload_n dX7_readOrder_219 (i := 0) rfl rfl ?_
  refine r_getR dX7_readOrder_220 f_7_29 rfl rfl rfl lv16 ?_
  refine r_iconst dX7_readOrder_223 (v := 3) rfl ?_
  refine r_iconst dX7_readOrder_224 (v := 0) rfl ?_
  refine n_iast dX7_readOrder_225 rfl lv23 (k := 3) rfl (by decide) ?_
  refine V.eqH (PQ_so (by decide)) ?_
  refine r_aload_n dX7_readOrder_226 (i := 0) rfl rfl ?_
  refine r_getR dX7_readOrder_227 f_7_29 rfl rfl rfl lv16 ?_
  refine r_iconst dX7_readOrder_230 (v := 4) rfl ?_
  refine r_iconst dX7_readOrder_231 (v := 0) rfl ?_
  refine n_iast dX7_readOrder_232 rfl lv23 (k := 4) rfl (by decide) ?_
  refine r_iload_n dX7_readOrder_233 (i := 1) rfl rfl ?_
  refine r_bipush dX7_readOrder_234 (v := 108) rfl ?_
  refine r_icmp_ne dX7_readOrder_236 (tgt := 274) rfl (fun _ => ?_) (fun h236 => absurd h236 ((by decide)))
  refine r_iload_n dX7_readOrder_274 (i := 1) rfl rfl ?_
  refine r_bipush dX7_readOrder_275 (v := 116) rfl ?_
  refine r_icmp_ne dX7_readOrder_277 (tgt := 294) rfl (fun _ => ?_) (fun h277 => absurd h277 ((by decide)))
  exact e_v dX7_readOrder_294 rfl (PQ_so (by decide))
theorem tX7_rO_b (hl : len ≤ 80) (hL : hp (16, 0, 0, 0) 6 = nI len) (hc : cRf hp len p = 98) : Cv g mX7_readOrder [vR (16, 0, 0, 0)] (PQ hp p false o) (PQ hp (tN (cRf hp len) (p + 1) false).2.1 (tN (cRf hp len) (p + 1) false).2.2 (up (up (up (up (up o 0 98) 1 (tN (cRf hp len) (p + 1) false).1) 2 0) 3 0) 4 0)) := by
  unfold Cv
  have h : p < len := cRf_lt hc (by decide)
  have hv : hp (21, 0, 0, 0) p = 98 := (cRf_on h).symm.trans hc
  refine r_aload_n dX7_readOrder_0 (i := 0) rfl rfl ?_
  refine r_getI dX7_readOrder_1 f_7_163 rfl rfl lv16 ?_
  refine r_aload_n dX7_readOrder_4 (i := 0) rfl rfl ?_
  refine r_getI dX7_readOrder_5 f_7_151 rfl rfl lv16 ?_
  refine r_icmp_ge dX7_readOrder_8 (tgt := 23) rfl (fun h8 => absurd h8 ((by rw [PQ_8, PQ_6, hL]; exact nI_ge h (by omega)))) (fun _ => ?_)
  refine r_aload_n dX7_readOrder_11 (i := 0) rfl rfl ?_
  refine r_getR dX7_readOrder_12 f_7_23 rfl rfl rfl lv16 ?_
  refine r_aload_n dX7_readOrder_15 (i := 0) rfl rfl ?_
  refine r_getI dX7_readOrder_16 f_7_163 rfl rfl lv16 ?_
  refine n_iald dX7_readOrder_19 rfl lv21 (k := p) PQ_8 (by omega) ?_
  refine r_goto dX7_readOrder_20 (tgt := 24) rfl ?_
  refine V.eqS (st2 := [vI 98]) (by rw [PQ_21, hv]) ?_
  refine r_istore_n dX7_readOrder_24 (i := 1) rfl (Nat.le_of_ble_eq_true rfl) rfl rfl ?_
  refine r_iload_n dX7_readOrder_25 (i := 1) rfl rfl ?_
  refine r_bipush dX7_readOrder_26 (v := 107) rfl ?_
  refine r_icmp_eq dX7_readOrder_28 (tgt := 73) rfl (fun h28 => absurd h28 ((by decide))) (fun _ => ?_)
  refine r_iload_n dX7_readOrder_31 (i := 1) rfl rfl ?_
  refine r_bipush dX7_readOrder_32 (v := 114) rfl ?_
  refine r_icmp_eq dX7_readOrder_34 (tgt := 73) rfl (fun h34 => absurd h34 ((by decide))) (fun _ => ?_)
  refine r_iload_n dX7_readOrder_37 (i := 1) rfl rfl ?_
  refine r_bipush dX7_readOrder_38 (v := 117) rfl ?_
  refine r_icmp_eq dX7_readOrder_40 (tgt := 73) rfl (fun h40 => absurd h40 ((by decide))) (fun _ => ?_)
  refine r_iload_n dX7_readOrder_43 (i := 1) rfl rfl ?_
  refine r_bipush dX7_readOrder_44 (v := 109) rfl ?_
  refine r_icmp_eq dX7_readOrder_46 (tgt := 73) rfl (fun h46 => absurd h46 ((by decide))) (fun _ => ?_)
  refine r_iload_n dX7_readOrder_49 (i := 1) rfl rfl ?_
  refine r_bipush dX7_readOrder_50 (v := 122) rfl ?_
  refine r_icmp_eq dX7_readOrder_52 (tgt := 73) rfl (fun h52 => absurd h52 ((by decide))) (fun _ => ?_)
  refine r_iload_n dX7_readOrder_55 (i := 1) rfl rfl ?_
  refine r_bipush dX7_readOrder_56 (v := 108) rfl ?_
  refine r_icmp_eq dX7_readOrder_58 (tgt := 73) rfl (fun h58 => absurd h58 ((by decide))) (fun _ => ?_)
  refine r_iload_n dX7_readOrder_61 (i := 1) rfl rfl ?_
  refine r_bipush dX7_readOrder_62 (v := 116) rfl ?_
  refine r_icmp_eq dX7_readOrder_64 (tgt := 73) rfl (fun h64 => absurd h64 ((by decide))) (fun _ => ?_)
  refine r_iload_n dX7_readOrder_67 (i := 1) rfl rfl ?_
  refine r_bipush dX7_readOrder_68 (v := 98) rfl ?_
  refine r_icmp_ne dX7_readOrder_70 (tgt := 77) rfl (fun h70 => absurd ((by decide)) h70) (fun _ => ?_)
  refine r_iconst dX7_readOrder_73 (v := 1) rfl ?_
  refine r_goto dX7_readOrder_74 (tgt := 78) rfl ?_
  refine r_istore_n dX7_readOrder_78 (i := 2) rfl (Nat.le_of_ble_eq_true rfl) rfl rfl ?_
  refine r_aload_n dX7_readOrder_79 (i := 0) rfl rfl ?_
  refine r_aload_n dX7_readOrder_80 (i := 0) rfl rfl ?_
  refine r_getI dX7_readOrder_81 f_7_159 rfl rfl lv16 ?_
  refine r_if_ne dX7_readOrder_84 (tgt := 91) rfl (fun h84 => absurd ((PQ_9 : _ = bi false)) h84) (fun _ => ?_)
  refine r_iload_n dX7_readOrder_87 (i := 2) rfl rfl ?_
  refine r_if_ne dX7_readOrder_88 (tgt := 95) rfl (fun _ => ?_) (fun h88 => absurd h88 ((by decide)))
  refine r_iconst dX7_readOrder_95 (v := 0) rfl ?_
  refine r_putI dX7_readOrder_96 f_7_159 rfl rfl lv16 ⟨rfl, rfl⟩ ?_
  refine V.eqH (PQ_sw (v := false)) ?_
  refine r_aload_n dX7_readOrder_99 (i := 0) rfl rfl ?_
  refine r_dup dX7_readOrder_100 rfl ?_
  refine r_getI dX7_readOrder_101 f_7_163 rfl rfl lv16 ?_
  refine r_aload_n dX7_readOrder_104 (i := 0) rfl rfl ?_
  refine r_getI dX7_readOrder_105 f_7_159 rfl rfl lv16 ?_
  refine r_if_eq dX7_readOrder_108 (tgt := 115) rfl (fun _ => ?_) (fun h108 => absurd ((PQ_9 : _ = bi false)) h108)
  refine r_iconst dX7_readOrder_115 (v := 1) rfl ?_
  refine r_iadd dX7_readOrder_116 ?_
  refine r_putI dX7_readOrder_117 f_7_163 rfl rfl lv16 ⟨rfl, rfl⟩ ?_
  refine V.eqH (hp2 := PQ hp (p + 1) false o) (by rw [PQ_8, nI_1, PQ_sp]) ?_
  refine r_aload_n dX7_readOrder_120 (i := 0) rfl rfl ?_
  refine r_getR dX7_readOrder_121 f_7_29 rfl rfl rfl lv16 ?_
  refine r_iconst dX7_readOrder_124 (v := 0) rfl ?_
  refine r_iload_n dX7_readOrder_125 (i := 1) rfl rfl ?_
  refine n_iast dX7_readOrder_126 rfl lv23 (k := 0) rfl (by decide) ?_
  refine V.eqH (PQ_so (by decide)) ?_
  refine r_aload_n dX7_readOrder_127 (i := 0) rfl rfl ?_
  refine r_getR dX7_readOrder_128 f_7_29 rfl rfl rfl lv16 ?_
  refine r_iconst dX7_readOrder_131 (v := 1) rfl ?_
  refine r_iload_n dX7_readOrder_132 (i := 1) rfl rfl ?_
  refine r_bipush dX7_readOrder_133 (v := 122) rfl ?_
  refine r_icmp_eq dX7_readOrder_135 (tgt := 150) rfl (fun h135 => absurd h135 ((by decide))) (fun _ => ?_)
  refine r_iload_n dX7_readOrder_138 (i := 1) rfl rfl ?_
  refine r_bipush dX7_readOrder_139 (v := 108) rfl ?_
  refine r_icmp_eq dX7_readOrder_141 (tgt := 150) rfl (fun h141 => absurd h141 ((by decide))) (fun _ => ?_)
  refine r_iload_n dX7_readOrder_144 (i := 1) rfl rfl ?_
  refine r_bipush dX7_readOrder_145 (v := 116) rfl ?_
  refine r_icmp_ne dX7_readOrder_147 (tgt := 161) rfl (fun _ => ?_) (fun h147 => absurd h147 ((by decide)))
  refine r_iload_n dX7_readOrder_161 (i := 1) rfl rfl ?_
  refine r_bipush dX7_readOrder_162 (v := 107) rfl ?_
  refine r_icmp_eq dX7_readOrder_164 (tgt := 173) rfl (fun h164 => absurd h164 ((by decide))) (fun _ => ?_)
  refine r_iload_n dX7_readOrder_167 (i := 1) rfl rfl ?_
  refine r_bipush dX7_readOrder_168 (v := 98) rfl ?_
  refine r_icmp_ne dX7_readOrder_170 (tgt := 180) rfl (fun h170 => absurd ((by decide)) h170) (fun _ => ?_)
  refine r_aload_n dX7_readOrder_173 (i := 0) rfl rfl ?_
  refine sX7_readOrder_174 (Nat.le_refl _) (Nat.le_refl _) rfl lv16 (Nat.le_of_ble_eq_true rfl) (tX7_takesNumber hl hL (by omega)) ?_
  refine r_goto dX7_readOrder_177 (tgt := 188) rfl ?_
  refine n_iast dX7_readOrder_188 rfl lv23 (k := 1) rfl (by decide) ?_
  refine V.eqH (PQ_so (by decide)) ?_
  refine r_aload_n dX7_readOrder_189 (i := 0) rfl rfl ?_
  refine r_getR dX7_readOrder_190 f_7_29 rfl rfl rfl lv16 ?_
  refine r_iconst dX7_readOrder_193 (v := 2) rfl ?_
  refine r_iload_n dX7_readOrder_194 (i := 1) rfl rfl ?_
  refine r_bipush dX7_readOrder_195 (v := 108) rfl ?_
  refine r_icmp_eq dX7_readOrder_197 (tgt := 206) rfl (fun h197 => absurd h197 ((by decide))) (fun _ => ?_)
  refine r_iload_n dX7_readOrder_200 (i := 1) rfl rfl ?_
  refine r_bipush dX7_readOrder_201 (v := 116) rfl ?_
  refine r_icmp_ne dX7_readOrder_203 (tgt := 217) rfl (fun _ => ?_) (fun h203 => absurd h203 ((by decide)))
  refine r_iconst dX7_readOrder_217 (v := 0) rfl ?_
  refine n_iast dX7_readOrder_218 rfl lv23 (k := 2) rfl (by decide) ?_
  refine V.eqH (PQ_so (by decide)) ?_
  refine r_aload_n dX7_readOrder_219 (i := 0) rfl rfl ?_
  refine r_getR dX7_readOrder_220 f_7_29 rfl rfl rfl lv16 ?_
  refine r_iconst dX7_readOrder_223 (v := 3) rfl ?_
  refine r_iconst dX7_readOrder_224 (v := 0) rfl ?_
  refine n_iast dX7_readOrder_225 rfl lv23 (k := 3) rfl (by decide) ?_
  refine V.eqH (PQ_so (by decide)) ?_
  refine r_aload_n dX7_readOrder_226 (i := 0) rfl rfl ?_
  refine r_getR dX7_readOrder_227 f_7_29 rfl rfl rfl lv16 ?_
  refine r_iconst dX7_readOrder_230 (v := 4) rfl ?_
  refine r_iconst dX7_readOrder_231 (v := 0) rfl ?_
  refine n_iast dX7_readOrder_232 rfl lv23 (k := 4) rfl (by decide) ?_
  refine r_iload_n dX7_readOrder_233 (i := 1) rfl rfl ?_
  refine r_bipush dX7_readOrder_234 (v := 108) rfl ?_
  refine r_icmp_ne dX7_readOrder_236 (tgt := 274) rfl (fun _ => ?_) (fun h236 => absurd h236 ((by decide)))
  refine r_iload_n dX7_readOrder_274 (i := 1) rfl rfl ?_
  refine r_bipush dX7_readOrder_275 (v := 116) rfl ?_
  refine r_icmp_ne dX7_readOrder_277 (tgt := 294) rfl (fun _ => ?_) (fun h277 => absurd h277 ((by decide)))
  exact e_v dX7_readOrder_294 rfl (PQ_so (by decide))
theorem tX7_rO_r (hl : len ≤ 80) (hL : hp (16, 0, 0, 0) 6 = nI len) (hc : cRf hp len p = 114) : Cv g mX7_readOrder [vR (16, 0, 0, 0)] (PQ hp p false o) (PQ hp (tk (cRf hp len) 48 57 (p + 1) false).2.1 (tk (cRf hp len) 48 57 (p + 1) false).2.2 (up (up (up (up (up o 0 114) 1 (tk (cRf hp len) 48 57 (p + 1) false).1) 2 0) 3 0) 4 0)) := by
  unfold Cv
  have h : p < len := cRf_lt hc (by decide)
  have hv : hp (21, 0, 0, 0) p = 114 := (cRf_on h).symm.trans hc
  refine r_aload_n dX7_readOrder_0 (i := 0) rfl rfl ?_
  refine r_getI dX7_readOrder_1 f_7_163 rfl rfl lv16 ?_
  refine r_aload_n dX7_readOrder_4 (i := 0) rfl rfl ?_
  refine r_getI dX7_readOrder_5 f_7_151 rfl rfl lv16 ?_
  refine r_icmp_ge dX7_readOrder_8 (tgt := 23) rfl (fun h8 => absurd h8 ((by rw [PQ_8, PQ_6, hL]; exact nI_ge h (by omega)))) (fun _ => ?_)
  refine r_aload_n dX7_readOrder_11 (i := 0) rfl rfl ?_
  refine r_getR dX7_readOrder_12 f_7_23 rfl rfl rfl lv16 ?_
  refine r_aload_n dX7_readOrder_15 (i := 0) rfl rfl ?_
  refine r_getI dX7_readOrder_16 f_7_163 rfl rfl lv16 ?_
  refine n_iald dX7_readOrder_19 rfl lv21 (k := p) PQ_8 (by omega) ?_
  refine r_goto dX7_readOrder_20 (tgt := 24) rfl ?_
  refine V.eqS (st2 := [vI 114]) (by rw [PQ_21, hv]) ?_
  refine r_istore_n dX7_readOrder_24 (i := 1) rfl (Nat.le_of_ble_eq_true rfl) rfl rfl ?_
  refine r_iload_n dX7_readOrder_25 (i := 1) rfl rfl ?_
  refine r_bipush dX7_readOrder_26 (v := 107) rfl ?_
  refine r_icmp_eq dX7_readOrder_28 (tgt := 73) rfl (fun h28 => absurd h28 ((by decide))) (fun _ => ?_)
  refine r_iload_n dX7_readOrder_31 (i := 1) rfl rfl ?_
  refine r_bipush dX7_readOrder_32 (v := 114) rfl ?_
  refine r_icmp_eq dX7_readOrder_34 (tgt := 73) rfl (fun _ => ?_) (fun h34 => absurd ((by decide)) h34)
  refine r_iconst dX7_readOrder_73 (v := 1) rfl ?_
  refine r_goto dX7_readOrder_74 (tgt := 78) rfl ?_
  refine r_istore_n dX7_readOrder_78 (i := 2) rfl (Nat.le_of_ble_eq_true rfl) rfl rfl ?_
  refine r_aload_n dX7_readOrder_79 (i := 0) rfl rfl ?_
  refine r_aload_n dX7_readOrder_80 (i := 0) rfl rfl ?_
  refine r_getI dX7_readOrder_81 f_7_159 rfl rfl lv16 ?_
  refine r_if_ne dX7_readOrder_84 (tgt := 91) rfl (fun h84 => absurd ((PQ_9 : _ = bi false)) h84) (fun _ => ?_)
  refine r_iload_n dX7_readOrder_87 (i := 2) rfl rfl ?_
  refine r_if_ne dX7_readOrder_88 (tgt := 95) rfl (fun _ => ?_) (fun h88 => absurd h88 ((by decide)))
  refine r_iconst dX7_readOrder_95 (v := 0) rfl ?_
  refine r_putI dX7_readOrder_96 f_7_159 rfl rfl lv16 ⟨rfl, rfl⟩ ?_
  refine V.eqH (PQ_sw (v := false)) ?_
  refine r_aload_n dX7_readOrder_99 (i := 0) rfl rfl ?_
  refine r_dup dX7_readOrder_100 rfl ?_
  refine r_getI dX7_readOrder_101 f_7_163 rfl rfl lv16 ?_
  refine r_aload_n dX7_readOrder_104 (i := 0) rfl rfl ?_
  refine r_getI dX7_readOrder_105 f_7_159 rfl rfl lv16 ?_
  refine r_if_eq dX7_readOrder_108 (tgt := 115) rfl (fun _ => ?_) (fun h108 => absurd ((PQ_9 : _ = bi false)) h108)
  refine r_iconst dX7_readOrder_115 (v := 1) rfl ?_
  refine r_iadd dX7_readOrder_116 ?_
  refine r_putI dX7_readOrder_117 f_7_163 rfl rfl lv16 ⟨rfl, rfl⟩ ?_
  refine V.eqH (hp2 := PQ hp (p + 1) false o) (by rw [PQ_8, nI_1, PQ_sp]) ?_
  refine r_aload_n dX7_readOrder_120 (i := 0) rfl rfl ?_
  refine r_getR dX7_readOrder_121 f_7_29 rfl rfl rfl lv16 ?_
  refine r_iconst dX7_readOrder_124 (v := 0) rfl ?_
  refine r_iload_n dX7_readOrder_125 (i := 1) rfl rfl ?_
  refine n_iast dX7_readOrder_126 rfl lv23 (k := 0) rfl (by decide) ?_
  refine V.eqH (PQ_so (by decide)) ?_
  refine r_aload_n dX7_readOrder_127 (i := 0) rfl rfl ?_
  refine r_getR dX7_readOrder_128 f_7_29 rfl rfl rfl lv16 ?_
  refine r_iconst dX7_readOrder_131 (v := 1) rfl ?_
  refine r_iload_n dX7_readOrder_132 (i := 1) rfl rfl ?_
  refine r_bipush dX7_readOrder_133 (v := 122) rfl ?_
  refine r_icmp_eq dX7_readOrder_135 (tgt := 150) rfl (fun h135 => absurd h135 ((by decide))) (fun _ => ?_)
  refine r_iload_n dX7_readOrder_138 (i := 1) rfl rfl ?_
  refine r_bipush dX7_readOrder_139 (v := 108) rfl ?_
  refine r_icmp_eq dX7_readOrder_141 (tgt := 150) rfl (fun h141 => absurd h141 ((by decide))) (fun _ => ?_)
  refine r_iload_n dX7_readOrder_144 (i := 1) rfl rfl ?_
  refine r_bipush dX7_readOrder_145 (v := 116) rfl ?_
  refine r_icmp_ne dX7_readOrder_147 (tgt := 161) rfl (fun _ => ?_) (fun h147 => absurd h147 ((by decide)))
  refine r_iload_n dX7_readOrder_161 (i := 1) rfl rfl ?_
  refine r_bipush dX7_readOrder_162 (v := 107) rfl ?_
  refine r_icmp_eq dX7_readOrder_164 (tgt := 173) rfl (fun h164 => absurd h164 ((by decide))) (fun _ => ?_)
  refine r_iload_n dX7_readOrder_167 (i := 1) rfl rfl ?_
  refine r_bipush dX7_readOrder_168 (v := 98) rfl ?_
  refine r_icmp_ne dX7_readOrder_170 (tgt := 180) rfl (fun _ => ?_) (fun h170 => absurd h170 ((by decide)))
  refine r_aload_n dX7_readOrder_180 (i := 0) rfl rfl ?_
  refine r_bipush dX7_readOrder_181 (v := 48) rfl ?_
  refine r_bipush dX7_readOrder_183 (v := 57) rfl ?_
  refine sX7_readOrder_185 (Nat.le_refl _) (Nat.le_refl _) rfl lv16 (Nat.le_of_ble_eq_true rfl) (tX7_takes hl hL (by omega)) ?_
  refine n_iast dX7_readOrder_188 rfl lv23 (k := 1) rfl (by decide) ?_
  refine V.eqH (PQ_so (by decide)) ?_
  refine r_aload_n dX7_readOrder_189 (i := 0) rfl rfl ?_
  refine r_getR dX7_readOrder_190 f_7_29 rfl rfl rfl lv16 ?_
  refine r_iconst dX7_readOrder_193 (v := 2) rfl ?_
  refine r_iload_n dX7_readOrder_194 (i := 1) rfl rfl ?_
  refine r_bipush dX7_readOrder_195 (v := 108) rfl ?_
  refine r_icmp_eq dX7_readOrder_197 (tgt := 206) rfl (fun h197 => absurd h197 ((by decide))) (fun _ => ?_)
  refine r_iload_n dX7_readOrder_200 (i := 1) rfl rfl ?_
  refine r_bipush dX7_readOrder_201 (v := 116) rfl ?_
  refine r_icmp_ne dX7_readOrder_203 (tgt := 217) rfl (fun _ => ?_) (fun h203 => absurd h203 ((by decide)))
  refine r_iconst dX7_readOrder_217 (v := 0) rfl ?_
  refine n_iast dX7_readOrder_218 rfl lv23 (k := 2) rfl (by decide) ?_
  refine V.eqH (PQ_so (by decide)) ?_
  refine r_aload_n dX7_readOrder_219 (i := 0) rfl rfl ?_
  refine r_getR dX7_readOrder_220 f_7_29 rfl rfl rfl lv16 ?_
  refine r_iconst dX7_readOrder_223 (v := 3) rfl ?_
  refine r_iconst dX7_readOrder_224 (v := 0) rfl ?_
  refine n_iast dX7_readOrder_225 rfl lv23 (k := 3) rfl (by decide) ?_
  refine V.eqH (PQ_so (by decide)) ?_
  refine r_aload_n dX7_readOrder_226 (i := 0) rfl rfl ?_
  refine r_getR dX7_readOrder_227 f_7_29 rfl rfl rfl lv16 ?_
  refine r_iconst dX7_readOrder_230 (v := 4) rfl ?_
  refine r_iconst dX7_readOrder_231 (v := 0) rfl ?_
  refine n_iast dX7_readOrder_232 rfl lv23 (k := 4) rfl (by decide) ?_
  refine r_iload_n dX7_readOrder_233 (i := 1) rfl rfl ?_
  refine r_bipush dX7_readOrder_234 (v := 108) rfl ?_
  refine r_icmp_ne dX7_readOrder_236 (tgt := 274) rfl (fun _ => ?_) (fun h236 => absurd h236 ((by decide)))
  refine r_iload_n dX7_readOrder_274 (i := 1) rfl rfl ?_
  refine r_bipush dX7_readOrder_275 (v := 116) rfl ?_
  refine r_icmp_ne dX7_readOrder_277 (tgt := 294) rfl (fun _ => ?_) (fun h277 => absurd h277 ((by decide)))
  exact e_v dX7_readOrder_294 rfl (PQ_so (by decide))
theorem tX7_rO_u (hl : len ≤ 80) (hL : hp (16, 0, 0, 0) 6 = nI len) (hc : cRf hp len p = 117) : Cv g mX7_readOrder [vR (16, 0, 0, 0)] (PQ hp p false o) (PQ hp (tk (cRf hp len) 48 57 (p + 1) false).2.1 (tk (cRf hp len) 48 57 (p + 1) false).2.2 (up (up (up (up (up o 0 117) 1 (tk (cRf hp len) 48 57 (p + 1) false).1) 2 0) 3 0) 4 0)) := by
  unfold Cv
  have h : p < len := cRf_lt hc (by decide)
  have hv : hp (21, 0, 0, 0) p = 117 := (cRf_on h).symm.trans hc
  refine r_aload_n dX7_readOrder_0 (i := 0) rfl rfl ?_
  refine r_getI dX7_readOrder_1 f_7_163 rfl rfl lv16 ?_
  refine r_aload_n dX7_readOrder_4 (i := 0) rfl rfl ?_
  refine r_getI dX7_readOrder_5 f_7_151 rfl rfl lv16 ?_
  refine r_icmp_ge dX7_readOrder_8 (tgt := 23) rfl (fun h8 => absurd h8 ((by rw [PQ_8, PQ_6, hL]; exact nI_ge h (by omega)))) (fun _ => ?_)
  refine r_aload_n dX7_readOrder_11 (i := 0) rfl rfl ?_
  refine r_getR dX7_readOrder_12 f_7_23 rfl rfl rfl lv16 ?_
  refine r_aload_n dX7_readOrder_15 (i := 0) rfl rfl ?_
  refine r_getI dX7_readOrder_16 f_7_163 rfl rfl lv16 ?_
  refine n_iald dX7_readOrder_19 rfl lv21 (k := p) PQ_8 (by omega) ?_
  refine r_goto dX7_readOrder_20 (tgt := 24) rfl ?_
  refine V.eqS (st2 := [vI 117]) (by rw [PQ_21, hv]) ?_
  refine r_istore_n dX7_readOrder_24 (i := 1) rfl (Nat.le_of_ble_eq_true rfl) rfl rfl ?_
  refine r_iload_n dX7_readOrder_25 (i := 1) rfl rfl ?_
  refine r_bipush dX7_readOrder_26 (v := 107) rfl ?_
  refine r_icmp_eq dX7_readOrder_28 (tgt := 73) rfl (fun h28 => absurd h28 ((by decide))) (fun _ => ?_)
  refine r_iload_n dX7_readOrder_31 (i := 1) rfl rfl ?_
  refine r_bipush dX7_readOrder_32 (v := 114) rfl ?_
  refine r_icmp_eq dX7_readOrder_34 (tgt := 73) rfl (fun h34 => absurd h34 ((by decide))) (fun _ => ?_)
  refine r_iload_n dX7_readOrder_37 (i := 1) rfl rfl ?_
  refine r_bipush dX7_readOrder_38 (v := 117) rfl ?_
  refine r_icmp_eq dX7_readOrder_40 (tgt := 73) rfl (fun _ => ?_) (fun h40 => absurd ((by decide)) h40)
  refine r_iconst dX7_readOrder_73 (v := 1) rfl ?_
  refine r_goto dX7_readOrder_74 (tgt := 78) rfl ?_
  refine r_istore_n dX7_readOrder_78 (i := 2) rfl (Nat.le_of_ble_eq_true rfl) rfl rfl ?_
  refine r_aload_n dX7_readOrder_79 (i := 0) rfl rfl ?_
  refine r_aload_n dX7_readOrder_80 (i := 0) rfl rfl ?_
  refine r_getI dX7_readOrder_81 f_7_159 rfl rfl lv16 ?_
  refine r_if_ne dX7_readOrder_84 (tgt := 91) rfl (fun h84 => absurd ((PQ_9 : _ = bi false)) h84) (fun _ => ?_)
  refine r_iload_n dX7_readOrder_87 (i := 2) rfl rfl ?_
  refine r_if_ne dX7_readOrder_88 (tgt := 95) rfl (fun _ => ?_) (fun h88 => absurd h88 ((by decide)))
  refine r_iconst dX7_readOrder_95 (v := 0) rfl ?_
  refine r_putI dX7_readOrder_96 f_7_159 rfl rfl lv16 ⟨rfl, rfl⟩ ?_
  refine V.eqH (PQ_sw (v := false)) ?_
  refine r_aload_n dX7_readOrder_99 (i := 0) rfl rfl ?_
  refine r_dup dX7_readOrder_100 rfl ?_
  refine r_getI dX7_readOrder_101 f_7_163 rfl rfl lv16 ?_
  refine r_aload_n dX7_readOrder_104 (i := 0) rfl rfl ?_
  refine r_getI dX7_readOrder_105 f_7_159 rfl rfl lv16 ?_
  refine r_if_eq dX7_readOrder_108 (tgt := 115) rfl (fun _ => ?_) (fun h108 => absurd ((PQ_9 : _ = bi false)) h108)
  refine r_iconst dX7_readOrder_115 (v := 1) rfl ?_
  refine r_iadd dX7_readOrder_116 ?_
  refine r_putI dX7_readOrder_117 f_7_163 rfl rfl lv16 ⟨rfl, rfl⟩ ?_
  refine V.eqH (hp2 := PQ hp (p + 1) false o) (by rw [PQ_8, nI_1, PQ_sp]) ?_
  refine r_aload_n dX7_readOrder_120 (i := 0) rfl rfl ?_
  refine r_getR dX7_readOrder_121 f_7_29 rfl rfl rfl lv16 ?_
  refine r_iconst dX7_readOrder_124 (v := 0) rfl ?_
  refine r_iload_n dX7_readOrder_125 (i := 1) rfl rfl ?_
  refine n_iast dX7_readOrder_126 rfl lv23 (k := 0) rfl (by decide) ?_
  refine V.eqH (PQ_so (by decide)) ?_
  refine r_aload_n dX7_readOrder_127 (i := 0) rfl rfl ?_
  refine r_getR dX7_readOrder_128 f_7_29 rfl rfl rfl lv16 ?_
  refine r_iconst dX7_readOrder_131 (v := 1) rfl ?_
  refine r_iload_n dX7_readOrder_132 (i := 1) rfl rfl ?_
  refine r_bipush dX7_readOrder_133 (v := 122) rfl ?_
  refine r_icmp_eq dX7_readOrder_135 (tgt := 150) rfl (fun h135 => absurd h135 ((by decide))) (fun _ => ?_)
  refine r_iload_n dX7_readOrder_138 (i := 1) rfl rfl ?_
  refine r_bipush dX7_readOrder_139 (v := 108) rfl ?_
  refine r_icmp_eq dX7_readOrder_141 (tgt := 150) rfl (fun h141 => absurd h141 ((by decide))) (fun _ => ?_)
  refine r_iload_n dX7_readOrder_144 (i := 1) rfl rfl ?_
  refine r_bipush dX7_readOrder_145 (v := 116) rfl ?_
  refine r_icmp_ne dX7_readOrder_147 (tgt := 161) rfl (fun _ => ?_) (fun h147 => absurd h147 ((by decide)))
  refine r_iload_n dX7_readOrder_161 (i := 1) rfl rfl ?_
  refine r_bipush dX7_readOrder_162 (v := 107) rfl ?_
  refine r_icmp_eq dX7_readOrder_164 (tgt := 173) rfl (fun h164 => absurd h164 ((by decide))) (fun _ => ?_)
  refine r_iload_n dX7_readOrder_167 (i := 1) rfl rfl ?_
  refine r_bipush dX7_readOrder_168 (v := 98) rfl ?_
  refine r_icmp_ne dX7_readOrder_170 (tgt := 180) rfl (fun _ => ?_) (fun h170 => absurd h170 ((by decide)))
  refine r_aload_n dX7_readOrder_180 (i := 0) rfl rfl ?_
  refine r_bipush dX7_readOrder_181 (v := 48) rfl ?_
  refine r_bipush dX7_readOrder_183 (v := 57) rfl ?_
  refine sX7_readOrder_185 (Nat.le_refl _) (Nat.le_refl _) rfl lv16 (Nat.le_of_ble_eq_true rfl) (tX7_takes hl hL (by omega)) ?_
  refine n_iast dX7_readOrder_188 rfl lv23 (k := 1) rfl (by decide) ?_
  refine V.eqH (PQ_so (by decide)) ?_
  refine r_aload_n dX7_readOrder_189 (i := 0) rfl rfl ?_
  refine r_getR dX7_readOrder_190 f_7_29 rfl rfl rfl lv16 ?_
  refine r_iconst dX7_readOrder_193 (v := 2) rfl ?_
  refine r_iload_n dX7_readOrder_194 (i := 1) rfl rfl ?_
  refine r_bipush dX7_readOrder_195 (v := 108) rfl ?_
  refine r_icmp_eq dX7_readOrder_197 (tgt := 206) rfl (fun h197 => absurd h197 ((by decide))) (fun _ => ?_)
  refine r_iload_n dX7_readOrder_200 (i := 1) rfl rfl ?_
  refine r_bipush dX7_readOrder_201 (v := 116) rfl ?_
  refine r_icmp_ne dX7_readOrder_203 (tgt := 217) rfl (fun _ => ?_) (fun h203 => absurd h203 ((by decide)))
  refine r_iconst dX7_readOrder_217 (v := 0) rfl ?_
  refine n_iast dX7_readOrder_218 rfl lv23 (k := 2) rfl (by decide) ?_
  refine V.eqH (PQ_so (by decide)) ?_
  refine r_aload_n dX7_readOrder_219 (i := 0) rfl rfl ?_
  refine r_getR dX7_readOrder_220 f_7_29 rfl rfl rfl lv16 ?_
  refine r_iconst dX7_readOrder_223 (v := 3) rfl ?_
  refine r_iconst dX7_readOrder_224 (v := 0) rfl ?_
  refine n_iast dX7_readOrder_225 rfl lv23 (k := 3) rfl (by decide) ?_
  refine V.eqH (PQ_so (by decide)) ?_
  refine r_aload_n dX7_readOrder_226 (i := 0) rfl rfl ?_
  refine r_getR dX7_readOrder_227 f_7_29 rfl rfl rfl lv16 ?_
  refine r_iconst dX7_readOrder_230 (v := 4) rfl ?_
  refine r_iconst dX7_readOrder_231 (v := 0) rfl ?_
  refine n_iast dX7_readOrder_232 rfl lv23 (k := 4) rfl (by decide) ?_
  refine r_iload_n dX7_readOrder_233 (i := 1) rfl rfl ?_
  refine r_bipush dX7_readOrder_234 (v := 108) rfl ?_
  refine r_icmp_ne dX7_readOrder_236 (tgt := 274) rfl (fun _ => ?_) (fun h236 => absurd h236 ((by decide)))
  refine r_iload_n dX7_readOrder_274 (i := 1) rfl rfl ?_
  refine r_bipush dX7_readOrder_275 (v := 116) rfl ?_
  refine r_icmp_ne dX7_readOrder_277 (tgt := 294) rfl (fun _ => ?_) (fun h277 => absurd h277 ((by decide)))
  exact e_v dX7_readOrder_294 rfl (PQ_so (by decide))
theorem tX7_rO_m (hl : len ≤ 80) (hL : hp (16, 0, 0, 0) 6 = nI len) (hc : cRf hp len p = 109) : Cv g mX7_readOrder [vR (16, 0, 0, 0)] (PQ hp p false o) (PQ hp (tk (cRf hp len) 48 57 (p + 1) false).2.1 (tk (cRf hp len) 48 57 (p + 1) false).2.2 (up (up (up (up (up o 0 109) 1 (tk (cRf hp len) 48 57 (p + 1) false).1) 2 0) 3 0) 4 0)) := by
  unfold Cv
  have h : p < len := cRf_lt hc (by decide)
  have hv : hp (21, 0, 0, 0) p = 109 := (cRf_on h).symm.trans hc
  refine r_aload_n dX7_readOrder_0 (i := 0) rfl rfl ?_
  refine r_getI dX7_readOrder_1 f_7_163 rfl rfl lv16 ?_
  refine r_aload_n dX7_readOrder_4 (i := 0) rfl rfl ?_
  refine r_getI dX7_readOrder_5 f_7_151 rfl rfl lv16 ?_
  refine r_icmp_ge dX7_readOrder_8 (tgt := 23) rfl (fun h8 => absurd h8 ((by rw [PQ_8, PQ_6, hL]; exact nI_ge h (by omega)))) (fun _ => ?_)
  refine r_aload_n dX7_readOrder_11 (i := 0) rfl rfl ?_
  refine r_getR dX7_readOrder_12 f_7_23 rfl rfl rfl lv16 ?_
  refine r_aload_n dX7_readOrder_15 (i := 0) rfl rfl ?_
  refine r_getI dX7_readOrder_16 f_7_163 rfl rfl lv16 ?_
  refine n_iald dX7_readOrder_19 rfl lv21 (k := p) PQ_8 (by omega) ?_
  refine r_goto dX7_readOrder_20 (tgt := 24) rfl ?_
  refine V.eqS (st2 := [vI 109]) (by rw [PQ_21, hv]) ?_
  refine r_istore_n dX7_readOrder_24 (i := 1) rfl (Nat.le_of_ble_eq_true rfl) rfl rfl ?_
  refine r_iload_n dX7_readOrder_25 (i := 1) rfl rfl ?_
  refine r_bipush dX7_readOrder_26 (v := 107) rfl ?_
  refine r_icmp_eq dX7_readOrder_28 (tgt := 73) rfl (fun h28 => absurd h28 ((by decide))) (fun _ => ?_)
  refine r_iload_n dX7_readOrder_31 (i := 1) rfl rfl ?_
  refine r_bipush dX7_readOrder_32 (v := 114) rfl ?_
  refine r_icmp_eq dX7_readOrder_34 (tgt := 73) rfl (fun h34 => absurd h34 ((by decide))) (fun _ => ?_)
  refine r_iload_n dX7_readOrder_37 (i := 1) rfl rfl ?_
  refine r_bipush dX7_readOrder_38 (v := 117) rfl ?_
  refine r_icmp_eq dX7_readOrder_40 (tgt := 73) rfl (fun h40 => absurd h40 ((by decide))) (fun _ => ?_)
  refine r_iload_n dX7_readOrder_43 (i := 1) rfl rfl ?_
  refine r_bipush dX7_readOrder_44 (v := 109) rfl ?_
  refine r_icmp_eq dX7_readOrder_46 (tgt := 73) rfl (fun _ => ?_) (fun h46 => absurd ((by decide)) h46)
  refine r_iconst dX7_readOrder_73 (v := 1) rfl ?_
  refine r_goto dX7_readOrder_74 (tgt := 78) rfl ?_
  refine r_istore_n dX7_readOrder_78 (i := 2) rfl (Nat.le_of_ble_eq_true rfl) rfl rfl ?_
  refine r_aload_n dX7_readOrder_79 (i := 0) rfl rfl ?_
  refine r_aload_n dX7_readOrder_80 (i := 0) rfl rfl ?_
  refine r_getI dX7_readOrder_81 f_7_159 rfl rfl lv16 ?_
  refine r_if_ne dX7_readOrder_84 (tgt := 91) rfl (fun h84 => absurd ((PQ_9 : _ = bi false)) h84) (fun _ => ?_)
  refine r_iload_n dX7_readOrder_87 (i := 2) rfl rfl ?_
  refine r_if_ne dX7_readOrder_88 (tgt := 95) rfl (fun _ => ?_) (fun h88 => absurd h88 ((by decide)))
  refine r_iconst dX7_readOrder_95 (v := 0) rfl ?_
  refine r_putI dX7_readOrder_96 f_7_159 rfl rfl lv16 ⟨rfl, rfl⟩ ?_
  refine V.eqH (PQ_sw (v := false)) ?_
  refine r_aload_n dX7_readOrder_99 (i := 0) rfl rfl ?_
  refine r_dup dX7_readOrder_100 rfl ?_
  refine r_getI dX7_readOrder_101 f_7_163 rfl rfl lv16 ?_
  refine r_aload_n dX7_readOrder_104 (i := 0) rfl rfl ?_
  refine r_getI dX7_readOrder_105 f_7_159 rfl rfl lv16 ?_
  refine r_if_eq dX7_readOrder_108 (tgt := 115) rfl (fun _ => ?_) (fun h108 => absurd ((PQ_9 : _ = bi false)) h108)
  refine r_iconst dX7_readOrder_115 (v := 1) rfl ?_
  refine r_iadd dX7_readOrder_116 ?_
  refine r_putI dX7_readOrder_117 f_7_163 rfl rfl lv16 ⟨rfl, rfl⟩ ?_
  refine V.eqH (hp2 := PQ hp (p + 1) false o) (by rw [PQ_8, nI_1, PQ_sp]) ?_
  refine r_aload_n dX7_readOrder_120 (i := 0) rfl rfl ?_
  refine r_getR dX7_readOrder_121 f_7_29 rfl rfl rfl lv16 ?_
  refine r_iconst dX7_readOrder_124 (v := 0) rfl ?_
  refine r_iload_n dX7_readOrder_125 (i := 1) rfl rfl ?_
  refine n_iast dX7_readOrder_126 rfl lv23 (k := 0) rfl (by decide) ?_
  refine V.eqH (PQ_so (by decide)) ?_
  refine r_aload_n dX7_readOrder_127 (i := 0) rfl rfl ?_
  refine r_getR dX7_readOrder_128 f_7_29 rfl rfl rfl lv16 ?_
  refine r_iconst dX7_readOrder_131 (v := 1) rfl ?_
  refine r_iload_n dX7_readOrder_132 (i := 1) rfl rfl ?_
  refine r_bipush dX7_readOrder_133 (v := 122) rfl ?_
  refine r_icmp_eq dX7_readOrder_135 (tgt := 150) rfl (fun h135 => absurd h135 ((by decide))) (fun _ => ?_)
  refine r_iload_n dX7_readOrder_138 (i := 1) rfl rfl ?_
  refine r_bipush dX7_readOrder_139 (v := 108) rfl ?_
  refine r_icmp_eq dX7_readOrder_141 (tgt := 150) rfl (fun h141 => absurd h141 ((by decide))) (fun _ => ?_)
  refine r_iload_n dX7_readOrder_144 (i := 1) rfl rfl ?_
  refine r_bipush dX7_readOrder_145 (v := 116) rfl ?_
  refine r_icmp_ne dX7_readOrder_147 (tgt := 161) rfl (fun _ => ?_) (fun h147 => absurd h147 ((by decide)))
  refine r_iload_n dX7_readOrder_161 (i := 1) rfl rfl ?_
  refine r_bipush dX7_readOrder_162 (v := 107) rfl ?_
  refine r_icmp_eq dX7_readOrder_164 (tgt := 173) rfl (fun h164 => absurd h164 ((by decide))) (fun _ => ?_)
  refine r_iload_n dX7_readOrder_167 (i := 1) rfl rfl ?_
  refine r_bipush dX7_readOrder_168 (v := 98) rfl ?_
  refine r_icmp_ne dX7_readOrder_170 (tgt := 180) rfl (fun _ => ?_) (fun h170 => absurd h170 ((by decide)))
  refine r_aload_n dX7_readOrder_180 (i := 0) rfl rfl ?_
  refine r_bipush dX7_readOrder_181 (v := 48) rfl ?_
  refine r_bipush dX7_readOrder_183 (v := 57) rfl ?_
  refine sX7_readOrder_185 (Nat.le_refl _) (Nat.le_refl _) rfl lv16 (Nat.le_of_ble_eq_true rfl) (tX7_takes hl hL (by omega)) ?_
  refine n_iast dX7_readOrder_188 rfl lv23 (k := 1) rfl (by decide) ?_
  refine V.eqH (PQ_so (by decide)) ?_
  refine r_aload_n dX7_readOrder_189 (i := 0) rfl rfl ?_
  refine r_getR dX7_readOrder_190 f_7_29 rfl rfl rfl lv16 ?_
  refine r_iconst dX7_readOrder_193 (v := 2) rfl ?_
  refine r_iload_n dX7_readOrder_194 (i := 1) rfl rfl ?_
  refine r_bipush dX7_readOrder_195 (v := 108) rfl ?_
  refine r_icmp_eq dX7_readOrder_197 (tgt := 206) rfl (fun h197 => absurd h197 ((by decide))) (fun _ => ?_)
  refine r_iload_n dX7_readOrder_200 (i := 1) rfl rfl ?_
  refine r_bipush dX7_readOrder_201 (v := 116) rfl ?_
  refine r_icmp_ne dX7_readOrder_203 (tgt := 217) rfl (fun _ => ?_) (fun h203 => absurd h203 ((by decide)))
  refine r_iconst dX7_readOrder_217 (v := 0) rfl ?_
  refine n_iast dX7_readOrder_218 rfl lv23 (k := 2) rfl (by decide) ?_
  refine V.eqH (PQ_so (by decide)) ?_
  refine r_aload_n dX7_readOrder_219 (i := 0) rfl rfl ?_
  refine r_getR dX7_readOrder_220 f_7_29 rfl rfl rfl lv16 ?_
  refine r_iconst dX7_readOrder_223 (v := 3) rfl ?_
  refine r_iconst dX7_readOrder_224 (v := 0) rfl ?_
  refine n_iast dX7_readOrder_225 rfl lv23 (k := 3) rfl (by decide) ?_
  refine V.eqH (PQ_so (by decide)) ?_
  refine r_aload_n dX7_readOrder_226 (i := 0) rfl rfl ?_
  refine r_getR dX7_readOrder_227 f_7_29 rfl rfl rfl lv16 ?_
  refine r_iconst dX7_readOrder_230 (v := 4) rfl ?_
  refine r_iconst dX7_readOrder_231 (v := 0) rfl ?_
  refine n_iast dX7_readOrder_232 rfl lv23 (k := 4) rfl (by decide) ?_
  refine r_iload_n dX7_readOrder_233 (i := 1) rfl rfl ?_
  refine r_bipush dX7_readOrder_234 (v := 108) rfl ?_
  refine r_icmp_ne dX7_readOrder_236 (tgt := 274) rfl (fun _ => ?_) (fun h236 => absurd h236 ((by decide)))
  refine r_iload_n dX7_readOrder_274 (i := 1) rfl rfl ?_
  refine r_bipush dX7_readOrder_275 (v := 116) rfl ?_
  refine r_icmp_ne dX7_readOrder_277 (tgt := 294) rfl (fun _ => ?_) (fun h277 => absurd h277 ((by decide)))
  exact e_v dX7_readOrder_294 rfl (PQ_so (by decide))
theorem tX7_rO_z (hl : len ≤ 80) (hL : hp (16, 0, 0, 0) 6 = nI len) (hc : cRf hp len p = 122) : Cv g mX7_readOrder [vR (16, 0, 0, 0)] (PQ hp p false o) (PQ hp (tk (cRf hp len) 97 98 (p + 1) false).2.1 (tk (cRf hp len) 97 98 (p + 1) false).2.2 (up (up (up (up (up o 0 122) 1 (tk (cRf hp len) 97 98 (p + 1) false).1) 2 0) 3 0) 4 0)) := by
  unfold Cv
  have h : p < len := cRf_lt hc (by decide)
  have hv : hp (21, 0, 0, 0) p = 122 := (cRf_on h).symm.trans hc
  refine r_aload_n dX7_readOrder_0 (i := 0) rfl rfl ?_
  refine r_getI dX7_readOrder_1 f_7_163 rfl rfl lv16 ?_
  refine r_aload_n dX7_readOrder_4 (i := 0) rfl rfl ?_
  refine r_getI dX7_readOrder_5 f_7_151 rfl rfl lv16 ?_
  refine r_icmp_ge dX7_readOrder_8 (tgt := 23) rfl (fun h8 => absurd h8 ((by rw [PQ_8, PQ_6, hL]; exact nI_ge h (by omega)))) (fun _ => ?_)
  refine r_aload_n dX7_readOrder_11 (i := 0) rfl rfl ?_
  refine r_getR dX7_readOrder_12 f_7_23 rfl rfl rfl lv16 ?_
  refine r_aload_n dX7_readOrder_15 (i := 0) rfl rfl ?_
  refine r_getI dX7_readOrder_16 f_7_163 rfl rfl lv16 ?_
  refine n_iald dX7_readOrder_19 rfl lv21 (k := p) PQ_8 (by omega) ?_
  refine r_goto dX7_readOrder_20 (tgt := 24) rfl ?_
  refine V.eqS (st2 := [vI 122]) (by rw [PQ_21, hv]) ?_
  refine r_istore_n dX7_readOrder_24 (i := 1) rfl (Nat.le_of_ble_eq_true rfl) rfl rfl ?_
  refine r_iload_n dX7_readOrder_25 (i := 1) rfl rfl ?_
  refine r_bipush dX7_readOrder_26 (v := 107) rfl ?_
  refine r_icmp_eq dX7_readOrder_28 (tgt := 73) rfl (fun h28 => absurd h28 ((by decide))) (fun _ => ?_)
  refine r_iload_n dX7_readOrder_31 (i := 1) rfl rfl ?_
  refine r_bipush dX7_readOrder_32 (v := 114) rfl ?_
  refine r_icmp_eq dX7_readOrder_34 (tgt := 73) rfl (fun h34 => absurd h34 ((by decide))) (fun _ => ?_)
  refine r_iload_n dX7_readOrder_37 (i := 1) rfl rfl ?_
  refine r_bipush dX7_readOrder_38 (v := 117) rfl ?_
  refine r_icmp_eq dX7_readOrder_40 (tgt := 73) rfl (fun h40 => absurd h40 ((by decide))) (fun _ => ?_)
  refine r_iload_n dX7_readOrder_43 (i := 1) rfl rfl ?_
  refine r_bipush dX7_readOrder_44 (v := 109) rfl ?_
  refine r_icmp_eq dX7_readOrder_46 (tgt := 73) rfl (fun h46 => absurd h46 ((by decide))) (fun _ => ?_)
  refine r_iload_n dX7_readOrder_49 (i := 1) rfl rfl ?_
  refine r_bipush dX7_readOrder_50 (v := 122) rfl ?_
  refine r_icmp_eq dX7_readOrder_52 (tgt := 73) rfl (fun _ => ?_) (fun h52 => absurd ((by decide)) h52)
  refine r_iconst dX7_readOrder_73 (v := 1) rfl ?_
  refine r_goto dX7_readOrder_74 (tgt := 78) rfl ?_
  refine r_istore_n dX7_readOrder_78 (i := 2) rfl (Nat.le_of_ble_eq_true rfl) rfl rfl ?_
  refine r_aload_n dX7_readOrder_79 (i := 0) rfl rfl ?_
  refine r_aload_n dX7_readOrder_80 (i := 0) rfl rfl ?_
  refine r_getI dX7_readOrder_81 f_7_159 rfl rfl lv16 ?_
  refine r_if_ne dX7_readOrder_84 (tgt := 91) rfl (fun h84 => absurd ((PQ_9 : _ = bi false)) h84) (fun _ => ?_)
  refine r_iload_n dX7_readOrder_87 (i := 2) rfl rfl ?_
  refine r_if_ne dX7_readOrder_88 (tgt := 95) rfl (fun _ => ?_) (fun h88 => absurd h88 ((by decide)))
  refine r_iconst dX7_readOrder_95 (v := 0) rfl ?_
  refine r_putI dX7_readOrder_96 f_7_159 rfl rfl lv16 ⟨rfl, rfl⟩ ?_
  refine V.eqH (PQ_sw (v := false)) ?_
  refine r_aload_n dX7_readOrder_99 (i := 0) rfl rfl ?_
  refine r_dup dX7_readOrder_100 rfl ?_
  refine r_getI dX7_readOrder_101 f_7_163 rfl rfl lv16 ?_
  refine r_aload_n dX7_readOrder_104 (i := 0) rfl rfl ?_
  refine r_getI dX7_readOrder_105 f_7_159 rfl rfl lv16 ?_
  refine r_if_eq dX7_readOrder_108 (tgt := 115) rfl (fun _ => ?_) (fun h108 => absurd ((PQ_9 : _ = bi false)) h108)
  refine r_iconst dX7_readOrder_115 (v := 1) rfl ?_
  refine r_iadd dX7_readOrder_116 ?_
  refine r_putI dX7_readOrder_117 f_7_163 rfl rfl lv16 ⟨rfl, rfl⟩ ?_
  refine V.eqH (hp2 := PQ hp (p + 1) false o) (by rw [PQ_8, nI_1, PQ_sp]) ?_
  refine r_aload_n dX7_readOrder_120 (i := 0) rfl rfl ?_
  refine r_getR dX7_readOrder_121 f_7_29 rfl rfl rfl lv16 ?_
  refine r_iconst dX7_readOrder_124 (v := 0) rfl ?_
  refine r_iload_n dX7_readOrder_125 (i := 1) rfl rfl ?_
  refine n_iast dX7_readOrder_126 rfl lv23 (k := 0) rfl (by decide) ?_
  refine V.eqH (PQ_so (by decide)) ?_
  refine r_aload_n dX7_readOrder_127 (i := 0) rfl rfl ?_
  refine r_getR dX7_readOrder_128 f_7_29 rfl rfl rfl lv16 ?_
  refine r_iconst dX7_readOrder_131 (v := 1) rfl ?_
  refine r_iload_n dX7_readOrder_132 (i := 1) rfl rfl ?_
  refine r_bipush dX7_readOrder_133 (v := 122) rfl ?_
  refine r_icmp_eq dX7_readOrder_135 (tgt := 150) rfl (fun _ => ?_) (fun h135 => absurd ((by decide)) h135)
  refine r_aload_n dX7_readOrder_150 (i := 0) rfl rfl ?_
  refine r_bipush dX7_readOrder_151 (v := 97) rfl ?_
  refine r_bipush dX7_readOrder_153 (v := 98) rfl ?_
  refine sX7_readOrder_155 (Nat.le_refl _) (Nat.le_refl _) rfl lv16 (Nat.le_of_ble_eq_true rfl) (tX7_takes hl hL (by omega)) ?_
  refine r_goto dX7_readOrder_158 (tgt := 188) rfl ?_
  refine n_iast dX7_readOrder_188 rfl lv23 (k := 1) rfl (by decide) ?_
  refine V.eqH (PQ_so (by decide)) ?_
  refine r_aload_n dX7_readOrder_189 (i := 0) rfl rfl ?_
  refine r_getR dX7_readOrder_190 f_7_29 rfl rfl rfl lv16 ?_
  refine r_iconst dX7_readOrder_193 (v := 2) rfl ?_
  refine r_iload_n dX7_readOrder_194 (i := 1) rfl rfl ?_
  refine r_bipush dX7_readOrder_195 (v := 108) rfl ?_
  refine r_icmp_eq dX7_readOrder_197 (tgt := 206) rfl (fun h197 => absurd h197 ((by decide))) (fun _ => ?_)
  refine r_iload_n dX7_readOrder_200 (i := 1) rfl rfl ?_
  refine r_bipush dX7_readOrder_201 (v := 116) rfl ?_
  refine r_icmp_ne dX7_readOrder_203 (tgt := 217) rfl (fun _ => ?_) (fun h203 => absurd h203 ((by decide)))
  refine r_iconst dX7_readOrder_217 (v := 0) rfl ?_
  refine n_iast dX7_readOrder_218 rfl lv23 (k := 2) rfl (by decide) ?_
  refine V.eqH (PQ_so (by decide)) ?_
  refine r_aload_n dX7_readOrder_219 (i := 0) rfl rfl ?_
  refine r_getR dX7_readOrder_220 f_7_29 rfl rfl rfl lv16 ?_
  refine r_iconst dX7_readOrder_223 (v := 3) rfl ?_
  refine r_iconst dX7_readOrder_224 (v := 0) rfl ?_
  refine n_iast dX7_readOrder_225 rfl lv23 (k := 3) rfl (by decide) ?_
  refine V.eqH (PQ_so (by decide)) ?_
  refine r_aload_n dX7_readOrder_226 (i := 0) rfl rfl ?_
  refine r_getR dX7_readOrder_227 f_7_29 rfl rfl rfl lv16 ?_
  refine r_iconst dX7_readOrder_230 (v := 4) rfl ?_
  refine r_iconst dX7_readOrder_231 (v := 0) rfl ?_
  refine n_iast dX7_readOrder_232 rfl lv23 (k := 4) rfl (by decide) ?_
  refine r_iload_n dX7_readOrder_233 (i := 1) rfl rfl ?_
  refine r_bipush dX7_readOrder_234 (v := 108) rfl ?_
  refine r_icmp_ne dX7_readOrder_236 (tgt := 274) rfl (fun _ => ?_) (fun h236 => absurd h236 ((by decide)))
  refine r_iload_n dX7_readOrder_274 (i := 1) rfl rfl ?_
  refine r_bipush dX7_readOrder_275 (v := 116) rfl ?_
  refine r_icmp_ne dX7_readOrder_277 (tgt := 294) rfl (fun _ => ?_) (fun h277 => absurd h277 ((by decide)))
  exact e_v dX7_readOrder_294 rfl (PQ_so (by decide))
def l1 (c : Nat → Int32) (p : Nat) : TS := tk c 97 98 (p + 1) false
def l2 (c : Nat → Int32) (p : Nat) : TS := tk c 48 57 (l1 c p).2.1 (l1 c p).2.2
def l3 (c : Nat → Int32) (p : Nat) : TS := tk c 43 43 (l2 c p).2.1 (l2 c p).2.2
def l4 (c : Nat → Int32) (p : Nat) : TS := tN c (l3 c p).2.1 (l3 c p).2.2
def l5 (c : Nat → Int32) (p : Nat) : TS := tB c 44 0 (l4 c p).2.1 (l4 c p).2.2
def t3 (c : Nat → Int32) (p : Nat) : TS := tB c 46 (-6) (l2 c p).2.1 (l2 c p).2.2
theorem l1_le (h : p < len) : (l1 (cRf hp len) p).2.1 ≤ len := tkP_le h (by decide)
theorem l2_le (h : p < len) : (l2 (cRf hp len) p).2.1 ≤ len := tkP_le (l1_le h) (by decide)
theorem l3_le (h : p < len) : (l3 (cRf hp len) p).2.1 ≤ len := tkP_le (l2_le h) (by decide)
theorem l4_le (h : p < len) : (l4 (cRf hp len) p).2.1 ≤ len := tN_le (l3_le h)
theorem tX7_rO_l (hl : len ≤ 80) (hL : hp (16, 0, 0, 0) 6 = nI len) (hc : cRf hp len p = 108) : Cv g mX7_readOrder [vR (16, 0, 0, 0)] (PQ hp p false o) (PQ hp (l5 (cRf hp len) p).2.1 (l5 (cRf hp len) p).2.2 (up (up (up (up (up (up (up o 0 108) 1 (l1 (cRf hp len) p).1) 2 (l2 (cRf hp len) p).1) 3 0) 4 0) 3 (l4 (cRf hp len) p).1) 4 (l5 (cRf hp len) p).1)) := by
  unfold Cv
  have h : p < len := cRf_lt hc (by decide)
  have hv : hp (21, 0, 0, 0) p = 108 := (cRf_on h).symm.trans hc
  refine r_aload_n dX7_readOrder_0 (i := 0) rfl rfl ?_
  refine r_getI dX7_readOrder_1 f_7_163 rfl rfl lv16 ?_
  refine r_aload_n dX7_readOrder_4 (i := 0) rfl rfl ?_
  refine r_getI dX7_readOrder_5 f_7_151 rfl rfl lv16 ?_
  refine r_icmp_ge dX7_readOrder_8 (tgt := 23) rfl (fun h8 => absurd h8 ((by rw [PQ_8, PQ_6, hL]; exact nI_ge h (by omega)))) (fun _ => ?_)
  refine r_aload_n dX7_readOrder_11 (i := 0) rfl rfl ?_
  refine r_getR dX7_readOrder_12 f_7_23 rfl rfl rfl lv16 ?_
  refine r_aload_n dX7_readOrder_15 (i := 0) rfl rfl ?_
  refine r_getI dX7_readOrder_16 f_7_163 rfl rfl lv16 ?_
  refine n_iald dX7_readOrder_19 rfl lv21 (k := p) PQ_8 (by omega) ?_
  refine r_goto dX7_readOrder_20 (tgt := 24) rfl ?_
  refine V.eqS (st2 := [vI 108]) (by rw [PQ_21, hv]) ?_
  refine r_istore_n dX7_readOrder_24 (i := 1) rfl (Nat.le_of_ble_eq_true rfl) rfl rfl ?_
  refine r_iload_n dX7_readOrder_25 (i := 1) rfl rfl ?_
  refine r_bipush dX7_readOrder_26 (v := 107) rfl ?_
  refine r_icmp_eq dX7_readOrder_28 (tgt := 73) rfl (fun h28 => absurd h28 ((by decide))) (fun _ => ?_)
  refine r_iload_n dX7_readOrder_31 (i := 1) rfl rfl ?_
  refine r_bipush dX7_readOrder_32 (v := 114) rfl ?_
  refine r_icmp_eq dX7_readOrder_34 (tgt := 73) rfl (fun h34 => absurd h34 ((by decide))) (fun _ => ?_)
  refine r_iload_n dX7_readOrder_37 (i := 1) rfl rfl ?_
  refine r_bipush dX7_readOrder_38 (v := 117) rfl ?_
  refine r_icmp_eq dX7_readOrder_40 (tgt := 73) rfl (fun h40 => absurd h40 ((by decide))) (fun _ => ?_)
  refine r_iload_n dX7_readOrder_43 (i := 1) rfl rfl ?_
  refine r_bipush dX7_readOrder_44 (v := 109) rfl ?_
  refine r_icmp_eq dX7_readOrder_46 (tgt := 73) rfl (fun h46 => absurd h46 ((by decide))) (fun _ => ?_)
  refine r_iload_n dX7_readOrder_49 (i := 1) rfl rfl ?_
  refine r_bipush dX7_readOrder_50 (v := 122) rfl ?_
  refine r_icmp_eq dX7_readOrder_52 (tgt := 73) rfl (fun h52 => absurd h52 ((by decide))) (fun _ => ?_)
  refine r_iload_n dX7_readOrder_55 (i := 1) rfl rfl ?_
  refine r_bipush dX7_readOrder_56 (v := 108) rfl ?_
  refine r_icmp_eq dX7_readOrder_58 (tgt := 73) rfl (fun _ => ?_) (fun h58 => absurd ((by decide)) h58)
  refine r_iconst dX7_readOrder_73 (v := 1) rfl ?_
  refine r_goto dX7_readOrder_74 (tgt := 78) rfl ?_
  refine r_istore_n dX7_readOrder_78 (i := 2) rfl (Nat.le_of_ble_eq_true rfl) rfl rfl ?_
  refine r_aload_n dX7_readOrder_79 (i := 0) rfl rfl ?_
  refine r_aload_n dX7_readOrder_80 (i := 0) rfl rfl ?_
  refine r_getI dX7_readOrder_81 f_7_159 rfl rfl lv16 ?_
  refine r_if_ne dX7_readOrder_84 (tgt := 91) rfl (fun h84 => absurd ((PQ_9 : _ = bi false)) h84) (fun _ => ?_)
  refine r_iload_n dX7_readOrder_87 (i := 2) rfl rfl ?_
  refine r_if_ne dX7_readOrder_88 (tgt := 95) rfl (fun _ => ?_) (fun h88 => absurd h88 ((by decide)))
  refine r_iconst dX7_readOrder_95 (v := 0) rfl ?_
  refine r_putI dX7_readOrder_96 f_7_159 rfl rfl lv16 ⟨rfl, rfl⟩ ?_
  refine V.eqH (PQ_sw (v := false)) ?_
  refine r_aload_n dX7_readOrder_99 (i := 0) rfl rfl ?_
  refine r_dup dX7_readOrder_100 rfl ?_
  refine r_getI dX7_readOrder_101 f_7_163 rfl rfl lv16 ?_
  refine r_aload_n dX7_readOrder_104 (i := 0) rfl rfl ?_
  refine r_getI dX7_readOrder_105 f_7_159 rfl rfl lv16 ?_
  refine r_if_eq dX7_readOrder_108 (tgt := 115) rfl (fun _ => ?_) (fun h108 => absurd ((PQ_9 : _ = bi false)) h108)
  refine r_iconst dX7_readOrder_115 (v := 1) rfl ?_
  refine r_iadd dX7_readOrder_116 ?_
  refine r_putI dX7_readOrder_117 f_7_163 rfl rfl lv16 ⟨rfl, rfl⟩ ?_
  refine V.eqH (hp2 := PQ hp (p + 1) false o) (by rw [PQ_8, nI_1, PQ_sp]) ?_
  refine r_aload_n dX7_readOrder_120 (i := 0) rfl rfl ?_
  refine r_getR dX7_readOrder_121 f_7_29 rfl rfl rfl lv16 ?_
  refine r_iconst dX7_readOrder_124 (v := 0) rfl ?_
  refine r_iload_n dX7_readOrder_125 (i := 1) rfl rfl ?_
  refine n_iast dX7_readOrder_126 rfl lv23 (k := 0) rfl (by decide) ?_
  refine V.eqH (PQ_so (by decide)) ?_
  refine r_aload_n dX7_readOrder_127 (i := 0) rfl rfl ?_
  refine r_getR dX7_readOrder_128 f_7_29 rfl rfl rfl lv16 ?_
  refine r_iconst dX7_readOrder_131 (v := 1) rfl ?_
  refine r_iload_n dX7_readOrder_132 (i := 1) rfl rfl ?_
  refine r_bipush dX7_readOrder_133 (v := 122) rfl ?_
  refine r_icmp_eq dX7_readOrder_135 (tgt := 150) rfl (fun h135 => absurd h135 ((by decide))) (fun _ => ?_)
  refine r_iload_n dX7_readOrder_138 (i := 1) rfl rfl ?_
  refine r_bipush dX7_readOrder_139 (v := 108) rfl ?_
  refine r_icmp_eq dX7_readOrder_141 (tgt := 150) rfl (fun _ => ?_) (fun h141 => absurd ((by decide)) h141)
  refine r_aload_n dX7_readOrder_150 (i := 0) rfl rfl ?_
  refine r_bipush dX7_readOrder_151 (v := 97) rfl ?_
  refine r_bipush dX7_readOrder_153 (v := 98) rfl ?_
  refine sX7_readOrder_155 (Nat.le_refl _) (Nat.le_refl _) rfl lv16 (Nat.le_of_ble_eq_true rfl) (tX7_takes hl hL (by omega)) ?_
  refine r_goto dX7_readOrder_158 (tgt := 188) rfl ?_
  refine n_iast dX7_readOrder_188 rfl lv23 (k := 1) rfl (by decide) ?_
  refine V.eqH (PQ_so (by decide)) ?_
  refine r_aload_n dX7_readOrder_189 (i := 0) rfl rfl ?_
  refine r_getR dX7_readOrder_190 f_7_29 rfl rfl rfl lv16 ?_
  refine r_iconst dX7_readOrder_193 (v := 2) rfl ?_
  refine r_iload_n dX7_readOrder_194 (i := 1) rfl rfl ?_
  refine r_bipush dX7_readOrder_195 (v := 108) rfl ?_
  refine r_icmp_eq dX7_readOrder_197 (tgt := 206) rfl (fun _ => ?_) (fun h197 => absurd ((by decide)) h197)
  refine r_aload_n dX7_readOrder_206 (i := 0) rfl rfl ?_
  refine r_bipush dX7_readOrder_207 (v := 48) rfl ?_
  refine r_bipush dX7_readOrder_209 (v := 57) rfl ?_
  refine sX7_readOrder_211 (Nat.le_refl _) (Nat.le_refl _) rfl lv16 (Nat.le_of_ble_eq_true rfl) (tX7_takes hl hL (l1_le h)) ?_
  refine r_goto dX7_readOrder_214 (tgt := 218) rfl ?_
  refine n_iast dX7_readOrder_218 rfl lv23 (k := 2) rfl (by decide) ?_
  refine V.eqH (PQ_so (by decide)) ?_
  refine r_aload_n dX7_readOrder_219 (i := 0) rfl rfl ?_
  refine r_getR dX7_readOrder_220 f_7_29 rfl rfl rfl lv16 ?_
  refine r_iconst dX7_readOrder_223 (v := 3) rfl ?_
  refine r_iconst dX7_readOrder_224 (v := 0) rfl ?_
  refine n_iast dX7_readOrder_225 rfl lv23 (k := 3) rfl (by decide) ?_
  refine V.eqH (PQ_so (by decide)) ?_
  refine r_aload_n dX7_readOrder_226 (i := 0) rfl rfl ?_
  refine r_getR dX7_readOrder_227 f_7_29 rfl rfl rfl lv16 ?_
  refine r_iconst dX7_readOrder_230 (v := 4) rfl ?_
  refine r_iconst dX7_readOrder_231 (v := 0) rfl ?_
  refine n_iast dX7_readOrder_232 rfl lv23 (k := 4) rfl (by decide) ?_
  refine V.eqH (PQ_so (by decide)) ?_
  refine r_iload_n dX7_readOrder_233 (i := 1) rfl rfl ?_
  refine r_bipush dX7_readOrder_234 (v := 108) rfl ?_
  refine r_icmp_ne dX7_readOrder_236 (tgt := 274) rfl (fun h236 => absurd ((by decide)) h236) (fun _ => ?_)
  refine r_aload_n dX7_readOrder_239 (i := 0) rfl rfl ?_
  refine r_bipush dX7_readOrder_240 (v := 43) rfl ?_
  refine r_bipush dX7_readOrder_242 (v := 43) rfl ?_
  refine sX7_readOrder_244 (Nat.le_refl _) (Nat.le_refl _) rfl lv16 (Nat.le_of_ble_eq_true rfl) (tX7_takes hl hL (l2_le h)) ?_
  refine r_istore_n dX7_readOrder_247 (i := 3) rfl (Nat.le_of_ble_eq_true rfl) rfl rfl ?_
  refine r_aload_n dX7_readOrder_248 (i := 0) rfl rfl ?_
  refine r_getR dX7_readOrder_249 f_7_29 rfl rfl rfl lv16 ?_
  refine r_iconst dX7_readOrder_252 (v := 3) rfl ?_
  refine r_aload_n dX7_readOrder_253 (i := 0) rfl rfl ?_
  refine sX7_readOrder_254 (Nat.le_refl _) (Nat.le_refl _) rfl lv16 (Nat.le_of_ble_eq_true rfl) (tX7_takesNumber hl hL (l3_le h)) ?_
  refine n_iast dX7_readOrder_257 rfl lv23 (k := 3) rfl (by decide) ?_
  refine V.eqH (PQ_so (by decide)) ?_
  refine r_aload_n dX7_readOrder_258 (i := 0) rfl rfl ?_
  refine r_getR dX7_readOrder_259 f_7_29 rfl rfl rfl lv16 ?_
  refine r_iconst dX7_readOrder_262 (v := 4) rfl ?_
  refine r_aload_n dX7_readOrder_263 (i := 0) rfl rfl ?_
  refine r_bipush dX7_readOrder_264 (v := 44) rfl ?_
  refine r_iconst dX7_readOrder_266 (v := 0) rfl ?_
  refine sX7_readOrder_267 (Nat.le_refl _) (Nat.le_refl _) rfl lv16 (Nat.le_of_ble_eq_true rfl) (tX7_takesBehind hl hL (l4_le h) (by decide)) ?_
  refine n_iast dX7_readOrder_270 rfl lv23 (k := 4) rfl (by decide) ?_
  refine r_goto dX7_readOrder_271 (tgt := 294) rfl ?_
  exact e_v dX7_readOrder_294 rfl (PQ_so (by decide))
theorem tX7_rO_t (hl : len ≤ 80) (hL : hp (16, 0, 0, 0) 6 = nI len) (hc : cRf hp len p = 116) : Cv g mX7_readOrder [vR (16, 0, 0, 0)] (PQ hp p false o) (PQ hp (t3 (cRf hp len) p).2.1 (t3 (cRf hp len) p).2.2 (up (up (up (up (up (up o 0 116) 1 (l1 (cRf hp len) p).1) 2 (l2 (cRf hp len) p).1) 3 0) 4 0) 3 (t3 (cRf hp len) p).1)) := by
  unfold Cv
  have h : p < len := cRf_lt hc (by decide)
  have hv : hp (21, 0, 0, 0) p = 116 := (cRf_on h).symm.trans hc
  refine r_aload_n dX7_readOrder_0 (i := 0) rfl rfl ?_
  refine r_getI dX7_readOrder_1 f_7_163 rfl rfl lv16 ?_
  refine r_aload_n dX7_readOrder_4 (i := 0) rfl rfl ?_
  refine r_getI dX7_readOrder_5 f_7_151 rfl rfl lv16 ?_
  refine r_icmp_ge dX7_readOrder_8 (tgt := 23) rfl (fun h8 => absurd h8 ((by rw [PQ_8, PQ_6, hL]; exact nI_ge h (by omega)))) (fun _ => ?_)
  refine r_aload_n dX7_readOrder_11 (i := 0) rfl rfl ?_
  refine r_getR dX7_readOrder_12 f_7_23 rfl rfl rfl lv16 ?_
  refine r_aload_n dX7_readOrder_15 (i := 0) rfl rfl ?_
  refine r_getI dX7_readOrder_16 f_7_163 rfl rfl lv16 ?_
  refine n_iald dX7_readOrder_19 rfl lv21 (k := p) PQ_8 (by omega) ?_
  refine r_goto dX7_readOrder_20 (tgt := 24) rfl ?_
  refine V.eqS (st2 := [vI 116]) (by rw [PQ_21, hv]) ?_
  refine r_istore_n dX7_readOrder_24 (i := 1) rfl (Nat.le_of_ble_eq_true rfl) rfl rfl ?_
  refine r_iload_n dX7_readOrder_25 (i := 1) rfl rfl ?_
  refine r_bipush dX7_readOrder_26 (v := 107) rfl ?_
  refine r_icmp_eq dX7_readOrder_28 (tgt := 73) rfl (fun h28 => absurd h28 ((by decide))) (fun _ => ?_)
  refine r_iload_n dX7_readOrder_31 (i := 1) rfl rfl ?_
  refine r_bipush dX7_readOrder_32 (v := 114) rfl ?_
  refine r_icmp_eq dX7_readOrder_34 (tgt := 73) rfl (fun h34 => absurd h34 ((by decide))) (fun _ => ?_)
  refine r_iload_n dX7_readOrder_37 (i := 1) rfl rfl ?_
  refine r_bipush dX7_readOrder_38 (v := 117) rfl ?_
  refine r_icmp_eq dX7_readOrder_40 (tgt := 73) rfl (fun h40 => absurd h40 ((by decide))) (fun _ => ?_)
  refine r_iload_n dX7_readOrder_43 (i := 1) rfl rfl ?_
  refine r_bipush dX7_readOrder_44 (v := 109) rfl ?_
  refine r_icmp_eq dX7_readOrder_46 (tgt := 73) rfl (fun h46 => absurd h46 ((by decide))) (fun _ => ?_)
  refine r_iload_n dX7_readOrder_49 (i := 1) rfl rfl ?_
  refine r_bipush dX7_readOrder_50 (v := 122) rfl ?_
  refine r_icmp_eq dX7_readOrder_52 (tgt := 73) rfl (fun h52 => absurd h52 ((by decide))) (fun _ => ?_)
  refine r_iload_n dX7_readOrder_55 (i := 1) rfl rfl ?_
  refine r_bipush dX7_readOrder_56 (v := 108) rfl ?_
  refine r_icmp_eq dX7_readOrder_58 (tgt := 73) rfl (fun h58 => absurd h58 ((by decide))) (fun _ => ?_)
  refine r_iload_n dX7_readOrder_61 (i := 1) rfl rfl ?_
  refine r_bipush dX7_readOrder_62 (v := 116) rfl ?_
  refine r_icmp_eq dX7_readOrder_64 (tgt := 73) rfl (fun _ => ?_) (fun h64 => absurd ((by decide)) h64)
  refine r_iconst dX7_readOrder_73 (v := 1) rfl ?_
  refine r_goto dX7_readOrder_74 (tgt := 78) rfl ?_
  refine r_istore_n dX7_readOrder_78 (i := 2) rfl (Nat.le_of_ble_eq_true rfl) rfl rfl ?_
  refine r_aload_n dX7_readOrder_79 (i := 0) rfl rfl ?_
  refine r_aload_n dX7_readOrder_80 (i := 0) rfl rfl ?_
  refine r_getI dX7_readOrder_81 f_7_159 rfl rfl lv16 ?_
  refine r_if_ne dX7_readOrder_84 (tgt := 91) rfl (fun h84 => absurd ((PQ_9 : _ = bi false)) h84) (fun _ => ?_)
  refine r_iload_n dX7_readOrder_87 (i := 2) rfl rfl ?_
  refine r_if_ne dX7_readOrder_88 (tgt := 95) rfl (fun _ => ?_) (fun h88 => absurd h88 ((by decide)))
  refine r_iconst dX7_readOrder_95 (v := 0) rfl ?_
  refine r_putI dX7_readOrder_96 f_7_159 rfl rfl lv16 ⟨rfl, rfl⟩ ?_
  refine V.eqH (PQ_sw (v := false)) ?_
  refine r_aload_n dX7_readOrder_99 (i := 0) rfl rfl ?_
  refine r_dup dX7_readOrder_100 rfl ?_
  refine r_getI dX7_readOrder_101 f_7_163 rfl rfl lv16 ?_
  refine r_aload_n dX7_readOrder_104 (i := 0) rfl rfl ?_
  refine r_getI dX7_readOrder_105 f_7_159 rfl rfl lv16 ?_
  refine r_if_eq dX7_readOrder_108 (tgt := 115) rfl (fun _ => ?_) (fun h108 => absurd ((PQ_9 : _ = bi false)) h108)
  refine r_iconst dX7_readOrder_115 (v := 1) rfl ?_
  refine r_iadd dX7_readOrder_116 ?_
  refine r_putI dX7_readOrder_117 f_7_163 rfl rfl lv16 ⟨rfl, rfl⟩ ?_
  refine V.eqH (hp2 := PQ hp (p + 1) false o) (by rw [PQ_8, nI_1, PQ_sp]) ?_
  refine r_aload_n dX7_readOrder_120 (i := 0) rfl rfl ?_
  refine r_getR dX7_readOrder_121 f_7_29 rfl rfl rfl lv16 ?_
  refine r_iconst dX7_readOrder_124 (v := 0) rfl ?_
  refine r_iload_n dX7_readOrder_125 (i := 1) rfl rfl ?_
  refine n_iast dX7_readOrder_126 rfl lv23 (k := 0) rfl (by decide) ?_
  refine V.eqH (PQ_so (by decide)) ?_
  refine r_aload_n dX7_readOrder_127 (i := 0) rfl rfl ?_
  refine r_getR dX7_readOrder_128 f_7_29 rfl rfl rfl lv16 ?_
  refine r_iconst dX7_readOrder_131 (v := 1) rfl ?_
  refine r_iload_n dX7_readOrder_132 (i := 1) rfl rfl ?_
  refine r_bipush dX7_readOrder_133 (v := 122) rfl ?_
  refine r_icmp_eq dX7_readOrder_135 (tgt := 150) rfl (fun h135 => absurd h135 ((by decide))) (fun _ => ?_)
  refine r_iload_n dX7_readOrder_138 (i := 1) rfl rfl ?_
  refine r_bipush dX7_readOrder_139 (v := 108) rfl ?_
  refine r_icmp_eq dX7_readOrder_141 (tgt := 150) rfl (fun h141 => absurd h141 ((by decide))) (fun _ => ?_)
  refine r_iload_n dX7_readOrder_144 (i := 1) rfl rfl ?_
  refine r_bipush dX7_readOrder_145 (v := 116) rfl ?_
  refine r_icmp_ne dX7_readOrder_147 (tgt := 161) rfl (fun h147 => absurd ((by decide)) h147) (fun _ => ?_)
  refine r_aload_n dX7_readOrder_150 (i := 0) rfl rfl ?_
  refine r_bipush dX7_readOrder_151 (v := 97) rfl ?_
  refine r_bipush dX7_readOrder_153 (v := 98) rfl ?_
  refine sX7_readOrder_155 (Nat.le_refl _) (Nat.le_refl _) rfl lv16 (Nat.le_of_ble_eq_true rfl) (tX7_takes hl hL (by omega)) ?_
  refine r_goto dX7_readOrder_158 (tgt := 188) rfl ?_
  refine n_iast dX7_readOrder_188 rfl lv23 (k := 1) rfl (by decide) ?_
  refine V.eqH (PQ_so (by decide)) ?_
  refine r_aload_n dX7_readOrder_189 (i := 0) rfl rfl ?_
  refine r_getR dX7_readOrder_190 f_7_29 rfl rfl rfl lv16 ?_
  refine r_iconst dX7_readOrder_193 (v := 2) rfl ?_
  refine r_iload_n dX7_readOrder_194 (i := 1) rfl rfl ?_
  refine r_bipush dX7_readOrder_195 (v := 108) rfl ?_
  refine r_icmp_eq dX7_readOrder_197 (tgt := 206) rfl (fun h197 => absurd h197 ((by decide))) (fun _ => ?_)
  refine r_iload_n dX7_readOrder_200 (i := 1) rfl rfl ?_
  refine r_bipush dX7_readOrder_201 (v := 116) rfl ?_
  refine r_icmp_ne dX7_readOrder_203 (tgt := 217) rfl (fun h203 => absurd ((by decide)) h203) (fun _ => ?_)
  refine r_aload_n dX7_readOrder_206 (i := 0) rfl rfl ?_
  refine r_bipush dX7_readOrder_207 (v := 48) rfl ?_
  refine r_bipush dX7_readOrder_209 (v := 57) rfl ?_
  refine sX7_readOrder_211 (Nat.le_refl _) (Nat.le_refl _) rfl lv16 (Nat.le_of_ble_eq_true rfl) (tX7_takes hl hL (l1_le h)) ?_
  refine r_goto dX7_readOrder_214 (tgt := 218) rfl ?_
  refine n_iast dX7_readOrder_218 rfl lv23 (k := 2) rfl (by decide) ?_
  refine V.eqH (PQ_so (by decide)) ?_
  refine r_aload_n dX7_readOrder_219 (i := 0) rfl rfl ?_
  refine r_getR dX7_readOrder_220 f_7_29 rfl rfl rfl lv16 ?_
  refine r_iconst dX7_readOrder_223 (v := 3) rfl ?_
  refine r_iconst dX7_readOrder_224 (v := 0) rfl ?_
  refine n_iast dX7_readOrder_225 rfl lv23 (k := 3) rfl (by decide) ?_
  refine V.eqH (PQ_so (by decide)) ?_
  refine r_aload_n dX7_readOrder_226 (i := 0) rfl rfl ?_
  refine r_getR dX7_readOrder_227 f_7_29 rfl rfl rfl lv16 ?_
  refine r_iconst dX7_readOrder_230 (v := 4) rfl ?_
  refine r_iconst dX7_readOrder_231 (v := 0) rfl ?_
  refine n_iast dX7_readOrder_232 rfl lv23 (k := 4) rfl (by decide) ?_
  refine V.eqH (PQ_so (by decide)) ?_
  refine r_iload_n dX7_readOrder_233 (i := 1) rfl rfl ?_
  refine r_bipush dX7_readOrder_234 (v := 108) rfl ?_
  refine r_icmp_ne dX7_readOrder_236 (tgt := 274) rfl (fun _ => ?_) (fun h236 => absurd h236 ((by decide)))
  refine r_iload_n dX7_readOrder_274 (i := 1) rfl rfl ?_
  refine r_bipush dX7_readOrder_275 (v := 116) rfl ?_
  refine r_icmp_ne dX7_readOrder_277 (tgt := 294) rfl (fun h277 => absurd ((by decide)) h277) (fun _ => ?_)
  refine r_aload_n dX7_readOrder_280 (i := 0) rfl rfl ?_
  refine r_getR dX7_readOrder_281 f_7_29 rfl rfl rfl lv16 ?_
  refine r_iconst dX7_readOrder_284 (v := 3) rfl ?_
  refine r_aload_n dX7_readOrder_285 (i := 0) rfl rfl ?_
  refine r_bipush dX7_readOrder_286 (v := 46) rfl ?_
  refine r_bipush dX7_readOrder_288 (v := (-6)) rfl ?_
  refine sX7_readOrder_290 (Nat.le_refl _) (Nat.le_refl _) rfl lv16 (Nat.le_of_ble_eq_true rfl) (tX7_takesBehind hl hL (l2_le h) (by decide)) ?_
  refine n_iast dX7_readOrder_293 rfl lv23 (k := 3) rfl (by decide) ?_
  exact e_v dX7_readOrder_294 rfl (PQ_so (by decide))
theorem tX7_rO_n (hl : len ≤ 80) (hL : hp (16, 0, 0, 0) 6 = nI len) (hpl : p ≤ len) (h107 : ¬ cRf hp len p = 107) (h114 : ¬ cRf hp len p = 114) (h117 : ¬ cRf hp len p = 117) (h109 : ¬ cRf hp len p = 109) (h122 : ¬ cRf hp len p = 122) (h108 : ¬ cRf hp len p = 108) (h116 : ¬ cRf hp len p = 116) (h98 : ¬ cRf hp len p = 98) : Cv g mX7_readOrder [vR (16, 0, 0, 0)] (PQ hp p false o) (PQ hp p true (up (up (up (up (up o 0 (cRf hp len p)) 1 (cRf hp len p - 48)) 2 0) 3 0) 4 0)) := by
  have eW : tkW (cRf hp len) 48 57 p true = true := rfl
  have eP : tkP (cRf hp len) 48 57 p true = p := rfl
  have ht := tX7_takes (g := g) (hp := hp) (w := true) (o := up o 0 (cRf hp len p)) (lo := 48) (hi := 57) hl hL hpl
  rw [eW, eP] at ht
  have f0 : ∀ x2 x3, V g mX7_readOrder 0 0 0 0 616 25 [some (vR (16, 0, 0, 0)), some (vI (cRf hp len p)), x2, x3] [] RP (PQ hp p false o) (Pv (PQ hp p true (up (up (up (up (up o 0 (cRf hp len p)) 1 (cRf hp len p - 48)) 2 0) 3 0) 4 0))) := by
    intro x2 x3
    refine r_iload_n dX7_readOrder_25 (i := 1) rfl rfl ?_
    refine r_bipush dX7_readOrder_26 (v := 107) rfl ?_
    refine r_icmp_eq dX7_readOrder_28 (tgt := 73) rfl (fun h28 => absurd h28 (h107)) (fun _ => ?_)
    refine r_iload_n dX7_readOrder_31 (i := 1) rfl rfl ?_
    refine r_bipush dX7_readOrder_32 (v := 114) rfl ?_
    refine r_icmp_eq dX7_readOrder_34 (tgt := 73) rfl (fun h34 => absurd h34 (h114)) (fun _ => ?_)
    refine r_iload_n dX7_readOrder_37 (i := 1) rfl rfl ?_
    refine r_bipush dX7_readOrder_38 (v := 117) rfl ?_
    refine r_icmp_eq dX7_readOrder_40 (tgt := 73) rfl (fun h40 => absurd h40 (h117)) (fun _ => ?_)
    refine r_iload_n dX7_readOrder_43 (i := 1) rfl rfl ?_
    refine r_bipush dX7_readOrder_44 (v := 109) rfl ?_
    refine r_icmp_eq dX7_readOrder_46 (tgt := 73) rfl (fun h46 => absurd h46 (h109)) (fun _ => ?_)
    refine r_iload_n dX7_readOrder_49 (i := 1) rfl rfl ?_
    refine r_bipush dX7_readOrder_50 (v := 122) rfl ?_
    refine r_icmp_eq dX7_readOrder_52 (tgt := 73) rfl (fun h52 => absurd h52 (h122)) (fun _ => ?_)
    refine r_iload_n dX7_readOrder_55 (i := 1) rfl rfl ?_
    refine r_bipush dX7_readOrder_56 (v := 108) rfl ?_
    refine r_icmp_eq dX7_readOrder_58 (tgt := 73) rfl (fun h58 => absurd h58 (h108)) (fun _ => ?_)
    refine r_iload_n dX7_readOrder_61 (i := 1) rfl rfl ?_
    refine r_bipush dX7_readOrder_62 (v := 116) rfl ?_
    refine r_icmp_eq dX7_readOrder_64 (tgt := 73) rfl (fun h64 => absurd h64 (h116)) (fun _ => ?_)
    refine r_iload_n dX7_readOrder_67 (i := 1) rfl rfl ?_
    refine r_bipush dX7_readOrder_68 (v := 98) rfl ?_
    refine r_icmp_ne dX7_readOrder_70 (tgt := 77) rfl (fun _ => ?_) (fun h70 => absurd h70 (h98))
    refine r_iconst dX7_readOrder_77 (v := 0) rfl ?_
    refine r_istore_n dX7_readOrder_78 (i := 2) rfl (Nat.le_of_ble_eq_true rfl) rfl rfl ?_
    refine r_aload_n dX7_readOrder_79 (i := 0) rfl rfl ?_
    refine r_aload_n dX7_readOrder_80 (i := 0) rfl rfl ?_
    refine r_getI dX7_readOrder_81 f_7_159 rfl rfl lv16 ?_
    refine r_if_ne dX7_readOrder_84 (tgt := 91) rfl (fun h84 => absurd ((PQ_9 : _ = bi false)) h84) (fun _ => ?_)
    refine r_iload_n dX7_readOrder_87 (i := 2) rfl rfl ?_
    refine r_if_ne dX7_readOrder_88 (tgt := 95) rfl (fun h88 => absurd (rfl) h88) (fun _ => ?_)
    refine r_iconst dX7_readOrder_91 (v := 1) rfl ?_
    refine r_goto dX7_readOrder_92 (tgt := 96) rfl ?_
    refine r_putI dX7_readOrder_96 f_7_159 rfl rfl lv16 ⟨rfl, rfl⟩ ?_
    refine V.eqH (PQ_sw (v := true)) ?_
    refine r_aload_n dX7_readOrder_99 (i := 0) rfl rfl ?_
    refine r_dup dX7_readOrder_100 rfl ?_
    refine r_getI dX7_readOrder_101 f_7_163 rfl rfl lv16 ?_
    refine r_aload_n dX7_readOrder_104 (i := 0) rfl rfl ?_
    refine r_getI dX7_readOrder_105 f_7_159 rfl rfl lv16 ?_
    refine r_if_eq dX7_readOrder_108 (tgt := 115) rfl (fun h108 => absurd h108 ((by rw [PQ_9]; decide))) (fun _ => ?_)
    refine r_iconst dX7_readOrder_111 (v := 0) rfl ?_
    refine r_goto dX7_readOrder_112 (tgt := 116) rfl ?_
    refine r_iadd dX7_readOrder_116 ?_
    refine r_putI dX7_readOrder_117 f_7_163 rfl rfl lv16 ⟨rfl, rfl⟩ ?_
    refine V.eqH (hp2 := PQ hp p true o) (by rw [PQ_8, show nI p + 0 = nI p from nI_add p 0, PQ_sp]) ?_
    refine r_aload_n dX7_readOrder_120 (i := 0) rfl rfl ?_
    refine r_getR dX7_readOrder_121 f_7_29 rfl rfl rfl lv16 ?_
    refine r_iconst dX7_readOrder_124 (v := 0) rfl ?_
    refine r_iload_n dX7_readOrder_125 (i := 1) rfl rfl ?_
    refine n_iast dX7_readOrder_126 rfl lv23 (k := 0) rfl (by decide) ?_
    refine V.eqH (PQ_so (by decide)) ?_
    refine r_aload_n dX7_readOrder_127 (i := 0) rfl rfl ?_
    refine r_getR dX7_readOrder_128 f_7_29 rfl rfl rfl lv16 ?_
    refine r_iconst dX7_readOrder_131 (v := 1) rfl ?_
    refine r_iload_n dX7_readOrder_132 (i := 1) rfl rfl ?_
    refine r_bipush dX7_readOrder_133 (v := 122) rfl ?_
    refine r_icmp_eq dX7_readOrder_135 (tgt := 150) rfl (fun h135 => absurd h135 (h122)) (fun _ => ?_)
    refine r_iload_n dX7_readOrder_138 (i := 1) rfl rfl ?_
    refine r_bipush dX7_readOrder_139 (v := 108) rfl ?_
    refine r_icmp_eq dX7_readOrder_141 (tgt := 150) rfl (fun h141 => absurd h141 (h108)) (fun _ => ?_)
    refine r_iload_n dX7_readOrder_144 (i := 1) rfl rfl ?_
    refine r_bipush dX7_readOrder_145 (v := 116) rfl ?_
    refine r_icmp_ne dX7_readOrder_147 (tgt := 161) rfl (fun _ => ?_) (fun h147 => absurd h147 (h116))
    refine r_iload_n dX7_readOrder_161 (i := 1) rfl rfl ?_
    refine r_bipush dX7_readOrder_162 (v := 107) rfl ?_
    refine r_icmp_eq dX7_readOrder_164 (tgt := 173) rfl (fun h164 => absurd h164 (h107)) (fun _ => ?_)
    refine r_iload_n dX7_readOrder_167 (i := 1) rfl rfl ?_
    refine r_bipush dX7_readOrder_168 (v := 98) rfl ?_
    refine r_icmp_ne dX7_readOrder_170 (tgt := 180) rfl (fun _ => ?_) (fun h170 => absurd h170 (h98))
    refine r_aload_n dX7_readOrder_180 (i := 0) rfl rfl ?_
    refine r_bipush dX7_readOrder_181 (v := 48) rfl ?_
    refine r_bipush dX7_readOrder_183 (v := 57) rfl ?_
    refine sX7_readOrder_185 (Nat.le_refl _) (Nat.le_refl _) rfl lv16 (Nat.le_of_ble_eq_true rfl) (ht) ?_
    refine n_iast dX7_readOrder_188 rfl lv23 (k := 1) rfl (by decide) ?_
    refine V.eqH (PQ_so (by decide)) ?_
    refine r_aload_n dX7_readOrder_189 (i := 0) rfl rfl ?_
    refine r_getR dX7_readOrder_190 f_7_29 rfl rfl rfl lv16 ?_
    refine r_iconst dX7_readOrder_193 (v := 2) rfl ?_
    refine r_iload_n dX7_readOrder_194 (i := 1) rfl rfl ?_
    refine r_bipush dX7_readOrder_195 (v := 108) rfl ?_
    refine r_icmp_eq dX7_readOrder_197 (tgt := 206) rfl (fun h197 => absurd h197 (h108)) (fun _ => ?_)
    refine r_iload_n dX7_readOrder_200 (i := 1) rfl rfl ?_
    refine r_bipush dX7_readOrder_201 (v := 116) rfl ?_
    refine r_icmp_ne dX7_readOrder_203 (tgt := 217) rfl (fun _ => ?_) (fun h203 => absurd h203 (h116))
    refine r_iconst dX7_readOrder_217 (v := 0) rfl ?_
    refine n_iast dX7_readOrder_218 rfl lv23 (k := 2) rfl (by decide) ?_
    refine V.eqH (PQ_so (by decide)) ?_
    refine r_aload_n dX7_readOrder_219 (i := 0) rfl rfl ?_
    refine r_getR dX7_readOrder_220 f_7_29 rfl rfl rfl lv16 ?_
    refine r_iconst dX7_readOrder_223 (v := 3) rfl ?_
    refine r_iconst dX7_readOrder_224 (v := 0) rfl ?_
    refine n_iast dX7_readOrder_225 rfl lv23 (k := 3) rfl (by decide) ?_
    refine V.eqH (PQ_so (by decide)) ?_
    refine r_aload_n dX7_readOrder_226 (i := 0) rfl rfl ?_
    refine r_getR dX7_readOrder_227 f_7_29 rfl rfl rfl lv16 ?_
    refine r_iconst dX7_readOrder_230 (v := 4) rfl ?_
    refine r_iconst dX7_readOrder_231 (v := 0) rfl ?_
    refine n_iast dX7_readOrder_232 rfl lv23 (k := 4) rfl (by decide) ?_
    refine r_iload_n dX7_readOrder_233 (i := 1) rfl rfl ?_
    refine r_bipush dX7_readOrder_234 (v := 108) rfl ?_
    refine r_icmp_ne dX7_readOrder_236 (tgt := 274) rfl (fun _ => ?_) (fun h236 => absurd h236 (h108))
    refine r_iload_n dX7_readOrder_274 (i := 1) rfl rfl ?_
    refine r_bipush dX7_readOrder_275 (v := 116) rfl ?_
    refine r_icmp_ne dX7_readOrder_277 (tgt := 294) rfl (fun _ => ?_) (fun h277 => absurd h277 (h116))
    exact e_v dX7_readOrder_294 rfl (PQ_so (by decide))
  unfold Cv
  by_cases h : p < len
  · have e : cRf hp len p = hp (21, 0, 0, 0) p := if_pos h
    refine r_aload_n dX7_readOrder_0 (i := 0) rfl rfl ?_
    refine r_getI dX7_readOrder_1 f_7_163 rfl rfl lv16 ?_
    refine r_aload_n dX7_readOrder_4 (i := 0) rfl rfl ?_
    refine r_getI dX7_readOrder_5 f_7_151 rfl rfl lv16 ?_
    refine r_icmp_ge dX7_readOrder_8 (tgt := 23) rfl (fun h8 => absurd h8 ((by rw [PQ_8, PQ_6, hL]; exact nI_ge h (by omega)))) (fun _ => ?_)
    refine r_aload_n dX7_readOrder_11 (i := 0) rfl rfl ?_
    refine r_getR dX7_readOrder_12 f_7_23 rfl rfl rfl lv16 ?_
    refine r_aload_n dX7_readOrder_15 (i := 0) rfl rfl ?_
    refine r_getI dX7_readOrder_16 f_7_163 rfl rfl lv16 ?_
    refine n_iald dX7_readOrder_19 rfl lv21 (k := p) PQ_8 (by omega) ?_
    refine r_goto dX7_readOrder_20 (tgt := 24) rfl ?_
    refine r_istore_n dX7_readOrder_24 (i := 1) rfl (Nat.le_of_ble_eq_true rfl) rfl rfl ?_
    refine V.eqL ?_ (f0 none none)
    show [_, some (vI (PQ hp p false o (21, 0, 0, 0) p)), _, _] = _
    rw [PQ_21, e]
  · have e : cRf hp len p = 0 := if_neg h
    rw [e] at f0 ⊢
    refine r_aload_n dX7_readOrder_0 (i := 0) rfl rfl ?_
    refine r_getI dX7_readOrder_1 f_7_163 rfl rfl lv16 ?_
    refine r_aload_n dX7_readOrder_4 (i := 0) rfl rfl ?_
    refine r_getI dX7_readOrder_5 f_7_151 rfl rfl lv16 ?_
    refine r_icmp_ge dX7_readOrder_8 (tgt := 23) rfl (fun _ => ?_) (fun h8 => absurd ((by rw [PQ_8, PQ_6, hL]; exact nI_le (by omega) (by omega))) h8)
    refine r_iconst dX7_readOrder_23 (v := 0) rfl ?_
    refine r_istore_n dX7_readOrder_24 (i := 1) rfl (Nat.le_of_ble_eq_true rfl) rfl rfl ?_
    exact f0 none none
end RO
