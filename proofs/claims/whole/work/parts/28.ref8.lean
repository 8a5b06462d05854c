/-- the reference's reader: position p, isWrong w, the order o -/
def PQ (hp : HPt) (p : Nat) (w : Bool) (o : Nat → Int32) : HPt := fun a i => if a = (16, 0, 0, 0) ∧ i = 8 then nI p else if a = (16, 0, 0, 0) ∧ i = 9 then bi w else if a = (23, 0, 0, 0) ∧ i < 5 then o i else hp a i
def up (o : Nat → Int32) (k : Nat) (x : Int32) : Nat → Int32 := fun i => if i = k then x else o i
section PQL
variable {hp : HPt} {p q : Nat} {w v : Bool} {o : Nat → Int32}
theorem PQ_8 : PQ hp p w o (16, 0, 0, 0) 8 = nI p := by simp [PQ]
theorem PQ_9 : PQ hp p w o (16, 0, 0, 0) 9 = bi w := by simp [PQ]
theorem PQ_6 : PQ hp p w o (16, 0, 0, 0) 6 = hp (16, 0, 0, 0) 6 := by simp [PQ]
theorem PQ_2 : PQ hp p w o (16, 0, 0, 0) 2 = hp (16, 0, 0, 0) 2 := by simp [PQ]
theorem PQ_21 {i : Nat} : PQ hp p w o (21, 0, 0, 0) i = hp (21, 0, 0, 0) i := by simp [PQ]
theorem PQ_a {a : A4} {i : Nat} (h : a ≠ (16, 0, 0, 0)) (h2 : a ≠ (23, 0, 0, 0)) : PQ hp p w o a i = hp a i := by simp [PQ, h, h2]
theorem PQ_23 {k : Nat} (hk : k < 5) : PQ hp p w o (23, 0, 0, 0) k = o k := by simp [PQ, hk]
theorem PQ_sp : hset (PQ hp p w o) (16, 0, 0, 0) 8 (nI q) = PQ hp q w o := by
  funext a i
  unfold hset PQ
  by_cases h : a = (16, 0, 0, 0) ∧ i = 8 <;> simp [h]
theorem PQ_sw : hset (PQ hp p w o) (16, 0, 0, 0) 9 (bi v) = PQ hp p v o := by
  funext a i
  unfold hset PQ
  by_cases h : a = (16, 0, 0, 0) ∧ i = 9
  · obtain ⟨rfl, rfl⟩ := h; simp
  · simp [h]
theorem PQ_so {k : Nat} {x : Int32} (hk : k < 5) : hset (PQ hp p w o) (23, 0, 0, 0) k x = PQ hp p w (up o k x) := by
  funext a i
  unfold hset PQ up
  by_cases h : a = (23, 0, 0, 0) ∧ i = k
  · obtain ⟨rfl, rfl⟩ := h; simp [hk]
  · by_cases h2 : a = (23, 0, 0, 0)
    · subst h2
      have h3 : ¬ i = k := fun e => h ⟨rfl, e⟩
      simp [h3]
    · simp [h2]
theorem PQ_in : hset (hset hp (16, 0, 0, 0) 8 0) (16, 0, 0, 0) 9 0 = PQ hp 0 false (hp (23, 0, 0, 0)) := by
  funext a i
  unfold hset PQ
  by_cases h : a = (16, 0, 0, 0)
  · subst h
    by_cases h8 : i = 8
    · subst h8; simp; rfl
    · by_cases h9 : i = 9
      · subst h9; simp; rfl
      · simp [h8, h9]
  · by_cases h2 : a = (23, 0, 0, 0)
    · subst h2; simp
    · simp [h, h2]
end PQL
/-- the sign at p, 0 behind the text -/
def cRf (hp : HPt) (len p : Nat) : Int32 := if p < len then hp (21, 0, 0, 0) p else 0
def tkW (c : Nat → Int32) (lo hi : Int32) (p : Nat) (w : Bool) : Bool := w || !fIn (c p) lo hi
def tkP (c : Nat → Int32) (lo hi : Int32) (p : Nat) (w : Bool) : Nat := if tkW c lo hi p w = true then p else p + 1
theorem tkP_le {hp : HPt} {len p : Nat} {lo hi : Int32} {w : Bool} (hpl : p ≤ len) (h0 : fIn 0 lo hi = false) : tkP (cRf hp len) lo hi p w ≤ len := by
  unfold tkP tkW
  by_cases h : p < len
  · split <;> omega
  · have e : cRf hp len p = 0 := if_neg h
    rw [e, h0]
    simp [hpl]
section RD
variable {g : Gh} {hp : HPt} {len p : Nat} {w : Bool} {o : Nat → Int32}
theorem tX7_takes {lo hi : Int32} (hl : len ≤ 80) (hL : hp (16, 0, 0, 0) 6 = nI len) (hpl : p ≤ len) : Ci g mX7_takes [vR (16, 0, 0, 0), vI lo, vI hi] (PQ hp p w o) (cRf hp len p - lo) (PQ hp (tkP (cRf hp len) lo hi p w) (tkW (cRf hp len) lo hi p w) o) := by
  have f2 : V g mX7_takes 0 0 0 0 616 50 [some (vR (16, 0, 0, 0)), some (vI lo), some (vI hi), some (vI (cRf hp len p))] [] RP (PQ hp p (tkW (cRf hp len) lo hi p w) o) (Pi (cRf hp len p - lo) (PQ hp (tkP (cRf hp len) lo hi p w) (tkW (cRf hp len) lo hi p w) o)) := by
    refine r_aload_n dX7_takes_50 (i := 0) rfl rfl ?_
    refine r_dup dX7_takes_51 rfl ?_
    refine r_getI dX7_takes_52 f_7_163 rfl rfl lv16 ?_
    refine r_aload_n dX7_takes_55 (i := 0) rfl rfl ?_
    refine r_getI dX7_takes_56 f_7_159 rfl rfl lv16 ?_
    refine r_if_eq dX7_takes_59 (tgt := 66) rfl (fun h59 => ?_) (fun h59 => ?_)
    · refine r_iconst dX7_takes_66 (v := 1) rfl ?_
      refine r_iadd dX7_takes_67 ?_
      refine r_putI dX7_takes_68 f_7_163 rfl rfl lv16 ⟨rfl, rfl⟩ ?_
      refine r_iload_n dX7_takes_71 (i := 3) rfl rfl ?_
      refine r_iload_n dX7_takes_72 (i := 1) rfl rfl ?_
      refine r_isub dX7_takes_73 ?_
      refine e_i dX7_takes_74 rfl rfl rfl ?_
      rw [PQ_9] at h59
      rw [PQ_8]
      first | (rw [nI_1, PQ_sp, tkP, if_neg]; intro h; rw [h] at h59; simp [bi] at h59; done) | (rw [show nI p + 0 = nI p from nI_add p 0, PQ_sp, tkP, if_pos (bi_n0.mp h59)])
    · refine r_iconst dX7_takes_62 (v := 0) rfl ?_
      refine r_goto dX7_takes_63 (tgt := 67) rfl ?_
      refine r_iadd dX7_takes_67 ?_
      refine r_putI dX7_takes_68 f_7_163 rfl rfl lv16 ⟨rfl, rfl⟩ ?_
      refine r_iload_n dX7_takes_71 (i := 3) rfl rfl ?_
      refine r_iload_n dX7_takes_72 (i := 1) rfl rfl ?_
      refine r_isub dX7_takes_73 ?_
      refine e_i dX7_takes_74 rfl rfl rfl ?_
      rw [PQ_9] at h59
      rw [PQ_8]
      first | (rw [nI_1, PQ_sp, tkP, if_neg]; intro h; rw [h] at h59; simp [bi] at h59; done) | (rw [show nI p + 0 = nI p from nI_add p 0, PQ_sp, tkP, if_pos (bi_n0.mp h59)])
  have f1 : V g mX7_takes 0 0 0 0 616 47 [some (vR (16, 0, 0, 0)), some (vI lo), some (vI hi), some (vI (cRf hp len p))] [vI (bi (tkW (cRf hp len) lo hi p w)), vR (16, 0, 0, 0)] RP (PQ hp p w o) (Pi (cRf hp len p - lo) (PQ hp (tkP (cRf hp len) lo hi p w) (tkW (cRf hp len) lo hi p w) o)) := by
    refine r_putI dX7_takes_47 f_7_159 rfl rfl lv16 (bi_fit _) ?_
    exact V.eqH PQ_sw f2
  have f0 : V g mX7_takes 0 0 0 0 616 25 [some (vR (16, 0, 0, 0)), some (vI lo), some (vI hi), some (vI (cRf hp len p))] [] RP (PQ hp p w o) (Pi (cRf hp len p - lo) (PQ hp (tkP (cRf hp len) lo hi p w) (tkW (cRf hp len) lo hi p w) o)) := by
    refine r_aload_n dX7_takes_25 (i := 0) rfl rfl ?_
    refine r_aload_n dX7_takes_26 (i := 0) rfl rfl ?_
    refine r_getI dX7_takes_27 f_7_159 rfl rfl lv16 ?_
    refine r_if_ne dX7_takes_30 (tgt := 42) rfl (fun h30 => ?_) (fun h30 => ?_)
    · refine r_iconst dX7_takes_42 (v := 1) rfl ?_
      refine r_goto dX7_takes_43 (tgt := 47) rfl ?_
      refine V.eqS ?_ f1
      simp only [PQ_9, bi_0, bi_n0] at *
      simp_all [bi, tkW]
    · refine r_iload_n dX7_takes_33 (i := 3) rfl rfl ?_
      refine r_iload_n dX7_takes_34 (i := 1) rfl rfl ?_
      refine r_iload_n dX7_takes_35 (i := 2) rfl rfl ?_
      refine sX7_takes_36 (Nat.le_refl _) (Nat.le_refl _) (Nat.le_of_ble_eq_true rfl) (tX7_in) ?_
      refine r_if_ne dX7_takes_39 (tgt := 46) rfl (fun h39 => ?_) (fun h39 => ?_)
      · refine r_iconst dX7_takes_46 (v := 0) rfl ?_
        refine V.eqS ?_ f1
        simp only [PQ_9, bi_0, bi_n0] at *
        simp_all [bi, tkW]
      · refine r_iconst dX7_takes_42 (v := 1) rfl ?_
        refine r_goto dX7_takes_43 (tgt := 47) rfl ?_
        refine V.eqS ?_ f1
        simp only [PQ_9, bi_0, bi_n0] at *
        simp_all [bi, tkW]
  unfold Ci
  by_cases h : p < len
  · have e : cRf hp len p = hp (21, 0, 0, 0) p := if_pos h
    refine r_aload_n dX7_takes_0 (i := 0) rfl rfl ?_
    refine r_getI dX7_takes_1 f_7_163 rfl rfl lv16 ?_
    refine r_aload_n dX7_takes_4 (i := 0) rfl rfl ?_
    refine r_getI dX7_takes_5 f_7_151 rfl rfl lv16 ?_
    refine r_icmp_ge dX7_takes_8 (tgt := 23) rfl (fun h8 => absurd h8 ((by rw [PQ_8, PQ_6, hL]; exact nI_ge h (by omega)))) (fun _ => ?_)
    refine r_aload_n dX7_takes_11 (i := 0) rfl rfl ?_
    refine r_getR dX7_takes_12 f_7_23 rfl rfl rfl lv16 ?_
    refine r_aload_n dX7_takes_15 (i := 0) rfl rfl ?_
    refine r_getI dX7_takes_16 f_7_163 rfl rfl lv16 ?_
    refine n_iald dX7_takes_19 rfl lv21 (k := p) PQ_8 (by omega) ?_
    refine r_goto dX7_takes_20 (tgt := 24) rfl ?_
    refine r_istore_n dX7_takes_24 (i := 3) rfl (Nat.le_of_ble_eq_true rfl) rfl rfl ?_
    refine V.eqL ?_ f0
    show [_, _, _, some (vI (PQ hp p w o (21, 0, 0, 0) p))] = _
    rw [PQ_21, e]
  · have e : cRf hp len p = 0 := if_neg h
    rw [e] at f0 ⊢
    refine r_aload_n dX7_takes_0 (i := 0) rfl rfl ?_
    refine r_getI dX7_takes_1 f_7_163 rfl rfl lv16 ?_
    refine r_aload_n dX7_takes_4 (i := 0) rfl rfl ?_
    refine r_getI dX7_takes_5 f_7_151 rfl rfl lv16 ?_
    refine r_icmp_ge dX7_takes_8 (tgt := 23) rfl (fun _ => ?_) (fun h8 => absurd ((by rw [PQ_8, PQ_6, hL]; exact nI_le (by omega) (by omega))) h8)
    refine r_iconst dX7_takes_23 (v := 0) rfl ?_
    refine r_istore_n dX7_takes_24 (i := 3) rfl (Nat.le_of_ble_eq_true rfl) rfl rfl ?_
    exact f0
theorem tX7_isNext {x : Int32} (hl : len ≤ 80) (hL : hp (16, 0, 0, 0) 6 = nI len) (hpl : p ≤ len) (hx : ¬ x = 0) : Ci g mX7_isNext [vR (16, 0, 0, 0), vI x] (PQ hp p w o) (bi (!w && decide (cRf hp len p = x))) (PQ hp p w o) := by
  unfold Ci
  by_cases h : p < len
  · have e : cRf hp len p = hp (21, 0, 0, 0) p := if_pos h
    refine r_aload_n dX7_isNext_0 (i := 0) rfl rfl ?_
    refine r_getI dX7_isNext_1 f_7_159 rfl rfl lv16 ?_
    refine r_if_ne dX7_isNext_4 (tgt := 35) rfl (fun h4 => ?_) (fun h4 => ?_)
    · refine r_iconst dX7_isNext_35 (v := 0) rfl ?_
      exact e_i dX7_isNext_36 rfl (by first | rfl | exact bi_nar _) (by (simp only [PQ_9, PQ_21, bi_0, bi_n0] at *; first | (cases w <;> simp_all [bi]; done) | simp_all [bi])) rfl
    · refine r_aload_n dX7_isNext_7 (i := 0) rfl rfl ?_
      refine r_getI dX7_isNext_8 f_7_163 rfl rfl lv16 ?_
      refine r_aload_n dX7_isNext_11 (i := 0) rfl rfl ?_
      refine r_getI dX7_isNext_12 f_7_151 rfl rfl lv16 ?_
      refine r_icmp_ge dX7_isNext_15 (tgt := 35) rfl (fun h15 => absurd h15 ((by rw [PQ_8, PQ_6, hL]; exact nI_ge h (by omega)))) (fun _ => ?_)
      refine r_aload_n dX7_isNext_18 (i := 0) rfl rfl ?_
      refine r_getR dX7_isNext_19 f_7_23 rfl rfl rfl lv16 ?_
      refine r_aload_n dX7_isNext_22 (i := 0) rfl rfl ?_
      refine r_getI dX7_isNext_23 f_7_163 rfl rfl lv16 ?_
      refine n_iald dX7_isNext_26 rfl lv21 (k := p) PQ_8 (by omega) ?_
      refine r_iload_n dX7_isNext_27 (i := 1) rfl rfl ?_
      refine r_icmp_ne dX7_isNext_28 (tgt := 35) rfl (fun h28 => ?_) (fun h28 => ?_)
      · refine r_iconst dX7_isNext_35 (v := 0) rfl ?_
        exact e_i dX7_isNext_36 rfl (by first | rfl | exact bi_nar _) (by (simp only [PQ_9, PQ_21, bi_0, bi_n0] at *; first | (cases w <;> simp_all [bi]; done) | simp_all [bi])) rfl
      · refine r_iconst dX7_isNext_31 (v := 1) rfl ?_
        refine r_goto dX7_isNext_32 (tgt := 36) rfl ?_
        exact e_i dX7_isNext_36 rfl (by first | rfl | exact bi_nar _) (by (simp only [PQ_9, PQ_21, bi_0, bi_n0] at *; first | (cases w <;> simp_all [bi]; done) | simp_all [bi])) rfl
  · have e : cRf hp len p = 0 := if_neg h
    have hx2 : ¬ 0 = x := fun h => hx h.symm
    refine r_aload_n dX7_isNext_0 (i := 0) rfl rfl ?_
    refine r_getI dX7_isNext_1 f_7_159 rfl rfl lv16 ?_
    refine r_if_ne dX7_isNext_4 (tgt := 35) rfl (fun h4 => ?_) (fun h4 => ?_)
    · refine r_iconst dX7_isNext_35 (v := 0) rfl ?_
      exact e_i dX7_isNext_36 rfl (by first | rfl | exact bi_nar _) (by (simp only [PQ_9, PQ_21, bi_0, bi_n0] at *; first | (cases w <;> simp_all [bi]; done) | simp_all [bi])) rfl
    · refine r_aload_n dX7_isNext_7 (i := 0) rfl rfl ?_
      refine r_getI dX7_isNext_8 f_7_163 rfl rfl lv16 ?_
      refine r_aload_n dX7_isNext_11 (i := 0) rfl rfl ?_
      refine r_getI dX7_isNext_12 f_7_151 rfl rfl lv16 ?_
      refine r_icmp_ge dX7_isNext_15 (tgt := 35) rfl (fun _ => ?_) (fun h15 => absurd ((by rw [PQ_8, PQ_6, hL]; exact nI_le (by omega) (by omega))) h15)
      refine r_iconst dX7_isNext_35 (v := 0) rfl ?_
      exact e_i dX7_isNext_36 rfl (by first | rfl | exact bi_nar _) (by (simp only [PQ_9, PQ_21, bi_0, bi_n0] at *; first | (cases w <;> simp_all [bi]; done) | simp_all [bi])) rfl
end RD
