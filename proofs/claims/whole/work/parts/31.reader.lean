/-- the class's reader: its fields 1 .. 6 -/
def RQ (hp : HPt) (f : Nat → Int32) : HPt := fun a i => if a = (14, 0, 0, 0) ∧ 1 ≤ i ∧ i < 7 then f i else hp a i
def cF (hp : HPt) (len p : Nat) : Int32 := if p < len then hp (13, 0, 0, 0) p else 0
theorem up_eq {f : Nat → Int32} {k : Nat} {x : Int32} : up f k x k = x := if_pos rfl
theorem up_ne {f : Nat → Int32} {k i : Nat} {x : Int32} (h : i ≠ k) : up f k x i = f i := if_neg h
theorem up_up {f : Nat → Int32} {k : Nat} {x y : Int32} : up (up f k x) k y = up f k y := by
  funext i
  unfold up
  split <;> rfl
section RQL
variable {hp : HPt} {f : Nat → Int32}
theorem RQ_g {i : Nat} (h : 1 ≤ i ∧ i < 7) : RQ hp f (14, 0, 0, 0) i = f i := by simp [RQ, h]
theorem RQ_1 : RQ hp f (14, 0, 0, 0) 1 = f 1 := RQ_g (by decide)
theorem RQ_2 : RQ hp f (14, 0, 0, 0) 2 = f 2 := RQ_g (by decide)
theorem RQ_5 : RQ hp f (14, 0, 0, 0) 5 = f 5 := RQ_g (by decide)
theorem RQ_a {a : A4} {i : Nat} (h : a ≠ (14, 0, 0, 0)) : RQ hp f a i = hp a i := by simp [RQ, h]
theorem RQ_s {i : Nat} {x : Int32} (h : 1 ≤ i ∧ i < 7) : hset (RQ hp f) (14, 0, 0, 0) i x = RQ hp (up f i x) := by
  funext a k
  unfold hset RQ up
  by_cases ha : a = (14, 0, 0, 0)
  · subst ha
    by_cases hk : k = i
    · subst hk; simp [h]
    · simp [hk]
  · simp [ha]
theorem RQ_self : RQ hp (hp (14, 0, 0, 0)) = hp := by
  funext a k
  unfold RQ
  split
  next h => rw [h.1]
  next => rfl
end RQL
section RDC
variable {g : Gh} {hp : HPt} {len p : Nat} {f : Nat → Int32}
theorem cF_lt {x : Int32} (h : cF hp len p = x) (hx : ¬ x = 0) : p < len := by
  apply Nat.lt_of_not_le
  intro h2
  exact hx (by rw [← h]; exact if_neg (by omega))
theorem cF_ch (hW : WT hp) : ∃ q : Nat, q < 65536 ∧ cF hp len p = nI q := by
  unfold cF
  split
  · exact (hW (13, 0, 0, 0) p).2 rfl
  · exact ⟨0, by decide, rfl⟩
theorem tX2_signAt {hp : HPt} (hl : len ≤ 80) (hL : hp (12, 0, 0, 0) 1 = nI len) (hpl : p < 2 ^ 31) (hC : ∃ q : Nat, q < 65536 ∧ cF hp len p = nI q) : Ci g mX2_signAt [vR (12, 0, 0, 0), vI (nI p)] hp (cF hp len p) hp := by
  obtain ⟨q, hq, e⟩ := hC
  unfold Ci
  by_cases h : p < len
  · have e2 : cF hp len p = hp (13, 0, 0, 0) p := if_pos h
    rw [e] at e2 ⊢
    refine r_iload_n dX2_signAt_0 (i := 1) rfl rfl ?_
    refine r_if_lt dX2_signAt_1 (tgt := 21) rfl (fun h1 => absurd h1 (nI_pos hpl)) (fun _ => ?_)
    refine r_iload_n dX2_signAt_4 (i := 1) rfl rfl ?_
    refine r_aload_n dX2_signAt_5 (i := 0) rfl rfl ?_
    refine r_getI dX2_signAt_6 f_2_19 rfl rfl lv12 ?_
    refine r_icmp_ge dX2_signAt_9 (tgt := 21) rfl (fun h9 => absurd h9 ((by rw [hL]; exact nI_ge h (by omega)))) (fun _ => ?_)
    refine r_aload_n dX2_signAt_12 (i := 0) rfl rfl ?_
    refine r_getR dX2_signAt_13 f_2_9 rfl rfl rfl lv12 ?_
    refine r_iload_n dX2_signAt_16 (i := 1) rfl rfl ?_
    refine n_cald dX2_signAt_17 rfl lv13 (k := p) rfl (by omega) ?_
    refine r_goto dX2_signAt_18 (tgt := 22) rfl ?_
    rw [← e2]
    exact e_i dX2_signAt_22 rfl (pk_charN hq).1 rfl rfl
  · have e2 : cF hp len p = 0 := if_neg h
    rw [e2]
    refine r_iload_n dX2_signAt_0 (i := 1) rfl rfl ?_
    refine r_if_lt dX2_signAt_1 (tgt := 21) rfl (fun h1 => absurd h1 (nI_pos hpl)) (fun _ => ?_)
    refine r_iload_n dX2_signAt_4 (i := 1) rfl rfl ?_
    refine r_aload_n dX2_signAt_5 (i := 0) rfl rfl ?_
    refine r_getI dX2_signAt_6 f_2_19 rfl rfl lv12 ?_
    refine r_icmp_ge dX2_signAt_9 (tgt := 21) rfl (fun _ => ?_) (fun h9 => absurd ((by rw [hL]; exact nI_le (by omega) (by omega))) h9)
    refine r_iconst dX2_signAt_21 (v := 0) rfl ?_
    exact e_i dX2_signAt_22 rfl rfl rfl rfl
/-- what the reader needs of the heap below it -/
def RDp (hp : HPt) (len : Nat) : Prop := len ≤ 80 ∧ hp (12, 0, 0, 0) 1 = nI len ∧ WT hp
theorem signRQ (hR : RDp hp len) (hpl : p < 2 ^ 31) : Ci g mX2_signAt [vR (12, 0, 0, 0), vI (nI p)] (RQ hp f) (cF hp len p) (RQ hp f) := by
  have e : cF (RQ hp f) len p = cF hp len p := by
    unfold cF
    rw [RQ_a (by decide)]
  have h := tX2_signAt (g := g) (hp := RQ hp f) (len := len) (p := p) hR.1 (by rw [RQ_a (by decide)]; exact hR.2.1) hpl (by rw [e]; exact cF_ch hR.2.2)
  rw [e] at h
  exact h
theorem tX3_reads_n {x : Int32} (hR : RDp hp len) (hpl : p < 2 ^ 31) (hf : f 1 = nI p) (hx : ¬ cF hp len p = x) : Ci g mX3_reads [vR (14, 0, 0, 0), vI x] (RQ hp f) 0 (RQ hp f) := by
  unfold Ci
  refine r_aload_n dX3_reads_0 (i := 0) rfl rfl ?_
  refine r_getR dX3_reads_1 f_3_9 rfl rfl rfl lv14 ?_
  refine r_aload_n dX3_reads_4 (i := 0) rfl rfl ?_
  refine r_getI dX3_reads_5 f_3_15 rfl rfl lv14 ?_
  rw [RQ_1, hf]
  refine sX3_reads_8 (Nat.le_refl _) (Nat.le_refl _) rfl lv12 (Nat.le_of_ble_eq_true rfl) (signRQ hR hpl) ?_
  refine r_iload_n dX3_reads_11 (i := 1) rfl rfl ?_
  refine r_icmp_eq dX3_reads_12 (tgt := 17) rfl (fun h12 => absurd h12 (hx)) (fun _ => ?_)
  refine r_iconst dX3_reads_15 (v := 0) rfl ?_
  exact e_i dX3_reads_16 rfl (by first | rfl | exact bi_nar _) (by first | rfl | simp [bi, *]) rfl
theorem tX3_reads {x : Int32} (hR : RDp hp len) (hpl : p < 2 ^ 31) (hf : f 1 = nI p) (hx : cF hp len p = x) : Ci g mX3_reads [vR (14, 0, 0, 0), vI x] (RQ hp f) 1 (RQ hp (up f 1 (nI (p + 1)))) := by
  unfold Ci
  refine r_aload_n dX3_reads_0 (i := 0) rfl rfl ?_
  refine r_getR dX3_reads_1 f_3_9 rfl rfl rfl lv14 ?_
  refine r_aload_n dX3_reads_4 (i := 0) rfl rfl ?_
  refine r_getI dX3_reads_5 f_3_15 rfl rfl lv14 ?_
  rw [RQ_1, hf]
  refine sX3_reads_8 (Nat.le_refl _) (Nat.le_refl _) rfl lv12 (Nat.le_of_ble_eq_true rfl) (signRQ hR hpl) ?_
  refine r_iload_n dX3_reads_11 (i := 1) rfl rfl ?_
  refine r_icmp_eq dX3_reads_12 (tgt := 17) rfl (fun _ => ?_) (fun h12 => absurd (hx) h12)
  refine r_aload_n dX3_reads_17 (i := 0) rfl rfl ?_
  refine r_dup dX3_reads_18 rfl ?_
  refine r_getI dX3_reads_19 f_3_15 rfl rfl lv14 ?_
  refine r_iconst dX3_reads_22 (v := 1) rfl ?_
  refine r_iadd dX3_reads_23 ?_
  refine r_putI dX3_reads_24 f_3_15 rfl rfl lv14 ⟨rfl, rfl⟩ ?_
  refine V.eqH (hp2 := RQ hp (up f 1 (nI (p + 1)))) (by rw [RQ_1, hf, nI_1, RQ_s (by decide)]) ?_
  refine r_iconst dX3_reads_27 (v := 1) rfl ?_
  exact e_i dX3_reads_28 rfl (by first | rfl | exact bi_nar _) (by first | rfl | simp [bi, *]) rfl
theorem isD_2 {x : Int32} (h : isD x = true) : ¬ x < 48 ∧ x ≤ 57 := by
  unfold isD fIn at h
  simpa using h
theorem isD_0 {x : Int32} (h : isD x = false) : x < 48 ∨ ¬ x ≤ 57 := by
  unfold isD fIn at h
  by_cases h1 : x < 48
  · exact Or.inl h1
  · right
    simp [h1] at h
    exact Int32.not_le.mpr h
theorem tX3_digitRead_n (hR : RDp hp len) (hpl : p < 2 ^ 31) (hf : f 1 = nI p) (hd : isD (cF hp len p) = false) : Ci g mX3_digitRead [vR (14, 0, 0, 0)] (RQ hp f) (-1) (RQ hp f) := by
  unfold Ci
  refine r_aload_n dX3_digitRead_0 (i := 0) rfl rfl ?_
  refine r_getR dX3_digitRead_1 f_3_9 rfl rfl rfl lv14 ?_
  refine r_aload_n dX3_digitRead_4 (i := 0) rfl rfl ?_
  refine r_getI dX3_digitRead_5 f_3_15 rfl rfl lv14 ?_
  rw [RQ_1, hf]
  refine sX3_digitRead_8 (Nat.le_refl _) (Nat.le_refl _) rfl lv12 (Nat.le_of_ble_eq_true rfl) (signRQ hR hpl) ?_
  refine r_istore_n dX3_digitRead_11 (i := 1) rfl (Nat.le_of_ble_eq_true rfl) rfl rfl ?_
  refine r_iload_n dX3_digitRead_12 (i := 1) rfl rfl ?_
  refine r_bipush dX3_digitRead_13 (v := 48) rfl ?_
  refine r_icmp_lt dX3_digitRead_15 (tgt := 24) rfl (fun h15 => ?_) (fun h15 => ?_)
  · refine r_iconst dX3_digitRead_24 (v := (-1)) rfl ?_
    exact e_i dX3_digitRead_25 rfl (by first | rfl | exact bi_nar _) (by first | rfl | simp [bi, *]) rfl
  · refine r_iload_n dX3_digitRead_18 (i := 1) rfl rfl ?_
    refine r_bipush dX3_digitRead_19 (v := 57) rfl ?_
    refine r_icmp_le dX3_digitRead_21 (tgt := 26) rfl (fun h21 => ?_) (fun h21 => ?_)
    · exfalso
      rcases isD_0 hd with h | h
      · exact h15 h
      · first | exact h h21 | exact h (by assumption)
    · refine r_iconst dX3_digitRead_24 (v := (-1)) rfl ?_
      exact e_i dX3_digitRead_25 rfl (by first | rfl | exact bi_nar _) (by first | rfl | simp [bi, *]) rfl
theorem tX3_digitRead (hR : RDp hp len) (hpl : p < 2 ^ 31) (hf : f 1 = nI p) (hd : isD (cF hp len p) = true) : Ci g mX3_digitRead [vR (14, 0, 0, 0)] (RQ hp f) (cF hp len p - 48) (RQ hp (up f 1 (nI (p + 1)))) := by
  unfold Ci
  refine r_aload_n dX3_digitRead_0 (i := 0) rfl rfl ?_
  refine r_getR dX3_digitRead_1 f_3_9 rfl rfl rfl lv14 ?_
  refine r_aload_n dX3_digitRead_4 (i := 0) rfl rfl ?_
  refine r_getI dX3_digitRead_5 f_3_15 rfl rfl lv14 ?_
  rw [RQ_1, hf]
  refine sX3_digitRead_8 (Nat.le_refl _) (Nat.le_refl _) rfl lv12 (Nat.le_of_ble_eq_true rfl) (signRQ hR hpl) ?_
  refine r_istore_n dX3_digitRead_11 (i := 1) rfl (Nat.le_of_ble_eq_true rfl) rfl rfl ?_
  refine r_iload_n dX3_digitRead_12 (i := 1) rfl rfl ?_
  refine r_bipush dX3_digitRead_13 (v := 48) rfl ?_
  refine r_icmp_lt dX3_digitRead_15 (tgt := 24) rfl (fun h15 => absurd h15 ((isD_2 hd).1)) (fun _ => ?_)
  refine r_iload_n dX3_digitRead_18 (i := 1) rfl rfl ?_
  refine r_bipush dX3_digitRead_19 (v := 57) rfl ?_
  refine r_icmp_le dX3_digitRead_21 (tgt := 26) rfl (fun _ => ?_) (fun h21 => absurd ((isD_2 hd).2) h21)
  refine r_aload_n dX3_digitRead_26 (i := 0) rfl rfl ?_
  refine r_dup dX3_digitRead_27 rfl ?_
  refine r_getI dX3_digitRead_28 f_3_15 rfl rfl lv14 ?_
  refine r_iconst dX3_digitRead_31 (v := 1) rfl ?_
  refine r_iadd dX3_digitRead_32 ?_
  refine r_putI dX3_digitRead_33 f_3_15 rfl rfl lv14 ⟨rfl, rfl⟩ ?_
  refine V.eqH (hp2 := RQ hp (up f 1 (nI (p + 1)))) (by rw [RQ_1, hf, nI_1, RQ_s (by decide)]) ?_
  refine r_iload_n dX3_digitRead_36 (i := 1) rfl rfl ?_
  refine r_bipush dX3_digitRead_37 (v := 48) rfl ?_
  refine r_isub dX3_digitRead_39 ?_
  exact e_i dX3_digitRead_40 rfl (by first | rfl | exact bi_nar _) (by first | rfl | simp [bi, *]) rfl
theorem nI_nm1 {d : Nat} (h : d < 2 ^ 31) : ¬ nI d = -1 := by
  intro e
  have h2 := nI_pos h
  rw [e] at h2
  exact h2 (by decide)
theorem lNR_exit {k : Nat} {v : Int32} {x3 : Option Vv} (hR : RDp hp len) (hpl : p < 2 ^ 31) (hf : f 1 = nI p) (hk : k = 3 ∨ v ≤ 0 ∨ isD (cF hp len p) = false) : V g mX3_numberRead 0 0 0 0 616 7 [some (vR (14, 0, 0, 0)), some (vI v), some (vI (nI k)), x3] [] RP (RQ hp f) (Pi v (RQ hp f)) := by
  by_cases h3 : k = 3
  · subst h3
    refine r_iload_n dX3_numberRead_7 (i := 2) rfl rfl ?_
    refine r_iconst dX3_numberRead_8 (v := 3) rfl ?_
    refine r_icmp_ge dX3_numberRead_9 (tgt := 41) rfl (fun _ => ?_) (fun h9 => absurd ((by decide : (3 : Int32) ≤ nI 3)) h9)
    refine r_iload_n dX3_numberRead_41 (i := 1) rfl rfl ?_
    exact e_i dX3_numberRead_42 rfl (by first | rfl | exact bi_nar _) (by first | rfl | simp [bi, *]) rfl
  · by_cases hv : v ≤ 0
    · refine r_iload_n dX3_numberRead_7 (i := 2) rfl rfl ?_
      refine r_iconst dX3_numberRead_8 (v := 3) rfl ?_
      refine r_icmp_ge dX3_numberRead_9 (tgt := 41) rfl (fun h9 => ?_) (fun h9 => ?_)
      · refine r_iload_n dX3_numberRead_41 (i := 1) rfl rfl ?_
        exact e_i dX3_numberRead_42 rfl (by first | rfl | exact bi_nar _) (by first | rfl | simp [bi, *]) rfl
      · refine r_iload_n dX3_numberRead_12 (i := 1) rfl rfl ?_
        refine r_if_le dX3_numberRead_13 (tgt := 41) rfl (fun _ => ?_) (fun h13 => absurd (hv) h13)
        refine r_iload_n dX3_numberRead_41 (i := 1) rfl rfl ?_
        exact e_i dX3_numberRead_42 rfl (by first | rfl | exact bi_nar _) (by first | rfl | simp [bi, *]) rfl
    · have hd : isD (cF hp len p) = false := by
        rcases hk with hk | hk | hk
        · exact absurd hk h3
        · exact absurd hk hv
        · exact hk
      refine r_iload_n dX3_numberRead_7 (i := 2) rfl rfl ?_
      refine r_iconst dX3_numberRead_8 (v := 3) rfl ?_
      refine r_icmp_ge dX3_numberRead_9 (tgt := 41) rfl (fun h9 => ?_) (fun h9 => ?_)
      · refine r_iload_n dX3_numberRead_41 (i := 1) rfl rfl ?_
        exact e_i dX3_numberRead_42 rfl (by first | rfl | exact bi_nar _) (by first | rfl | simp [bi, *]) rfl
      · refine r_iload_n dX3_numberRead_12 (i := 1) rfl rfl ?_
        refine r_if_le dX3_numberRead_13 (tgt := 41) rfl (fun h13 => absurd h13 (hv)) (fun _ => ?_)
        refine r_aload_n dX3_numberRead_16 (i := 0) rfl rfl ?_
        refine sX3_numberRead_17 (Nat.le_refl _) (Nat.le_refl _) rfl lv14 (Nat.le_of_ble_eq_true rfl) (tX3_digitRead_n hR hpl hf hd) ?_
        refine r_istore_n dX3_numberRead_20 (i := 3) rfl (Nat.le_of_ble_eq_true rfl) rfl rfl ?_
        refine r_iload_n dX3_numberRead_21 (i := 3) rfl rfl ?_
        refine r_iconst dX3_numberRead_22 (v := (-1)) rfl ?_
        refine r_icmp_ne dX3_numberRead_23 (tgt := 28) rfl (fun h23 => absurd (rfl) h23) (fun _ => ?_)
        refine r_iload_n dX3_numberRead_26 (i := 1) rfl rfl ?_
        exact e_i dX3_numberRead_27 rfl (by first | rfl | exact bi_nar _) (by first | rfl | simp [bi, *]) rfl
theorem lNR_step {k : Nat} {v : Int32} {P : Pst} {x3 : Option Vv} (hR : RDp hp len) (hpl : p < 2 ^ 31) (hf : f 1 = nI p) (hk : k < 3) (hv : ¬ v ≤ 0) (hd : isD (cF hp len p) = true) (hE : ∀ x4, V g mX3_numberRead 0 0 0 0 616 7 [some (vR (14, 0, 0, 0)), some (vI (10 * v + (cF hp len p - 48))), some (vI (nI (k + 1))), x4] [] RP (RQ hp (up f 1 (nI (p + 1)))) P) : V g mX3_numberRead 0 0 0 0 616 7 [some (vR (14, 0, 0, 0)), some (vI v), some (vI (nI k)), x3] [] RP (RQ hp f) P := by
  obtain ⟨d, hd10, e⟩ := isD_of hd
  have hne : ¬ cF hp len p - 48 = -1 := by rw [e]; exact nI_nm1 (by omega)
  refine r_iload_n dX3_numberRead_7 (i := 2) rfl rfl ?_
  refine r_iconst dX3_numberRead_8 (v := 3) rfl ?_
  refine r_icmp_ge dX3_numberRead_9 (tgt := 41) rfl (fun h9 => absurd h9 ((nI_ge (b := 3) hk (by decide) : ¬ (3 : Int32) ≤ nI k))) (fun _ => ?_)
  refine r_iload_n dX3_numberRead_12 (i := 1) rfl rfl ?_
  refine r_if_le dX3_numberRead_13 (tgt := 41) rfl (fun h13 => absurd h13 (hv)) (fun _ => ?_)
  refine r_aload_n dX3_numberRead_16 (i := 0) rfl rfl ?_
  refine sX3_numberRead_17 (Nat.le_refl _) (Nat.le_refl _) rfl lv14 (Nat.le_of_ble_eq_true rfl) (tX3_digitRead hR hpl hf hd) ?_
  refine r_istore_n dX3_numberRead_20 (i := 3) rfl (Nat.le_of_ble_eq_true rfl) rfl rfl ?_
  refine r_iload_n dX3_numberRead_21 (i := 3) rfl rfl ?_
  refine r_iconst dX3_numberRead_22 (v := (-1)) rfl ?_
  refine r_icmp_ne dX3_numberRead_23 (tgt := 28) rfl (fun _ => ?_) (fun h23 => absurd h23 (hne))
  refine r_bipush dX3_numberRead_28 (v := 10) rfl ?_
  refine r_iload_n dX3_numberRead_30 (i := 1) rfl rfl ?_
  refine r_imul dX3_numberRead_31 ?_
  refine r_iload_n dX3_numberRead_32 (i := 3) rfl rfl ?_
  refine r_iadd dX3_numberRead_33 ?_
  refine r_istore_n dX3_numberRead_34 (i := 1) rfl (Nat.le_of_ble_eq_true rfl) rfl rfl ?_
  refine r_inc1 dX3_numberRead_35 rfl (Nat.le_of_ble_eq_true rfl) rfl ?_
  refine r_goto dX3_numberRead_38 (tgt := 7) rfl ?_
  rw [nI_1]
  exact hE _
theorem tX3_numberRead_n (hR : RDp hp len) (hpl : p < 2 ^ 31) (hf : f 1 = nI p) (hd : isD (cF hp len p) = false) : Ci g mX3_numberRead [vR (14, 0, 0, 0)] (RQ hp f) (-1) (RQ hp f) := by
  unfold Ci
  refine r_aload_n dX3_numberRead_0 (i := 0) rfl rfl ?_
  refine sX3_numberRead_1 (Nat.le_refl _) (Nat.le_refl _) rfl lv14 (Nat.le_of_ble_eq_true rfl) (tX3_digitRead_n hR hpl hf hd) ?_
  refine r_istore_n dX3_numberRead_4 (i := 1) rfl (Nat.le_of_ble_eq_true rfl) rfl rfl ?_
  refine r_iconst dX3_numberRead_5 (v := 1) rfl ?_
  refine r_istore_n dX3_numberRead_6 (i := 2) rfl (Nat.le_of_ble_eq_true rfl) rfl rfl ?_
  exact lNR_exit (k := 1) hR hpl hf (Or.inr (Or.inl (by decide)))
theorem tN_val {c : Nat → Int32} (h : isD (c p) = true) : ∃ v, v < 1000 ∧ (tN c p false).1 = nI v := by
  obtain ⟨d0, h0, e0⟩ := isD_of h
  unfold tN
  rw [if_neg (by simp [h])]
  split
  · exact ⟨d0, by omega, e0⟩
  · split
    · exact ⟨d0, by omega, e0⟩
    next h1 =>
      obtain ⟨d1, h1b, e1⟩ := isD_of (x := c (p + 1)) (by simpa using h1)
      split
      · refine ⟨10 * d0 + d1, by omega, ?_⟩
        show 10 * (c p - 48) + (c (p + 1) - 48) = _
        rw [e0, e1, show (10 : Int32) = nI 10 from rfl, pk_mul, nI_add]
      next h2 =>
        obtain ⟨d2, h2b, e2⟩ := isD_of (x := c (p + 2)) (by simpa using h2)
        refine ⟨10 * (10 * d0 + d1) + d2, by omega, ?_⟩
        show 10 * (10 * (c p - 48) + (c (p + 1) - 48)) + (c (p + 2) - 48) = _
        rw [e0, e1, e2, show (10 : Int32) = nI 10 from rfl, pk_mul, nI_add, pk_mul, nI_add]
theorem tX3_numberRead (hR : RDp hp len) (hpl : p < 2 ^ 30) (hf : f 1 = nI p) (hd : isD (cF hp len p) = true) : Ci g mX3_numberRead [vR (14, 0, 0, 0)] (RQ hp f) (tN (cF hp len) p false).1 (RQ hp (up f 1 (nI (tN (cF hp len) p false).2.1))) := by
  obtain ⟨d0, hd0, e0⟩ := isD_of hd
  have main : ∀ x3, V g mX3_numberRead 0 0 0 0 616 7 [some (vR (14, 0, 0, 0)), some (vI (cF hp len p - 48)), some (vI (nI 1)), x3] [] RP (RQ hp (up f 1 (nI (p + 1)))) (Pi (tN (cF hp len) p false).1 (RQ hp (up f 1 (nI (tN (cF hp len) p false).2.1)))) := by
    intro x3
    unfold tN
    rw [if_neg (by simp [hd])]
    split
    next h1 => exact lNR_exit hR (p := p + 1) (by omega) up_eq (Or.inr (Or.inl h1))
    next h1 =>
      split
      next h2 => exact lNR_exit hR (p := p + 1) (by omega) up_eq (Or.inr (Or.inr h2))
      next h2 =>
        have hd1 : isD (cF hp len (p + 1)) = true := by simpa using h2
        obtain ⟨d1, hd1b, e1⟩ := isD_of hd1
        have hv1 : ¬ 10 * (cF hp len p - 48) + (cF hp len (p + 1) - 48) ≤ 0 := by
          rw [e0] at h1 ⊢
          rw [e1]
          exact isD_pos h1 (by omega) hd1b
        split
        next h3 =>
          refine lNR_step hR (p := p + 1) (by omega) up_eq (by decide) h1 hd1 (fun x4 => ?_)
          rw [up_up]
          exact lNR_exit hR (p := p + 2) (by omega) up_eq (Or.inr (Or.inr h3))
        next h3 =>
          have hd2 : isD (cF hp len (p + 2)) = true := by simpa using h3
          refine lNR_step hR (p := p + 1) (by omega) up_eq (by decide) h1 hd1 (fun x4 => ?_)
          rw [up_up]
          refine lNR_step hR (p := p + 2) (by omega) up_eq (by decide) hv1 hd2 (fun x4 => ?_)
          rw [up_up]
          exact lNR_exit hR (p := p + 3) (by omega) up_eq (Or.inl rfl)
  unfold Ci
  refine r_aload_n dX3_numberRead_0 (i := 0) rfl rfl ?_
  refine sX3_numberRead_1 (Nat.le_refl _) (Nat.le_refl _) rfl lv14 (Nat.le_of_ble_eq_true rfl) (tX3_digitRead hR (by omega) hf hd) ?_
  refine r_istore_n dX3_numberRead_4 (i := 1) rfl (Nat.le_of_ble_eq_true rfl) rfl rfl ?_
  refine r_iconst dX3_numberRead_5 (v := 1) rfl ?_
  refine r_istore_n dX3_numberRead_6 (i := 2) rfl (Nat.le_of_ble_eq_true rfl) rfl rfl ?_
  exact main none
theorem tX3_readsNumber_n (hR : RDp hp len) (hpl : p < 2 ^ 31) (hf : f 1 = nI p) (hd : isD (cF hp len p) = false) : Ci g mX3_readsNumber [vR (14, 0, 0, 0)] (RQ hp f) 0 (RQ hp (up f 5 (-1))) := by
  unfold Ci
  refine r_aload_n dX3_readsNumber_0 (i := 0) rfl rfl ?_
  refine r_aload_n dX3_readsNumber_1 (i := 0) rfl rfl ?_
  refine sX3_readsNumber_2 (Nat.le_refl _) (Nat.le_refl _) rfl lv14 (Nat.le_of_ble_eq_true rfl) (tX3_numberRead_n hR hpl hf hd) ?_
  refine r_putI dX3_readsNumber_5 f_3_71 rfl rfl lv14 ⟨rfl, rfl⟩ ?_
  refine V.eqH (RQ_s (by decide)) ?_
  refine r_aload_n dX3_readsNumber_8 (i := 0) rfl rfl ?_
  refine r_getI dX3_readsNumber_9 f_3_71 rfl rfl lv14 ?_
  refine r_iconst dX3_readsNumber_12 (v := (-1)) rfl ?_
  refine r_icmp_eq dX3_readsNumber_13 (tgt := 20) rfl (fun _ => ?_) (fun h13 => absurd ((by rw [RQ_5, up_eq])) h13)
  refine r_iconst dX3_readsNumber_20 (v := 0) rfl ?_
  exact e_i dX3_readsNumber_21 rfl (by first | rfl | exact bi_nar _) (by first | rfl | simp [bi, *]) rfl
theorem tX3_readsNumber (hR : RDp hp len) (hpl : p < 2 ^ 30) (hf : f 1 = nI p) (hd : isD (cF hp len p) = true) : Ci g mX3_readsNumber [vR (14, 0, 0, 0)] (RQ hp f) 1 (RQ hp (up (up f 1 (nI (tN (cF hp len) p false).2.1)) 5 (tN (cF hp len) p false).1)) := by
  obtain ⟨v, hv, e⟩ := tN_val (c := cF hp len) hd
  unfold Ci
  refine r_aload_n dX3_readsNumber_0 (i := 0) rfl rfl ?_
  refine r_aload_n dX3_readsNumber_1 (i := 0) rfl rfl ?_
  refine sX3_readsNumber_2 (Nat.le_refl _) (Nat.le_refl _) rfl lv14 (Nat.le_of_ble_eq_true rfl) (tX3_numberRead hR hpl hf hd) ?_
  refine r_putI dX3_readsNumber_5 f_3_71 rfl rfl lv14 ⟨rfl, rfl⟩ ?_
  refine V.eqH (RQ_s (by decide)) ?_
  refine r_aload_n dX3_readsNumber_8 (i := 0) rfl rfl ?_
  refine r_getI dX3_readsNumber_9 f_3_71 rfl rfl lv14 ?_
  refine r_iconst dX3_readsNumber_12 (v := (-1)) rfl ?_
  refine r_icmp_eq dX3_readsNumber_13 (tgt := 20) rfl (fun h13 => absurd h13 ((by rw [RQ_5, up_eq, e]; exact nI_nm1 (by omega)))) (fun _ => ?_)
  refine r_iconst dX3_readsNumber_16 (v := 1) rfl ?_
  refine r_goto dX3_readsNumber_17 (tgt := 21) rfl ?_
  exact e_i dX3_readsNumber_21 rfl (by first | rfl | exact bi_nar _) (by first | rfl | simp [bi, *]) rfl
theorem tX3_readsSecret_n (hR : RDp hp len) (hpl : p < 2 ^ 31) (hf : f 1 = nI p) (hd : isD (cF hp len p) = false) : Ci g mX3_readsSecret [vR (14, 0, 0, 0)] (RQ hp f) 0 (RQ hp (up f 4 (-1))) := by
  unfold Ci
  refine r_aload_n dX3_readsSecret_0 (i := 0) rfl rfl ?_
  refine r_aload_n dX3_readsSecret_1 (i := 0) rfl rfl ?_
  refine sX3_readsSecret_2 (Nat.le_refl _) (Nat.le_refl _) rfl lv14 (Nat.le_of_ble_eq_true rfl) (tX3_digitRead_n hR hpl hf hd) ?_
  refine r_putI dX3_readsSecret_5 f_3_65 rfl rfl lv14 ⟨rfl, rfl⟩ ?_
  refine V.eqH (RQ_s (by decide)) ?_
  refine r_aload_n dX3_readsSecret_8 (i := 0) rfl rfl ?_
  refine r_getI dX3_readsSecret_9 f_3_65 rfl rfl lv14 ?_
  refine r_iconst dX3_readsSecret_12 (v := (-1)) rfl ?_
  refine r_icmp_eq dX3_readsSecret_13 (tgt := 20) rfl (fun _ => ?_) (fun h13 => absurd ((by rw [RQ_g (by decide), up_eq])) h13)
  refine r_iconst dX3_readsSecret_20 (v := 0) rfl ?_
  exact e_i dX3_readsSecret_21 rfl (by first | rfl | exact bi_nar _) (by first | rfl | simp [bi, *]) rfl
theorem tX3_readsSecret (hR : RDp hp len) (hpl : p < 2 ^ 31) (hf : f 1 = nI p) (hd : isD (cF hp len p) = true) : Ci g mX3_readsSecret [vR (14, 0, 0, 0)] (RQ hp f) 1 (RQ hp (up (up f 1 (nI (p + 1))) 4 (cF hp len p - 48))) := by
  obtain ⟨d, hd10, e⟩ := isD_of hd
  unfold Ci
  refine r_aload_n dX3_readsSecret_0 (i := 0) rfl rfl ?_
  refine r_aload_n dX3_readsSecret_1 (i := 0) rfl rfl ?_
  refine sX3_readsSecret_2 (Nat.le_refl _) (Nat.le_refl _) rfl lv14 (Nat.le_of_ble_eq_true rfl) (tX3_digitRead hR hpl hf hd) ?_
  refine r_putI dX3_readsSecret_5 f_3_65 rfl rfl lv14 ⟨rfl, rfl⟩ ?_
  refine V.eqH (RQ_s (by decide)) ?_
  refine r_aload_n dX3_readsSecret_8 (i := 0) rfl rfl ?_
  refine r_getI dX3_readsSecret_9 f_3_65 rfl rfl lv14 ?_
  refine r_iconst dX3_readsSecret_12 (v := (-1)) rfl ?_
  refine r_icmp_eq dX3_readsSecret_13 (tgt := 20) rfl (fun h13 => absurd h13 ((by rw [RQ_g (by decide), up_eq, e]; exact nI_nm1 (by omega)))) (fun _ => ?_)
  refine r_iconst dX3_readsSecret_16 (v := 1) rfl ?_
  refine r_goto dX3_readsSecret_17 (tgt := 21) rfl ?_
  exact e_i dX3_readsSecret_21 rfl (by first | rfl | exact bi_nar _) (by first | rfl | simp [bi, *]) rfl
theorem fIn_st {x : Int32} (hx : ∃ q : Nat, q < 65536 ∧ x = nI q) : fIn x 97 98 = true ↔ (x = 97 ∨ x = 98) := by
  obtain ⟨q, hq, rfl⟩ := hx
  unfold fIn
  simp only [Bool.and_eq_true, Bool.not_eq_true', decide_eq_false_iff_not]
  have h1 : nI q < 97 ↔ q < 97 := nI_ltI (b := 97) (by omega) (by decide)
  have h2 : (98 : Int32) < nI q ↔ 98 < q := nI_ltI (a := 98) (by decide) (by omega)
  have h3 : nI q = 97 ↔ q = 97 := nI_eq (b := 97) (by omega) (by decide)
  have h4 : nI q = 98 ↔ q = 98 := nI_eq (b := 98) (by omega) (by decide)
  rw [h1, h2, h3, h4]
  omega
theorem tX3_readsStore_n (hR : RDp hp len) (hpl : p < 2 ^ 31) (hf : f 1 = nI p) (hd : fIn (cF hp len p) 97 98 = false) : Ci g mX3_readsStore [vR (14, 0, 0, 0)] (RQ hp f) 0 (RQ hp f) := by
  have hd2 : ¬ (cF hp len p = 97 ∨ cF hp len p = 98) := fun h => by rw [(fIn_st (cF_ch hR.2.2)).mpr h] at hd; cases hd
  unfold Ci
  refine r_aload_n dX3_readsStore_0 (i := 0) rfl rfl ?_
  refine r_getR dX3_readsStore_1 f_3_9 rfl rfl rfl lv14 ?_
  refine r_aload_n dX3_readsStore_4 (i := 0) rfl rfl ?_
  refine r_getI dX3_readsStore_5 f_3_15 rfl rfl lv14 ?_
  rw [RQ_1, hf]
  refine sX3_readsStore_8 (Nat.le_refl _) (Nat.le_refl _) rfl lv12 (Nat.le_of_ble_eq_true rfl) (signRQ hR hpl) ?_
  refine r_istore_n dX3_readsStore_11 (i := 1) rfl (Nat.le_of_ble_eq_true rfl) rfl rfl ?_
  refine r_iload_n dX3_readsStore_12 (i := 1) rfl rfl ?_
  refine r_bipush dX3_readsStore_13 (v := 97) rfl ?_
  refine r_icmp_eq dX3_readsStore_15 (tgt := 26) rfl (fun h15 => absurd h15 ((fun h => hd2 (Or.inl h)))) (fun _ => ?_)
  refine r_iload_n dX3_readsStore_18 (i := 1) rfl rfl ?_
  refine r_bipush dX3_readsStore_19 (v := 98) rfl ?_
  refine r_icmp_eq dX3_readsStore_21 (tgt := 26) rfl (fun h21 => absurd h21 ((fun h => hd2 (Or.inr h)))) (fun _ => ?_)
  refine r_iconst dX3_readsStore_24 (v := 0) rfl ?_
  exact e_i dX3_readsStore_25 rfl (by first | rfl | exact bi_nar _) (by first | rfl | simp [bi, *]) rfl
theorem tX3_readsStore (hR : RDp hp len) (hpl : p < 2 ^ 31) (hf : f 1 = nI p) (hd : fIn (cF hp len p) 97 98 = true) : Ci g mX3_readsStore [vR (14, 0, 0, 0)] (RQ hp f) 1 (RQ hp (up (up f 1 (nI (p + 1))) 3 (cF hp len p - 97))) := by
  have hd2 := (fIn_st (cF_ch hR.2.2)).mp hd
  unfold Ci
  refine r_aload_n dX3_readsStore_0 (i := 0) rfl rfl ?_
  refine r_getR dX3_readsStore_1 f_3_9 rfl rfl rfl lv14 ?_
  refine r_aload_n dX3_readsStore_4 (i := 0) rfl rfl ?_
  refine r_getI dX3_readsStore_5 f_3_15 rfl rfl lv14 ?_
  rw [RQ_1, hf]
  refine sX3_readsStore_8 (Nat.le_refl _) (Nat.le_refl _) rfl lv12 (Nat.le_of_ble_eq_true rfl) (signRQ hR hpl) ?_
  refine r_istore_n dX3_readsStore_11 (i := 1) rfl (Nat.le_of_ble_eq_true rfl) rfl rfl ?_
  refine r_iload_n dX3_readsStore_12 (i := 1) rfl rfl ?_
  refine r_bipush dX3_readsStore_13 (v := 97) rfl ?_
  refine r_icmp_eq dX3_readsStore_15 (tgt := 26) rfl (fun h15 => ?_) (fun h15 => ?_)
  · refine r_aload_n dX3_readsStore_26 (i := 0) rfl rfl ?_
    refine r_dup dX3_readsStore_27 rfl ?_
    refine r_getI dX3_readsStore_28 f_3_15 rfl rfl lv14 ?_
    refine r_iconst dX3_readsStore_31 (v := 1) rfl ?_
    refine r_iadd dX3_readsStore_32 ?_
    refine r_putI dX3_readsStore_33 f_3_15 rfl rfl lv14 ⟨rfl, rfl⟩ ?_
    refine V.eqH (hp2 := RQ hp (up f 1 (nI (p + 1)))) (by rw [RQ_1, hf, nI_1, RQ_s (by decide)]) ?_
    refine r_aload_n dX3_readsStore_36 (i := 0) rfl rfl ?_
    refine r_iload_n dX3_readsStore_37 (i := 1) rfl rfl ?_
    refine r_bipush dX3_readsStore_38 (v := 97) rfl ?_
    refine r_isub dX3_readsStore_40 ?_
    refine r_putI dX3_readsStore_41 f_3_58 rfl rfl lv14 ⟨rfl, rfl⟩ ?_
    refine V.eqH (RQ_s (by decide)) ?_
    refine r_iconst dX3_readsStore_44 (v := 1) rfl ?_
    exact e_i dX3_readsStore_45 rfl (by first | rfl | exact bi_nar _) (by first | rfl | simp [bi, *]) rfl
  · refine r_iload_n dX3_readsStore_18 (i := 1) rfl rfl ?_
    refine r_bipush dX3_readsStore_19 (v := 98) rfl ?_
    refine r_icmp_eq dX3_readsStore_21 (tgt := 26) rfl (fun h21 => ?_) (fun h21 => ?_)
    · refine r_aload_n dX3_readsStore_26 (i := 0) rfl rfl ?_
      refine r_dup dX3_readsStore_27 rfl ?_
      refine r_getI dX3_readsStore_28 f_3_15 rfl rfl lv14 ?_
      refine r_iconst dX3_readsStore_31 (v := 1) rfl ?_
      refine r_iadd dX3_readsStore_32 ?_
      refine r_putI dX3_readsStore_33 f_3_15 rfl rfl lv14 ⟨rfl, rfl⟩ ?_
      refine V.eqH (hp2 := RQ hp (up f 1 (nI (p + 1)))) (by rw [RQ_1, hf, nI_1, RQ_s (by decide)]) ?_
      refine r_aload_n dX3_readsStore_36 (i := 0) rfl rfl ?_
      refine r_iload_n dX3_readsStore_37 (i := 1) rfl rfl ?_
      refine r_bipush dX3_readsStore_38 (v := 97) rfl ?_
      refine r_isub dX3_readsStore_40 ?_
      refine r_putI dX3_readsStore_41 f_3_58 rfl rfl lv14 ⟨rfl, rfl⟩ ?_
      refine V.eqH (RQ_s (by decide)) ?_
      refine r_iconst dX3_readsStore_44 (v := 1) rfl ?_
      exact e_i dX3_readsStore_45 rfl (by first | rfl | exact bi_nar _) (by first | rfl | simp [bi, *]) rfl
    · exfalso
      exact hd2.elim h15 h21
end RDC
