theorem tN_3 {c : Nat → Int32} {p : Nat} {w : Bool} : (tN c p w).2.1 ≤ p + 3 := by
  unfold tN
  split
  · exact Nat.le_add_right _ _
  · split
    · exact Nat.add_le_add_left (by decide) _
    · split
      · exact Nat.add_le_add_left (by decide) _
      · split
        · exact Nat.add_le_add_left (by decide) _
        · exact Nat.le_refl _
section RDO
variable {g : Gh} {hp : HPt} {len p : Nat} {f : Nat → Int32}
theorem tX3_readsOffsets_n1 (hR : RDp hp len) (hpl : p < 1000) (hf : f 1 = nI p) (h1 : ¬ cF hp len p = 43) : Ci g mX3_readsOffsets [vR (14, 0, 0, 0)] (RQ hp f) 0 (RQ hp f) := by
  unfold Ci
  refine r_aload_n dX3_readsOffsets_0 (i := 0) rfl rfl ?_
  refine r_bipush dX3_readsOffsets_1 (v := 43) rfl ?_
  refine sX3_readsOffsets_3 (Nat.le_refl _) (Nat.le_refl _) rfl lv14 (Nat.le_of_ble_eq_true rfl) (tX3_reads_n hR (by omega) hf h1) ?_
  refine r_if_eq dX3_readsOffsets_6 (tgt := 16) rfl (fun _ => ?_) (fun h6 => absurd (rfl) h6)
  refine r_iconst dX3_readsOffsets_16 (v := 0) rfl ?_
  exact e_i dX3_readsOffsets_17 rfl (by first | rfl | exact bi_nar _) (by first | rfl | simp [bi, *]) rfl
theorem tX3_readsOffsets_n2 (hR : RDp hp len) (hpl : p < 1000) (hf : f 1 = nI p) (h1 : cF hp len p = 43) (h2 : isD (cF hp len (p + 1)) = false) : Ci g mX3_readsOffsets [vR (14, 0, 0, 0)] (RQ hp f) 0 (RQ hp (up (up f 1 (nI (p + 1))) 5 (-1))) := by
  unfold Ci
  refine r_aload_n dX3_readsOffsets_0 (i := 0) rfl rfl ?_
  refine r_bipush dX3_readsOffsets_1 (v := 43) rfl ?_
  refine sX3_readsOffsets_3 (Nat.le_refl _) (Nat.le_refl _) rfl lv14 (Nat.le_of_ble_eq_true rfl) (tX3_reads hR (by omega) hf h1) ?_
  refine r_if_eq dX3_readsOffsets_6 (tgt := 16) rfl (fun h6 => absurd h6 ((by decide))) (fun _ => ?_)
  refine r_aload_n dX3_readsOffsets_9 (i := 0) rfl rfl ?_
  refine sX3_readsOffsets_10 (Nat.le_refl _) (Nat.le_refl _) rfl lv14 (Nat.le_of_ble_eq_true rfl) (tX3_readsNumber_n hR (p := p + 1) (by omega) up_eq h2) ?_
  refine r_if_ne dX3_readsOffsets_13 (tgt := 18) rfl (fun h13 => absurd (rfl) h13) (fun _ => ?_)
  refine r_iconst dX3_readsOffsets_16 (v := 0) rfl ?_
  exact e_i dX3_readsOffsets_17 rfl (by first | rfl | exact bi_nar _) (by first | rfl | simp [bi, *]) rfl
/-- the reader behind + and a number -/
def fo3 (c : Nat → Int32) (p : Nat) (f : Nat → Int32) : Nat → Int32 := up (up (up (up f 1 (nI (p + 1))) 1 (nI (tN c (p + 1) false).2.1)) 5 (tN c (p + 1) false).1) 6 0
theorem fo3_1 {c : Nat → Int32} : fo3 c p f 1 = nI (tN c (p + 1) false).2.1 := by simp [fo3, up]
theorem tX3_readsOffsets_o1 (hR : RDp hp len) (hpl : p < 1000) (hf : f 1 = nI p) (h1 : cF hp len p = 43) (h2 : isD (cF hp len (p + 1)) = true) (h3 : ¬ cF hp len (tN (cF hp len) (p + 1) false).2.1 = 44) : Ci g mX3_readsOffsets [vR (14, 0, 0, 0)] (RQ hp f) 1 (RQ hp (fo3 (cF hp len) p f)) := by
  have hq := tN_3 (c := cF hp len) (p := p + 1) (w := false)
  unfold Ci
  refine r_aload_n dX3_readsOffsets_0 (i := 0) rfl rfl ?_
  refine r_bipush dX3_readsOffsets_1 (v := 43) rfl ?_
  refine sX3_readsOffsets_3 (Nat.le_refl _) (Nat.le_refl _) rfl lv14 (Nat.le_of_ble_eq_true rfl) (tX3_reads hR (by omega) hf h1) ?_
  refine r_if_eq dX3_readsOffsets_6 (tgt := 16) rfl (fun h6 => absurd h6 ((by decide))) (fun _ => ?_)
  refine r_aload_n dX3_readsOffsets_9 (i := 0) rfl rfl ?_
  refine sX3_readsOffsets_10 (Nat.le_refl _) (Nat.le_refl _) rfl lv14 (Nat.le_of_ble_eq_true rfl) (tX3_readsNumber hR (p := p + 1) (by omega) up_eq h2) ?_
  refine r_if_ne dX3_readsOffsets_13 (tgt := 18) rfl (fun _ => ?_) (fun h13 => absurd h13 ((by decide)))
  refine r_aload_n dX3_readsOffsets_18 (i := 0) rfl rfl ?_
  refine r_iconst dX3_readsOffsets_19 (v := 0) rfl ?_
  refine r_putI dX3_readsOffsets_20 f_3_74 rfl rfl lv14 ⟨rfl, rfl⟩ ?_
  refine V.eqH (hp2 := RQ hp (fo3 (cF hp len) p f)) (RQ_s (by decide)) ?_
  refine r_aload_n dX3_readsOffsets_23 (i := 0) rfl rfl ?_
  refine r_bipush dX3_readsOffsets_24 (v := 44) rfl ?_
  refine sX3_readsOffsets_26 (Nat.le_refl _) (Nat.le_refl _) rfl lv14 (Nat.le_of_ble_eq_true rfl) (tX3_reads_n hR (by omega) fo3_1 h3) ?_
  refine r_if_ne dX3_readsOffsets_29 (tgt := 34) rfl (fun h29 => absurd (rfl) h29) (fun _ => ?_)
  refine r_iconst dX3_readsOffsets_32 (v := 1) rfl ?_
  exact e_i dX3_readsOffsets_33 rfl (by first | rfl | exact bi_nar _) (by first | rfl | simp [bi, *]) rfl
theorem tX3_readsOffsets_n3 (hR : RDp hp len) (hpl : p < 1000) (hf : f 1 = nI p) (h1 : cF hp len p = 43) (h2 : isD (cF hp len (p + 1)) = true) (h3 : cF hp len (tN (cF hp len) (p + 1) false).2.1 = 44) (h4 : isD (cF hp len ((tN (cF hp len) (p + 1) false).2.1 + 1)) = false) : Ci g mX3_readsOffsets [vR (14, 0, 0, 0)] (RQ hp f) 0 (RQ hp (up (up (fo3 (cF hp len) p f) 1 (nI ((tN (cF hp len) (p + 1) false).2.1 + 1))) 6 (-1))) := by
  have hq := tN_3 (c := cF hp len) (p := p + 1) (w := false)
  unfold Ci
  refine r_aload_n dX3_readsOffsets_0 (i := 0) rfl rfl ?_
  refine r_bipush dX3_readsOffsets_1 (v := 43) rfl ?_
  refine sX3_readsOffsets_3 (Nat.le_refl _) (Nat.le_refl _) rfl lv14 (Nat.le_of_ble_eq_true rfl) (tX3_reads hR (by omega) hf h1) ?_
  refine r_if_eq dX3_readsOffsets_6 (tgt := 16) rfl (fun h6 => absurd h6 ((by decide))) (fun _ => ?_)
  refine r_aload_n dX3_readsOffsets_9 (i := 0) rfl rfl ?_
  refine sX3_readsOffsets_10 (Nat.le_refl _) (Nat.le_refl _) rfl lv14 (Nat.le_of_ble_eq_true rfl) (tX3_readsNumber hR (p := p + 1) (by omega) up_eq h2) ?_
  refine r_if_ne dX3_readsOffsets_13 (tgt := 18) rfl (fun _ => ?_) (fun h13 => absurd h13 ((by decide)))
  refine r_aload_n dX3_readsOffsets_18 (i := 0) rfl rfl ?_
  refine r_iconst dX3_readsOffsets_19 (v := 0) rfl ?_
  refine r_putI dX3_readsOffsets_20 f_3_74 rfl rfl lv14 ⟨rfl, rfl⟩ ?_
  refine V.eqH (hp2 := RQ hp (fo3 (cF hp len) p f)) (RQ_s (by decide)) ?_
  refine r_aload_n dX3_readsOffsets_23 (i := 0) rfl rfl ?_
  refine r_bipush dX3_readsOffsets_24 (v := 44) rfl ?_
  refine sX3_readsOffsets_26 (Nat.le_refl _) (Nat.le_refl _) rfl lv14 (Nat.le_of_ble_eq_true rfl) (tX3_reads hR (by omega) fo3_1 h3) ?_
  refine r_if_ne dX3_readsOffsets_29 (tgt := 34) rfl (fun _ => ?_) (fun h29 => absurd h29 ((by decide)))
  refine r_aload_n dX3_readsOffsets_34 (i := 0) rfl rfl ?_
  refine r_aload_n dX3_readsOffsets_35 (i := 0) rfl rfl ?_
  refine sX3_readsOffsets_36 (Nat.le_refl _) (Nat.le_refl _) rfl lv14 (Nat.le_of_ble_eq_true rfl) (tX3_numberRead_n hR (p := (tN (cF hp len) (p + 1) false).2.1 + 1) (by omega) up_eq h4) ?_
  refine r_putI dX3_readsOffsets_39 f_3_74 rfl rfl lv14 ⟨rfl, rfl⟩ ?_
  refine V.eqH (RQ_s (by decide)) ?_
  refine r_aload_n dX3_readsOffsets_42 (i := 0) rfl rfl ?_
  refine r_getI dX3_readsOffsets_43 f_3_74 rfl rfl lv14 ?_
  refine r_iconst dX3_readsOffsets_46 (v := (-1)) rfl ?_
  refine r_icmp_eq dX3_readsOffsets_47 (tgt := 54) rfl (fun _ => ?_) (fun h47 => absurd ((by rw [RQ_g (by decide), up_eq])) h47)
  refine r_iconst dX3_readsOffsets_54 (v := 0) rfl ?_
  exact e_i dX3_readsOffsets_55 rfl (by first | rfl | exact bi_nar _) (by first | rfl | simp [bi, *]) rfl
theorem tX3_readsOffsets_o2 (hR : RDp hp len) (hpl : p < 1000) (hf : f 1 = nI p) (h1 : cF hp len p = 43) (h2 : isD (cF hp len (p + 1)) = true) (h3 : cF hp len (tN (cF hp len) (p + 1) false).2.1 = 44) (h4 : isD (cF hp len ((tN (cF hp len) (p + 1) false).2.1 + 1)) = true) : Ci g mX3_readsOffsets [vR (14, 0, 0, 0)] (RQ hp f) 1 (RQ hp (up (up (up (fo3 (cF hp len) p f) 1 (nI ((tN (cF hp len) (p + 1) false).2.1 + 1))) 1 (nI (tN (cF hp len) ((tN (cF hp len) (p + 1) false).2.1 + 1) false).2.1)) 6 (tN (cF hp len) ((tN (cF hp len) (p + 1) false).2.1 + 1) false).1)) := by
  have hq := tN_3 (c := cF hp len) (p := p + 1) (w := false)
  obtain ⟨v, hv, e⟩ := tN_val (c := cF hp len) h4
  unfold Ci
  refine r_aload_n dX3_readsOffsets_0 (i := 0) rfl rfl ?_
  refine r_bipush dX3_readsOffsets_1 (v := 43) rfl ?_
  refine sX3_readsOffsets_3 (Nat.le_refl _) (Nat.le_refl _) rfl lv14 (Nat.le_of_ble_eq_true rfl) (tX3_reads hR (by omega) hf h1) ?_
  refine r_if_eq dX3_readsOffsets_6 (tgt := 16) rfl (fun h6 => absurd h6 ((by decide))) (fun _ => ?_)
  refine r_aload_n dX3_readsOffsets_9 (i := 0) rfl rfl ?_
  refine sX3_readsOffsets_10 (Nat.le_refl _) (Nat.le_refl _) rfl lv14 (Nat.le_of_ble_eq_true rfl) (tX3_readsNumber hR (p := p + 1) (by omega) up_eq h2) ?_
  refine r_if_ne dX3_readsOffsets_13 (tgt := 18) rfl (fun _ => ?_) (fun h13 => absurd h13 ((by decide)))
  refine r_aload_n dX3_readsOffsets_18 (i := 0) rfl rfl ?_
  refine r_iconst dX3_readsOffsets_19 (v := 0) rfl ?_
  refine r_putI dX3_readsOffsets_20 f_3_74 rfl rfl lv14 ⟨rfl, rfl⟩ ?_
  refine V.eqH (hp2 := RQ hp (fo3 (cF hp len) p f)) (RQ_s (by decide)) ?_
  refine r_aload_n dX3_readsOffsets_23 (i := 0) rfl rfl ?_
  refine r_bipush dX3_readsOffsets_24 (v := 44) rfl ?_
  refine sX3_readsOffsets_26 (Nat.le_refl _) (Nat.le_refl _) rfl lv14 (Nat.le_of_ble_eq_true rfl) (tX3_reads hR (by omega) fo3_1 h3) ?_
  refine r_if_ne dX3_readsOffsets_29 (tgt := 34) rfl (fun _ => ?_) (fun h29 => absurd h29 ((by decide)))
  refine r_aload_n dX3_readsOffsets_34 (i := 0) rfl rfl ?_
  refine r_aload_n dX3_readsOffsets_35 (i := 0) rfl rfl ?_
  refine sX3_readsOffsets_36 (Nat.le_refl _) (Nat.le_refl _) rfl lv14 (Nat.le_of_ble_eq_true rfl) (tX3_numberRead hR (p := (tN (cF hp len) (p + 1) false).2.1 + 1) (by omega) up_eq h4) ?_
  refine r_putI dX3_readsOffsets_39 f_3_74 rfl rfl lv14 ⟨rfl, rfl⟩ ?_
  refine V.eqH (RQ_s (by decide)) ?_
  refine r_aload_n dX3_readsOffsets_42 (i := 0) rfl rfl ?_
  refine r_getI dX3_readsOffsets_43 f_3_74 rfl rfl lv14 ?_
  refine r_iconst dX3_readsOffsets_46 (v := (-1)) rfl ?_
  refine r_icmp_eq dX3_readsOffsets_47 (tgt := 54) rfl (fun h47 => absurd h47 ((by rw [RQ_g (by decide), up_eq, e]; exact nI_nm1 (by omega)))) (fun _ => ?_)
  refine r_iconst dX3_readsOffsets_50 (v := 1) rfl ?_
  refine r_goto dX3_readsOffsets_51 (tgt := 55) rfl ?_
  exact e_i dX3_readsOffsets_55 rfl (by first | rfl | exact bi_nar _) (by first | rfl | simp [bi, *]) rfl
theorem tX3_readsVersion_o1 (hR : RDp hp len) (hpl : p < 1000) (hf : f 1 = nI p) (h1 : ¬ cF hp len p = 46) : Ci g mX3_readsVersion [vR (14, 0, 0, 0)] (RQ hp f) 1 (RQ hp (up f 5 (-1))) := by
  unfold Ci
  refine r_aload_n dX3_readsVersion_0 (i := 0) rfl rfl ?_
  refine r_iconst dX3_readsVersion_1 (v := (-1)) rfl ?_
  refine r_putI dX3_readsVersion_2 f_3_71 rfl rfl lv14 ⟨rfl, rfl⟩ ?_
  refine V.eqH (RQ_s (by decide)) ?_
  refine r_aload_n dX3_readsVersion_5 (i := 0) rfl rfl ?_
  refine r_bipush dX3_readsVersion_6 (v := 46) rfl ?_
  refine sX3_readsVersion_8 (Nat.le_refl _) (Nat.le_refl _) rfl lv14 (Nat.le_of_ble_eq_true rfl) (tX3_reads_n hR (p := p) (by omega) (by rw [up_ne (by decide)]; exact hf) h1) ?_
  refine r_if_eq dX3_readsVersion_11 (tgt := 21) rfl (fun _ => ?_) (fun h11 => absurd (rfl) h11)
  refine r_iconst dX3_readsVersion_21 (v := 1) rfl ?_
  refine r_goto dX3_readsVersion_22 (tgt := 26) rfl ?_
  exact e_i dX3_readsVersion_26 rfl (by first | rfl | exact bi_nar _) (by first | rfl | simp [bi, *]) rfl
theorem tX3_readsVersion_n (hR : RDp hp len) (hpl : p < 1000) (hf : f 1 = nI p) (h1 : cF hp len p = 46) (h2 : isD (cF hp len (p + 1)) = false) : Ci g mX3_readsVersion [vR (14, 0, 0, 0)] (RQ hp f) 0 (RQ hp (up (up (up f 5 (-1)) 1 (nI (p + 1))) 5 (-1))) := by
  unfold Ci
  refine r_aload_n dX3_readsVersion_0 (i := 0) rfl rfl ?_
  refine r_iconst dX3_readsVersion_1 (v := (-1)) rfl ?_
  refine r_putI dX3_readsVersion_2 f_3_71 rfl rfl lv14 ⟨rfl, rfl⟩ ?_
  refine V.eqH (RQ_s (by decide)) ?_
  refine r_aload_n dX3_readsVersion_5 (i := 0) rfl rfl ?_
  refine r_bipush dX3_readsVersion_6 (v := 46) rfl ?_
  refine sX3_readsVersion_8 (Nat.le_refl _) (Nat.le_refl _) rfl lv14 (Nat.le_of_ble_eq_true rfl) (tX3_reads hR (p := p) (by omega) (by rw [up_ne (by decide)]; exact hf) h1) ?_
  refine r_if_eq dX3_readsVersion_11 (tgt := 21) rfl (fun h11 => absurd h11 ((by decide))) (fun _ => ?_)
  refine r_aload_n dX3_readsVersion_14 (i := 0) rfl rfl ?_
  refine sX3_readsVersion_15 (Nat.le_refl _) (Nat.le_refl _) rfl lv14 (Nat.le_of_ble_eq_true rfl) (tX3_readsNumber_n hR (p := p + 1) (by omega) up_eq h2) ?_
  refine r_if_eq dX3_readsVersion_18 (tgt := 25) rfl (fun _ => ?_) (fun h18 => absurd (rfl) h18)
  refine r_iconst dX3_readsVersion_25 (v := 0) rfl ?_
  exact e_i dX3_readsVersion_26 rfl (by first | rfl | exact bi_nar _) (by first | rfl | simp [bi, *]) rfl
theorem tX3_readsVersion_o2 (hR : RDp hp len) (hpl : p < 1000) (hf : f 1 = nI p) (h1 : cF hp len p = 46) (h2 : isD (cF hp len (p + 1)) = true) : Ci g mX3_readsVersion [vR (14, 0, 0, 0)] (RQ hp f) 1 (RQ hp (up (up (up (up f 5 (-1)) 1 (nI (p + 1))) 1 (nI (tN (cF hp len) (p + 1) false).2.1)) 5 (tN (cF hp len) (p + 1) false).1)) := by
  unfold Ci
  refine r_aload_n dX3_readsVersion_0 (i := 0) rfl rfl ?_
  refine r_iconst dX3_readsVersion_1 (v := (-1)) rfl ?_
  refine r_putI dX3_readsVersion_2 f_3_71 rfl rfl lv14 ⟨rfl, rfl⟩ ?_
  refine V.eqH (RQ_s (by decide)) ?_
  refine r_aload_n dX3_readsVersion_5 (i := 0) rfl rfl ?_
  refine r_bipush dX3_readsVersion_6 (v := 46) rfl ?_
  refine sX3_readsVersion_8 (Nat.le_refl _) (Nat.le_refl _) rfl lv14 (Nat.le_of_ble_eq_true rfl) (tX3_reads hR (p := p) (by omega) (by rw [up_ne (by decide)]; exact hf) h1) ?_
  refine r_if_eq dX3_readsVersion_11 (tgt := 21) rfl (fun h11 => absurd h11 ((by decide))) (fun _ => ?_)
  refine r_aload_n dX3_readsVersion_14 (i := 0) rfl rfl ?_
  refine sX3_readsVersion_15 (Nat.le_refl _) (Nat.le_refl _) rfl lv14 (Nat.le_of_ble_eq_true rfl) (tX3_readsNumber hR (p := p + 1) (by omega) up_eq h2) ?_
  refine r_if_eq dX3_readsVersion_18 (tgt := 25) rfl (fun h18 => absurd h18 ((by decide))) (fun _ => ?_)
  refine r_iconst dX3_readsVersion_21 (v := 1) rfl ?_
  refine r_goto dX3_readsVersion_22 (tgt := 26) rfl ?_
  exact e_i dX3_readsVersion_26 rfl (by first | rfl | exact bi_nar _) (by first | rfl | simp [bi, *]) rfl
/-- what the reader holds behind an order -/
def FLD (f : Nat → Int32) (L : Int32) (a : Int32 × Int32 × Int32 × Int32) : Prop := ((L = 107 ∨ L = 98) → f 5 = a.1) ∧ ((L = 114 ∨ L = 117 ∨ L = 109) → f 4 = a.1) ∧ (L = 122 → f 3 = a.1) ∧ (L = 108 → f 3 = a.1 ∧ f 4 = a.2.1 ∧ f 5 = a.2.2.1 ∧ f 6 = a.2.2.2) ∧ (L = 116 → f 3 = a.1 ∧ f 4 = a.2.1 ∧ f 5 = if a.2.2.1 = -6 then -1 else a.2.2.1)
def RdC (g : Gh) (hp : HPt) (len p : Nat) (f : Nat → Int32) : Prop := ∃ f2, V g mX3_readsNextOrder 0 0 0 0 616 18 [some (vR (14, 0, 0, 0))] [] RP (RQ hp f) (Pi (bi (qO (cF hp len) p).2.isSome) (RQ hp f2)) ∧ f2 1 = nI (qO (cF hp len) p).1 ∧ f2 2 = cF hp len p ∧ ∀ a, (qO (cF hp len) p).2 = some a → FLD f2 (cF hp len p) a
theorem RdC.mk {q : Nat} {r : Option (Int32 × Int32 × Int32 × Int32)} {L x : Int32} {f2 : Nat → Int32} (h : V g mX3_readsNextOrder 0 0 0 0 616 18 [some (vR (14, 0, 0, 0))] [] RP (RQ hp f) (Pi x (RQ hp f2))) (hc : cF hp len p = L) (e : qO (cF hp len) p = (q, r)) (ew : x = bi r.isSome) (h1 : f2 1 = nI q) (h2 : f2 2 = L) (ha : ∀ a, r = some a → FLD f2 L a) : RdC g hp len p f := by
  refine ⟨f2, ?_, ?_, ?_, ?_⟩
  · rw [e]
    subst ew
    exact h
  · rw [e]
    exact h1
  · rw [h2, hc]
  · rw [e, hc]
    exact ha
/-- the reader behind a letter -/
def f1 (f : Nat → Int32) (L : Int32) (p : Nat) : Nat → Int32 := up (up f 2 L) 1 (nI (p + 1))
theorem f1_1 {L : Int32} : f1 f L p 1 = nI (p + 1) := up_eq
theorem rC_k_n (hR : RDp hp len) (hpl : p < 100) (hf : f 1 = nI p) (hc : cF hp len p = 107) (hd : isD (cF hp len (p + 1)) = false) : V g mX3_readsNextOrder 0 0 0 0 616 18 [some (vR (14, 0, 0, 0))] [] RP (RQ hp f) (Pi 0 (RQ hp (up (f1 f 107 p) 5 (-1)))) := by
  refine r_aload_n dX3_readsNextOrder_18 (i := 0) rfl rfl ?_
  refine r_aload_n dX3_readsNextOrder_19 (i := 0) rfl rfl ?_
  refine r_getR dX3_readsNextOrder_20 f_3_9 rfl rfl rfl lv14 ?_
  refine r_aload_n dX3_readsNextOrder_23 (i := 0) rfl rfl ?_
  refine r_getI dX3_readsNextOrder_24 f_3_15 rfl rfl lv14 ?_
  rw [RQ_1, hf]
  refine sX3_readsNextOrder_27 (Nat.le_refl _) (Nat.le_refl _) rfl lv12 (Nat.le_of_ble_eq_true rfl) (signRQ hR (by omega)) ?_
  rw [hc]
  refine r_putI dX3_readsNextOrder_30 f_3_39 rfl rfl lv14 (pk_charN (q := 107) (by decide)) ?_
  refine V.eqH (RQ_s (by decide)) ?_
  refine r_aload_n dX3_readsNextOrder_33 (i := 0) rfl rfl ?_
  refine r_getI dX3_readsNextOrder_34 f_3_39 rfl rfl lv14 ?_
  rw [RQ_2, up_eq]
  refine r_tabIn dX3_readsNextOrder_37 (off := 115) (tgt := 152) (by decide) (by decide) (by decide) rfl ?_
  refine r_aload_n dX3_readsNextOrder_152 (i := 0) rfl rfl ?_
  refine r_dup dX3_readsNextOrder_153 rfl ?_
  refine r_getI dX3_readsNextOrder_154 f_3_15 rfl rfl lv14 ?_
  refine r_iconst dX3_readsNextOrder_157 (v := 1) rfl ?_
  refine r_iadd dX3_readsNextOrder_158 ?_
  refine r_putI dX3_readsNextOrder_159 f_3_15 rfl rfl lv14 ⟨rfl, rfl⟩ ?_
  refine V.eqH (hp2 := RQ hp (f1 f 107 p)) (by rw [RQ_1, up_ne (by decide), hf, nI_1, RQ_s (by decide)]; rfl) ?_
  refine r_aload_n dX3_readsNextOrder_162 (i := 0) rfl rfl ?_
  refine sX3_readsNextOrder_163 (Nat.le_refl _) (Nat.le_refl _) rfl lv14 (Nat.le_of_ble_eq_true rfl) (tX3_readsNumber_n hR (p := p + 1) (by omega) f1_1 hd) ?_
  exact e_i dX3_readsNextOrder_166 rfl (by first | rfl | exact bi_nar _) (by first | rfl | simp [bi, *]) rfl
theorem rC_k (hR : RDp hp len) (hpl : p < 100) (hf : f 1 = nI p) (hc : cF hp len p = 107) (hd : isD (cF hp len (p + 1)) = true) : V g mX3_readsNextOrder 0 0 0 0 616 18 [some (vR (14, 0, 0, 0))] [] RP (RQ hp f) (Pi 1 (RQ hp (up (up (f1 f 107 p) 1 (nI (tN (cF hp len) (p + 1) false).2.1)) 5 (tN (cF hp len) (p + 1) false).1))) := by
  refine r_aload_n dX3_readsNextOrder_18 (i := 0) rfl rfl ?_
  refine r_aload_n dX3_readsNextOrder_19 (i := 0) rfl rfl ?_
  refine r_getR dX3_readsNextOrder_20 f_3_9 rfl rfl rfl lv14 ?_
  refine r_aload_n dX3_readsNextOrder_23 (i := 0) rfl rfl ?_
  refine r_getI dX3_readsNextOrder_24 f_3_15 rfl rfl lv14 ?_
  rw [RQ_1, hf]
  refine sX3_readsNextOrder_27 (Nat.le_refl _) (Nat.le_refl _) rfl lv12 (Nat.le_of_ble_eq_true rfl) (signRQ hR (by omega)) ?_
  rw [hc]
  refine r_putI dX3_readsNextOrder_30 f_3_39 rfl rfl lv14 (pk_charN (q := 107) (by decide)) ?_
  refine V.eqH (RQ_s (by decide)) ?_
  refine r_aload_n dX3_readsNextOrder_33 (i := 0) rfl rfl ?_
  refine r_getI dX3_readsNextOrder_34 f_3_39 rfl rfl lv14 ?_
  rw [RQ_2, up_eq]
  refine r_tabIn dX3_readsNextOrder_37 (off := 115) (tgt := 152) (by decide) (by decide) (by decide) rfl ?_
  refine r_aload_n dX3_readsNextOrder_152 (i := 0) rfl rfl ?_
  refine r_dup dX3_readsNextOrder_153 rfl ?_
  refine r_getI dX3_readsNextOrder_154 f_3_15 rfl rfl lv14 ?_
  refine r_iconst dX3_readsNextOrder_157 (v := 1) rfl ?_
  refine r_iadd dX3_readsNextOrder_158 ?_
  refine r_putI dX3_readsNextOrder_159 f_3_15 rfl rfl lv14 ⟨rfl, rfl⟩ ?_
  refine V.eqH (hp2 := RQ hp (f1 f 107 p)) (by rw [RQ_1, up_ne (by decide), hf, nI_1, RQ_s (by decide)]; rfl) ?_
  refine r_aload_n dX3_readsNextOrder_162 (i := 0) rfl rfl ?_
  refine sX3_readsNextOrder_163 (Nat.le_refl _) (Nat.le_refl _) rfl lv14 (Nat.le_of_ble_eq_true rfl) (tX3_readsNumber hR (p := p + 1) (by omega) f1_1 hd) ?_
  exact e_i dX3_readsNextOrder_166 rfl (by first | rfl | exact bi_nar _) (by first | rfl | simp [bi, *]) rfl
theorem rC_b_n (hR : RDp hp len) (hpl : p < 100) (hf : f 1 = nI p) (hc : cF hp len p = 98) (hd : isD (cF hp len (p + 1)) = false) : V g mX3_readsNextOrder 0 0 0 0 616 18 [some (vR (14, 0, 0, 0))] [] RP (RQ hp f) (Pi 0 (RQ hp (up (f1 f 98 p) 5 (-1)))) := by
  refine r_aload_n dX3_readsNextOrder_18 (i := 0) rfl rfl ?_
  refine r_aload_n dX3_readsNextOrder_19 (i := 0) rfl rfl ?_
  refine r_getR dX3_readsNextOrder_20 f_3_9 rfl rfl rfl lv14 ?_
  refine r_aload_n dX3_readsNextOrder_23 (i := 0) rfl rfl ?_
  refine r_getI dX3_readsNextOrder_24 f_3_15 rfl rfl lv14 ?_
  rw [RQ_1, hf]
  refine sX3_readsNextOrder_27 (Nat.le_refl _) (Nat.le_refl _) rfl lv12 (Nat.le_of_ble_eq_true rfl) (signRQ hR (by omega)) ?_
  rw [hc]
  refine r_putI dX3_readsNextOrder_30 f_3_39 rfl rfl lv14 (pk_charN (q := 98) (by decide)) ?_
  refine V.eqH (RQ_s (by decide)) ?_
  refine r_aload_n dX3_readsNextOrder_33 (i := 0) rfl rfl ?_
  refine r_getI dX3_readsNextOrder_34 f_3_39 rfl rfl lv14 ?_
  rw [RQ_2, up_eq]
  refine r_tabIn dX3_readsNextOrder_37 (off := 115) (tgt := 152) (by decide) (by decide) (by decide) rfl ?_
  refine r_aload_n dX3_readsNextOrder_152 (i := 0) rfl rfl ?_
  refine r_dup dX3_readsNextOrder_153 rfl ?_
  refine r_getI dX3_readsNextOrder_154 f_3_15 rfl rfl lv14 ?_
  refine r_iconst dX3_readsNextOrder_157 (v := 1) rfl ?_
  refine r_iadd dX3_readsNextOrder_158 ?_
  refine r_putI dX3_readsNextOrder_159 f_3_15 rfl rfl lv14 ⟨rfl, rfl⟩ ?_
  refine V.eqH (hp2 := RQ hp (f1 f 98 p)) (by rw [RQ_1, up_ne (by decide), hf, nI_1, RQ_s (by decide)]; rfl) ?_
  refine r_aload_n dX3_readsNextOrder_162 (i := 0) rfl rfl ?_
  refine sX3_readsNextOrder_163 (Nat.le_refl _) (Nat.le_refl _) rfl lv14 (Nat.le_of_ble_eq_true rfl) (tX3_readsNumber_n hR (p := p + 1) (by omega) f1_1 hd) ?_
  exact e_i dX3_readsNextOrder_166 rfl (by first | rfl | exact bi_nar _) (by first | rfl | simp [bi, *]) rfl
theorem rC_b (hR : RDp hp len) (hpl : p < 100) (hf : f 1 = nI p) (hc : cF hp len p = 98) (hd : isD (cF hp len (p + 1)) = true) : V g mX3_readsNextOrder 0 0 0 0 616 18 [some (vR (14, 0, 0, 0))] [] RP (RQ hp f) (Pi 1 (RQ hp (up (up (f1 f 98 p) 1 (nI (tN (cF hp len) (p + 1) false).2.1)) 5 (tN (cF hp len) (p + 1) false).1))) := by
  refine r_aload_n dX3_readsNextOrder_18 (i := 0) rfl rfl ?_
  refine r_aload_n dX3_readsNextOrder_19 (i := 0) rfl rfl ?_
  refine r_getR dX3_readsNextOrder_20 f_3_9 rfl rfl rfl lv14 ?_
  refine r_aload_n dX3_readsNextOrder_23 (i := 0) rfl rfl ?_
  refine r_getI dX3_readsNextOrder_24 f_3_15 rfl rfl lv14 ?_
  rw [RQ_1, hf]
  refine sX3_readsNextOrder_27 (Nat.le_refl _) (Nat.le_refl _) rfl lv12 (Nat.le_of_ble_eq_true rfl) (signRQ hR (by omega)) ?_
  rw [hc]
  refine r_putI dX3_readsNextOrder_30 f_3_39 rfl rfl lv14 (pk_charN (q := 98) (by decide)) ?_
  refine V.eqH (RQ_s (by decide)) ?_
  refine r_aload_n dX3_readsNextOrder_33 (i := 0) rfl rfl ?_
  refine r_getI dX3_readsNextOrder_34 f_3_39 rfl rfl lv14 ?_
  rw [RQ_2, up_eq]
  refine r_tabIn dX3_readsNextOrder_37 (off := 115) (tgt := 152) (by decide) (by decide) (by decide) rfl ?_
  refine r_aload_n dX3_readsNextOrder_152 (i := 0) rfl rfl ?_
  refine r_dup dX3_readsNextOrder_153 rfl ?_
  refine r_getI dX3_readsNextOrder_154 f_3_15 rfl rfl lv14 ?_
  refine r_iconst dX3_readsNextOrder_157 (v := 1) rfl ?_
  refine r_iadd dX3_readsNextOrder_158 ?_
  refine r_putI dX3_readsNextOrder_159 f_3_15 rfl rfl lv14 ⟨rfl, rfl⟩ ?_
  refine V.eqH (hp2 := RQ hp (f1 f 98 p)) (by rw [RQ_1, up_ne (by decide), hf, nI_1, RQ_s (by decide)]; rfl) ?_
  refine r_aload_n dX3_readsNextOrder_162 (i := 0) rfl rfl ?_
  refine sX3_readsNextOrder_163 (Nat.le_refl _) (Nat.le_refl _) rfl lv14 (Nat.le_of_ble_eq_true rfl) (tX3_readsNumber hR (p := p + 1) (by omega) f1_1 hd) ?_
  exact e_i dX3_readsNextOrder_166 rfl (by first | rfl | exact bi_nar _) (by first | rfl | simp [bi, *]) rfl
theorem rC_r_n (hR : RDp hp len) (hpl : p < 100) (hf : f 1 = nI p) (hc : cF hp len p = 114) (hd : isD (cF hp len (p + 1)) = false) : V g mX3_readsNextOrder 0 0 0 0 616 18 [some (vR (14, 0, 0, 0))] [] RP (RQ hp f) (Pi 0 (RQ hp (up (f1 f 114 p) 4 (-1)))) := by
  refine r_aload_n dX3_readsNextOrder_18 (i := 0) rfl rfl ?_
  refine r_aload_n dX3_readsNextOrder_19 (i := 0) rfl rfl ?_
  refine r_getR dX3_readsNextOrder_20 f_3_9 rfl rfl rfl lv14 ?_
  refine r_aload_n dX3_readsNextOrder_23 (i := 0) rfl rfl ?_
  refine r_getI dX3_readsNextOrder_24 f_3_15 rfl rfl lv14 ?_
  rw [RQ_1, hf]
  refine sX3_readsNextOrder_27 (Nat.le_refl _) (Nat.le_refl _) rfl lv12 (Nat.le_of_ble_eq_true rfl) (signRQ hR (by omega)) ?_
  rw [hc]
  refine r_putI dX3_readsNextOrder_30 f_3_39 rfl rfl lv14 (pk_charN (q := 114) (by decide)) ?_
  refine V.eqH (RQ_s (by decide)) ?_
  refine r_aload_n dX3_readsNextOrder_33 (i := 0) rfl rfl ?_
  refine r_getI dX3_readsNextOrder_34 f_3_39 rfl rfl lv14 ?_
  rw [RQ_2, up_eq]
  refine r_tabIn dX3_readsNextOrder_37 (off := 130) (tgt := 167) (by decide) (by decide) (by decide) rfl ?_
  refine r_aload_n dX3_readsNextOrder_167 (i := 0) rfl rfl ?_
  refine r_dup dX3_readsNextOrder_168 rfl ?_
  refine r_getI dX3_readsNextOrder_169 f_3_15 rfl rfl lv14 ?_
  refine r_iconst dX3_readsNextOrder_172 (v := 1) rfl ?_
  refine r_iadd dX3_readsNextOrder_173 ?_
  refine r_putI dX3_readsNextOrder_174 f_3_15 rfl rfl lv14 ⟨rfl, rfl⟩ ?_
  refine V.eqH (hp2 := RQ hp (f1 f 114 p)) (by rw [RQ_1, up_ne (by decide), hf, nI_1, RQ_s (by decide)]; rfl) ?_
  refine r_aload_n dX3_readsNextOrder_177 (i := 0) rfl rfl ?_
  refine sX3_readsNextOrder_178 (Nat.le_refl _) (Nat.le_refl _) rfl lv14 (Nat.le_of_ble_eq_true rfl) (tX3_readsSecret_n hR (p := p + 1) (by omega) f1_1 hd) ?_
  exact e_i dX3_readsNextOrder_181 rfl (by first | rfl | exact bi_nar _) (by first | rfl | simp [bi, *]) rfl
theorem rC_r (hR : RDp hp len) (hpl : p < 100) (hf : f 1 = nI p) (hc : cF hp len p = 114) (hd : isD (cF hp len (p + 1)) = true) : V g mX3_readsNextOrder 0 0 0 0 616 18 [some (vR (14, 0, 0, 0))] [] RP (RQ hp f) (Pi 1 (RQ hp (up (up (f1 f 114 p) 1 (nI (p + 1 + 1))) 4 (cF hp len (p + 1) - 48)))) := by
  refine r_aload_n dX3_readsNextOrder_18 (i := 0) rfl rfl ?_
  refine r_aload_n dX3_readsNextOrder_19 (i := 0) rfl rfl ?_
  refine r_getR dX3_readsNextOrder_20 f_3_9 rfl rfl rfl lv14 ?_
  refine r_aload_n dX3_readsNextOrder_23 (i := 0) rfl rfl ?_
  refine r_getI dX3_readsNextOrder_24 f_3_15 rfl rfl lv14 ?_
  rw [RQ_1, hf]
  refine sX3_readsNextOrder_27 (Nat.le_refl _) (Nat.le_refl _) rfl lv12 (Nat.le_of_ble_eq_true rfl) (signRQ hR (by omega)) ?_
  rw [hc]
  refine r_putI dX3_readsNextOrder_30 f_3_39 rfl rfl lv14 (pk_charN (q := 114) (by decide)) ?_
  refine V.eqH (RQ_s (by decide)) ?_
  refine r_aload_n dX3_readsNextOrder_33 (i := 0) rfl rfl ?_
  refine r_getI dX3_readsNextOrder_34 f_3_39 rfl rfl lv14 ?_
  rw [RQ_2, up_eq]
  refine r_tabIn dX3_readsNextOrder_37 (off := 130) (tgt := 167) (by decide) (by decide) (by decide) rfl ?_
  refine r_aload_n dX3_readsNextOrder_167 (i := 0) rfl rfl ?_
  refine r_dup dX3_readsNextOrder_168 rfl ?_
  refine r_getI dX3_readsNextOrder_169 f_3_15 rfl rfl lv14 ?_
  refine r_iconst dX3_readsNextOrder_172 (v := 1) rfl ?_
  refine r_iadd dX3_readsNextOrder_173 ?_
  refine r_putI dX3_readsNextOrder_174 f_3_15 rfl rfl lv14 ⟨rfl, rfl⟩ ?_
  refine V.eqH (hp2 := RQ hp (f1 f 114 p)) (by rw [RQ_1, up_ne (by decide), hf, nI_1, RQ_s (by decide)]; rfl) ?_
  refine r_aload_n dX3_readsNextOrder_177 (i := 0) rfl rfl ?_
  refine sX3_readsNextOrder_178 (Nat.le_refl _) (Nat.le_refl _) rfl lv14 (Nat.le_of_ble_eq_true rfl) (tX3_readsSecret hR (p := p + 1) (by omega) f1_1 hd) ?_
  exact e_i dX3_readsNextOrder_181 rfl (by first | rfl | exact bi_nar _) (by first | rfl | simp [bi, *]) rfl
theorem rC_u_n (hR : RDp hp len) (hpl : p < 100) (hf : f 1 = nI p) (hc : cF hp len p = 117) (hd : isD (cF hp len (p + 1)) = false) : V g mX3_readsNextOrder 0 0 0 0 616 18 [some (vR (14, 0, 0, 0))] [] RP (RQ hp f) (Pi 0 (RQ hp (up (f1 f 117 p) 4 (-1)))) := by
  refine r_aload_n dX3_readsNextOrder_18 (i := 0) rfl rfl ?_
  refine r_aload_n dX3_readsNextOrder_19 (i := 0) rfl rfl ?_
  refine r_getR dX3_readsNextOrder_20 f_3_9 rfl rfl rfl lv14 ?_
  refine r_aload_n dX3_readsNextOrder_23 (i := 0) rfl rfl ?_
  refine r_getI dX3_readsNextOrder_24 f_3_15 rfl rfl lv14 ?_
  rw [RQ_1, hf]
  refine sX3_readsNextOrder_27 (Nat.le_refl _) (Nat.le_refl _) rfl lv12 (Nat.le_of_ble_eq_true rfl) (signRQ hR (by omega)) ?_
  rw [hc]
  refine r_putI dX3_readsNextOrder_30 f_3_39 rfl rfl lv14 (pk_charN (q := 117) (by decide)) ?_
  refine V.eqH (RQ_s (by decide)) ?_
  refine r_aload_n dX3_readsNextOrder_33 (i := 0) rfl rfl ?_
  refine r_getI dX3_readsNextOrder_34 f_3_39 rfl rfl lv14 ?_
  rw [RQ_2, up_eq]
  refine r_tabIn dX3_readsNextOrder_37 (off := 130) (tgt := 167) (by decide) (by decide) (by decide) rfl ?_
  refine r_aload_n dX3_readsNextOrder_167 (i := 0) rfl rfl ?_
  refine r_dup dX3_readsNextOrder_168 rfl ?_
  refine r_getI dX3_readsNextOrder_169 f_3_15 rfl rfl lv14 ?_
  refine r_iconst dX3_readsNextOrder_172 (v := 1) rfl ?_
  refine r_iadd dX3_readsNextOrder_173 ?_
  refine r_putI dX3_readsNextOrder_174 f_3_15 rfl rfl lv14 ⟨rfl, rfl⟩ ?_
  refine V.eqH (hp2 := RQ hp (f1 f 117 p)) (by rw [RQ_1, up_ne (by decide), hf, nI_1, RQ_s (by decide)]; rfl) ?_
  refine r_aload_n dX3_readsNextOrder_177 (i := 0) rfl rfl ?_
  refine sX3_readsNextOrder_178 (Nat.le_refl _) (Nat.le_refl _) rfl lv14 (Nat.le_of_ble_eq_true rfl) (tX3_readsSecret_n hR (p := p + 1) (by omega) f1_1 hd) ?_
  exact e_i dX3_readsNextOrder_181 rfl (by first | rfl | exact bi_nar _) (by first | rfl | simp [bi, *]) rfl
theorem rC_u (hR : RDp hp len) (hpl : p < 100) (hf : f 1 = nI p) (hc : cF hp len p = 117) (hd : isD (cF hp len (p + 1)) = true) : V g mX3_readsNextOrder 0 0 0 0 616 18 [some (vR (14, 0, 0, 0))] [] RP (RQ hp f) (Pi 1 (RQ hp (up (up (f1 f 117 p) 1 (nI (p + 1 + 1))) 4 (cF hp len (p + 1) - 48)))) := by
  refine r_aload_n dX3_readsNextOrder_18 (i := 0) rfl rfl ?_
  refine r_aload_n dX3_readsNextOrder_19 (i := 0) rfl rfl ?_
  refine r_getR dX3_readsNextOrder_20 f_3_9 rfl rfl rfl lv14 ?_
  refine r_aload_n dX3_readsNextOrder_23 (i := 0) rfl rfl ?_
  refine r_getI dX3_readsNextOrder_24 f_3_15 rfl rfl lv14 ?_
  rw [RQ_1, hf]
  refine sX3_readsNextOrder_27 (Nat.le_refl _) (Nat.le_refl _) rfl lv12 (Nat.le_of_ble_eq_true rfl) (signRQ hR (by omega)) ?_
  rw [hc]
  refine r_putI dX3_readsNextOrder_30 f_3_39 rfl rfl lv14 (pk_charN (q := 117) (by decide)) ?_
  refine V.eqH (RQ_s (by decide)) ?_
  refine r_aload_n dX3_readsNextOrder_33 (i := 0) rfl rfl ?_
  refine r_getI dX3_readsNextOrder_34 f_3_39 rfl rfl lv14 ?_
  rw [RQ_2, up_eq]
  refine r_tabIn dX3_readsNextOrder_37 (off := 130) (tgt := 167) (by decide) (by decide) (by decide) rfl ?_
  refine r_aload_n dX3_readsNextOrder_167 (i := 0) rfl rfl ?_
  refine r_dup dX3_readsNextOrder_168 rfl ?_
  refine r_getI dX3_readsNextOrder_169 f_3_15 rfl rfl lv14 ?_
  refine r_iconst dX3_readsNextOrder_172 (v := 1) rfl ?_
  refine r_iadd dX3_readsNextOrder_173 ?_
  refine r_putI dX3_readsNextOrder_174 f_3_15 rfl rfl lv14 ⟨rfl, rfl⟩ ?_
  refine V.eqH (hp2 := RQ hp (f1 f 117 p)) (by rw [RQ_1, up_ne (by decide), hf, nI_1, RQ_s (by decide)]; rfl) ?_
  refine r_aload_n dX3_readsNextOrder_177 (i := 0) rfl rfl ?_
  refine sX3_readsNextOrder_178 (Nat.le_refl _) (Nat.le_refl _) rfl lv14 (Nat.le_of_ble_eq_true rfl) (tX3_readsSecret hR (p := p + 1) (by omega) f1_1 hd) ?_
  exact e_i dX3_readsNextOrder_181 rfl (by first | rfl | exact bi_nar _) (by first | rfl | simp [bi, *]) rfl
theorem rC_m_n (hR : RDp hp len) (hpl : p < 100) (hf : f 1 = nI p) (hc : cF hp len p = 109) (hd : isD (cF hp len (p + 1)) = false) : V g mX3_readsNextOrder 0 0 0 0 616 18 [some (vR (14, 0, 0, 0))] [] RP (RQ hp f) (Pi 0 (RQ hp (up (f1 f 109 p) 4 (-1)))) := by
  refine r_aload_n dX3_readsNextOrder_18 (i := 0) rfl rfl ?_
  refine r_aload_n dX3_readsNextOrder_19 (i := 0) rfl rfl ?_
  refine r_getR dX3_readsNextOrder_20 f_3_9 rfl rfl rfl lv14 ?_
  refine r_aload_n dX3_readsNextOrder_23 (i := 0) rfl rfl ?_
  refine r_getI dX3_readsNextOrder_24 f_3_15 rfl rfl lv14 ?_
  rw [RQ_1, hf]
  refine sX3_readsNextOrder_27 (Nat.le_refl _) (Nat.le_refl _) rfl lv12 (Nat.le_of_ble_eq_true rfl) (signRQ hR (by omega)) ?_
  rw [hc]
  refine r_putI dX3_readsNextOrder_30 f_3_39 rfl rfl lv14 (pk_charN (q := 109) (by decide)) ?_
  refine V.eqH (RQ_s (by decide)) ?_
  refine r_aload_n dX3_readsNextOrder_33 (i := 0) rfl rfl ?_
  refine r_getI dX3_readsNextOrder_34 f_3_39 rfl rfl lv14 ?_
  rw [RQ_2, up_eq]
  refine r_tabIn dX3_readsNextOrder_37 (off := 130) (tgt := 167) (by decide) (by decide) (by decide) rfl ?_
  refine r_aload_n dX3_readsNextOrder_167 (i := 0) rfl rfl ?_
  refine r_dup dX3_readsNextOrder_168 rfl ?_
  refine r_getI dX3_readsNextOrder_169 f_3_15 rfl rfl lv14 ?_
  refine r_iconst dX3_readsNextOrder_172 (v := 1) rfl ?_
  refine r_iadd dX3_readsNextOrder_173 ?_
  refine r_putI dX3_readsNextOrder_174 f_3_15 rfl rfl lv14 ⟨rfl, rfl⟩ ?_
  refine V.eqH (hp2 := RQ hp (f1 f 109 p)) (by rw [RQ_1, up_ne (by decide), hf, nI_1, RQ_s (by decide)]; rfl) ?_
  refine r_aload_n dX3_readsNextOrder_177 (i := 0) rfl rfl ?_
  refine sX3_readsNextOrder_178 (Nat.le_refl _) (Nat.le_refl _) rfl lv14 (Nat.le_of_ble_eq_true rfl) (tX3_readsSecret_n hR (p := p + 1) (by omega) f1_1 hd) ?_
  exact e_i dX3_readsNextOrder_181 rfl (by first | rfl | exact bi_nar _) (by first | rfl | simp [bi, *]) rfl
theorem rC_m (hR : RDp hp len) (hpl : p < 100) (hf : f 1 = nI p) (hc : cF hp len p = 109) (hd : isD (cF hp len (p + 1)) = true) : V g mX3_readsNextOrder 0 0 0 0 616 18 [some (vR (14, 0, 0, 0))] [] RP (RQ hp f) (Pi 1 (RQ hp (up (up (f1 f 109 p) 1 (nI (p + 1 + 1))) 4 (cF hp len (p + 1) - 48)))) := by
  refine r_aload_n dX3_readsNextOrder_18 (i := 0) rfl rfl ?_
  refine r_aload_n dX3_readsNextOrder_19 (i := 0) rfl rfl ?_
  refine r_getR dX3_readsNextOrder_20 f_3_9 rfl rfl rfl lv14 ?_
  refine r_aload_n dX3_readsNextOrder_23 (i := 0) rfl rfl ?_
  refine r_getI dX3_readsNextOrder_24 f_3_15 rfl rfl lv14 ?_
  rw [RQ_1, hf]
  refine sX3_readsNextOrder_27 (Nat.le_refl _) (Nat.le_refl _) rfl lv12 (Nat.le_of_ble_eq_true rfl) (signRQ hR (by omega)) ?_
  rw [hc]
  refine r_putI dX3_readsNextOrder_30 f_3_39 rfl rfl lv14 (pk_charN (q := 109) (by decide)) ?_
  refine V.eqH (RQ_s (by decide)) ?_
  refine r_aload_n dX3_readsNextOrder_33 (i := 0) rfl rfl ?_
  refine r_getI dX3_readsNextOrder_34 f_3_39 rfl rfl lv14 ?_
  rw [RQ_2, up_eq]
  refine r_tabIn dX3_readsNextOrder_37 (off := 130) (tgt := 167) (by decide) (by decide) (by decide) rfl ?_
  refine r_aload_n dX3_readsNextOrder_167 (i := 0) rfl rfl ?_
  refine r_dup dX3_readsNextOrder_168 rfl ?_
  refine r_getI dX3_readsNextOrder_169 f_3_15 rfl rfl lv14 ?_
  refine r_iconst dX3_readsNextOrder_172 (v := 1) rfl ?_
  refine r_iadd dX3_readsNextOrder_173 ?_
  refine r_putI dX3_readsNextOrder_174 f_3_15 rfl rfl lv14 ⟨rfl, rfl⟩ ?_
  refine V.eqH (hp2 := RQ hp (f1 f 109 p)) (by rw [RQ_1, up_ne (by decide), hf, nI_1, RQ_s (by decide)]; rfl) ?_
  refine r_aload_n dX3_readsNextOrder_177 (i := 0) rfl rfl ?_
  refine sX3_readsNextOrder_178 (Nat.le_refl _) (Nat.le_refl _) rfl lv14 (Nat.le_of_ble_eq_true rfl) (tX3_readsSecret hR (p := p + 1) (by omega) f1_1 hd) ?_
  exact e_i dX3_readsNextOrder_181 rfl (by first | rfl | exact bi_nar _) (by first | rfl | simp [bi, *]) rfl
theorem rC_z_n (hR : RDp hp len) (hpl : p < 100) (hf : f 1 = nI p) (hc : cF hp len p = 122) (hd : fIn (cF hp len (p + 1)) 97 98 = false) : V g mX3_readsNextOrder 0 0 0 0 616 18 [some (vR (14, 0, 0, 0))] [] RP (RQ hp f) (Pi 0 (RQ hp (f1 f 122 p))) := by
  refine r_aload_n dX3_readsNextOrder_18 (i := 0) rfl rfl ?_
  refine r_aload_n dX3_readsNextOrder_19 (i := 0) rfl rfl ?_
  refine r_getR dX3_readsNextOrder_20 f_3_9 rfl rfl rfl lv14 ?_
  refine r_aload_n dX3_readsNextOrder_23 (i := 0) rfl rfl ?_
  refine r_getI dX3_readsNextOrder_24 f_3_15 rfl rfl lv14 ?_
  rw [RQ_1, hf]
  refine sX3_readsNextOrder_27 (Nat.le_refl _) (Nat.le_refl _) rfl lv12 (Nat.le_of_ble_eq_true rfl) (signRQ hR (by omega)) ?_
  rw [hc]
  refine r_putI dX3_readsNextOrder_30 f_3_39 rfl rfl lv14 (pk_charN (q := 122) (by decide)) ?_
  refine V.eqH (RQ_s (by decide)) ?_
  refine r_aload_n dX3_readsNextOrder_33 (i := 0) rfl rfl ?_
  refine r_getI dX3_readsNextOrder_34 f_3_39 rfl rfl lv14 ?_
  rw [RQ_2, up_eq]
  refine r_tabIn dX3_readsNextOrder_37 (off := 145) (tgt := 182) (by decide) (by decide) (by decide) rfl ?_
  refine r_aload_n dX3_readsNextOrder_182 (i := 0) rfl rfl ?_
  refine r_dup dX3_readsNextOrder_183 rfl ?_
  refine r_getI dX3_readsNextOrder_184 f_3_15 rfl rfl lv14 ?_
  refine r_iconst dX3_readsNextOrder_187 (v := 1) rfl ?_
  refine r_iadd dX3_readsNextOrder_188 ?_
  refine r_putI dX3_readsNextOrder_189 f_3_15 rfl rfl lv14 ⟨rfl, rfl⟩ ?_
  refine V.eqH (hp2 := RQ hp (f1 f 122 p)) (by rw [RQ_1, up_ne (by decide), hf, nI_1, RQ_s (by decide)]; rfl) ?_
  refine r_aload_n dX3_readsNextOrder_192 (i := 0) rfl rfl ?_
  refine sX3_readsNextOrder_193 (Nat.le_refl _) (Nat.le_refl _) rfl lv14 (Nat.le_of_ble_eq_true rfl) (tX3_readsStore_n hR (p := p + 1) (by omega) f1_1 hd) ?_
  exact e_i dX3_readsNextOrder_196 rfl (by first | rfl | exact bi_nar _) (by first | rfl | simp [bi, *]) rfl
theorem rC_z (hR : RDp hp len) (hpl : p < 100) (hf : f 1 = nI p) (hc : cF hp len p = 122) (hd : fIn (cF hp len (p + 1)) 97 98 = true) : V g mX3_readsNextOrder 0 0 0 0 616 18 [some (vR (14, 0, 0, 0))] [] RP (RQ hp f) (Pi 1 (RQ hp (up (up (f1 f 122 p) 1 (nI (p + 1 + 1))) 3 (cF hp len (p + 1) - 97)))) := by
  refine r_aload_n dX3_readsNextOrder_18 (i := 0) rfl rfl ?_
  refine r_aload_n dX3_readsNextOrder_19 (i := 0) rfl rfl ?_
  refine r_getR dX3_readsNextOrder_20 f_3_9 rfl rfl rfl lv14 ?_
  refine r_aload_n dX3_readsNextOrder_23 (i := 0) rfl rfl ?_
  refine r_getI dX3_readsNextOrder_24 f_3_15 rfl rfl lv14 ?_
  rw [RQ_1, hf]
  refine sX3_readsNextOrder_27 (Nat.le_refl _) (Nat.le_refl _) rfl lv12 (Nat.le_of_ble_eq_true rfl) (signRQ hR (by omega)) ?_
  rw [hc]
  refine r_putI dX3_readsNextOrder_30 f_3_39 rfl rfl lv14 (pk_charN (q := 122) (by decide)) ?_
  refine V.eqH (RQ_s (by decide)) ?_
  refine r_aload_n dX3_readsNextOrder_33 (i := 0) rfl rfl ?_
  refine r_getI dX3_readsNextOrder_34 f_3_39 rfl rfl lv14 ?_
  rw [RQ_2, up_eq]
  refine r_tabIn dX3_readsNextOrder_37 (off := 145) (tgt := 182) (by decide) (by decide) (by decide) rfl ?_
  refine r_aload_n dX3_readsNextOrder_182 (i := 0) rfl rfl ?_
  refine r_dup dX3_readsNextOrder_183 rfl ?_
  refine r_getI dX3_readsNextOrder_184 f_3_15 rfl rfl lv14 ?_
  refine r_iconst dX3_readsNextOrder_187 (v := 1) rfl ?_
  refine r_iadd dX3_readsNextOrder_188 ?_
  refine r_putI dX3_readsNextOrder_189 f_3_15 rfl rfl lv14 ⟨rfl, rfl⟩ ?_
  refine V.eqH (hp2 := RQ hp (f1 f 122 p)) (by rw [RQ_1, up_ne (by decide), hf, nI_1, RQ_s (by decide)]; rfl) ?_
  refine r_aload_n dX3_readsNextOrder_192 (i := 0) rfl rfl ?_
  refine sX3_readsNextOrder_193 (Nat.le_refl _) (Nat.le_refl _) rfl lv14 (Nat.le_of_ble_eq_true rfl) (tX3_readsStore hR (p := p + 1) (by omega) f1_1 hd) ?_
  exact e_i dX3_readsNextOrder_196 rfl (by first | rfl | exact bi_nar _) (by first | rfl | simp [bi, *]) rfl
theorem rC_l_n1 (hR : RDp hp len) (hpl : p < 100) (hf : f 1 = nI p) (hc : cF hp len p = 108) (hd : fIn (cF hp len (p + 1)) 97 98 = false) : V g mX3_readsNextOrder 0 0 0 0 616 18 [some (vR (14, 0, 0, 0))] [] RP (RQ hp f) (Pi 0 (RQ hp (f1 f 108 p))) := by
  refine r_aload_n dX3_readsNextOrder_18 (i := 0) rfl rfl ?_
  refine r_aload_n dX3_readsNextOrder_19 (i := 0) rfl rfl ?_
  refine r_getR dX3_readsNextOrder_20 f_3_9 rfl rfl rfl lv14 ?_
  refine r_aload_n dX3_readsNextOrder_23 (i := 0) rfl rfl ?_
  refine r_getI dX3_readsNextOrder_24 f_3_15 rfl rfl lv14 ?_
  rw [RQ_1, hf]
  refine sX3_readsNextOrder_27 (Nat.le_refl _) (Nat.le_refl _) rfl lv12 (Nat.le_of_ble_eq_true rfl) (signRQ hR (by omega)) ?_
  rw [hc]
  refine r_putI dX3_readsNextOrder_30 f_3_39 rfl rfl lv14 (pk_charN (q := 108) (by decide)) ?_
  refine V.eqH (RQ_s (by decide)) ?_
  refine r_aload_n dX3_readsNextOrder_33 (i := 0) rfl rfl ?_
  refine r_getI dX3_readsNextOrder_34 f_3_39 rfl rfl lv14 ?_
  rw [RQ_2, up_eq]
  refine r_tabIn dX3_readsNextOrder_37 (off := 160) (tgt := 197) (by decide) (by decide) (by decide) rfl ?_
  refine r_aload_n dX3_readsNextOrder_197 (i := 0) rfl rfl ?_
  refine r_dup dX3_readsNextOrder_198 rfl ?_
  refine r_getI dX3_readsNextOrder_199 f_3_15 rfl rfl lv14 ?_
  refine r_iconst dX3_readsNextOrder_202 (v := 1) rfl ?_
  refine r_iadd dX3_readsNextOrder_203 ?_
  refine r_putI dX3_readsNextOrder_204 f_3_15 rfl rfl lv14 ⟨rfl, rfl⟩ ?_
  refine V.eqH (hp2 := RQ hp (f1 f 108 p)) (by rw [RQ_1, up_ne (by decide), hf, nI_1, RQ_s (by decide)]; rfl) ?_
  refine r_aload_n dX3_readsNextOrder_207 (i := 0) rfl rfl ?_
  refine sX3_readsNextOrder_208 (Nat.le_refl _) (Nat.le_refl _) rfl lv14 (Nat.le_of_ble_eq_true rfl) (tX3_readsStore_n hR (p := p + 1) (by omega) f1_1 hd) ?_
  refine r_if_eq dX3_readsNextOrder_211 (tgt := 232) rfl (fun _ => ?_) (fun h211 => absurd (rfl) h211)
  refine r_iconst dX3_readsNextOrder_232 (v := 0) rfl ?_
  exact e_i dX3_readsNextOrder_233 rfl (by first | rfl | exact bi_nar _) (by first | rfl | simp [bi, *]) rfl
theorem rC_l_n2 (hR : RDp hp len) (hpl : p < 100) (hf : f 1 = nI p) (hc : cF hp len p = 108) (hd : fIn (cF hp len (p + 1)) 97 98 = true) (hd2 : isD (cF hp len (p + 2)) = false) : V g mX3_readsNextOrder 0 0 0 0 616 18 [some (vR (14, 0, 0, 0))] [] RP (RQ hp f) (Pi 0 (RQ hp (up (up (up (f1 f 108 p) 1 (nI (p + 1 + 1))) 3 (cF hp len (p + 1) - 97)) 4 (-1)))) := by
  refine r_aload_n dX3_readsNextOrder_18 (i := 0) rfl rfl ?_
  refine r_aload_n dX3_readsNextOrder_19 (i := 0) rfl rfl ?_
  refine r_getR dX3_readsNextOrder_20 f_3_9 rfl rfl rfl lv14 ?_
  refine r_aload_n dX3_readsNextOrder_23 (i := 0) rfl rfl ?_
  refine r_getI dX3_readsNextOrder_24 f_3_15 rfl rfl lv14 ?_
  rw [RQ_1, hf]
  refine sX3_readsNextOrder_27 (Nat.le_refl _) (Nat.le_refl _) rfl lv12 (Nat.le_of_ble_eq_true rfl) (signRQ hR (by omega)) ?_
  rw [hc]
  refine r_putI dX3_readsNextOrder_30 f_3_39 rfl rfl lv14 (pk_charN (q := 108) (by decide)) ?_
  refine V.eqH (RQ_s (by decide)) ?_
  refine r_aload_n dX3_readsNextOrder_33 (i := 0) rfl rfl ?_
  refine r_getI dX3_readsNextOrder_34 f_3_39 rfl rfl lv14 ?_
  rw [RQ_2, up_eq]
  refine r_tabIn dX3_readsNextOrder_37 (off := 160) (tgt := 197) (by decide) (by decide) (by decide) rfl ?_
  refine r_aload_n dX3_readsNextOrder_197 (i := 0) rfl rfl ?_
  refine r_dup dX3_readsNextOrder_198 rfl ?_
  refine r_getI dX3_readsNextOrder_199 f_3_15 rfl rfl lv14 ?_
  refine r_iconst dX3_readsNextOrder_202 (v := 1) rfl ?_
  refine r_iadd dX3_readsNextOrder_203 ?_
  refine r_putI dX3_readsNextOrder_204 f_3_15 rfl rfl lv14 ⟨rfl, rfl⟩ ?_
  refine V.eqH (hp2 := RQ hp (f1 f 108 p)) (by rw [RQ_1, up_ne (by decide), hf, nI_1, RQ_s (by decide)]; rfl) ?_
  refine r_aload_n dX3_readsNextOrder_207 (i := 0) rfl rfl ?_
  refine sX3_readsNextOrder_208 (Nat.le_refl _) (Nat.le_refl _) rfl lv14 (Nat.le_of_ble_eq_true rfl) (tX3_readsStore hR (p := p + 1) (by omega) f1_1 hd) ?_
  refine r_if_eq dX3_readsNextOrder_211 (tgt := 232) rfl (fun h211 => absurd h211 ((by decide))) (fun _ => ?_)
  refine r_aload_n dX3_readsNextOrder_214 (i := 0) rfl rfl ?_
  refine sX3_readsNextOrder_215 (Nat.le_refl _) (Nat.le_refl _) rfl lv14 (Nat.le_of_ble_eq_true rfl) (tX3_readsSecret_n hR (p := p + 2) (by omega) (by simp [up]) hd2) ?_
  refine r_if_eq dX3_readsNextOrder_218 (tgt := 232) rfl (fun _ => ?_) (fun h218 => absurd (rfl) h218)
  refine r_iconst dX3_readsNextOrder_232 (v := 0) rfl ?_
  exact e_i dX3_readsNextOrder_233 rfl (by first | rfl | exact bi_nar _) (by first | rfl | simp [bi, *]) rfl
theorem rC_l_n3 (hR : RDp hp len) (hpl : p < 100) (hf : f 1 = nI p) (hc : cF hp len p = 108) (hd : fIn (cF hp len (p + 1)) 97 98 = true) (hd2 : isD (cF hp len (p + 2)) = true) (h1 : ¬ cF hp len (p + 3) = 43) : V g mX3_readsNextOrder 0 0 0 0 616 18 [some (vR (14, 0, 0, 0))] [] RP (RQ hp f) (Pi 0 (RQ hp (up (up (up (up (f1 f 108 p) 1 (nI (p + 1 + 1))) 3 (cF hp len (p + 1) - 97)) 1 (nI (p + 2 + 1))) 4 (cF hp len (p + 2) - 48)))) := by
  refine r_aload_n dX3_readsNextOrder_18 (i := 0) rfl rfl ?_
  refine r_aload_n dX3_readsNextOrder_19 (i := 0) rfl rfl ?_
  refine r_getR dX3_readsNextOrder_20 f_3_9 rfl rfl rfl lv14 ?_
  refine r_aload_n dX3_readsNextOrder_23 (i := 0) rfl rfl ?_
  refine r_getI dX3_readsNextOrder_24 f_3_15 rfl rfl lv14 ?_
  rw [RQ_1, hf]
  refine sX3_readsNextOrder_27 (Nat.le_refl _) (Nat.le_refl _) rfl lv12 (Nat.le_of_ble_eq_true rfl) (signRQ hR (by omega)) ?_
  rw [hc]
  refine r_putI dX3_readsNextOrder_30 f_3_39 rfl rfl lv14 (pk_charN (q := 108) (by decide)) ?_
  refine V.eqH (RQ_s (by decide)) ?_
  refine r_aload_n dX3_readsNextOrder_33 (i := 0) rfl rfl ?_
  refine r_getI dX3_readsNextOrder_34 f_3_39 rfl rfl lv14 ?_
  rw [RQ_2, up_eq]
  refine r_tabIn dX3_readsNextOrder_37 (off := 160) (tgt := 197) (by decide) (by decide) (by decide) rfl ?_
  refine r_aload_n dX3_readsNextOrder_197 (i := 0) rfl rfl ?_
  refine r_dup dX3_readsNextOrder_198 rfl ?_
  refine r_getI dX3_readsNextOrder_199 f_3_15 rfl rfl lv14 ?_
  refine r_iconst dX3_readsNextOrder_202 (v := 1) rfl ?_
  refine r_iadd dX3_readsNextOrder_203 ?_
  refine r_putI dX3_readsNextOrder_204 f_3_15 rfl rfl lv14 ⟨rfl, rfl⟩ ?_
  refine V.eqH (hp2 := RQ hp (f1 f 108 p)) (by rw [RQ_1, up_ne (by decide), hf, nI_1, RQ_s (by decide)]; rfl) ?_
  refine r_aload_n dX3_readsNextOrder_207 (i := 0) rfl rfl ?_
  refine sX3_readsNextOrder_208 (Nat.le_refl _) (Nat.le_refl _) rfl lv14 (Nat.le_of_ble_eq_true rfl) (tX3_readsStore hR (p := p + 1) (by omega) f1_1 hd) ?_
  refine r_if_eq dX3_readsNextOrder_211 (tgt := 232) rfl (fun h211 => absurd h211 ((by decide))) (fun _ => ?_)
  refine r_aload_n dX3_readsNextOrder_214 (i := 0) rfl rfl ?_
  refine sX3_readsNextOrder_215 (Nat.le_refl _) (Nat.le_refl _) rfl lv14 (Nat.le_of_ble_eq_true rfl) (tX3_readsSecret hR (p := p + 2) (by omega) (by simp [up]) hd2) ?_
  refine r_if_eq dX3_readsNextOrder_218 (tgt := 232) rfl (fun h218 => absurd h218 ((by decide))) (fun _ => ?_)
  refine r_aload_n dX3_readsNextOrder_221 (i := 0) rfl rfl ?_
  refine sX3_readsNextOrder_222 (Nat.le_refl _) (Nat.le_refl _) rfl lv14 (Nat.le_of_ble_eq_true rfl) (tX3_readsOffsets_n1 hR (p := p + 3) (by omega) (by simp [up]) h1) ?_
  refine r_if_eq dX3_readsNextOrder_225 (tgt := 232) rfl (fun _ => ?_) (fun h225 => absurd (rfl) h225)
  refine r_iconst dX3_readsNextOrder_232 (v := 0) rfl ?_
  exact e_i dX3_readsNextOrder_233 rfl (by first | rfl | exact bi_nar _) (by first | rfl | simp [bi, *]) rfl
theorem rC_l_n4 (hR : RDp hp len) (hpl : p < 100) (hf : f 1 = nI p) (hc : cF hp len p = 108) (hd : fIn (cF hp len (p + 1)) 97 98 = true) (hd2 : isD (cF hp len (p + 2)) = true) (h1 : cF hp len (p + 3) = 43) (h2 : isD (cF hp len (p + 4)) = false) : V g mX3_readsNextOrder 0 0 0 0 616 18 [some (vR (14, 0, 0, 0))] [] RP (RQ hp f) (Pi 0 (RQ hp (up (up (up (up (up (up (f1 f 108 p) 1 (nI (p + 1 + 1))) 3 (cF hp len (p + 1) - 97)) 1 (nI (p + 2 + 1))) 4 (cF hp len (p + 2) - 48)) 1 (nI (p + 3 + 1))) 5 (-1)))) := by
  refine r_aload_n dX3_readsNextOrder_18 (i := 0) rfl rfl ?_
  refine r_aload_n dX3_readsNextOrder_19 (i := 0) rfl rfl ?_
  refine r_getR dX3_readsNextOrder_20 f_3_9 rfl rfl rfl lv14 ?_
  refine r_aload_n dX3_readsNextOrder_23 (i := 0) rfl rfl ?_
  refine r_getI dX3_readsNextOrder_24 f_3_15 rfl rfl lv14 ?_
  rw [RQ_1, hf]
  refine sX3_readsNextOrder_27 (Nat.le_refl _) (Nat.le_refl _) rfl lv12 (Nat.le_of_ble_eq_true rfl) (signRQ hR (by omega)) ?_
  rw [hc]
  refine r_putI dX3_readsNextOrder_30 f_3_39 rfl rfl lv14 (pk_charN (q := 108) (by decide)) ?_
  refine V.eqH (RQ_s (by decide)) ?_
  refine r_aload_n dX3_readsNextOrder_33 (i := 0) rfl rfl ?_
  refine r_getI dX3_readsNextOrder_34 f_3_39 rfl rfl lv14 ?_
  rw [RQ_2, up_eq]
  refine r_tabIn dX3_readsNextOrder_37 (off := 160) (tgt := 197) (by decide) (by decide) (by decide) rfl ?_
  refine r_aload_n dX3_readsNextOrder_197 (i := 0) rfl rfl ?_
  refine r_dup dX3_readsNextOrder_198 rfl ?_
  refine r_getI dX3_readsNextOrder_199 f_3_15 rfl rfl lv14 ?_
  refine r_iconst dX3_readsNextOrder_202 (v := 1) rfl ?_
  refine r_iadd dX3_readsNextOrder_203 ?_
  refine r_putI dX3_readsNextOrder_204 f_3_15 rfl rfl lv14 ⟨rfl, rfl⟩ ?_
  refine V.eqH (hp2 := RQ hp (f1 f 108 p)) (by rw [RQ_1, up_ne (by decide), hf, nI_1, RQ_s (by decide)]; rfl) ?_
  refine r_aload_n dX3_readsNextOrder_207 (i := 0) rfl rfl ?_
  refine sX3_readsNextOrder_208 (Nat.le_refl _) (Nat.le_refl _) rfl lv14 (Nat.le_of_ble_eq_true rfl) (tX3_readsStore hR (p := p + 1) (by omega) f1_1 hd) ?_
  refine r_if_eq dX3_readsNextOrder_211 (tgt := 232) rfl (fun h211 => absurd h211 ((by decide))) (fun _ => ?_)
  refine r_aload_n dX3_readsNextOrder_214 (i := 0) rfl rfl ?_
  refine sX3_readsNextOrder_215 (Nat.le_refl _) (Nat.le_refl _) rfl lv14 (Nat.le_of_ble_eq_true rfl) (tX3_readsSecret hR (p := p + 2) (by omega) (by simp [up]) hd2) ?_
  refine r_if_eq dX3_readsNextOrder_218 (tgt := 232) rfl (fun h218 => absurd h218 ((by decide))) (fun _ => ?_)
  refine r_aload_n dX3_readsNextOrder_221 (i := 0) rfl rfl ?_
  refine sX3_readsNextOrder_222 (Nat.le_refl _) (Nat.le_refl _) rfl lv14 (Nat.le_of_ble_eq_true rfl) (tX3_readsOffsets_n2 hR (p := p + 3) (by omega) (by simp [up]) h1 h2) ?_
  refine r_if_eq dX3_readsNextOrder_225 (tgt := 232) rfl (fun _ => ?_) (fun h225 => absurd (rfl) h225)
  refine r_iconst dX3_readsNextOrder_232 (v := 0) rfl ?_
  exact e_i dX3_readsNextOrder_233 rfl (by first | rfl | exact bi_nar _) (by first | rfl | simp [bi, *]) rfl
theorem rC_l_o1 (hR : RDp hp len) (hpl : p < 100) (hf : f 1 = nI p) (hc : cF hp len p = 108) (hd : fIn (cF hp len (p + 1)) 97 98 = true) (hd2 : isD (cF hp len (p + 2)) = true) (h1 : cF hp len (p + 3) = 43) (h2 : isD (cF hp len (p + 4)) = true) (h3 : ¬ cF hp len (tN (cF hp len) (p + 4) false).2.1 = 44) : V g mX3_readsNextOrder 0 0 0 0 616 18 [some (vR (14, 0, 0, 0))] [] RP (RQ hp f) (Pi 1 (RQ hp (fo3 (cF hp len) (p + 3) (up (up (up (up (f1 f 108 p) 1 (nI (p + 1 + 1))) 3 (cF hp len (p + 1) - 97)) 1 (nI (p + 2 + 1))) 4 (cF hp len (p + 2) - 48))))) := by
  refine r_aload_n dX3_readsNextOrder_18 (i := 0) rfl rfl ?_
  refine r_aload_n dX3_readsNextOrder_19 (i := 0) rfl rfl ?_
  refine r_getR dX3_readsNextOrder_20 f_3_9 rfl rfl rfl lv14 ?_
  refine r_aload_n dX3_readsNextOrder_23 (i := 0) rfl rfl ?_
  refine r_getI dX3_readsNextOrder_24 f_3_15 rfl rfl lv14 ?_
  rw [RQ_1, hf]
  refine sX3_readsNextOrder_27 (Nat.le_refl _) (Nat.le_refl _) rfl lv12 (Nat.le_of_ble_eq_true rfl) (signRQ hR (by omega)) ?_
  rw [hc]
  refine r_putI dX3_readsNextOrder_30 f_3_39 rfl rfl lv14 (pk_charN (q := 108) (by decide)) ?_
  refine V.eqH (RQ_s (by decide)) ?_
  refine r_aload_n dX3_readsNextOrder_33 (i := 0) rfl rfl ?_
  refine r_getI dX3_readsNextOrder_34 f_3_39 rfl rfl lv14 ?_
  rw [RQ_2, up_eq]
  refine r_tabIn dX3_readsNextOrder_37 (off := 160) (tgt := 197) (by decide) (by decide) (by decide) rfl ?_
  refine r_aload_n dX3_readsNextOrder_197 (i := 0) rfl rfl ?_
  refine r_dup dX3_readsNextOrder_198 rfl ?_
  refine r_getI dX3_readsNextOrder_199 f_3_15 rfl rfl lv14 ?_
  refine r_iconst dX3_readsNextOrder_202 (v := 1) rfl ?_
  refine r_iadd dX3_readsNextOrder_203 ?_
  refine r_putI dX3_readsNextOrder_204 f_3_15 rfl rfl lv14 ⟨rfl, rfl⟩ ?_
  refine V.eqH (hp2 := RQ hp (f1 f 108 p)) (by rw [RQ_1, up_ne (by decide), hf, nI_1, RQ_s (by decide)]; rfl) ?_
  refine r_aload_n dX3_readsNextOrder_207 (i := 0) rfl rfl ?_
  refine sX3_readsNextOrder_208 (Nat.le_refl _) (Nat.le_refl _) rfl lv14 (Nat.le_of_ble_eq_true rfl) (tX3_readsStore hR (p := p + 1) (by omega) f1_1 hd) ?_
  refine r_if_eq dX3_readsNextOrder_211 (tgt := 232) rfl (fun h211 => absurd h211 ((by decide))) (fun _ => ?_)
  refine r_aload_n dX3_readsNextOrder_214 (i := 0) rfl rfl ?_
  refine sX3_readsNextOrder_215 (Nat.le_refl _) (Nat.le_refl _) rfl lv14 (Nat.le_of_ble_eq_true rfl) (tX3_readsSecret hR (p := p + 2) (by omega) (by simp [up]) hd2) ?_
  refine r_if_eq dX3_readsNextOrder_218 (tgt := 232) rfl (fun h218 => absurd h218 ((by decide))) (fun _ => ?_)
  refine r_aload_n dX3_readsNextOrder_221 (i := 0) rfl rfl ?_
  refine sX3_readsNextOrder_222 (Nat.le_refl _) (Nat.le_refl _) rfl lv14 (Nat.le_of_ble_eq_true rfl) (tX3_readsOffsets_o1 hR (p := p + 3) (by omega) (by simp [up]) h1 h2 h3) ?_
  refine r_if_eq dX3_readsNextOrder_225 (tgt := 232) rfl (fun h225 => absurd h225 ((by decide))) (fun _ => ?_)
  refine r_iconst dX3_readsNextOrder_228 (v := 1) rfl ?_
  refine r_goto dX3_readsNextOrder_229 (tgt := 233) rfl ?_
  exact e_i dX3_readsNextOrder_233 rfl (by first | rfl | exact bi_nar _) (by first | rfl | simp [bi, *]) rfl
theorem rC_l_n5 (hR : RDp hp len) (hpl : p < 100) (hf : f 1 = nI p) (hc : cF hp len p = 108) (hd : fIn (cF hp len (p + 1)) 97 98 = true) (hd2 : isD (cF hp len (p + 2)) = true) (h1 : cF hp len (p + 3) = 43) (h2 : isD (cF hp len (p + 4)) = true) (h3 : cF hp len (tN (cF hp len) (p + 4) false).2.1 = 44) (h4 : isD (cF hp len ((tN (cF hp len) (p + 4) false).2.1 + 1)) = false) : V g mX3_readsNextOrder 0 0 0 0 616 18 [some (vR (14, 0, 0, 0))] [] RP (RQ hp f) (Pi 0 (RQ hp (up (up (fo3 (cF hp len) (p + 3) (up (up (up (up (f1 f 108 p) 1 (nI (p + 1 + 1))) 3 (cF hp len (p + 1) - 97)) 1 (nI (p + 2 + 1))) 4 (cF hp len (p + 2) - 48))) 1 (nI ((tN (cF hp len) (p + 4) false).2.1 + 1))) 6 (-1)))) := by
  refine r_aload_n dX3_readsNextOrder_18 (i := 0) rfl rfl ?_
  refine r_aload_n dX3_readsNextOrder_19 (i := 0) rfl rfl ?_
  refine r_getR dX3_readsNextOrder_20 f_3_9 rfl rfl rfl lv14 ?_
  refine r_aload_n dX3_readsNextOrder_23 (i := 0) rfl rfl ?_
  refine r_getI dX3_readsNextOrder_24 f_3_15 rfl rfl lv14 ?_
  rw [RQ_1, hf]
  refine sX3_readsNextOrder_27 (Nat.le_refl _) (Nat.le_refl _) rfl lv12 (Nat.le_of_ble_eq_true rfl) (signRQ hR (by omega)) ?_
  rw [hc]
  refine r_putI dX3_readsNextOrder_30 f_3_39 rfl rfl lv14 (pk_charN (q := 108) (by decide)) ?_
  refine V.eqH (RQ_s (by decide)) ?_
  refine r_aload_n dX3_readsNextOrder_33 (i := 0) rfl rfl ?_
  refine r_getI dX3_readsNextOrder_34 f_3_39 rfl rfl lv14 ?_
  rw [RQ_2, up_eq]
  refine r_tabIn dX3_readsNextOrder_37 (off := 160) (tgt := 197) (by decide) (by decide) (by decide) rfl ?_
  refine r_aload_n dX3_readsNextOrder_197 (i := 0) rfl rfl ?_
  refine r_dup dX3_readsNextOrder_198 rfl ?_
  refine r_getI dX3_readsNextOrder_199 f_3_15 rfl rfl lv14 ?_
  refine r_iconst dX3_readsNextOrder_202 (v := 1) rfl ?_
  refine r_iadd dX3_readsNextOrder_203 ?_
  refine r_putI dX3_readsNextOrder_204 f_3_15 rfl rfl lv14 ⟨rfl, rfl⟩ ?_
  refine V.eqH (hp2 := RQ hp (f1 f 108 p)) (by rw [RQ_1, up_ne (by decide), hf, nI_1, RQ_s (by decide)]; rfl) ?_
  refine r_aload_n dX3_readsNextOrder_207 (i := 0) rfl rfl ?_
  refine sX3_readsNextOrder_208 (Nat.le_refl _) (Nat.le_refl _) rfl lv14 (Nat.le_of_ble_eq_true rfl) (tX3_readsStore hR (p := p + 1) (by omega) f1_1 hd) ?_
  refine r_if_eq dX3_readsNextOrder_211 (tgt := 232) rfl (fun h211 => absurd h211 ((by decide))) (fun _ => ?_)
  refine r_aload_n dX3_readsNextOrder_214 (i := 0) rfl rfl ?_
  refine sX3_readsNextOrder_215 (Nat.le_refl _) (Nat.le_refl _) rfl lv14 (Nat.le_of_ble_eq_true rfl) (tX3_readsSecret hR (p := p + 2) (by omega) (by simp [up]) hd2) ?_
  refine r_if_eq dX3_readsNextOrder_218 (tgt := 232) rfl (fun h218 => absurd h218 ((by decide))) (fun _ => ?_)
  refine r_aload_n dX3_readsNextOrder_221 (i := 0) rfl rfl ?_
  refine sX3_readsNextOrder_222 (Nat.le_refl _) (Nat.le_refl _) rfl lv14 (Nat.le_of_ble_eq_true rfl) (tX3_readsOffsets_n3 hR (p := p + 3) (by omega) (by simp [up]) h1 h2 h3 h4) ?_
  refine r_if_eq dX3_readsNextOrder_225 (tgt := 232) rfl (fun _ => ?_) (fun h225 => absurd (rfl) h225)
  refine r_iconst dX3_readsNextOrder_232 (v := 0) rfl ?_
  exact e_i dX3_readsNextOrder_233 rfl (by first | rfl | exact bi_nar _) (by first | rfl | simp [bi, *]) rfl
theorem rC_l_o2 (hR : RDp hp len) (hpl : p < 100) (hf : f 1 = nI p) (hc : cF hp len p = 108) (hd : fIn (cF hp len (p + 1)) 97 98 = true) (hd2 : isD (cF hp len (p + 2)) = true) (h1 : cF hp len (p + 3) = 43) (h2 : isD (cF hp len (p + 4)) = true) (h3 : cF hp len (tN (cF hp len) (p + 4) false).2.1 = 44) (h4 : isD (cF hp len ((tN (cF hp len) (p + 4) false).2.1 + 1)) = true) : V g mX3_readsNextOrder 0 0 0 0 616 18 [some (vR (14, 0, 0, 0))] [] RP (RQ hp f) (Pi 1 (RQ hp (up (up (up (fo3 (cF hp len) (p + 3) (up (up (up (up (f1 f 108 p) 1 (nI (p + 1 + 1))) 3 (cF hp len (p + 1) - 97)) 1 (nI (p + 2 + 1))) 4 (cF hp len (p + 2) - 48))) 1 (nI ((tN (cF hp len) (p + 4) false).2.1 + 1))) 1 (nI (tN (cF hp len) ((tN (cF hp len) (p + 4) false).2.1 + 1) false).2.1)) 6 (tN (cF hp len) ((tN (cF hp len) (p + 4) false).2.1 + 1) false).1))) := by
  refine r_aload_n dX3_readsNextOrder_18 (i := 0) rfl rfl ?_
  refine r_aload_n dX3_readsNextOrder_19 (i := 0) rfl rfl ?_
  refine r_getR dX3_readsNextOrder_20 f_3_9 rfl rfl rfl lv14 ?_
  refine r_aload_n dX3_readsNextOrder_23 (i := 0) rfl rfl ?_
  refine r_getI dX3_readsNextOrder_24 f_3_15 rfl rfl lv14 ?_
  rw [RQ_1, hf]
  refine sX3_readsNextOrder_27 (Nat.le_refl _) (Nat.le_refl _) rfl lv12 (Nat.le_of_ble_eq_true rfl) (signRQ hR (by omega)) ?_
  rw [hc]
  refine r_putI dX3_readsNextOrder_30 f_3_39 rfl rfl lv14 (pk_charN (q := 108) (by decide)) ?_
  refine V.eqH (RQ_s (by decide)) ?_
  refine r_aload_n dX3_readsNextOrder_33 (i := 0) rfl rfl ?_
  refine r_getI dX3_readsNextOrder_34 f_3_39 rfl rfl lv14 ?_
  rw [RQ_2, up_eq]
  refine r_tabIn dX3_readsNextOrder_37 (off := 160) (tgt := 197) (by decide) (by decide) (by decide) rfl ?_
  refine r_aload_n dX3_readsNextOrder_197 (i := 0) rfl rfl ?_
  refine r_dup dX3_readsNextOrder_198 rfl ?_
  refine r_getI dX3_readsNextOrder_199 f_3_15 rfl rfl lv14 ?_
  refine r_iconst dX3_readsNextOrder_202 (v := 1) rfl ?_
  refine r_iadd dX3_readsNextOrder_203 ?_
  refine r_putI dX3_readsNextOrder_204 f_3_15 rfl rfl lv14 ⟨rfl, rfl⟩ ?_
  refine V.eqH (hp2 := RQ hp (f1 f 108 p)) (by rw [RQ_1, up_ne (by decide), hf, nI_1, RQ_s (by decide)]; rfl) ?_
  refine r_aload_n dX3_readsNextOrder_207 (i := 0) rfl rfl ?_
  refine sX3_readsNextOrder_208 (Nat.le_refl _) (Nat.le_refl _) rfl lv14 (Nat.le_of_ble_eq_true rfl) (tX3_readsStore hR (p := p + 1) (by omega) f1_1 hd) ?_
  refine r_if_eq dX3_readsNextOrder_211 (tgt := 232) rfl (fun h211 => absurd h211 ((by decide))) (fun _ => ?_)
  refine r_aload_n dX3_readsNextOrder_214 (i := 0) rfl rfl ?_
  refine sX3_readsNextOrder_215 (Nat.le_refl _) (Nat.le_refl _) rfl lv14 (Nat.le_of_ble_eq_true rfl) (tX3_readsSecret hR (p := p + 2) (by omega) (by simp [up]) hd2) ?_
  refine r_if_eq dX3_readsNextOrder_218 (tgt := 232) rfl (fun h218 => absurd h218 ((by decide))) (fun _ => ?_)
  refine r_aload_n dX3_readsNextOrder_221 (i := 0) rfl rfl ?_
  refine sX3_readsNextOrder_222 (Nat.le_refl _) (Nat.le_refl _) rfl lv14 (Nat.le_of_ble_eq_true rfl) (tX3_readsOffsets_o2 hR (p := p + 3) (by omega) (by simp [up]) h1 h2 h3 h4) ?_
  refine r_if_eq dX3_readsNextOrder_225 (tgt := 232) rfl (fun h225 => absurd h225 ((by decide))) (fun _ => ?_)
  refine r_iconst dX3_readsNextOrder_228 (v := 1) rfl ?_
  refine r_goto dX3_readsNextOrder_229 (tgt := 233) rfl ?_
  exact e_i dX3_readsNextOrder_233 rfl (by first | rfl | exact bi_nar _) (by first | rfl | simp [bi, *]) rfl
theorem rC_t_n1 (hR : RDp hp len) (hpl : p < 100) (hf : f 1 = nI p) (hc : cF hp len p = 116) (hd : fIn (cF hp len (p + 1)) 97 98 = false) : V g mX3_readsNextOrder 0 0 0 0 616 18 [some (vR (14, 0, 0, 0))] [] RP (RQ hp f) (Pi 0 (RQ hp (f1 f 116 p))) := by
  refine r_aload_n dX3_readsNextOrder_18 (i := 0) rfl rfl ?_
  refine r_aload_n dX3_readsNextOrder_19 (i := 0) rfl rfl ?_
  refine r_getR dX3_readsNextOrder_20 f_3_9 rfl rfl rfl lv14 ?_
  refine r_aload_n dX3_readsNextOrder_23 (i := 0) rfl rfl ?_
  refine r_getI dX3_readsNextOrder_24 f_3_15 rfl rfl lv14 ?_
  rw [RQ_1, hf]
  refine sX3_readsNextOrder_27 (Nat.le_refl _) (Nat.le_refl _) rfl lv12 (Nat.le_of_ble_eq_true rfl) (signRQ hR (by omega)) ?_
  rw [hc]
  refine r_putI dX3_readsNextOrder_30 f_3_39 rfl rfl lv14 (pk_charN (q := 116) (by decide)) ?_
  refine V.eqH (RQ_s (by decide)) ?_
  refine r_aload_n dX3_readsNextOrder_33 (i := 0) rfl rfl ?_
  refine r_getI dX3_readsNextOrder_34 f_3_39 rfl rfl lv14 ?_
  rw [RQ_2, up_eq]
  refine r_tabIn dX3_readsNextOrder_37 (off := 197) (tgt := 234) (by decide) (by decide) (by decide) rfl ?_
  refine r_aload_n dX3_readsNextOrder_234 (i := 0) rfl rfl ?_
  refine r_dup dX3_readsNextOrder_235 rfl ?_
  refine r_getI dX3_readsNextOrder_236 f_3_15 rfl rfl lv14 ?_
  refine r_iconst dX3_readsNextOrder_239 (v := 1) rfl ?_
  refine r_iadd dX3_readsNextOrder_240 ?_
  refine r_putI dX3_readsNextOrder_241 f_3_15 rfl rfl lv14 ⟨rfl, rfl⟩ ?_
  refine V.eqH (hp2 := RQ hp (f1 f 116 p)) (by rw [RQ_1, up_ne (by decide), hf, nI_1, RQ_s (by decide)]; rfl) ?_
  refine r_aload_n dX3_readsNextOrder_244 (i := 0) rfl rfl ?_
  refine sX3_readsNextOrder_245 (Nat.le_refl _) (Nat.le_refl _) rfl lv14 (Nat.le_of_ble_eq_true rfl) (tX3_readsStore_n hR (p := p + 1) (by omega) f1_1 hd) ?_
  refine r_if_eq dX3_readsNextOrder_248 (tgt := 269) rfl (fun _ => ?_) (fun h248 => absurd (rfl) h248)
  refine r_iconst dX3_readsNextOrder_269 (v := 0) rfl ?_
  exact e_i dX3_readsNextOrder_270 rfl (by first | rfl | exact bi_nar _) (by first | rfl | simp [bi, *]) rfl
theorem rC_t_n2 (hR : RDp hp len) (hpl : p < 100) (hf : f 1 = nI p) (hc : cF hp len p = 116) (hd : fIn (cF hp len (p + 1)) 97 98 = true) (hd2 : isD (cF hp len (p + 2)) = false) : V g mX3_readsNextOrder 0 0 0 0 616 18 [some (vR (14, 0, 0, 0))] [] RP (RQ hp f) (Pi 0 (RQ hp (up (up (up (f1 f 116 p) 1 (nI (p + 1 + 1))) 3 (cF hp len (p + 1) - 97)) 4 (-1)))) := by
  refine r_aload_n dX3_readsNextOrder_18 (i := 0) rfl rfl ?_
  refine r_aload_n dX3_readsNextOrder_19 (i := 0) rfl rfl ?_
  refine r_getR dX3_readsNextOrder_20 f_3_9 rfl rfl rfl lv14 ?_
  refine r_aload_n dX3_readsNextOrder_23 (i := 0) rfl rfl ?_
  refine r_getI dX3_readsNextOrder_24 f_3_15 rfl rfl lv14 ?_
  rw [RQ_1, hf]
  refine sX3_readsNextOrder_27 (Nat.le_refl _) (Nat.le_refl _) rfl lv12 (Nat.le_of_ble_eq_true rfl) (signRQ hR (by omega)) ?_
  rw [hc]
  refine r_putI dX3_readsNextOrder_30 f_3_39 rfl rfl lv14 (pk_charN (q := 116) (by decide)) ?_
  refine V.eqH (RQ_s (by decide)) ?_
  refine r_aload_n dX3_readsNextOrder_33 (i := 0) rfl rfl ?_
  refine r_getI dX3_readsNextOrder_34 f_3_39 rfl rfl lv14 ?_
  rw [RQ_2, up_eq]
  refine r_tabIn dX3_readsNextOrder_37 (off := 197) (tgt := 234) (by decide) (by decide) (by decide) rfl ?_
  refine r_aload_n dX3_readsNextOrder_234 (i := 0) rfl rfl ?_
  refine r_dup dX3_readsNextOrder_235 rfl ?_
  refine r_getI dX3_readsNextOrder_236 f_3_15 rfl rfl lv14 ?_
  refine r_iconst dX3_readsNextOrder_239 (v := 1) rfl ?_
  refine r_iadd dX3_readsNextOrder_240 ?_
  refine r_putI dX3_readsNextOrder_241 f_3_15 rfl rfl lv14 ⟨rfl, rfl⟩ ?_
  refine V.eqH (hp2 := RQ hp (f1 f 116 p)) (by rw [RQ_1, up_ne (by decide), hf, nI_1, RQ_s (by decide)]; rfl) ?_
  refine r_aload_n dX3_readsNextOrder_244 (i := 0) rfl rfl ?_
  refine sX3_readsNextOrder_245 (Nat.le_refl _) (Nat.le_refl _) rfl lv14 (Nat.le_of_ble_eq_true rfl) (tX3_readsStore hR (p := p + 1) (by omega) f1_1 hd) ?_
  refine r_if_eq dX3_readsNextOrder_248 (tgt := 269) rfl (fun h248 => absurd h248 ((by decide))) (fun _ => ?_)
  refine r_aload_n dX3_readsNextOrder_251 (i := 0) rfl rfl ?_
  refine sX3_readsNextOrder_252 (Nat.le_refl _) (Nat.le_refl _) rfl lv14 (Nat.le_of_ble_eq_true rfl) (tX3_readsSecret_n hR (p := p + 2) (by omega) (by simp [up]) hd2) ?_
  refine r_if_eq dX3_readsNextOrder_255 (tgt := 269) rfl (fun _ => ?_) (fun h255 => absurd (rfl) h255)
  refine r_iconst dX3_readsNextOrder_269 (v := 0) rfl ?_
  exact e_i dX3_readsNextOrder_270 rfl (by first | rfl | exact bi_nar _) (by first | rfl | simp [bi, *]) rfl
theorem rC_t_o1 (hR : RDp hp len) (hpl : p < 100) (hf : f 1 = nI p) (hc : cF hp len p = 116) (hd : fIn (cF hp len (p + 1)) 97 98 = true) (hd2 : isD (cF hp len (p + 2)) = true) (h1 : ¬ cF hp len (p + 3) = 46) : V g mX3_readsNextOrder 0 0 0 0 616 18 [some (vR (14, 0, 0, 0))] [] RP (RQ hp f) (Pi 1 (RQ hp (up (up (up (up (up (f1 f 116 p) 1 (nI (p + 1 + 1))) 3 (cF hp len (p + 1) - 97)) 1 (nI (p + 2 + 1))) 4 (cF hp len (p + 2) - 48)) 5 (-1)))) := by
  refine r_aload_n dX3_readsNextOrder_18 (i := 0) rfl rfl ?_
  refine r_aload_n dX3_readsNextOrder_19 (i := 0) rfl rfl ?_
  refine r_getR dX3_readsNextOrder_20 f_3_9 rfl rfl rfl lv14 ?_
  refine r_aload_n dX3_readsNextOrder_23 (i := 0) rfl rfl ?_
  refine r_getI dX3_readsNextOrder_24 f_3_15 rfl rfl lv14 ?_
  rw [RQ_1, hf]
  refine sX3_readsNextOrder_27 (Nat.le_refl _) (Nat.le_refl _) rfl lv12 (Nat.le_of_ble_eq_true rfl) (signRQ hR (by omega)) ?_
  rw [hc]
  refine r_putI dX3_readsNextOrder_30 f_3_39 rfl rfl lv14 (pk_charN (q := 116) (by decide)) ?_
  refine V.eqH (RQ_s (by decide)) ?_
  refine r_aload_n dX3_readsNextOrder_33 (i := 0) rfl rfl ?_
  refine r_getI dX3_readsNextOrder_34 f_3_39 rfl rfl lv14 ?_
  rw [RQ_2, up_eq]
  refine r_tabIn dX3_readsNextOrder_37 (off := 197) (tgt := 234) (by decide) (by decide) (by decide) rfl ?_
  refine r_aload_n dX3_readsNextOrder_234 (i := 0) rfl rfl ?_
  refine r_dup dX3_readsNextOrder_235 rfl ?_
  refine r_getI dX3_readsNextOrder_236 f_3_15 rfl rfl lv14 ?_
  refine r_iconst dX3_readsNextOrder_239 (v := 1) rfl ?_
  refine r_iadd dX3_readsNextOrder_240 ?_
  refine r_putI dX3_readsNextOrder_241 f_3_15 rfl rfl lv14 ⟨rfl, rfl⟩ ?_
  refine V.eqH (hp2 := RQ hp (f1 f 116 p)) (by rw [RQ_1, up_ne (by decide), hf, nI_1, RQ_s (by decide)]; rfl) ?_
  refine r_aload_n dX3_readsNextOrder_244 (i := 0) rfl rfl ?_
  refine sX3_readsNextOrder_245 (Nat.le_refl _) (Nat.le_refl _) rfl lv14 (Nat.le_of_ble_eq_true rfl) (tX3_readsStore hR (p := p + 1) (by omega) f1_1 hd) ?_
  refine r_if_eq dX3_readsNextOrder_248 (tgt := 269) rfl (fun h248 => absurd h248 ((by decide))) (fun _ => ?_)
  refine r_aload_n dX3_readsNextOrder_251 (i := 0) rfl rfl ?_
  refine sX3_readsNextOrder_252 (Nat.le_refl _) (Nat.le_refl _) rfl lv14 (Nat.le_of_ble_eq_true rfl) (tX3_readsSecret hR (p := p + 2) (by omega) (by simp [up]) hd2) ?_
  refine r_if_eq dX3_readsNextOrder_255 (tgt := 269) rfl (fun h255 => absurd h255 ((by decide))) (fun _ => ?_)
  refine r_aload_n dX3_readsNextOrder_258 (i := 0) rfl rfl ?_
  refine sX3_readsNextOrder_259 (Nat.le_refl _) (Nat.le_refl _) rfl lv14 (Nat.le_of_ble_eq_true rfl) (tX3_readsVersion_o1 hR (p := p + 3) (by omega) (by simp [up]) h1) ?_
  refine r_if_eq dX3_readsNextOrder_262 (tgt := 269) rfl (fun h262 => absurd h262 ((by decide))) (fun _ => ?_)
  refine r_iconst dX3_readsNextOrder_265 (v := 1) rfl ?_
  refine r_goto dX3_readsNextOrder_266 (tgt := 270) rfl ?_
  exact e_i dX3_readsNextOrder_270 rfl (by first | rfl | exact bi_nar _) (by first | rfl | simp [bi, *]) rfl
theorem rC_t_n3 (hR : RDp hp len) (hpl : p < 100) (hf : f 1 = nI p) (hc : cF hp len p = 116) (hd : fIn (cF hp len (p + 1)) 97 98 = true) (hd2 : isD (cF hp len (p + 2)) = true) (h1 : cF hp len (p + 3) = 46) (h2 : isD (cF hp len (p + 4)) = false) : V g mX3_readsNextOrder 0 0 0 0 616 18 [some (vR (14, 0, 0, 0))] [] RP (RQ hp f) (Pi 0 (RQ hp (up (up (up (up (up (up (up (f1 f 116 p) 1 (nI (p + 1 + 1))) 3 (cF hp len (p + 1) - 97)) 1 (nI (p + 2 + 1))) 4 (cF hp len (p + 2) - 48)) 5 (-1)) 1 (nI (p + 3 + 1))) 5 (-1)))) := by
  refine r_aload_n dX3_readsNextOrder_18 (i := 0) rfl rfl ?_
  refine r_aload_n dX3_readsNextOrder_19 (i := 0) rfl rfl ?_
  refine r_getR dX3_readsNextOrder_20 f_3_9 rfl rfl rfl lv14 ?_
  refine r_aload_n dX3_readsNextOrder_23 (i := 0) rfl rfl ?_
  refine r_getI dX3_readsNextOrder_24 f_3_15 rfl rfl lv14 ?_
  rw [RQ_1, hf]
  refine sX3_readsNextOrder_27 (Nat.le_refl _) (Nat.le_refl _) rfl lv12 (Nat.le_of_ble_eq_true rfl) (signRQ hR (by omega)) ?_
  rw [hc]
  refine r_putI dX3_readsNextOrder_30 f_3_39 rfl rfl lv14 (pk_charN (q := 116) (by decide)) ?_
  refine V.eqH (RQ_s (by decide)) ?_
  refine r_aload_n dX3_readsNextOrder_33 (i := 0) rfl rfl ?_
  refine r_getI dX3_readsNextOrder_34 f_3_39 rfl rfl lv14 ?_
  rw [RQ_2, up_eq]
  refine r_tabIn dX3_readsNextOrder_37 (off := 197) (tgt := 234) (by decide) (by decide) (by decide) rfl ?_
  refine r_aload_n dX3_readsNextOrder_234 (i := 0) rfl rfl ?_
  refine r_dup dX3_readsNextOrder_235 rfl ?_
  refine r_getI dX3_readsNextOrder_236 f_3_15 rfl rfl lv14 ?_
  refine r_iconst dX3_readsNextOrder_239 (v := 1) rfl ?_
  refine r_iadd dX3_readsNextOrder_240 ?_
  refine r_putI dX3_readsNextOrder_241 f_3_15 rfl rfl lv14 ⟨rfl, rfl⟩ ?_
  refine V.eqH (hp2 := RQ hp (f1 f 116 p)) (by rw [RQ_1, up_ne (by decide), hf, nI_1, RQ_s (by decide)]; rfl) ?_
  refine r_aload_n dX3_readsNextOrder_244 (i := 0) rfl rfl ?_
  refine sX3_readsNextOrder_245 (Nat.le_refl _) (Nat.le_refl _) rfl lv14 (Nat.le_of_ble_eq_true rfl) (tX3_readsStore hR (p := p + 1) (by omega) f1_1 hd) ?_
  refine r_if_eq dX3_readsNextOrder_248 (tgt := 269) rfl (fun h248 => absurd h248 ((by decide))) (fun _ => ?_)
  refine r_aload_n dX3_readsNextOrder_251 (i := 0) rfl rfl ?_
  refine sX3_readsNextOrder_252 (Nat.le_refl _) (Nat.le_refl _) rfl lv14 (Nat.le_of_ble_eq_true rfl) (tX3_readsSecret hR (p := p + 2) (by omega) (by simp [up]) hd2) ?_
  refine r_if_eq dX3_readsNextOrder_255 (tgt := 269) rfl (fun h255 => absurd h255 ((by decide))) (fun _ => ?_)
  refine r_aload_n dX3_readsNextOrder_258 (i := 0) rfl rfl ?_
  refine sX3_readsNextOrder_259 (Nat.le_refl _) (Nat.le_refl _) rfl lv14 (Nat.le_of_ble_eq_true rfl) (tX3_readsVersion_n hR (p := p + 3) (by omega) (by simp [up]) h1 h2) ?_
  refine r_if_eq dX3_readsNextOrder_262 (tgt := 269) rfl (fun _ => ?_) (fun h262 => absurd (rfl) h262)
  refine r_iconst dX3_readsNextOrder_269 (v := 0) rfl ?_
  exact e_i dX3_readsNextOrder_270 rfl (by first | rfl | exact bi_nar _) (by first | rfl | simp [bi, *]) rfl
theorem rC_t_o2 (hR : RDp hp len) (hpl : p < 100) (hf : f 1 = nI p) (hc : cF hp len p = 116) (hd : fIn (cF hp len (p + 1)) 97 98 = true) (hd2 : isD (cF hp len (p + 2)) = true) (h1 : cF hp len (p + 3) = 46) (h2 : isD (cF hp len (p + 4)) = true) : V g mX3_readsNextOrder 0 0 0 0 616 18 [some (vR (14, 0, 0, 0))] [] RP (RQ hp f) (Pi 1 (RQ hp (up (up (up (up (up (up (up (up (f1 f 116 p) 1 (nI (p + 1 + 1))) 3 (cF hp len (p + 1) - 97)) 1 (nI (p + 2 + 1))) 4 (cF hp len (p + 2) - 48)) 5 (-1)) 1 (nI (p + 3 + 1))) 1 (nI (tN (cF hp len) (p + 4) false).2.1)) 5 (tN (cF hp len) (p + 4) false).1))) := by
  refine r_aload_n dX3_readsNextOrder_18 (i := 0) rfl rfl ?_
  refine r_aload_n dX3_readsNextOrder_19 (i := 0) rfl rfl ?_
  refine r_getR dX3_readsNextOrder_20 f_3_9 rfl rfl rfl lv14 ?_
  refine r_aload_n dX3_readsNextOrder_23 (i := 0) rfl rfl ?_
  refine r_getI dX3_readsNextOrder_24 f_3_15 rfl rfl lv14 ?_
  rw [RQ_1, hf]
  refine sX3_readsNextOrder_27 (Nat.le_refl _) (Nat.le_refl _) rfl lv12 (Nat.le_of_ble_eq_true rfl) (signRQ hR (by omega)) ?_
  rw [hc]
  refine r_putI dX3_readsNextOrder_30 f_3_39 rfl rfl lv14 (pk_charN (q := 116) (by decide)) ?_
  refine V.eqH (RQ_s (by decide)) ?_
  refine r_aload_n dX3_readsNextOrder_33 (i := 0) rfl rfl ?_
  refine r_getI dX3_readsNextOrder_34 f_3_39 rfl rfl lv14 ?_
  rw [RQ_2, up_eq]
  refine r_tabIn dX3_readsNextOrder_37 (off := 197) (tgt := 234) (by decide) (by decide) (by decide) rfl ?_
  refine r_aload_n dX3_readsNextOrder_234 (i := 0) rfl rfl ?_
  refine r_dup dX3_readsNextOrder_235 rfl ?_
  refine r_getI dX3_readsNextOrder_236 f_3_15 rfl rfl lv14 ?_
  refine r_iconst dX3_readsNextOrder_239 (v := 1) rfl ?_
  refine r_iadd dX3_readsNextOrder_240 ?_
  refine r_putI dX3_readsNextOrder_241 f_3_15 rfl rfl lv14 ⟨rfl, rfl⟩ ?_
  refine V.eqH (hp2 := RQ hp (f1 f 116 p)) (by rw [RQ_1, up_ne (by decide), hf, nI_1, RQ_s (by decide)]; rfl) ?_
  refine r_aload_n dX3_readsNextOrder_244 (i := 0) rfl rfl ?_
  refine sX3_readsNextOrder_245 (Nat.le_refl _) (Nat.le_refl _) rfl lv14 (Nat.le_of_ble_eq_true rfl) (tX3_readsStore hR (p := p + 1) (by omega) f1_1 hd) ?_
  refine r_if_eq dX3_readsNextOrder_248 (tgt := 269) rfl (fun h248 => absurd h248 ((by decide))) (fun _ => ?_)
  refine r_aload_n dX3_readsNextOrder_251 (i := 0) rfl rfl ?_
  refine sX3_readsNextOrder_252 (Nat.le_refl _) (Nat.le_refl _) rfl lv14 (Nat.le_of_ble_eq_true rfl) (tX3_readsSecret hR (p := p + 2) (by omega) (by simp [up]) hd2) ?_
  refine r_if_eq dX3_readsNextOrder_255 (tgt := 269) rfl (fun h255 => absurd h255 ((by decide))) (fun _ => ?_)
  refine r_aload_n dX3_readsNextOrder_258 (i := 0) rfl rfl ?_
  refine sX3_readsNextOrder_259 (Nat.le_refl _) (Nat.le_refl _) rfl lv14 (Nat.le_of_ble_eq_true rfl) (tX3_readsVersion_o2 hR (p := p + 3) (by omega) (by simp [up]) h1 h2) ?_
  refine r_if_eq dX3_readsNextOrder_262 (tgt := 269) rfl (fun h262 => absurd h262 ((by decide))) (fun _ => ?_)
  refine r_iconst dX3_readsNextOrder_265 (v := 1) rfl ?_
  refine r_goto dX3_readsNextOrder_266 (tgt := 270) rfl ?_
  exact e_i dX3_readsNextOrder_270 rfl (by first | rfl | exact bi_nar _) (by first | rfl | simp [bi, *]) rfl
theorem rC_x (hR : RDp hp len) (hpl : p < 100) (hf : f 1 = nI p) (h107 : ¬ cF hp len p = 107) (h98 : ¬ cF hp len p = 98) (h114 : ¬ cF hp len p = 114) (h117 : ¬ cF hp len p = 117) (h109 : ¬ cF hp len p = 109) (h122 : ¬ cF hp len p = 122) (h108 : ¬ cF hp len p = 108) (h116 : ¬ cF hp len p = 116) : V g mX3_readsNextOrder 0 0 0 0 616 18 [some (vR (14, 0, 0, 0))] [] RP (RQ hp f) (Pi 0 (RQ hp (up f 2 (cF hp len p)))) := by
  have hCH := cF_ch (len := len) (p := p) hR.2.2
  obtain ⟨q, hq, e⟩ := hCH
  have fin : V g mX3_readsNextOrder 0 0 0 0 616 271 [some (vR (14, 0, 0, 0))] [] RP (RQ hp (up f 2 (nI q))) (Pi 0 (RQ hp (up f 2 (nI q)))) := by
    refine r_iconst dX3_readsNextOrder_271 (v := 0) rfl ?_
    exact e_i dX3_readsNextOrder_272 rfl (by first | rfl | exact bi_nar _) (by first | rfl | simp [bi, *]) rfl
  have sw : V g mX3_readsNextOrder 0 0 0 0 616 37 [some (vR (14, 0, 0, 0))] [vI (nI q)] RP (RQ hp (up f 2 (nI q))) (Pi 0 (RQ hp (up f 2 (nI q)))) := by
    have hn : q ≠ 107 ∧ q ≠ 98 ∧ q ≠ 114 ∧ q ≠ 117 ∧ q ≠ 109 ∧ q ≠ 122 ∧ q ≠ 108 ∧ q ≠ 116 := by
      rw [e] at h107 h98 h114 h117 h109 h122 h108 h116
      exact ⟨fun h => h107 (by rw [h]; rfl), fun h => h98 (by rw [h]; rfl), fun h => h114 (by rw [h]; rfl), fun h => h117 (by rw [h]; rfl), fun h => h109 (by rw [h]; rfl), fun h => h122 (by rw [h]; rfl), fun h => h108 (by rw [h]; rfl), fun h => h116 (by rw [h]; rfl)⟩
    by_cases ho : q < 98 ∨ 122 < q
    · refine r_tabOut dX3_readsNextOrder_37 (tgt := 271) (by rw [nI_toInt (by omega)]; omega) rfl fin
    · have hm : q = 99 ∨ q = 100 ∨ q = 101 ∨ q = 102 ∨ q = 103 ∨ q = 104 ∨ q = 105 ∨ q = 106 ∨ q = 110 ∨ q = 111 ∨ q = 112 ∨ q = 113 ∨ q = 115 ∨ q = 118 ∨ q = 119 ∨ q = 120 ∨ q = 121 := by omega
      rcases hm with rfl | rfl | rfl | rfl | rfl | rfl | rfl | rfl | rfl | rfl | rfl | rfl | rfl | rfl | rfl | rfl | rfl <;> exact r_tabIn dX3_readsNextOrder_37 (off := 234) (tgt := 271) (by decide) (by decide) (by decide) rfl fin
  refine r_aload_n dX3_readsNextOrder_18 (i := 0) rfl rfl ?_
  refine r_aload_n dX3_readsNextOrder_19 (i := 0) rfl rfl ?_
  refine r_getR dX3_readsNextOrder_20 f_3_9 rfl rfl rfl lv14 ?_
  refine r_aload_n dX3_readsNextOrder_23 (i := 0) rfl rfl ?_
  refine r_getI dX3_readsNextOrder_24 f_3_15 rfl rfl lv14 ?_
  rw [RQ_1, hf]
  refine sX3_readsNextOrder_27 (Nat.le_refl _) (Nat.le_refl _) rfl lv12 (Nat.le_of_ble_eq_true rfl) (signRQ hR (by omega)) ?_
  rw [e]
  refine r_putI dX3_readsNextOrder_30 f_3_39 rfl rfl lv14 (pk_charN hq) ?_
  refine V.eqH (RQ_s (by decide)) ?_
  refine r_aload_n dX3_readsNextOrder_33 (i := 0) rfl rfl ?_
  refine r_getI dX3_readsNextOrder_34 f_3_39 rfl rfl lv14 ?_
  rw [RQ_2, up_eq]
  exact sw
theorem nI_nm6 {d : Nat} (h : d < 2 ^ 31) : ¬ nI d = -6 := by
  intro e
  have h2 := nI_pos h
  rw [e] at h2
  exact h2 (by decide)
theorem RdC_all (hR : RDp hp len) (hpl : p < 100) (hf : f 1 = nI p) : RdC g hp len p f := by
  by_cases h107 : cF hp len p = 107
  · cases hd : isD (cF hp len (p + 1))
    · refine RdC.mk (rC_k_n hR hpl hf h107 hd) h107 (q := p + 1) (r := none) (by simp [qO, h107, hd]) rfl (by simp [up, f1, fo3]) (by simp [up, f1, fo3]) (fun a e => by cases e)
    · refine RdC.mk (rC_k hR hpl hf h107 hd) h107 (q := (tN (cF hp len) (p + 1) false).2.1) (r := some ((tN (cF hp len) (p + 1) false).1, 0, 0, 0)) (by simp [qO, h107, hd]) rfl (by simp [up, f1, fo3]) (by simp [up, f1, fo3]) (fun a e => by cases e; simp [FLD, up, f1, fo3])
  by_cases h98 : cF hp len p = 98
  · cases hd : isD (cF hp len (p + 1))
    · refine RdC.mk (rC_b_n hR hpl hf h98 hd) h98 (q := p + 1) (r := none) (by simp [qO, h98, hd]) rfl (by simp [up, f1, fo3]) (by simp [up, f1, fo3]) (fun a e => by cases e)
    · refine RdC.mk (rC_b hR hpl hf h98 hd) h98 (q := (tN (cF hp len) (p + 1) false).2.1) (r := some ((tN (cF hp len) (p + 1) false).1, 0, 0, 0)) (by simp [qO, h98, hd]) rfl (by simp [up, f1, fo3]) (by simp [up, f1, fo3]) (fun a e => by cases e; simp [FLD, up, f1, fo3])
  by_cases h114 : cF hp len p = 114
  · cases hd : isD (cF hp len (p + 1))
    · refine RdC.mk (rC_r_n hR hpl hf h114 hd) h114 (q := p + 1) (r := none) (by simp [qO, h114, hd]) rfl (by simp [up, f1, fo3]) (by simp [up, f1, fo3]) (fun a e => by cases e)
    · refine RdC.mk (rC_r hR hpl hf h114 hd) h114 (q := p + 2) (r := some (cF hp len (p + 1) - 48, 0, 0, 0)) (by simp [qO, h114, hd]) rfl (by simp [up, f1, fo3]) (by simp [up, f1, fo3]) (fun a e => by cases e; simp [FLD, up, f1, fo3])
  by_cases h117 : cF hp len p = 117
  · cases hd : isD (cF hp len (p + 1))
    · refine RdC.mk (rC_u_n hR hpl hf h117 hd) h117 (q := p + 1) (r := none) (by simp [qO, h117, hd]) rfl (by simp [up, f1, fo3]) (by simp [up, f1, fo3]) (fun a e => by cases e)
    · refine RdC.mk (rC_u hR hpl hf h117 hd) h117 (q := p + 2) (r := some (cF hp len (p + 1) - 48, 0, 0, 0)) (by simp [qO, h117, hd]) rfl (by simp [up, f1, fo3]) (by simp [up, f1, fo3]) (fun a e => by cases e; simp [FLD, up, f1, fo3])
  by_cases h109 : cF hp len p = 109
  · cases hd : isD (cF hp len (p + 1))
    · refine RdC.mk (rC_m_n hR hpl hf h109 hd) h109 (q := p + 1) (r := none) (by simp [qO, h109, hd]) rfl (by simp [up, f1, fo3]) (by simp [up, f1, fo3]) (fun a e => by cases e)
    · refine RdC.mk (rC_m hR hpl hf h109 hd) h109 (q := p + 2) (r := some (cF hp len (p + 1) - 48, 0, 0, 0)) (by simp [qO, h109, hd]) rfl (by simp [up, f1, fo3]) (by simp [up, f1, fo3]) (fun a e => by cases e; simp [FLD, up, f1, fo3])
  by_cases h122 : cF hp len p = 122
  · cases hd : fIn (cF hp len (p + 1)) 97 98
    · refine RdC.mk (rC_z_n hR hpl hf h122 hd) h122 (q := p + 1) (r := none) (by simp [qO, h122, hd]) rfl (by simp [up, f1, fo3]) (by simp [up, f1, fo3]) (fun a e => by cases e)
    · refine RdC.mk (rC_z hR hpl hf h122 hd) h122 (q := p + 2) (r := some (cF hp len (p + 1) - 97, 0, 0, 0)) (by simp [qO, h122, hd]) rfl (by simp [up, f1, fo3]) (by simp [up, f1, fo3]) (fun a e => by cases e; simp [FLD, up, f1, fo3])
  by_cases h108 : cF hp len p = 108
  · cases hd : fIn (cF hp len (p + 1)) 97 98
    · refine RdC.mk (rC_l_n1 hR hpl hf h108 hd) h108 (q := p + 1) (r := none) (by simp [qO, h108, hd]) rfl (by simp [up, f1, fo3]) (by simp [up, f1, fo3]) (fun a e => by cases e)
    · cases hd2 : isD (cF hp len (p + 2))
      · refine RdC.mk (rC_l_n2 hR hpl hf h108 hd hd2) h108 (q := p + 2) (r := none) (by simp [qO, h108, hd, hd2]) rfl (by simp [up, f1, fo3]) (by simp [up, f1, fo3]) (fun a e => by cases e)
      · by_cases hd3 : cF hp len (p + 3) = 43
        · cases hd4 : isD (cF hp len (p + 4))
          · refine RdC.mk (rC_l_n4 hR hpl hf h108 hd hd2 hd3 hd4) h108 (q := p + 4) (r := none) (by simp [qO, h108, hd, hd2, hd3, hd4]) rfl (by simp [up, f1, fo3]) (by simp [up, f1, fo3]) (fun a e => by cases e)
          · by_cases hd5 : cF hp len (tN (cF hp len) (p + 4) false).2.1 = 44
            · cases hd6 : isD (cF hp len ((tN (cF hp len) (p + 4) false).2.1 + 1))
              · refine RdC.mk (rC_l_n5 hR hpl hf h108 hd hd2 hd3 hd4 hd5 hd6) h108 (q := (tN (cF hp len) (p + 4) false).2.1 + 1) (r := none) (by simp [qO, h108, hd, hd2, hd3, hd4, hd5, hd6]) rfl (by simp [up, f1, fo3]) (by simp [up, f1, fo3]) (fun a e => by cases e)
              · refine RdC.mk (rC_l_o2 hR hpl hf h108 hd hd2 hd3 hd4 hd5 hd6) h108 (q := (tN (cF hp len) ((tN (cF hp len) (p + 4) false).2.1 + 1) false).2.1) (r := some (cF hp len (p + 1) - 97, cF hp len (p + 2) - 48, (tN (cF hp len) (p + 4) false).1, (tN (cF hp len) ((tN (cF hp len) (p + 4) false).2.1 + 1) false).1)) (by simp [qO, h108, hd, hd2, hd3, hd4, hd5, hd6]) rfl (by simp [up, f1, fo3]) (by simp [up, f1, fo3]) (fun a e => by cases e; simp [FLD, up, f1, fo3])
            · refine RdC.mk (rC_l_o1 hR hpl hf h108 hd hd2 hd3 hd4 hd5) h108 (q := (tN (cF hp len) (p + 4) false).2.1) (r := some (cF hp len (p + 1) - 97, cF hp len (p + 2) - 48, (tN (cF hp len) (p + 4) false).1, 0)) (by simp [qO, h108, hd, hd2, hd3, hd4, hd5]) rfl (by simp [up, f1, fo3]) (by simp [up, f1, fo3]) (fun a e => by cases e; simp [FLD, up, f1, fo3])
        · refine RdC.mk (rC_l_n3 hR hpl hf h108 hd hd2 hd3) h108 (q := p + 3) (r := none) (by simp [qO, h108, hd, hd2, hd3]) rfl (by simp [up, f1, fo3]) (by simp [up, f1, fo3]) (fun a e => by cases e)
  by_cases h116 : cF hp len p = 116
  · cases hd : fIn (cF hp len (p + 1)) 97 98
    · refine RdC.mk (rC_t_n1 hR hpl hf h116 hd) h116 (q := p + 1) (r := none) (by simp [qO, h116, hd]) rfl (by simp [up, f1, fo3]) (by simp [up, f1, fo3]) (fun a e => by cases e)
    · cases hd2 : isD (cF hp len (p + 2))
      · refine RdC.mk (rC_t_n2 hR hpl hf h116 hd hd2) h116 (q := p + 2) (r := none) (by simp [qO, h116, hd, hd2]) rfl (by simp [up, f1, fo3]) (by simp [up, f1, fo3]) (fun a e => by cases e)
      · by_cases hd3 : cF hp len (p + 3) = 46
        · cases hd4 : isD (cF hp len (p + 4))
          · refine RdC.mk (rC_t_n3 hR hpl hf h116 hd hd2 hd3 hd4) h116 (q := p + 4) (r := none) (by simp [qO, h116, hd, hd2, hd3, hd4]) rfl (by simp [up, f1, fo3]) (by simp [up, f1, fo3]) (fun a e => by cases e)
          · obtain ⟨v, hv, ev⟩ := tN_val (c := cF hp len) hd4
            have hv6 : ¬ (tN (cF hp len) (p + 4) false).1 = -6 := by rw [ev]; exact nI_nm6 (by omega)
            refine RdC.mk (rC_t_o2 hR hpl hf h116 hd hd2 hd3 hd4) h116 (q := (tN (cF hp len) (p + 4) false).2.1) (r := some (cF hp len (p + 1) - 97, cF hp len (p + 2) - 48, (tN (cF hp len) (p + 4) false).1, 0)) (by simp [qO, h116, hd, hd2, hd3, hd4]) rfl (by simp [up, f1, fo3]) (by simp [up, f1, fo3]) (fun a e => by cases e; simp [FLD, up, f1, fo3, hv6])
        · refine RdC.mk (rC_t_o1 hR hpl hf h116 hd hd2 hd3) h116 (q := p + 3) (r := some (cF hp len (p + 1) - 97, cF hp len (p + 2) - 48, -6, 0)) (by simp [qO, h116, hd, hd2, hd3]) rfl (by simp [up, f1, fo3]) (by simp [up, f1, fo3]) (fun a e => by cases e; simp [FLD, up, f1, fo3])
  exact RdC.mk (rC_x hR hpl hf h107 h98 h114 h117 h109 h122 h108 h116) rfl (q := p) (r := none) (by simp [qO, h107, h98, h114, h117, h109, h122, h108, h116]) rfl (by simp [up, hf]) (by simp [up]) (fun a e => by cases e)
end RDO
/-- facts of an order read: it ends within the text, and takes two signs at least -/
theorem tN_len {c : Nat → Int32} {len p : Nat} (hc : ∀ i, ¬ c i = 0 → i < len) (hd : isD (c p) = true) : p + 1 ≤ (tN c p false).2.1 ∧ (tN c p false).2.1 ≤ len := by
  have h0 : p < len := hc p (isD_n0 hd)
  unfold tN
  rw [if_neg (by simp [hd])]
  split
  · exact ⟨Nat.le_refl _, h0⟩
  · split
    · exact ⟨Nat.le_refl _, h0⟩
    next h2 =>
      have h1 : p + 1 < len := hc _ (isD_n0 (by simpa using h2))
      split
      · exact ⟨by simp, h1⟩
      next h3 => exact ⟨by simp, hc (p + 2) (isD_n0 (by simpa using h3))⟩
theorem st_n0 {x : Int32} (h : fIn x 97 98 = true) : ¬ x = 0 := by
  intro h0
  subst h0
  revert h
  decide
theorem qO_some {c : Nat → Int32} {len p : Nat} (hc : ∀ i, ¬ c i = 0 → i < len) {a : Int32 × Int32 × Int32 × Int32} (h : (qO c p).2 = some a) : p + 2 ≤ (qO c p).1 ∧ (qO c p).1 ≤ len := by
  have hn : ∀ {i}, isD (c i) = true → i + 1 ≤ (tN c i false).2.1 ∧ (tN c i false).2.1 ≤ len := fun h => tN_len hc h
  have hs : ∀ {i}, isD (c i) = true → i < len := fun h => hc _ (isD_n0 h)
  have ht : ∀ {i}, fIn (c i) 97 98 = true → i < len := fun h => hc _ (st_n0 h)
  generalize hr : qO c p = r at h ⊢
  unfold qO at hr
  by_cases k1 : c p = 107 ∨ c p = 98
  · rw [if_pos k1] at hr
    by_cases hd : isD (c (p + 1)) = true
    · rw [if_pos hd] at hr
      subst hr
      exact ⟨(hn hd).1, (hn hd).2⟩
    · rw [if_neg hd] at hr
      subst hr
      cases h
  rw [if_neg k1] at hr
  by_cases k2 : c p = 114 ∨ c p = 117 ∨ c p = 109
  · rw [if_pos k2] at hr
    by_cases hd : isD (c (p + 1)) = true
    · rw [if_pos hd] at hr
      subst hr
      exact ⟨Nat.le_refl _, hs hd⟩
    · rw [if_neg hd] at hr
      subst hr
      cases h
  rw [if_neg k2] at hr
  by_cases k3 : c p = 122
  · rw [if_pos k3] at hr
    by_cases hd : fIn (c (p + 1)) 97 98 = true
    · rw [if_pos hd] at hr
      subst hr
      exact ⟨Nat.le_refl _, ht hd⟩
    · rw [if_neg hd] at hr
      subst hr
      cases h
  rw [if_neg k3] at hr
  by_cases k4 : c p = 108 ∨ c p = 116
  · rw [if_pos k4] at hr
    by_cases hd : fIn (c (p + 1)) 97 98 = true
    · rw [if_pos hd] at hr
      by_cases hd2 : isD (c (p + 2)) = true
      · rw [if_pos hd2] at hr
        have q2 := hs hd2
        by_cases k5 : c p = 108
        · rw [if_pos k5] at hr
          by_cases k6 : c (p + 3) = 43
          · rw [if_pos k6] at hr
            by_cases hd4 : isD (c (p + 4)) = true
            · rw [if_pos hd4] at hr
              have q4 := hn hd4
              by_cases k7 : c (tN c (p + 4) false).2.1 = 44
              · rw [if_pos k7] at hr
                by_cases hd6 : isD (c ((tN c (p + 4) false).2.1 + 1)) = true
                · rw [if_pos hd6] at hr
                  have q6 := hn hd6
                  subst hr
                  exact ⟨by show p + 2 ≤ (tN c _ false).2.1; omega, q6.2⟩
                · rw [if_neg hd6] at hr
                  subst hr
                  cases h
              · rw [if_neg k7] at hr
                subst hr
                exact ⟨by show p + 2 ≤ (tN c _ false).2.1; omega, q4.2⟩
            · rw [if_neg hd4] at hr
              subst hr
              cases h
          · rw [if_neg k6] at hr
            subst hr
            cases h
        · rw [if_neg k5] at hr
          by_cases k6 : c (p + 3) = 46
          · rw [if_pos k6] at hr
            by_cases hd4 : isD (c (p + 4)) = true
            · rw [if_pos hd4] at hr
              have q4 := hn hd4
              subst hr
              exact ⟨by show p + 2 ≤ (tN c _ false).2.1; omega, q4.2⟩
            · rw [if_neg hd4] at hr
              subst hr
              cases h
          · rw [if_neg k6] at hr
            subst hr
            exact ⟨by show p + 2 ≤ p + 3; omega, by show p + 3 ≤ len; omega⟩
      · rw [if_neg hd2] at hr
        subst hr
        cases h
    · rw [if_neg hd] at hr
      subst hr
      cases h
  rw [if_neg k4] at hr
  subst hr
  cases h
theorem cF_n0 {hp : HPt} {len : Nat} : ∀ i, ¬ cF hp len i = 0 → i < len := fun _ h => cF_lt rfl h
section RDN
variable {g : Gh} {hp : HPt} {len p : Nat} {f : Nat → Int32}
/-- an order behind another one, or the first one -/
theorem tX3_rN_0 (hR : RDp hp len) (hf : f 1 = nI 0) : ∃ f2, Ci g mX3_readsNextOrder [vR (14, 0, 0, 0)] (RQ hp f) (bi (qO (cF hp len) 0).2.isSome) (RQ hp f2) ∧ f2 1 = nI (qO (cF hp len) 0).1 ∧ f2 2 = cF hp len 0 ∧ ∀ a, (qO (cF hp len) 0).2 = some a → FLD f2 (cF hp len 0) a := by
  obtain ⟨f2, h1, h2, h3, h4⟩ := RdC_all (g := g) hR (p := 0) (by decide) hf
  refine ⟨f2, ?_, h2, h3, h4⟩
  unfold Ci
  refine r_aload_n dX3_readsNextOrder_0 (i := 0) rfl rfl ?_
  refine r_getI dX3_readsNextOrder_1 f_3_15 rfl rfl lv14 ?_
  refine r_if_le dX3_readsNextOrder_4 (tgt := 18) rfl (fun _ => ?_) (fun h4 => absurd ((by rw [RQ_1, hf]; decide)) h4)
  exact h1
theorem tX3_rN_s (hR : RDp hp len) (hp0 : 0 < p) (hpl : p < 99) (hf : f 1 = nI p) (hs : cF hp len p = 59) : ∃ f2, Ci g mX3_readsNextOrder [vR (14, 0, 0, 0)] (RQ hp f) (bi (qO (cF hp len) (p + 1)).2.isSome) (RQ hp f2) ∧ f2 1 = nI (qO (cF hp len) (p + 1)).1 ∧ f2 2 = cF hp len (p + 1) ∧ ∀ a, (qO (cF hp len) (p + 1)).2 = some a → FLD f2 (cF hp len (p + 1)) a := by
  obtain ⟨f2, h1, h2, h3, h4⟩ := RdC_all (g := g) (f := up f 1 (nI (p + 1))) hR (p := p + 1) (by omega) up_eq
  refine ⟨f2, ?_, h2, h3, h4⟩
  unfold Ci
  refine r_aload_n dX3_readsNextOrder_0 (i := 0) rfl rfl ?_
  refine r_getI dX3_readsNextOrder_1 f_3_15 rfl rfl lv14 ?_
  refine r_if_le dX3_readsNextOrder_4 (tgt := 18) rfl (fun h4 => absurd h4 ((by rw [RQ_1, hf]; exact nI_nle hp0 (by omega)))) (fun _ => ?_)
  refine r_aload_n dX3_readsNextOrder_7 (i := 0) rfl rfl ?_
  refine r_bipush dX3_readsNextOrder_8 (v := 59) rfl ?_
  refine sX3_readsNextOrder_10 (Nat.le_refl _) (Nat.le_refl _) rfl lv14 (Nat.le_of_ble_eq_true rfl) (tX3_reads hR (by omega) hf hs) ?_
  refine r_if_ne dX3_readsNextOrder_13 (tgt := 18) rfl (fun _ => ?_) (fun h13 => absurd h13 ((by decide)))
  exact h1
theorem tX3_rN_n (hR : RDp hp len) (hp0 : 0 < p) (hpl : p < 99) (hf : f 1 = nI p) (hs : ¬ cF hp len p = 59) : Ci g mX3_readsNextOrder [vR (14, 0, 0, 0)] (RQ hp f) 0 (RQ hp f) := by
  unfold Ci
  refine r_aload_n dX3_readsNextOrder_0 (i := 0) rfl rfl ?_
  refine r_getI dX3_readsNextOrder_1 f_3_15 rfl rfl lv14 ?_
  refine r_if_le dX3_readsNextOrder_4 (tgt := 18) rfl (fun h4 => absurd h4 ((by rw [RQ_1, hf]; exact nI_nle hp0 (by omega)))) (fun _ => ?_)
  refine r_aload_n dX3_readsNextOrder_7 (i := 0) rfl rfl ?_
  refine r_bipush dX3_readsNextOrder_8 (v := 59) rfl ?_
  refine sX3_readsNextOrder_10 (Nat.le_refl _) (Nat.le_refl _) rfl lv14 (Nat.le_of_ble_eq_true rfl) (tX3_reads_n hR (by omega) hf hs) ?_
  refine r_if_ne dX3_readsNextOrder_13 (tgt := 18) rfl (fun h13 => absurd (rfl) h13) (fun _ => ?_)
  refine r_iconst dX3_readsNextOrder_16 (v := 0) rfl ?_
  exact e_i dX3_readsNextOrder_17 rfl (by first | rfl | exact bi_nar _) (by first | rfl | simp [bi, *]) rfl
/-- the text's fault, from the order at p on; k orders are looked at -/
def qF (c : Nat → Int32) (len : Nat) : Nat → Nat → Option Nat
  | 0, _ => none
  | k + 1, p => if (qO c p).2 = none then some (qO c p).1 else if (qO c p).1 = len then none else if c (qO c p).1 = 59 then qF c len k ((qO c p).1 + 1) else some (qO c p).1
def fAns (q : Option Nat) : Int32 := match q with
  | none => -6
  | some p => nI p
theorem isS_n {α : Type} {q : Option α} (h : ¬ q = none) : bi q.isSome = 1 := by
  cases q
  · exact absurd rfl h
  · rfl
end RDN
