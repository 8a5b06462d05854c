section CO
variable {g : Gh} {hp : HPt} {o z len n : Nat}
theorem INV_rq {f : Nat → Int32} (hI : INVp hp o z len n) (hc : okc (f 2)) : INVp (RQ hp f) o z len n := by
  have e : ∀ a, a ≠ (14, 0, 0, 0) → RQ hp f a = hp a := fun a h => by funext i; exact RQ_a h
  refine INV_no hI (RQ_WT hI.1 hc) ?_ (fun a h _ _ => e a (cls_ne h (by decide))) (e _ (by decide)) (by rw [e _ (by decide)]) (e _ (by decide)) (fun a h => e a (fun q => by rw [q] at h; revert h; decide)) (hI.2.2.2.2.2.2.cg (by rw [e _ (by decide)]) (by rw [e _ (by decide)]) (e _ (by decide)) (e _ (by decide)))
  rw [e (17, 0, 0, 0) (by decide)]
  exact hI.2.1.same (fun a h _ => e a (cls_ne h (by decide))) (fun _ _ => rfl)
theorem PQ_WT {p : Nat} {w : Bool} {o2 : Nat → Int32} (hW : WT hp) : WT (PQ hp p w o2) := by
  intro a i
  by_cases h9 : a = (16, 0, 0, 0) ∧ i = 9
  · obtain ⟨rfl, rfl⟩ := h9
    rw [PQ_9]
    exact okv_bi rfl
  · by_cases h8 : a = (16, 0, 0, 0) ∧ i = 8
    · obtain ⟨rfl, rfl⟩ := h8
      exact okv_free rfl rfl
    · by_cases h23 : a = (23, 0, 0, 0)
      · subst h23
        exact okv_free rfl rfl
      · have e : PQ hp p w o2 a i = hp a i := by
          unfold PQ
          rw [if_neg h8, if_neg h9, if_neg (fun h => h23 h.1)]
        rw [e]
        exact hW a i
theorem INV_pq {p : Nat} {w : Bool} {o2 : Nat → Int32} (hI : INVp hp o z len n) : INVp (PQ hp p w o2) o z len n := by
  have e : ∀ a, a ≠ (16, 0, 0, 0) → a ≠ (23, 0, 0, 0) → PQ hp p w o2 a = hp a := fun a h h2 => by funext i; exact PQ_a h h2
  refine INV_no hI (PQ_WT hI.1) ?_ (fun a h _ _ => e a (cls_ne h (by decide)) (cls_ne h (by decide))) (e _ (by decide) (by decide)) PQ_2 (e _ (by decide) (by decide)) (fun a h => e a (fun q => by rw [q] at h; revert h; decide) (fun q => by rw [q] at h; revert h; decide)) (hI.2.2.2.2.2.2.cg (by rw [e _ (by decide) (by decide)]) PQ_6 (e _ (by decide) (by decide)) (e _ (by decide) (by decide)))
  rw [e (17, 0, 0, 0) (by decide) (by decide)]
  exact hI.2.1.same (fun a h _ => e a (cls_ne h (by decide)) (cls_ne h (by decide))) (fun _ _ => rfl)
theorem cRf_of {h : HPt} (e : h (21, 0, 0, 0) = hp (21, 0, 0, 0)) (hP : PAD hp len) : cRf h len = cF hp len := by
  rw [← cF_eq hP]
  funext p
  unfold cRf
  rw [e]
theorem LK_carry_e {p : Nat} (hI : INVp hp o z len n) (hq : qF (cF hp len) len 80 0 = some p) : FCE g mX6_carryOut mX7_carryOut [] hp := by
  have hP := hI.2.2.2.2.2.2
  have hRD : RDp hp len := ⟨hP.1, hP.2.1, hI.1⟩
  obtain ⟨f2, C, hc⟩ := tX3_firstFault (g := g) (f := hp (14, 0, 0, 0)) hRD ((hI.1 (14, 0, 0, 0) 2).2 rfl)
  rw [RQ_self, hq] at C
  have hpb := qF_b hP.1 cF_n0 80 0 p (Nat.zero_le _) hq
  have hp80 := hP.1
  have hn6 : ¬ fAns (some p) = -6 := nI_nm6 (by omega)
  have e1 : ∀ a, a ≠ (14, 0, 0, 0) → RQ hp f2 a = hp a := fun a h => by funext i; exact RQ_a h
  obtain ⟨n2, p2, w2, o2, hV, hQ⟩ := tX7_goesF (g := g) (hp := RQ hp f2) hP.1 (by rw [e1 _ (by decide)]; exact hP.2.2.1)
  rw [cRf_of (e1 _ (by decide)) hP, hq] at hQ
  obtain ⟨rfl, -⟩ := hQ
  refine ⟨-3, RQ hp f2, PQ (RQ hp f2) p2 true o2, ?_, ?_, o, z, len, n, INV_pq (INV_rq hI hc)⟩
  · unfold Ci
    refine r_aload_n dX6_carryOut_0 (i := 0) rfl rfl ?_
    refine r_getR dX6_carryOut_1 f_6_43 rfl rfl rfl lv15 ?_
    refine sX6_carryOut_4 (Nat.le_refl _) (Nat.le_refl _) rfl lv14 (Nat.le_of_ble_eq_true rfl) (C) ?_
    refine r_bipush dX6_carryOut_7 (v := (-6)) rfl ?_
    refine r_icmp_eq dX6_carryOut_9 (tgt := 15) rfl (fun h9 => absurd h9 (hn6)) (fun _ => ?_)
    refine r_bipush dX6_carryOut_12 (v := (-3)) rfl ?_
    exact e_i dX6_carryOut_14 rfl (by first | rfl | exact bi_nar _) (by first | rfl | simp [bi, *]) rfl
  · unfold Ci
    refine r_aload_n dX7_carryOut_0 (i := 0) rfl rfl ?_
    refine r_iconst dX7_carryOut_1 (v := 0) rfl ?_
    refine sX7_carryOut_2 (Nat.le_refl _) (Nat.le_refl _) rfl lv16 (Nat.le_of_ble_eq_true rfl) (hV) ?_
    refine r_istore_n dX7_carryOut_5 (i := 1) rfl (Nat.le_of_ble_eq_true rfl) rfl rfl ?_
    refine r_aload_n dX7_carryOut_6 (i := 0) rfl rfl ?_
    refine r_getI dX7_carryOut_7 f_7_159 rfl rfl lv16 ?_
    refine r_if_eq dX7_carryOut_10 (tgt := 16) rfl (fun h10 => absurd h10 ((by rw [PQ_9]; decide))) (fun _ => ?_)
    refine r_bipush dX7_carryOut_13 (v := (-3)) rfl ?_
    exact e_i dX7_carryOut_15 rfl (by first | rfl | exact bi_nar _) (by first | rfl | simp [bi, *]) rfl
theorem LK_carry_o (hI0 : INVp hp o z len n) (hq : qF (cF hp len) len 80 0 = none) : FCE g mX6_carryOut mX7_carryOut [] hp := by
  have hP0 := hI0.2.2.2.2.2.2
  have hRD : RDp hp len := ⟨hP0.1, hP0.2.1, hI0.1⟩
  obtain ⟨f2, C, hc⟩ := tX3_firstFault (g := g) (f := hp (14, 0, 0, 0)) hRD ((hI0.1 (14, 0, 0, 0) 2).2 rfl)
  rw [RQ_self, hq] at C
  have hI := INV_rq hI0 hc
  have ecF : cF (RQ hp f2) len = cF hp len := by
    funext p
    unfold cF
    rw [RQ_a (by decide)]
  rw [← ecF] at hq
  generalize RQ hp f2 = h1 at *
  obtain ⟨hW, hR, hH, h16, hHi, hS, hP⟩ := id hI
  have eH : ∀ a, (a.2.1 = 0 ∨ 8 ≤ a.1) → CPS h1 (hrow o z + 1) 0 a = h1 a := fun a h => drf_a hI h
  have eH2 : ∀ a, a ≠ (14, 0, 0, 0) → RQ (CPS h1 (hrow o z + 1) 0) (up (h1 (14, 0, 0, 0)) 1 (nI 0)) a = CPS h1 (hrow o z + 1) 0 a := fun a h => by funext i; exact RQ_a h
  have hD1 := tX1_draft (g := g) hH hW
  have hGo := tX3_goToStart (g := g) (hp := CPS h1 (hrow o z + 1) 0) (f := CPS h1 (hrow o z + 1) 0 (14, 0, 0, 0))
  rw [RQ_self, eH _ (Or.inr (by decide))] at hGo
  have hW2 : WT (RQ (CPS h1 (hrow o z + 1) 0) (up (h1 (14, 0, 0, 0)) 1 (nI 0))) := RQ_WT (CPS_WT hW) (by rw [up_ne (by decide)]; exact (hW (14, 0, 0, 0) 2).2 rfl)
  have h214 : RQ (CPS h1 (hrow o z + 1) 0) (up (h1 (14, 0, 0, 0)) 1 (nI 0)) (14, 0, 0, 0) 1 = nI 0 := by rw [RQ_1, up_eq]
  generalize hh2 : RQ (CPS h1 (hrow o z + 1) 0) (up (h1 (14, 0, 0, 0)) 1 (nI 0)) = h2 at *
  have h212 : h2 (12, 0, 0, 0) 1 = nI len := by rw [eH2 _ (by decide), eH _ (Or.inr (by decide))]; exact hP.2.1
  have h2c : cF h2 len = cF h1 len := by
    funext p
    unfold cF
    rw [eH2 _ (by decide), eH _ (Or.inr (by decide))]
  have hread := tX3_rN_0 (g := g) (hp := h2) (len := len) (f := h2 (14, 0, 0, 0)) ⟨hP.1, h212, hW2⟩ h214
  rw [RQ_self, h2c] at hread
  have hR2 : Rep h2 0 (h1 (17, 0, 0, 0)) n := hR.same (fun a h h0 => by rw [eH2 a (cls_ne h (by decide)), eH a (Or.inl h0)]) (fun _ _ => rfl)
  obtain ⟨q, hA, s2, n2, hq80, hCls, hWA, hX, hRA, hRf⟩ := cry (g := g) hP.1 cF_n0 80 0 0 h2 (h1 (17, 0, 0, 0)) n rfl (Nat.le_refl _) (Nat.zero_le _) hq hW2 hR2 h212 h2c hread
  have eA : ∀ a, 8 ≤ a.1 → a ≠ (14, 0, 0, 0) → hA a = h1 a := fun a h h14 => by
    rw [hX a (by omega) h14, eH2 a h14, eH a (Or.inr h)]
  have hpos : ¬ nI q < 0 := nI_pos (by omega)
  have hNA : HN (hset hA (12, 0, 0, 0) 1 0) o z := by
    obtain ⟨k1, k2, k3, k4⟩ := hH
    exact ⟨k1, k2, by rw [hs_a (by decide), eA _ (by decide) (by decide)]; exact k3, by rw [hs_a (by decide), eA _ (by decide) (by decide)]; exact k4⟩
  have hRec := tX6_recorded (g := g) (a := nI q) hpos hNA
  have hClr : Ci g mX2_clear [vR (12, 0, 0, 0)] hA (hA (12, 0, 0, 0) 1) (hset hA (12, 0, 0, 0) 1 0) := by
    unfold Ci
    refine r_aload_n dX2_clear_0 (i := 0) rfl rfl ?_
    refine r_getI dX2_clear_1 f_2_19 rfl rfl lv12 ?_
    refine r_istore_n dX2_clear_4 (i := 1) rfl (Nat.le_of_ble_eq_true rfl) rfl rfl ?_
    refine r_aload_n dX2_clear_5 (i := 0) rfl rfl ?_
    refine r_iconst dX2_clear_6 (v := 0) rfl ?_
    refine r_putI dX2_clear_7 f_2_19 rfl rfl lv12 ⟨rfl, rfl⟩ ?_
    refine r_iload_n dX2_clear_10 (i := 1) rfl rfl ?_
    exact e_i dX2_clear_11 rfl (by first | rfl | exact bi_nar _) (by first | rfl | simp [bi, *]) rfl
  have hend : V g mX6_carryOut 0 0 0 0 616 64 [some (vR (15, 0, 0, 0)), some (vI (nI q))] [] RP hA (Pi (nI q) (recH (hset hA (12, 0, 0, 0) 1 0) o z)) := by
    refine r_aload_n dX6_carryOut_64 (i := 0) rfl rfl ?_
    refine r_getR dX6_carryOut_65 f_6_34 rfl rfl rfl lv15 ?_
    refine sX6_carryOut_68 (Nat.le_refl _) (Nat.le_refl _) rfl lv12 (Nat.le_of_ble_eq_true rfl) (hClr) ?_
    refine r_pop dX6_carryOut_71 rfl ?_
    refine r_aload_n dX6_carryOut_72 (i := 0) rfl rfl ?_
    refine r_iload_n dX6_carryOut_73 (i := 1) rfl rfl ?_
    refine sX6_carryOut_74 (Nat.le_refl _) (Nat.le_refl _) rfl lv15 (Nat.le_of_ble_eq_true rfl) (hRec) ?_
    exact e_i dX6_carryOut_77 rfl (by first | rfl | exact bi_nar _) (by first | rfl | simp [bi, *]) rfl
  have hloop := hCls _ hend
  have hC : Ci g mX6_carryOut [vR (15, 0, 0, 0)] hp (nI q) (recH (hset hA (12, 0, 0, 0) 1 0) o z) := by
    unfold Ci
    refine r_aload_n dX6_carryOut_0 (i := 0) rfl rfl ?_
    refine r_getR dX6_carryOut_1 f_6_43 rfl rfl rfl lv15 ?_
    refine sX6_carryOut_4 (Nat.le_refl _) (Nat.le_refl _) rfl lv14 (Nat.le_of_ble_eq_true rfl) (C) ?_
    refine r_bipush dX6_carryOut_7 (v := (-6)) rfl ?_
    refine r_icmp_eq dX6_carryOut_9 (tgt := 15) rfl (fun _ => ?_) (fun h9 => absurd (rfl) h9)
    refine r_aload_n dX6_carryOut_15 (i := 0) rfl rfl ?_
    refine r_getR dX6_carryOut_16 f_6_19 rfl rfl rfl lv15 ?_
    refine r_aload_n dX6_carryOut_19 (i := 0) rfl rfl ?_
    refine r_getR dX6_carryOut_20 f_6_12 rfl rfl rfl lv15 ?_
    refine sX6_carryOut_23 (Nat.le_refl _) (Nat.le_refl _) rfl lv8 (Nat.le_of_ble_eq_true rfl) (hD1) ?_
    refine r_aload_n dX6_carryOut_26 (i := 0) rfl rfl ?_
    refine r_getR dX6_carryOut_27 f_6_43 rfl rfl rfl lv15 ?_
    refine sX6_carryOut_30 (Nat.le_refl _) (Nat.le_refl _) rfl lv14 (Nat.le_of_ble_eq_true rfl) (hGo) ?_
    refine r_iconst dX6_carryOut_33 (v := 0) rfl ?_
    refine r_istore_n dX6_carryOut_34 (i := 1) rfl (Nat.le_of_ble_eq_true rfl) rfl rfl ?_
    exact hloop
  have eF : ∀ a, a ≠ (8, 0, 0, 0) → a ≠ (12, 0, 0, 0) → recH (hset hA (12, 0, 0, 0) 1 0) o z a = hA a := fun a h8 h12 => by
    funext i
    unfold recH
    split
    · rw [hs_a h8, hs_a h12]
    · rw [hs_a h8, hs_a h12]
  have e8F : ∀ i, recH (hset hA (12, 0, 0, 0) 1 0) o z (8, 0, 0, 0) i = recH h1 o z (8, 0, 0, 0) i := fun i => recH_8 (by funext k; rw [hs_a (by decide), eA _ (by decide) (by decide)])
  have e12F : recH (hset hA (12, 0, 0, 0) 1 0) o z (12, 0, 0, 0) 1 = 0 := by
    unfold recH
    split
    · rw [hs_a (by decide), hs_eq]
    · rw [hs_a (by decide), hs_eq]
  generalize recH (hset hA (12, 0, 0, 0) 1 0) o z = hF at *
  have eFh : ∀ a, 9 ≤ a.1 → a ≠ (12, 0, 0, 0) → a ≠ (14, 0, 0, 0) → hF a = h1 a := fun a h h12 h14 => by rw [eF a (fun e => by rw [e] at h; revert h; decide) h12, eA a (by omega) h14]
  obtain ⟨m2, p2, w2, o2, hV, hQ⟩ := tX7_goesF (g := g) (hp := hF) (len := len) hP.1 (by rw [eFh _ (by decide) (by decide) (by decide)]; exact hP.2.2.1)
  rw [cRf_of (eFh _ (by decide) (by decide) (by decide)) hP, hq] at hQ
  have hw : w2 = false := hQ
  subst hw
  have hRcd := tX7_record (g := g) (z := z) (hp := PQ hF p2 false o2) hH.2.1 (by rw [PQ_2, eFh _ (by decide) (by decide) (by decide)]; exact h16)
  have eB2 : ∀ a, a ≠ (18, 0, 0, 0) → a ≠ (16, 0, 0, 0) → a ≠ (22, 0, 0, 0) → a ≠ (23, 0, 0, 0) → RPu (lkH (PQ hF p2 false o2)) z a = hF a := fun a h18 h16 h22 h23 => by
    rw [RPu_a h18 h16, lkH_a h22]
    funext i
    exact PQ_a h16 h23
  have eB26 : ∀ i, i ≠ 2 → i ≠ 8 → i ≠ 9 → RPu (lkH (PQ hF p2 false o2)) z (16, 0, 0, 0) i = hF (16, 0, 0, 0) i := fun i h2 h8 h9 => by
    rw [RPu_16 h2, lkH_a (by decide)]
    simp [PQ, h8, h9]
  have hY0 : YES h1 (RPu (lkH (PQ hF p2 false o2)) z) z := RPu_YES hH.2.1 (by
    rw [lkH_a (by decide)]
    funext i
    rw [PQ_a (by decide) (by decide), eFh _ (by decide) (by decide) (by decide)]) (fun k hk => by rw [lkH_22 hk, PQ_a (by decide) (by decide), eFh _ (by decide) (by decide) (by decide)])
  generalize RPu (lkH (PQ hF p2 false o2)) z = B2 at *
  obtain ⟨hD, hgo, hY, hD17, hD9⟩ := hRf (PQ B2 0 false (B2 (23, 0, 0, 0))) (by
    funext i
    rw [PQ_a (by decide) (by decide), eB2 _ (by decide) (by decide) (by decide) (by decide), eFh _ (by decide) (by decide) (by decide)]) (by rw [PQ_6, eB26 6 (by decide) (by decide) (by decide), eFh _ (by decide) (by decide) (by decide)]; exact hP.2.2.1) (cRf_of (by
    funext i
    rw [PQ_a (by decide) (by decide), eB2 _ (by decide) (by decide) (by decide) (by decide), eFh _ (by decide) (by decide) (by decide)]) hP) PQ_8 PQ_9
  have hGoT : Ci g mX7_goes [vR (16, 0, 0, 0), vI 1] B2 (nI q) hD := by
    unfold Ci
    refine r_aload_n dX7_goes_0 (i := 0) rfl rfl ?_
    refine r_iconst dX7_goes_1 (v := 0) rfl ?_
    refine r_putI dX7_goes_2 f_7_163 rfl rfl lv16 ⟨rfl, rfl⟩ ?_
    refine r_aload_n dX7_goes_5 (i := 0) rfl rfl ?_
    refine r_iconst dX7_goes_6 (v := 0) rfl ?_
    refine r_putI dX7_goes_7 f_7_159 rfl rfl lv16 ⟨rfl, rfl⟩ ?_
    refine V.eqH PQ_in ?_
    refine r_iconst dX7_goes_10 (v := 0) rfl ?_
    refine r_istore_n dX7_goes_11 (i := 2) rfl (Nat.le_of_ble_eq_true rfl) rfl rfl ?_
    refine r_iconst dX7_goes_12 (v := 1) rfl ?_
    refine r_istore_n dX7_goes_13 (i := 3) rfl (Nat.le_of_ble_eq_true rfl) rfl rfl ?_
    exact hgo none none
  have hR7 : Ci g mX7_carryOut [vR (16, 0, 0, 0)] hF (nI q) (hset hD (16, 0, 0, 0) 6 0) := by
    unfold Ci
    refine r_aload_n dX7_carryOut_0 (i := 0) rfl rfl ?_
    refine r_iconst dX7_carryOut_1 (v := 0) rfl ?_
    refine sX7_carryOut_2 (Nat.le_refl _) (Nat.le_refl _) rfl lv16 (Nat.le_of_ble_eq_true rfl) (hV) ?_
    refine r_istore_n dX7_carryOut_5 (i := 1) rfl (Nat.le_of_ble_eq_true rfl) rfl rfl ?_
    refine r_aload_n dX7_carryOut_6 (i := 0) rfl rfl ?_
    refine r_getI dX7_carryOut_7 f_7_159 rfl rfl lv16 ?_
    refine r_if_eq dX7_carryOut_10 (tgt := 16) rfl (fun _ => ?_) (fun h10 => absurd ((PQ_9 : _ = bi false)) h10)
    refine r_aload_n dX7_carryOut_16 (i := 0) rfl rfl ?_
    refine sX7_carryOut_17 (Nat.le_refl _) (Nat.le_refl _) rfl lv16 (Nat.le_of_ble_eq_true rfl) (hRcd) ?_
    refine r_aload_n dX7_carryOut_20 (i := 0) rfl rfl ?_
    refine r_iconst dX7_carryOut_21 (v := 1) rfl ?_
    refine sX7_carryOut_22 (Nat.le_refl _) (Nat.le_refl _) rfl lv16 (Nat.le_of_ble_eq_true rfl) (hGoT) ?_
    refine r_istore_n dX7_carryOut_25 (i := 2) rfl (Nat.le_of_ble_eq_true rfl) rfl rfl ?_
    refine r_aload_n dX7_carryOut_26 (i := 0) rfl rfl ?_
    refine r_iconst dX7_carryOut_27 (v := 0) rfl ?_
    refine r_putI dX7_carryOut_28 f_7_151 rfl rfl lv16 ⟨rfl, rfl⟩ ?_
    refine r_iload_n dX7_carryOut_31 (i := 2) rfl rfl ?_
    exact e_i dX7_carryOut_32 rfl (by first | rfl | exact bi_nar _) (by first | rfl | simp [bi, *]) rfl
  have eZ : ∀ a, a ≠ (16, 0, 0, 0) → a ≠ (17, 0, 0, 0) → a ≠ (18, 0, 0, 0) → a ≠ (22, 0, 0, 0) → a ≠ (23, 0, 0, 0) → hset hD (16, 0, 0, 0) 6 0 a = hF a := fun a h16 h17 h18 h22 h23 => by
    funext i
    rw [hs_a h16, hY.1 a h17 h16 h23, PQ_a h16 h23, eB2 a h18 h16 h22 h23]
  have ecl : ∀ a, a.1 < 8 → hset hD (16, 0, 0, 0) 6 0 a = hA a := fun a h => by
    rw [eZ a (cls_ne h (by decide)) (cls_ne h (by decide)) (cls_ne h (by decide)) (cls_ne h (by decide)) (cls_ne h (by decide)), eF a (cls_ne h (by decide)) (cls_ne h (by decide))]
  refine ⟨nI q, hF, _, hC, hR7, INV_yes (len2 := 0) (n2 := n2) hI ?_ ?_ (fun a h h0 hne => ?_) (fun a h h0 => ?_) ?_ ?_ ?_ (fun a h => ?_) ⟨by decide, ?_, hs_eq, ?_⟩⟩
  · intro a i
    by_cases h9 : a = (16, 0, 0, 0) ∧ i = 9
    · obtain ⟨rfl, rfl⟩ := h9
      rw [hs_i (by decide), hD9]
      exact okv_bi rfl
    · have hx : WT (hset (hset hD (16, 0, 0, 0) 6 0) (16, 0, 0, 0) 9 (hA (16, 0, 0, 0) 9)) := by
        refine hWA.of (fun a i h => ?_)
        by_cases h16 : a = (16, 0, 0, 0)
        · subst h16
          have hi : i = 9 := by
            simp at h
            exact h
          subst hi
          exact hs_eq
        · rw [hs_a h16, eZ a h16 (fun q => by rw [q] at h; revert h; simp) (fun q => by rw [q] at h; revert h; simp) (fun q => by rw [q] at h; revert h; simp) (fun q => by rw [q] at h; revert h; simp), eF a (fun q => by rw [q] at h; revert h; simp) (fun q => by rw [q] at h; revert h; simp)]
      have q := hx a i
      unfold hset at q
      rw [if_neg h9] at q
      exact q
  · rw [show hset hD (16, 0, 0, 0) 6 0 (17, 0, 0, 0) = s2 by rw [← hD17]; funext i; exact hs_a (by decide)]
    exact hRA.same (fun a h _ => ecl a h) (fun _ _ => rfl)
  · rw [ecl a h, hX a (fun e => h0 e.2) (cls_ne h (by decide)), eH2 a (cls_ne h (by decide))]
    funext i
    exact CPS_off (Or.inl hne)
  · rw [ecl a h, hX a (by omega) (cls_ne h (by decide)), eH2 a (cls_ne h (by decide))]
  · rw [eZ _ (by decide) (by decide) (by decide) (by decide) (by decide)]; exact e8F 1
  · rw [eZ _ (by decide) (by decide) (by decide) (by decide) (by decide)]; exact e8F 2
  · have e18 : hset hD (16, 0, 0, 0) 6 0 (18, 0, 0, 0) = B2 (18, 0, 0, 0) := by
      funext i
      rw [hs_a (by decide), hY.1 _ (by decide) (by decide) (by decide), PQ_a (by decide) (by decide)]
    have e162 : hset hD (16, 0, 0, 0) 6 0 (16, 0, 0, 0) 2 = B2 (16, 0, 0, 0) 2 := by
      rw [hs_i (by decide), hY.2 2 (by decide) (by decide), PQ_2]
    unfold YES at hY0 ⊢
    rw [e18, e162]
    exact hY0
  · rw [eZ a (fun q => by rw [q] at h; revert h; decide) (fun q => by rw [q] at h; revert h; decide) (fun q => by rw [q] at h; revert h; decide) (fun q => by rw [q] at h; revert h; decide) (fun q => by rw [q] at h; revert h; decide), eFh a (by omega) (fun q => by rw [q] at h; revert h; decide) (fun q => by rw [q] at h; revert h; decide)]
  · rw [eZ _ (by decide) (by decide) (by decide) (by decide) (by decide), e12F]
    rfl
  · rw [eZ _ (by decide) (by decide) (by decide) (by decide) (by decide), eZ _ (by decide) (by decide) (by decide) (by decide) (by decide), eFh _ (by decide) (by decide) (by decide), eFh _ (by decide) (by decide) (by decide)]
    exact hP.2.2.2
theorem LK_carry (hI : INVp hp o z len n) : FCE g mX6_carryOut mX7_carryOut [] hp := by
  cases hq : qF (cF hp len) len 80 0 with
  | none => exact LK_carry_o hI hq
  | some p => exact LK_carry_e hI hq
end CO
