section FC2
variable {g : Gh} {hp : HPt} {o z len n : Nat} {x y w v : Int32}
theorem LK_set (hX : GX g) (hI : INVp hp o z len n) : FCE g mX6_set mX7_set [vI x, vI v] hp := by
  have hR := drf_Rep hI
  have hW := CPS_WT (t := hrow o z + 1) (u := 0) hI.1
  have e17 : CPS hp (hrow o z + 1) 0 (17, 0, 0, 0) = hp (17, 0, 0, 0) := drf_a hI (Or.inr (by decide))
  by_cases hx : (!decide (x < 0) && decide (x < 3)) = true
  · have hx2 := hx
    simp only [Bool.and_eq_true, Bool.not_eq_true', decide_eq_false_iff_not, decide_eq_true_eq] at hx2
    obtain ⟨k, hk, rfl⟩ := nI_of hx2.1
    have hk3 : k < 3 := (nI_ltI (b := 3) hk (by decide)).mp hx2.2
    have erS : rSet (nI k) v = fIn v (fL k) (fM k) := by
      have : k = 0 ∨ k = 1 ∨ k = 2 := by omega
      rcases this with rfl | rfl | rfl <;> rfl
    have eIn : fIn v (fL k) (fM k) = (!decide (v < fL k) && decide (v ≤ fM k)) := by
      unfold fIn
      congr 1
      rw [Bool.eq_iff_iff]
      simp only [Bool.not_eq_true', decide_eq_false_iff_not, decide_eq_true_eq]
      exact Int32.not_lt
    cases hv : fIn v (fL k) (fM k)
    · have C := tX6_set (tX5_changeSetting_e2 (g := g) (t := 0) (v := v) (hp := CPS hp (hrow o z + 1) 0) hX (by decide) hk3 (by rw [← eIn]; exact hv)) hI.2.2.1 hI.1 (drf_HN hI)
      rw [rec_neg (by decide)] at C
      exact ⟨-2, _, _, C, tX7_set_e (by rw [erS]; exact hv), drf_INV hI⟩
    · have hv2 := hv
      rw [eIn] at hv2
      simp only [Bool.and_eq_true, Bool.not_eq_true', decide_eq_false_iff_not, decide_eq_true_eq] at hv2
      have C1 := tX5_changeSetting (g := g) (t := 0) (v := v) (hp := CPS hp (hrow o z + 1) 0) hX (by decide) hk3 hv2.1 hv2.2
      have C := tX6_set C1 hI.2.2.1 hI.1 (by
        obtain ⟨k1, k2, k3, k4⟩ := drf_HN hI
        exact ⟨k1, k2, by rw [hs_a (by decide)]; exact k3, by rw [hs_a (by decide)]; exact k4⟩)
      obtain ⟨h1, h2, h3, h4, ⟨a, a1, a2, a3, a4⟩, ⟨b, b1, b2, b3⟩, ⟨c, c1, c2, c3⟩, h8⟩ := hR.1
      have old : ∃ q, q ≤ 99 ∧ CPS hp (hrow o z + 1) 0 (2, 0, 0, 0) k = nI q ∧ CPS hp (hrow o z + 1) 0 (17, 0, 0, 0) k = nI q := by
        have : k = 0 ∨ k = 1 ∨ k = 2 := by omega
        rcases this with rfl | rfl | rfl
        · exact ⟨a, by omega, a3, a4⟩
        · exact ⟨b, b1, b2, b3⟩
        · exact ⟨c, by omega, c2, c3⟩
      obtain ⟨q, hq, q1, q2⟩ := old
      rw [q1] at C
      refine LK_one (n2 := n) hI ⟨by decide, rfl⟩ ⟨rfl, rfl⟩ (nI_pos (by omega)) C (fun H h1 h2 => (tX7_set hk3 (by rw [erS]; exact hv) hI.2.2.1.2.1 h1).eq ?_ rfl) ⟨?_, fun j hj => ?_, fun j hj hj8 => ?_⟩
      · rw [RPu_lk, h2, ← e17, q2]
      · have e0 : ∀ i, hset (CPS hp (hrow o z + 1) 0) (2, 0, 0, 0) k v (0, 0, 0, 0) i = CPS hp (hrow o z + 1) 0 (0, 0, 0, 0) i := fun i => hs_a (by simp)
        have e3 : ∀ i, hset (CPS hp (hrow o z + 1) 0) (2, 0, 0, 0) k v (3, 0, 0, 0) i = CPS hp (hrow o z + 1) 0 (3, 0, 0, 0) i := fun i => hs_a (by simp)
        have e2 : ∀ i, i ≠ k → hset (CPS hp (hrow o z + 1) 0) (2, 0, 0, 0) k v (2, 0, 0, 0) i = CPS hp (hrow o z + 1) 0 (2, 0, 0, 0) i := fun i hi => hs_i hi
        have es : ∀ i, i ≠ k → hset hp (17, 0, 0, 0) k v (17, 0, 0, 0) i = CPS hp (hrow o z + 1) 0 (17, 0, 0, 0) i := fun i hi => by rw [hs_i hi, e17]
        have : k = 0 ∨ k = 1 ∨ k = 2 := by omega
        rcases this with rfl | rfl | rfl
        · obtain ⟨q, l1, l2, rfl⟩ := in_of (a := 1) (b := 20) (by decide) hv (by decide)
          unfold GL
          rw [e0, e0, e0, e0, e0, e0, e0, e3, e3, e2 1 (by decide), e2 2 (by decide), es 1 (by decide), es 2 (by decide), es 3 (by decide), es 4 (by decide), es 5 (by decide), es 6 (by decide), es 7 (by decide), es 8 (by decide), es 9 (by decide), es 10 (by decide), es 11 (by decide)]
          exact ⟨h1, h2, h3, h4, ⟨q, l1, l2, hs_eq, hs_eq⟩, ⟨b, b1, b2, b3⟩, ⟨c, c1, c2, c3⟩, h8⟩
        · obtain ⟨q, l1, l2, rfl⟩ := in_of (a := 0) (b := 99) (by decide) hv (by decide)
          unfold GL
          rw [e0, e0, e0, e0, e0, e0, e0, e3, e3, e2 0 (by decide), e2 2 (by decide), es 0 (by decide), es 2 (by decide), es 3 (by decide), es 4 (by decide), es 5 (by decide), es 6 (by decide), es 7 (by decide), es 8 (by decide), es 9 (by decide), es 10 (by decide), es 11 (by decide)]
          exact ⟨h1, h2, h3, h4, ⟨a, a1, a2, a3, a4⟩, ⟨q, l2, hs_eq, hs_eq⟩, ⟨c, c1, c2, c3⟩, h8⟩
        · obtain ⟨q, l1, l2, rfl⟩ := in_of (a := 0) (b := 4) (by decide) hv (by decide)
          unfold GL
          rw [e0, e0, e0, e0, e0, e0, e0, e3, e3, e2 0 (by decide), e2 1 (by decide), es 0 (by decide), es 1 (by decide), es 3 (by decide), es 4 (by decide), es 5 (by decide), es 6 (by decide), es 7 (by decide), es 8 (by decide), es 9 (by decide), es 10 (by decide), es 11 (by decide)]
          exact ⟨h1, h2, h3, h4, ⟨a, a1, a2, a3, a4⟩, ⟨b, b1, b2, b3⟩, ⟨q, l2, hs_eq, hs_eq⟩, h8⟩
      · obtain ⟨m, v, h⟩ := hR.2.1 j hj
        refine ⟨m, v, h.cg ⟨fun i _ _ => hs_a (by simp), fun b _ => ⟨fun i _ _ => hs_a (by simp), fun i _ => ⟨hs_a (by simp), hs_a (by simp)⟩⟩, fun f _ => ?_⟩⟩
        rw [hs_i (by unfold cI; omega), e17]
      · refine (hR.2.2 j hj hj8).cg ⟨fun i _ _ => hs_a (by simp), fun b _ => ⟨fun i _ _ => hs_a (by simp), fun i _ => ⟨hs_a (by simp), hs_a (by simp)⟩⟩, fun f _ => ?_⟩
        rw [hs_i (by unfold cI; omega), e17]
  · have hx2 : (!decide (x < 0) && decide (x < 3)) = false := by
      cases hq : (!decide (x < 0) && decide (x < 3))
      · rfl
      · exact absurd hq hx
    have C := tX6_set (tX5_changeSetting_e (g := g) (t := 0) (v := v) (hp := CPS hp (hrow o z + 1) 0) (by decide) hx2) hI.2.2.1 hI.1 (drf_HN hI)
    rw [rec_neg (by decide)] at C
    have er : rSet x v = false := by
      have h0 : ¬ x = 0 := fun h => by rw [h] at hx2; revert hx2; decide
      have h1 : ¬ x = 1 := fun h => by rw [h] at hx2; revert hx2; decide
      have h2 : ¬ x = 2 := fun h => by rw [h] at hx2; revert hx2; decide
      simp [rSet, h0, h1, h2]
    exact ⟨-2, _, _, C, tX7_set_e er, drf_INV hI⟩
theorem LK_undo (hI : INVp hp o z len n) : FCE g mX6_undo mX7_undo [] hp := by
  obtain ⟨hW, hR, hH, h16, hHi, hS, hP⟩ := id hI
  obtain ⟨k1, k2, k3, k4⟩ := id hH
  cases z with
  | zero => exact ⟨-5, hp, hp, tX6_undo_e hH, tX7_undo_e h16, o, 0, len, n, hI⟩
  | succ z =>
    obtain ⟨q, hq⟩ := hHi z (by omega)
    have hz7 : hrow o z < 7 := hrow_lt
    have eA : ∀ a, 9 ≤ a.1 → CPS (hset hp (8, 0, 0, 0) 2 (nI z)) 0 (hrow o z + 1) a = hp a := fun a h => by
      funext i
      rw [CPS_off (Or.inr (by omega)), hs_a (fun e => by rw [e] at h; revert h; decide)]
    have e8 : CPS (hset hp (8, 0, 0, 0) 2 (nI z)) 0 (hrow o z + 1) (8, 0, 0, 0) = hset hp (8, 0, 0, 0) 2 (nI z) (8, 0, 0, 0) := by
      funext i
      exact CPS_off (Or.inr (by decide))
    have eR : ∀ a, a.1 < 8 → a.2.1 ≠ 0 → CPS (hset hp (8, 0, 0, 0) 2 (nI z)) 0 (hrow o z + 1) a = hp a := fun a h h0 => by
      funext i
      rw [CPS_off (Or.inl h0), hs_a (fun e => by rw [e] at h; revert h; decide)]
    generalize hh1 : CPS (hset hp (8, 0, 0, 0) 2 (nI z)) 0 (hrow o z + 1) = h1 at *
    have C : Ci g mX6_undo [vR (15, 0, 0, 0)] hp (nI z) h1 := by rw [← hh1]; exact tX6_undo hH hW
    have D := tX7_undo (g := g) (z := z) (hp := h1) (by omega) (by rw [eA _ (by decide)]; exact h16)
    have eU : ∀ a, a ≠ (17, 0, 0, 0) → a ≠ (16, 0, 0, 0) → RU h1 z a = h1 a := fun a h17 h16 => by
      funext i
      unfold RU
      rw [cpK_off (Or.inl h17)]
      exact hs_a h16
    have eU16 : ∀ i, RU h1 z (16, 0, 0, 0) i = ruA h1 z (16, 0, 0, 0) i := fun i => by
      unfold RU
      exact cpK_off (Or.inl (by decide))
    have eU17 : ∀ k, k < 292 → RU h1 z (17, 0, 0, 0) k = hp (18, 0, 0, 0) (292 * z + k) := fun k hk => by
      unfold RU
      have h := cpK_on (hp := ruA h1 z) (d := (17, 0, 0, 0)) (s := (18, 0, 0, 0)) (dO := 0) (sO := 292 * z) (n := 292) (i := k) hk
      rw [Nat.zero_add] at h
      rw [h]
      unfold ruA
      rw [hs_a (by decide), eA _ (by decide)]
    have hR2 : Rep (RU h1 z) 0 (RU h1 z (17, 0, 0, 0)) q := by
      have h5 : Rep (hset hp (8, 0, 0, 0) 2 (nI z)) (hrow o z + 1) (fun k => hp (18, 0, 0, 0) (292 * z + k)) q := hq.same (fun a h _ => by funext i; exact hs_a (fun e => by rw [e] at h; revert h; decide)) (fun _ _ => rfl)
      have h6 := h5.copy (t := 0) (by omega)
      rw [hh1] at h6
      exact h6.same (fun a h _ => eU a (fun e => by rw [e] at h; revert h; decide) (fun e => by rw [e] at h; revert h; decide)) eU17
    have hW1 : WT h1 := by rw [← hh1]; exact CPS_WT (hW.set (okv_free rfl rfl))
    have hWf : WT (RU h1 z) := hW1.of (fun a i h => by
      by_cases h16 : a = (16, 0, 0, 0)
      · subst h16
        rw [eU16]
        exact hs_i (by intro e; subst e; revert h; decide)
      · rw [eU a (fun e => by rw [e] at h; revert h; simp) h16])
    refine ⟨nI z, h1, RU h1 z, C, D, o, z, len, q, hWf, hR2, ⟨k1, by omega, ?_, ?_⟩, ?_, fun i hi => ?_, hS.cg (fun a h => ?_) (fun a h h2 => ?_), hP.cg ?_ ?_ ?_ ?_⟩
    · rw [eU _ (by decide) (by decide), e8, hs_i (by decide)]; exact k3
    · rw [eU _ (by decide) (by decide), e8, hs_eq]
    · rw [eU16]; exact hs_eq
    · obtain ⟨q2, hq2⟩ := hHi i (by omega)
      refine ⟨q2, hq2.same (fun a h h2 => ?_) (fun k _ => ?_)⟩
      · rw [eU a (fun e => by rw [e] at h; revert h; decide) (fun e => by rw [e] at h; revert h; decide), eR a h (by omega)]
      · show RU h1 z _ _ = _
        rw [eU _ (by decide) (by decide), eA _ (by decide)]
    · rw [eU a (fun e => by rw [e] at h; revert h; decide) (fun e => by rw [e] at h; revert h; decide), eA a (by omega)]
    · rw [eU a (fun e => by rw [e] at h; revert h; decide) (fun e => by rw [e] at h; revert h; decide), eR a h (by omega)]
    · rw [eU _ (by decide) (by decide), eA _ (by decide)]
    · rw [eU16]
      unfold ruA
      rw [hs_i (by decide), eA _ (by decide)]
    · rw [eU _ (by decide) (by decide), eA _ (by decide)]
    · rw [eU _ (by decide) (by decide), eA _ (by decide)]
theorem LK_wipe (hI : INVp hp o z len n) : FCE g mX6_wipe mX7_wipe [] hp := by
  obtain ⟨hW, hR, hH, h16, hHi, hS, hP⟩ := id hI
  obtain ⟨p1, p2, p3, p4⟩ := id hP
  have e : ∀ a, a ≠ (12, 0, 0, 0) → a ≠ (16, 0, 0, 0) → hset (hset hp (12, 0, 0, 0) 1 0) (16, 0, 0, 0) 6 0 a = hp a := fun a h12 h16 => by
    funext i
    rw [hs_a h16, hs_a h12]
  have e16 : ∀ i, i ≠ 6 → hset (hset hp (12, 0, 0, 0) 1 0) (16, 0, 0, 0) 6 0 (16, 0, 0, 0) i = hp (16, 0, 0, 0) i := fun i hi => by rw [hs_i hi, hs_a (by decide)]
  refine ⟨_, _, _, tX6_wipe, tX7_wipe.eq (by rw [hs_a (by decide), p3, p2]) rfl, o, z, 0, n, INV_no hI ((hW.set (okv_free rfl rfl)).set (okv_free rfl rfl)) ?_ (fun a h _ _ => e a (fun q => by rw [q] at h; revert h; decide) (fun q => by rw [q] at h; revert h; decide)) (e _ (by decide) (by decide)) (e16 2 (by decide)) (e _ (by decide) (by decide)) (fun a h => e a (fun q => by rw [q] at h; revert h; decide) (fun q => by rw [q] at h; revert h; decide)) ⟨by decide, ?_, hs_eq, ?_⟩⟩
  · rw [e (17, 0, 0, 0) (by decide) (by decide)]
    exact hR.same (fun a h _ => e a (fun q => by rw [q] at h; revert h; decide) (fun q => by rw [q] at h; revert h; decide)) (fun _ _ => rfl)
  · rw [hs_a (by decide), hs_eq]
    rfl
  · rw [e _ (by decide) (by decide), e _ (by decide) (by decide)]
    exact p4
end FC2
