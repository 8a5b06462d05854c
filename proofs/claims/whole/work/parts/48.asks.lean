section ASK
variable {g : Gh} {hp : HPt} {o z len n : Nat} {x y w v : Int32}
theorem LK_ask {Mc Mr : Md} {as : List Vv} {r : Int32} (hI : INVp hp o z len n) (C : Ci g Mc (vR (15, 0, 0, 0) :: as) hp r hp) (D : Ci g Mr (vR (16, 0, 0, 0) :: as) hp r hp) : FCE g Mc Mr as hp := ⟨r, hp, hp, C, D, o, z, len, n, hI⟩
theorem b_of {b : Bool} (h : ¬ b = true) : b = false := by cases b; rfl; exact absurd rfl h
theorem inN {w : Int32} {k : Nat} (h : (!decide (w < 0) && decide (w < nI k)) = true) : ∃ q, q < k ∧ w = nI q ∨ 2 ^ 31 ≤ k := by
  simp only [Bool.and_eq_true, Bool.not_eq_true', decide_eq_false_iff_not, decide_eq_true_eq] at h
  obtain ⟨q, hq, rfl⟩ := nI_of h.1
  by_cases hk : k < 2 ^ 31
  · exact ⟨q, Or.inl ⟨(nI_ltI hq hk).mp h.2, rfl⟩⟩
  · exact ⟨q, Or.inr (by omega)⟩
theorem LK_of (hI : INVp hp o z len n) : FCE g mX6_of mX7_of [vI x, vI y, vI w] hp := by
  have hR := hI.2.1
  have hG := hR.1
  cases hx : fHalf hp 0 x y
  · exact LK_ask hI (tX6_of (tX5_figureOfHalf_e (by decide) hx)) (tX7_of_e (by rw [half_eq hG rfl]; exact hx))
  · obtain ⟨hs, hh⟩ := half_of hx
    obtain ⟨b, hb, rfl⟩ := st_of hs
    obtain ⟨j, hj, rfl⟩ := has_of hG hh
    have hn8 := hG.1
    have hj8 : j < 8 := by omega
    have hh2 : rHas hp (nI j) = true := by rw [has_eq hG rfl]; exact hh
    obtain ⟨m, ve, hS⟩ := hR.2.1 j hj
    by_cases hw : (!decide (w < 0) && decide (w < nI 8)) = true
    · obtain ⟨q, ⟨hq, rfl⟩ | h⟩ := inN hw
      · refine LK_ask hI (tX6_of (tX5_figureOfHalf (by decide) hj8 hb hx hq)) ((tX7_of hj8 hb hh2 hq).eq ?_ rfl)
        obtain ⟨c1, c2, c3, c4, c5, c6⟩ := hS.cells b hb
        obtain ⟨d1, d2, -, -, -, -⟩ := hS.cells (1 - b) (by omega)
        have e1 : 1 - (1 - b) = b := by omega
        have e2 : 11 + (1 - b) = 12 - b := by omega
        have e3 : 13 + (1 - b) = 14 - b := by omega
        rw [e1, e2] at d1
        rw [e1, e3] at d2
        have : q = 0 ∨ q = 1 ∨ q = 2 ∨ q = 3 ∨ q = 4 ∨ q = 5 ∨ q = 6 ∨ q = 7 := by omega
        rcases this with rfl | rfl | rfl | rfl | rfl | rfl | rfl | rfl
        · exact c5.symm
        · exact c6.symm
        · exact d1.symm
        · exact d2.symm
        · exact c3.symm
        · exact c4.symm
        · show rTold hp j b _ = jrem _ 256
          unfold rTold
          rw [c5, c3]
        · show jrem (rTag hp j b + _) 257 = jrem _ 257
          rw [c4, c6]
          rfl
      · exact absurd h (by decide)
    · exact LK_ask hI (tX6_of (tX5_figureOfHalf_e2 (by decide) hj8 hb hx (b_of hw))) (tX7_of_e2 hj8 hb hh2 (b_of hw))
theorem LK_ofSecret (hI : INVp hp o z len n) : FCE g mX6_ofSecret mX7_ofSecret [vI x, vI w] hp := by
  have hR := hI.2.1
  have hG := hR.1
  cases hx : fHas hp 0 x
  · exact LK_ask hI (tX6_ofSecret (tX5_figureOfSecret_e (by decide) hx)) (tX7_ofSecret_e (by rw [has_eq hG rfl]; exact hx))
  · obtain ⟨j, hj, rfl⟩ := has_of hG hx
    have hn8 := hG.1
    have hj8 : j < 8 := by omega
    have hh2 : rHas hp (nI j) = true := by rw [has_eq hG rfl]; exact hx
    obtain ⟨m, ve, hS⟩ := hR.2.1 j hj
    by_cases hw : (!decide (w < 0) && decide (w < nI 8)) = true
    · obtain ⟨q, ⟨hq, rfl⟩ | h⟩ := inN hw
      · refine LK_ask hI (tX6_ofSecret (tX5_figureOfSecret (by decide) hj8 hx hq)) ((tX7_ofSecret hj8 hh2 hq).eq ?_ rfl)
        have ev := ver0 hS
        obtain ⟨-, ⟨a1, a2⟩, a3, -, -, -, -, b1, ⟨l, hl, l1, l2⟩, b3, b4, ⟨k, k1, k2⟩, b6⟩ := hS
        have : q = 0 ∨ q = 1 ∨ q = 2 ∨ q = 3 ∨ q = 4 ∨ q = 5 ∨ q = 6 ∨ q = 7 := by omega
        rcases this with rfl | rfl | rfl | rfl | rfl | rfl | rfl | rfl
        · show hp _ _ = hp _ _
          rw [ev, a3]
        · show hp _ _ = hp _ _
          rw [a2, a1]
        · show (if _ then _ else _) = (if _ then _ else _)
          rw [l1, l2, b1]
        · show hp _ _ = hp _ _
          rw [l2, l1]
        · exact b3
        · show hp _ _ = (if _ then _ else _)
          rw [k1, k2]
          cases k <;> rfl
        · exact b6
        · exact b4
      · exact absurd h (by decide)
    · exact LK_ask hI (tX6_ofSecret (tX5_figureOfSecret_e2 (by decide) hj8 hx (b_of hw))) (tX7_ofSecret_e2 hj8 hh2 (b_of hw))
theorem LK_old (hI : INVp hp o z len n) : FCE g mX6_old mX7_old [vI x, vI y, vI w] hp := by
  have hR := hI.2.1
  have hG := hR.1
  cases hx : fHas hp 0 x
  · exact LK_ask hI (tX6_old (tX5_figureOfOldVersion_e (by decide) hx)) (tX7_old_e (by rw [has_eq hG rfl]; exact hx))
  · obtain ⟨j, hj, rfl⟩ := has_of hG hx
    have hn8 := hG.1
    have hj8 : j < 8 := by omega
    have hh2 : rHas hp (nI j) = true := by rw [has_eq hG rfl]; exact hx
    obtain ⟨m, ve, hS⟩ := hR.2.1 j hj
    obtain ⟨⟨hm5, hmv, hv9⟩, ⟨a1, a2⟩, a3, a4, -⟩ := hS
    have er : fIn y 0 (hp (17, 0, 0, 0) (cI j 0) - 1) = (!decide (y < 0) && decide (y < hp (4, 0, j, 0) 3)) := by
      rw [a2, a1]
      exact pred_eq (by omega)
    by_cases hr : (!decide (y < 0) && decide (y < hp (4, 0, j, 0) 3)) = true
    · have hr0 := hr
      rw [a1] at hr0
      obtain ⟨r, ⟨hrm, rfl⟩ | h⟩ := inN hr0
      · by_cases hw : (!decide (w < 0) && decide (w < nI 4)) = true
        · obtain ⟨q, ⟨hq, rfl⟩ | h⟩ := inN hw
          · refine LK_ask hI (tX6_old (tX5_figureOfOldVersion (by decide) hj8 hx hm5 a1 hrm hq)) ((tX7_old hj8 hh2 (by rw [er]; exact hr) (by omega) hq).eq ?_ rfl)
            obtain ⟨r1, ⟨p0, -, r2, r3⟩, ⟨p1, -, r4, r5⟩, a, c, r6, r7, r8⟩ := a4 (r + 1) (by omega)
            have : q = 0 ∨ q = 1 ∨ q = 2 ∨ q = 3 := by omega
            rcases this with rfl | rfl | rfl | rfl
            · show hp _ (cI j (15 + 4 * (r + 1))) = hp _ _ - nI (r + 1)
              rw [r1, a3, pk_sub (by omega)]
            · show hp _ _ = hp _ _
              rw [show 15 + 4 * (r + 1) + 1 = 16 + 4 * (r + 1) by omega, r3, r2]
            · show hp _ _ = hp _ _
              rw [show 15 + 4 * (r + 1) + 2 = 17 + 4 * (r + 1) by omega, r5, r4]
            · show hp _ _ = fTk _ _
              rw [show 15 + 4 * (r + 1) + 3 = 18 + 4 * (r + 1) by omega, r8, r6, r7]
              cases a <;> cases c <;> rfl
          · exact absurd h (by decide)
        · exact LK_ask hI (tX6_old (tX5_figureOfOldVersion_e3 (by decide) hj8 hx hm5 a1 hrm (b_of hw))) (tX7_old_e3 hj8 hh2 (by rw [er]; exact hr) ((fIn_k (k := 3) (by decide)).trans (b_of hw)))
      · omega
    · exact LK_ask hI (tX6_old (tX5_figureOfOldVersion_e2 (by decide) hj8 hx (b_of hr))) (tX7_old_e2 hj8 hh2 (by rw [er]; exact b_of hr))
theorem LK_otherwise (hI : INVp hp o z len n) : FCE g mX6_otherwise mX7_otherwise [vI x, vI y, vI w] hp := by
  have hR := hI.2.1
  have hG := hR.1
  cases hx : fHalf hp 0 x y
  · exact LK_ask hI (tX6_otherwise (tX5_otherPartFor_e (by decide) hx)) (tX7_otherwise_e (by rw [half_eq hG rfl]; exact hx))
  · cases hw : fPt w
    · exact LK_ask hI (tX6_otherwise (tX5_otherPartFor_e2 (by decide) hx hw)) (tX7_otherwise_e2 (by rw [half_eq hG rfl]; exact hx) (by rw [pt_eq]; exact hw))
    · obtain ⟨hs, hh⟩ := half_of hx
      obtain ⟨b, hb, rfl⟩ := st_of hs
      obtain ⟨j, hj, rfl⟩ := has_of hG hh
      have hn8 := hG.1
      obtain ⟨m, ve, hS⟩ := hR.2.1 j hj
      obtain ⟨q, hq, rfl⟩ := pt_of hw
      have hp0 : ∃ p, p < 256 ∧ hp (6, 0, j, b) 0 = nI p := by
        obtain ⟨-, ⟨p0, h0, c0, -⟩, ⟨p1, h1, c1, -⟩, -⟩ := hS.2.2.2.1 0 (Nat.zero_le _)
        match b, hb with
        | 0, _ => exact ⟨p0, h0, c0⟩
        | 1, _ => exact ⟨p1, h1, c1⟩
      obtain ⟨p, hp2, ep⟩ := hp0
      have c5 := (hS.cells b hb).2.2.2.2.1
      refine LK_ask hI (tX6_otherwise (tX5_otherPartFor (by decide) (by omega) hb hx hw)) ((tX7_otherwise (by omega) hb (by rw [has_eq hG rfl]; exact hh) (by rw [pt_eq]; exact hw)).eq ?_ rfl)
      rw [← c5, ep, fFM_6 (by omega) (by omega), show (256 : Int32) = nI 256 from rfl, nI_add, pk_sub (by omega)]
      exact rem6 (by omega)
theorem LK_ifMerged (hI : INVp hp o z len n) : FCE g mX6_ifMerged mX7_ifMerged [vI x] hp := by
  have hR := hI.2.1
  have hG := hR.1
  cases hx : fHas hp 0 x
  · exact LK_ask hI (tX6_ifMerged (tX5_answerOfMerger_e (by decide) hx)) (tX7_ifMerged_e (by rw [has_eq hG rfl]; exact hx))
  · obtain ⟨j, hj, rfl⟩ := has_of hG hx
    have hn8 := hG.1
    have hh2 : rHas hp (nI j) = true := by rw [has_eq hG rfl]; exact hx
    obtain ⟨m, ve, hS⟩ := hR.2.1 j hj
    cases hs : fSlp hp 0
    · exact LK_ask hI (tX6_ifMerged (tX5_answerOfMerger (by decide) (by omega) hx hs)) ((tX7_ifMerged (by omega) hh2 (by rw [awk_eq hG rfl, hs]; rfl)).eq (mg_eq hS rfl) rfl)
    · exact LK_ask hI (tX6_ifMerged (tX5_answerOfMerger_e2 (by decide) (by omega) hx hs)) (tX7_ifMerged_e2 hh2 (by rw [awk_eq hG rfl, hs]; rfl))
theorem rk_eq {j m ve : Nat} (hS : RS hp 0 j (hp (17, 0, 0, 0)) m ve) : ∀ k, k ≤ m + 1 → rRk hp j k = rkN hp 0 j k
  | 0, _ => rfl
  | k + 1, hk => by
    obtain ⟨-, -, -, a, c, r6, r7, r8⟩ := hS.2.2.2.1 k (by omega)
    show rRk hp j k + _ = rkN hp 0 j k + _
    rw [rk_eq hS k (by omega)]
    unfold rkB
    rw [r8, r6, r7]
    cases a <;> cases c <;> rfl
theorem LK_atRisk (hI : INVp hp o z len n) : FCE g mX6_atRisk mX7_atRisk [vI x] hp := by
  have hR := hI.2.1
  have hG := hR.1
  cases hx : fHas hp 0 x
  · exact LK_ask hI (tX6_atRisk (tX5_versionsAtRisk_e (by decide) hx)) (tX7_atRisk_e (by rw [has_eq hG rfl]; exact hx))
  · obtain ⟨j, hj, rfl⟩ := has_of hG hx
    have hn8 := hG.1
    have hh2 : rHas hp (nI j) = true := by rw [has_eq hG rfl]; exact hx
    obtain ⟨m, ve, hS⟩ := hR.2.1 j hj
    exact LK_ask hI (tX6_atRisk (tX5_versionsAtRisk (by decide) (by omega) hS.1.1 hS.2.1.1 hx)) ((tX7_atRisk (by omega) hS.1.1 hS.2.1.2 hh2).eq (by rw [rk_eq hS _ (Nat.le_refl _)]) rfl)
theorem LK_needed (hI : INVp hp o z len n) : FCE g mX6_needed mX7_needed [vI x] hp := by
  have hR := hI.2.1
  have hG := hR.1
  cases hx : fHas hp 0 x
  · exact LK_ask hI (tX6_needed (tX5_partsNeeded_e (by decide) hx)) (tX7_needed_e (by rw [has_eq hG rfl]; exact hx))
  · obtain ⟨j, hj, rfl⟩ := has_of hG hx
    have hn8 := hG.1
    have hh2 : rHas hp (nI j) = true := by rw [has_eq hG rfl]; exact hx
    obtain ⟨m, ve, hS⟩ := hR.2.1 j hj
    refine LK_ask hI (tX6_needed (tX5_partsNeeded (by decide) (by omega) hS.1.1 hS.2.1.1 hx)) ((tX7_needed (by omega) hS.1.1 hS.2.1.2 hh2).eq ?_ rfl)
    obtain ⟨-, -, -, -, -, -, -, -, -, -, -, ⟨k, k1, k2⟩, -⟩ := id hS
    rw [rk_eq hS _ (Nat.le_refl _), k1, k2]
    cases k <;> rfl
theorem st2_eq (hR : Rep hp 0 (hp (17, 0, 0, 0)) n) : ∀ i, i ≤ n → rSO hp 2 i = stP hp 0 5 i ∧ rSO hp 5 i = stO hp 0 9 i
  | 0, _ => ⟨rfl, rfl⟩
  | i + 1, hi => by
    obtain ⟨h1, h2⟩ := st2_eq hR i (by omega)
    obtain ⟨m, ve, hS⟩ := hR.2.1 i (by omega)
    obtain ⟨-, -, -, -, -, -, -, -, ⟨l, hl, l1, l2⟩, -, -, ⟨k, k1, k2⟩, -⟩ := hS
    constructor
    · show rSO hp 2 i ||| _ = stP hp 0 5 i ||| _
      rw [h1, l1, l2]
    · show rSO hp 5 i ||| _ = stO hp 0 9 i ||| _
      rw [h2, k1, k2]
      cases k <;> rfl
theorem LK_count (hI : INVp hp o z len n) : FCE g mX6_count mX7_count [vI w] hp := by
  have hR := hI.2.1
  have hG := hR.1
  have hP := hI.2.2.2.2.2.2
  obtain ⟨h1, h2, ⟨x3, -, x31, x32⟩, ⟨x4, -, x41, x42⟩, ⟨x5, -, -, x51, x52⟩, ⟨x6, -, x61, x62⟩, ⟨x7, -, x71, x72⟩, ⟨a, a1, a2⟩, ⟨b, b1, b2⟩, q1, q2, q3, q4⟩ := id hG
  by_cases hw : (!decide (w < 0) && decide (w < nI 16)) = true
  · obtain ⟨q, ⟨hq, rfl⟩ | h⟩ := inN hw
    · by_cases hq14 : q = 14
      · subst hq14
        refine LK_ask hI (tX6_count_p rfl) ((tX7_count h1 h2.2 (by decide)).eq ?_ rfl)
        show hp _ _ = hp _ _
        rw [hP.2.2.1, hP.2.1]
      · by_cases hq15 : q = 15
        · subst hq15
          refine LK_ask hI (tX6_count_u rfl) ((tX7_count h1 h2.2 (by decide)).eq ?_ rfl)
          show hp _ _ = hp _ _
          rw [hI.2.2.2.1, hI.2.2.1.2.2.2]
        · refine LK_ask hI (tX6_count (fun e => hq14 ((nI_eq (b := 14) (by omega) (by decide)).mp e)) (fun e => hq15 ((nI_eq (b := 15) (by omega) (by decide)).mp e)) (tX5_figure (by decide) h1 h2.1 (by omega))) ((tX7_count h1 h2.2 hq).eq ?_ rfl)
          have hst := st2_eq hR n (Nat.le_refl _)
          have : q = 0 ∨ q = 1 ∨ q = 2 ∨ q = 3 ∨ q = 4 ∨ q = 5 ∨ q = 6 ∨ q = 7 ∨ q = 8 ∨ q = 9 ∨ q = 10 ∨ q = 11 ∨ q = 12 ∨ q = 13 := by omega
          rcases this with rfl | rfl | rfl | rfl | rfl | rfl | rfl | rfl | rfl | rfl | rfl | rfl | rfl | rfl
          · exact x42.trans x41.symm
          · exact h2.2.trans h2.1.symm
          · exact hst.1
          · exact hst.2
          · show hp _ _ = (if _ then _ else _)
            rw [a2, a1]
            cases a <;> rfl
          · show hp _ _ = (if _ then _ else _)
            rw [b2, b1]
            cases b <;> rfl
          · exact q1
          · exact q2
          · exact q3
          · exact q4
          · exact x32.trans x31.symm
          · exact x52.trans x51.symm
          · exact x62.trans x61.symm
          · exact x72.trans x71.symm
    · exact absurd h (by decide)
  · have h14 : ¬ w = 14 := fun e => hw (by rw [e]; decide)
    have h15 : ¬ w = 15 := fun e => hw (by rw [e]; decide)
    have hw14 : (!decide (w < 0) && decide (w < nI 14)) = false := by
      cases hq : (!decide (w < 0) && decide (w < nI 14))
      · rfl
      · obtain ⟨q, ⟨hq, rfl⟩ | h⟩ := inN hq
        · exfalso
          apply hw
          have e1 : ¬ nI q < 0 := nI_pos (by omega)
          have e2 : nI q < nI 16 := nI_lt (by omega) (by decide)
          simp [e1, e2]
        · exact absurd h (by decide)
    exact LK_ask hI (tX6_count h14 h15 (tX5_figure_e (by decide) hw14)) (tX7_count_e (b_of hw))
end ASK
