variable {sr : Nat → Int32}
section O6
variable {g : Gh} {hp hB : HPt} {n : Nat} {x : Int32}
theorem p1_offS : ∀ i, offS hp (p1 hp 0 i)
  | 0 => offS.rfl'
  | i + 1 => (p1_offS i).set (by decide)
theorem q1_offS : ∀ i, offS hp (q1 hp 0 i)
  | 0 => offS.rfl'
  | i + 1 => by
    unfold q1
    split
    · exact q1_offS i
    · exact (q1_offS i).trans MN_offS
theorem PB_offS {n : Nat} : offS hp (PB hp 0 n) := by
  have h : offS hp (p2 hp 0 n) := (p1_offS n).set (by decide)
  unfold PB
  split
  · exact h
  · exact h.trans (q1_offS n)
theorem PBs_offS {n : Nat} : ∀ k, offS hp (PBs hp 0 n k)
  | 0 => offS.rfl'
  | k + 1 => (PBs_offS k).trans PB_offS
theorem bt1_off : ∀ i, offR hB (bt1 hB i)
  | 0 => offR.rfl'
  | i + 1 => (bt1_off i).set
theorem rq_off : ∀ i, offR hB (rq hB i)
  | 0 => offR.rfl'
  | i + 1 => by
    unfold rq
    split
    · exact (rq_off i).trans RF_off
    · exact rq_off i
theorem rbt_off {n : Nat} : ∀ k, offR hB (rbt hB n k)
  | 0 => offR.rfl'
  | k + 1 => (rbt_off k).trans ((bt1_off n).set.trans (rq_off n))
theorem dec_eq {l : Nat} (hl : l ≤ 20) : (if 0 < nI l - 1 then nI l - 1 else 0) = nI (l - 1) ∧ nI l - (if nI l ≤ 0 then 0 else 1) = nI (l - 1) := by
  have : l = 0 ∨ l = 1 ∨ l = 2 ∨ l = 3 ∨ l = 4 ∨ l = 5 ∨ l = 6 ∨ l = 7 ∨ l = 8 ∨ l = 9 ∨ l = 10 ∨ l = 11 ∨ l = 12 ∨ l = 13 ∨ l = 14 ∨ l = 15 ∨ l = 16 ∨ l = 17 ∨ l = 18 ∨ l = 19 ∨ l = 20 := by omega
  rcases this with rfl | rfl | rfl | rfl | rfl | rfl | rfl | rfl | rfl | rfl | rfl | rfl | rfl | rfl | rfl | rfl | rfl | rfl | rfl | rfl | rfl <;> decide
theorem p1_Rep (hR : Rep hp 0 (hB (17, 0, 0, 0)) n) : ∀ i, i ≤ n → Rep (p1 hp 0 i) 0 (bt1 hB i (17, 0, 0, 0)) n
  | 0, _ => hR
  | i + 1, hi => by
    have ih := p1_Rep hR i (by omega)
    obtain ⟨m, v, hS⟩ := ih.2.1 i (by omega)
    obtain ⟨b1, ⟨l, hl, l1, l2⟩, b3, b4, b5, b6⟩ := hS.2.2.2.2.2.2.2
    have off := hS.2.2.2.2.2.2.1
    show Rep (hset (p1 hp 0 i) (4, 0, i, 0) 5 _) 0 (hset (bt1 hB i) (17, 0, 0, 0) (cI i 2) _ (17, 0, 0, 0)) n
    rw [l1, l2, (dec_eq hl).1, (dec_eq hl).2]
    have os : ∀ k, k ≠ cI i 2 → hset (bt1 hB i) (17, 0, 0, 0) (cI i 2) (nI (l - 1)) (17, 0, 0, 0) k = bt1 hB i (17, 0, 0, 0) k := fun k hk => hs_i hk
    refine ih.one (j := i) (m := m) (v := v) (ih.1.cg ⟨fun k _ _ => hs_a (by simp), fun k _ => hs_a (by simp), fun k _ => hs_a (by simp), fun k hk => os k (by unfold cI; omega)⟩) (by omega) (fun k hk => ?_) ?_
    · exact ⟨fun q _ _ => hs_a (by simp [hk]), fun b _ => ⟨fun q _ _ => hs_a (by simp), fun q _ => ⟨hs_a (by simp), hs_a (by simp)⟩⟩, fun f hf => os _ (by unfold cI; omega)⟩
    · refine hS.upd (hs_i (by decide)) (hs_i (by decide)) (fun b _ q _ _ => hs_a (by simp)) (fun b _ q _ => ⟨hs_a (by simp), hs_a (by simp)⟩) (os _ (by unfold cI; omega)) (fun f _ _ => os _ (by unfold cI; omega)) (fun b hb => ?_) ?_
      · have h := off b hb
        unfold Roff at h ⊢
        rw [os _ (by unfold cI; omega), os _ (by unfold cI; omega), hs_a (by simp), hs_a (by simp)]
        exact h
      · unfold Rmis
        rw [os (cI i 1) (by unfold cI; omega), os (cI i 3) (by unfold cI; omega), os (cI i 4) (by unfold cI; omega), os (cI i 5) (by unfold cI; omega), os (cI i 6) (by unfold cI; omega), hs_eq, hs_eq, hs_i (by decide), hs_i (by decide), hs_i (by decide), hs_i (by decide), hs_i (by decide)]
        exact ⟨b1, ⟨l - 1, by omega, rfl, rfl⟩, b3, b4, b5, b6⟩
theorem p1_0 {t i k : Nat} : p1 hp t i (0, t, 0, 0) k = hp (0, t, 0, 0) k := p1_off (Or.inl (by simp)) i
theorem bt1_lo {i k : Nat} (hk : k < 12) : bt1 hB i (17, 0, 0, 0) k = hB (17, 0, 0, 0) k := bt1_i (fun _ => by unfold cI; omega) i
theorem p2_Rep {b : Nat} (hR : Rep hp 0 (hB (17, 0, 0, 0)) n) (hb : hp (0, 0, 0, 0) 5 = nI b) (hb9 : b < 9999) : Rep (p2 hp 0 n) 0 (bt2 hB n (17, 0, 0, 0)) n ∧ p2 hp 0 n (0, 0, 0, 0) 5 = nI (b + 1) := by
  have h1 := p1_Rep hR n (Nat.le_refl _)
  have hb2 : hB (17, 0, 0, 0) 4 = nI b := by
    obtain ⟨-, -, -, ⟨x, -, x1, x2⟩, -⟩ := hR.1
    rw [x2, ← x1, hb]
  unfold p2 bt2
  rw [hb, hb2, nI_1]
  refine ⟨⟨?_, fun j hj => ?_, fun j hj hj8 => ?_⟩, hs_eq⟩
  · obtain ⟨g1, g2, g3, g4, g5⟩ := h1.1
    have os : ∀ k, k ≠ 4 → hset (bt1 hB n) (17, 0, 0, 0) 4 (nI (b + 1)) (17, 0, 0, 0) k = bt1 hB n (17, 0, 0, 0) k := fun k hk => hs_i hk
    have oA : ∀ k, k ≠ 5 → hset (p1 hp 0 n) (0, 0, 0, 0) 5 (nI (b + 1)) (0, 0, 0, 0) k = p1 hp 0 n (0, 0, 0, 0) k := fun k hk => hs_i hk
    have o2 : ∀ k, hset (p1 hp 0 n) (0, 0, 0, 0) 5 (nI (b + 1)) (2, 0, 0, 0) k = p1 hp 0 n (2, 0, 0, 0) k := fun k => hs_a (by simp)
    have o3 : ∀ k, hset (p1 hp 0 n) (0, 0, 0, 0) 5 (nI (b + 1)) (3, 0, 0, 0) k = p1 hp 0 n (3, 0, 0, 0) k := fun k => hs_a (by simp)
    unfold GL
    rw [os 0 (by decide), os 1 (by decide), os 2 (by decide), os 3 (by decide), os 5 (by decide), os 6 (by decide), os 7 (by decide), os 8 (by decide), os 9 (by decide), os 10 (by decide), os 11 (by decide), oA 3 (by decide), oA 4 (by decide), oA 6 (by decide), oA 7 (by decide), oA 8 (by decide), oA 9 (by decide), o2, o2, o2, o3, o3]
    exact ⟨g1, g2, g3, ⟨b + 1, by omega, hs_eq, hs_eq⟩, g5⟩
  · obtain ⟨m, v, hS⟩ := h1.2.1 j hj
    exact ⟨m, v, hS.cg ⟨fun q _ _ => hs_a (by simp), fun b _ => ⟨fun q _ _ => hs_a (by simp), fun q _ => ⟨hs_a (by simp), hs_a (by simp)⟩⟩, fun f hf => hs_i (by unfold cI; omega)⟩⟩
  · exact (h1.2.2 j hj hj8).cg ⟨fun q _ _ => hs_a (by simp), fun b _ => ⟨fun q _ _ => hs_a (by simp), fun q _ => ⟨hs_a (by simp), hs_a (by simp)⟩⟩, fun f hf => hs_i (by unfold cI; omega)⟩
theorem MN_lo {t j k : Nat} (h : k = 3 ∨ k = 5) : MN hp t j (0, t, 0, 0) k = hp (0, t, 0, 0) k := MN_off (fun _ => by omega) (by simp) (by simp) (by simp) (by simp)
theorem MN_2 {t j k : Nat} : MN hp t j (2, t, 0, 0) k = hp (2, t, 0, 0) k := MN_off (by simp) (by simp) (by simp) (by simp) (by simp)
/-- all secrets are refreshed in both -/
theorem q1_Rep (hR : Rep hp 0 (hB (17, 0, 0, 0)) n) (hE : rEv hB = true) (hA : rAwk hB = true) : ∀ i, i ≤ n → Rep (q1 hp 0 i) 0 (rq hB i (17, 0, 0, 0)) n ∧ rEv (rq hB i) = true ∧ rAwk (rq hB i) = true ∧ (q1 hp 0 i (0, 0, 0, 0) 5 = hp (0, 0, 0, 0) 5)
  | 0, _ => ⟨hR, hE, hA, rfl⟩
  | i + 1, hi => by
    obtain ⟨ih, ihE, ihA, ih5⟩ := q1_Rep hR hE hA i (by omega)
    have hn8 := ih.1.1
    obtain ⟨m, v, hS⟩ := ih.2.1 i (by omega)
    have hv9 := hS.1.2.2
    have hm5 := hS.1.1
    have ec : q1 hp 0 i (4, 0, i, 0) 2 = nI v := hS.2.2.1
    have er := ver0 hS
    by_cases hv : v < 999
    · obtain ⟨-, -, -, -, -, -, ⟨o, ho, hO, hO2⟩, -⟩ := ih.1
      have hN := nx_Rep (o := o) ih (by omega : i < n) hS hv (by omega) hO
      have hf : RFn (rq hB i) i = RF (rq hB i) i m o := by
        unfold RFn
        rw [hS.2.1.2, hO2, nI_clamp (by omega), nI_clamp (by omega)]
      have hc : rCan (rq hB i) i = true := by
        unfold rCan
        rw [ihA, er]
        have : ¬ (999 : Int32) ≤ nI v := nI_ge (b := 999) hv (by decide)
        simp [this]
      have e1 : rq hB (i + 1) = RF (rq hB i) i m o := by
        show (if _ then _ else _) = _
        rw [ihE, hc, hf]
        rfl
      have e2 : q1 hp 0 (i + 1) = MN (q1 hp 0 i) 0 i := by
        show (if _ then _ else _) = _
        rw [ec, if_neg (show ¬ (999 : Int32) ≤ nI v from nI_ge (b := 999) hv (by decide))]
      rw [e1, e2]
      have ol : ∀ k, k < 12 → k ≠ 9 → k ≠ 3 → k ≠ 8 → RF (rq hB i) i m o (17, 0, 0, 0) k = rq hB i (17, 0, 0, 0) k := fun k h h9 h3 h8 => RF_i (Or.inl ⟨by unfold cI; omega, h9, h3, h8⟩) hS.1.1
      refine ⟨hN.1, ?_, ?_, ?_⟩
      · unfold rEv at ihE ⊢
        rw [ol 1 (by decide) (by decide) (by decide) (by decide), ol 4 (by decide) (by decide) (by decide) (by decide)]
        exact ihE
      · unfold rAwk at ihA ⊢
        rw [ol 6 (by decide) (by decide) (by decide) (by decide), ol 7 (by decide) (by decide) (by decide) (by decide)]
        exact ihA
      · rw [MN_lo (Or.inr rfl)]
        exact ih5
    · have hc : rCan (rq hB i) i = false := by
        unfold rCan
        rw [er]
        have : (999 : Int32) ≤ nI v := nI_le (a := 999) (by omega) (by omega)
        simp [this]
      have e1 : rq hB (i + 1) = rq hB i := by
        show (if _ then _ else _) = _
        rw [hc, Bool.and_false]
        rfl
      have e2 : q1 hp 0 (i + 1) = q1 hp 0 i := by
        show (if _ then _ else _) = _
        rw [ec, if_pos (show (999 : Int32) ≤ nI v from nI_le (a := 999) (by omega) (by omega))]
      rw [e1, e2]
      exact ⟨ih, ihE, ihA, ih5⟩
theorem rq_no (h : (rEv hB && rAwk hB) = false) : ∀ i, rq hB i = hB
  | 0 => rfl
  | i + 1 => by
    show (if (rEv (rq hB i) && rCan (rq hB i) i) = true then RFn (rq hB i) i else rq hB i) = _
    rw [rq_no h i, if_neg]
    intro h2
    unfold rCan at h2
    simp only [Bool.and_eq_true] at h2
    rw [h2.1, h2.2.1] at h
    cases h
theorem skip_eq (hG : GL hp 0 (hB (17, 0, 0, 0)) n) : fSkip hp 0 = !(rEv hB && rAwk hB) := by
  obtain ⟨-, -, -, ⟨b, hb, b1, b2⟩, -, ⟨q, hq, q1, q2⟩, -, ⟨c, c1, c2⟩, ⟨d, d1, d2⟩, -⟩ := hG
  unfold fSkip rEv rAwk fSlp
  rw [b1, b2, q1, q2, c1, c2, d1, d2]
  have e0 : (decide (nI q ≤ 0)) = decide (nI q = 0) := by
    rw [decide_eq_decide, show (0 : Int32) = nI 0 from rfl, nI_leI (by omega) (by decide), nI_eq (by omega) (by decide)]
    omega
  rw [e0]
  generalize decide (nI q = 0) = u
  generalize decide (jrem (nI b) (nI q) = 0) = w
  cases u <;> cases w <;> cases c <;> cases d <;> decide
/-- a beat in both -/
theorem PB_Rep {b : Nat} (hR : Rep hp 0 (hB (17, 0, 0, 0)) n) (hb : hp (0, 0, 0, 0) 5 = nI b) (hb9 : b < 9999) : Rep (PB hp 0 n) 0 (RPB hB n (17, 0, 0, 0)) n ∧ PB hp 0 n (0, 0, 0, 0) 5 = nI (b + 1) := by
  obtain ⟨h2, hb2⟩ := p2_Rep hR hb hb9
  have hs := skip_eq h2.1
  unfold PB RPB
  rw [hs]
  cases hq : (rEv (bt2 hB n) && rAwk (bt2 hB n))
  · rw [rq_no hq n, if_pos (by decide)]
    exact ⟨h2, hb2⟩
  · rw [if_neg (by decide)]
    rw [Bool.and_eq_true] at hq
    obtain ⟨r1, -, -, r4⟩ := q1_Rep h2 hq.1 hq.2 n (Nat.le_refl _)
    exact ⟨r1, by rw [r4, hb2]⟩
theorem PBs_Rep {b : Nat} (hR : Rep hp 0 (hB (17, 0, 0, 0)) n) (hb : hp (0, 0, 0, 0) 5 = nI b) : ∀ k, b + k ≤ 9999 → Rep (PBs hp 0 n k) 0 (rbt hB n k (17, 0, 0, 0)) n ∧ PBs hp 0 n k (0, 0, 0, 0) 5 = nI (b + k)
  | 0, _ => ⟨hR, hb⟩
  | k + 1, hk => by
    obtain ⟨h1, h2⟩ := PBs_Rep hR hb k (by omega)
    exact PB_Rep h1 h2 (show b + k < 9999 by omega)
theorem Rep.RI (hR : Rep hp 0 (hB (17, 0, 0, 0)) n) : RI hB n := by
  obtain ⟨hG, hS, hZ⟩ := hR
  obtain ⟨-, -, -, -, -, -, ⟨o, ho, -, hO2⟩, -⟩ := id hG
  refine ⟨hG.1, hG.2.1.2, ⟨o, by omega, hO2⟩, fun j hj => ?_⟩
  by_cases h : j < n
  · obtain ⟨m, v, h1⟩ := hS j h
    exact ⟨m, h1.1.1, h1.2.1.2⟩
  · exact ⟨0, by decide, (hZ j (by omega) hj).2.2 0 (by decide)⟩
theorem fIn_99 : fIn x 1 99 = (!decide (x < 1) && decide (x ≤ 99)) := by
  unfold fIn
  congr 1
  rw [Bool.eq_iff_iff]
  simp only [Bool.not_eq_true', decide_eq_false_iff_not, decide_eq_true_eq]
  exact Int32.not_lt
theorem OK_pass (hR : Rep hp 0 sr n) (hW : WT hp) : OK g mX5_passBeats mX7_passes [vR (0, 0, 0, 0), vI x] [vR (16, 0, 0, 0), vI x] hp sr := by
  have hG := hR.1
  obtain ⟨-, -, -, ⟨b, hb9, hb, hb2⟩, -⟩ := id hG
  cases hx : (!decide (x < 1) && decide (x ≤ 99))
  · exact OK.err hR hW (tX5_passBeats_e (by decide) hx) (fun hB e => tX7_passes_e (by rw [fIn_99]; exact hx))
  · have hx2 := hx
    simp only [Bool.and_eq_true, Bool.not_eq_true', decide_eq_false_iff_not, decide_eq_true_eq] at hx2
    obtain ⟨x1, x2⟩ := hx2
    have hx0 : ¬ x < 0 := fun h => x1 (by
      have e1 := Int32.lt_iff_toInt_lt.mp h
      refine Int32.lt_iff_toInt_lt.mpr ?_
      have e2 : (0 : Int32).toInt = 0 := by decide
      have e3 : (1 : Int32).toInt = 1 := by decide
      omega)
    obtain ⟨q, hq, rfl⟩ := nI_of hx0
    have hq99 : q ≤ 99 := (nI_leI (b := 99) hq (by decide)).mp x2
    by_cases hc : hp (0, 0, 0, 0) 5 + nI q ≤ 9999
    · have hbq : b + q ≤ 9999 := by
        rw [hb, nI_add] at hc
        exact (nI_leI (b := 9999) (by omega) (by decide)).mp hc
      have hC := tX5_passBeats (g := g) (t := 0) (by decide) hG.1 hG.2.1.1 hW (by omega : q < 100) x1 x2 hc
      refine ⟨_, _, fun h => rbt h n q, hC, PBs_WT hW q, PBs_offS q, fun _ _ e => rbt_loc e q, fun hB e => ?_⟩
      have hR2 : Rep hp 0 (hB (17, 0, 0, 0)) n := by rw [e]; exact hR
      obtain ⟨k1, k2⟩ := PBs_Rep hR2 hb q hbq
      refine ⟨(tX7_passes hR2.RI hq (by rw [fIn_99]; exact hx) (by rw [e, hb2, ← hb]; exact hc)).eq ?_ rfl, rbt_off q, n, k1⟩
      obtain ⟨-, -, -, -, -, -, -, -, -, s8, -⟩ := k1.1
      obtain ⟨-, -, -, -, -, -, -, -, -, s8', -⟩ := hR2.1
      rw [s8, s8']
    · exact OK.err hR hW (tX5_passBeats_e2 (by decide) x1 x2 hc) (fun hB e => tX7_passes_e2 (by rw [fIn_99]; exact hx) (by rw [e, hb2, ← hb]; exact hc))
end O6
