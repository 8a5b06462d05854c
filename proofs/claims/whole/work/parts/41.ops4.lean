variable {sr : Nat → Int32}
section O4
variable {g : Gh} {hp : HPt} {n : Nat} {x y z w : Int32}
theorem half_of (h : fHalf hp 0 x y = true) : fSt x = true ∧ fHas hp 0 y = true := by
  unfold fHalf at h
  exact Bool.and_eq_true_iff.mp h
theorem OK_lie (hR : Rep hp 0 sr n) (hW : WT hp) : OK g mX5_takeUpLie mX7_lies [vR (0, 0, 0, 0), vI x, vI y, vI z, vI w] [vR (16, 0, 0, 0), vI x, vI y, vI z, vI w] hp sr := by
  have hG := hR.1
  cases hx : fHalf hp 0 x y
  · exact OK.err hR hW (tX5_takeUpLie_e (by decide) hx) (fun hB e => tX7_lies_e (by rw [half_eq hG e]; exact hx))
  · cases ho : (fPt z && fTg w)
    · exact OK.err hR hW (tX5_takeUpLie_e2 (by decide) hx ho) (fun hB e => tX7_lies_e2 (by rw [half_eq hG e]; exact hx) (by rw [pt_eq, tg_eq]; exact ho))
    · obtain ⟨hs, hh⟩ := half_of hx
      obtain ⟨b, hb, rfl⟩ := st_of hs
      obtain ⟨j, hj, rfl⟩ := has_of hG hh
      rw [Bool.and_eq_true] at ho
      obtain ⟨o, ho2, rfl⟩ := pt_of ho.1
      obtain ⟨q, hq, rfl⟩ := tg_of ho.2
      have hn8 := hG.1
      have hj8 : j < 8 := by omega
      obtain ⟨m, v, hS⟩ := hR.2.1 j hj
      have hc := hS.cells b hb
      refine ⟨_, _, fun h => hset (hset h (17, 0, 0, 0) (cI j (7 + b)) (nI o)) (17, 0, 0, 0) (cI j (9 + b)) (nI q), tX5_takeUpLie (by decide) hj8 hb hx ho.1 ho.2, (hW.set (okv_free rfl rfl)).set (okv_free rfl rfl), (offS.rfl'.set (by decide)).set (by decide), fun _ _ e => hs_loc (hs_loc e rfl) rfl, fun hB e => ⟨(tX7_lies hj8 hb (by rw [has_eq hG e]; exact hh) (by rw [pt_eq]; exact ho.1) (by rw [tg_eq]; exact ho.2)).eq (by rw [e]; exact hc.2.2.1.symm) rfl, (offR.rfl'.set).set, n, ?_⟩⟩
      show Rep _ 0 (hset (hset hB (17, 0, 0, 0) (cI j (7 + b)) (nI o)) (17, 0, 0, 0) (cI j (9 + b)) (nI q) (17, 0, 0, 0)) n
      have os : ∀ i, i ≠ cI j (7 + b) → i ≠ cI j (9 + b) → hset (hset hB (17, 0, 0, 0) (cI j (7 + b)) (nI o)) (17, 0, 0, 0) (cI j (9 + b)) (nI q) (17, 0, 0, 0) i = sr i := fun i h1 h2 => by rw [hs_i h2, hs_i h1, e]
      refine hR.one (j := j) (m := m) (v := v) (hG.cg ⟨fun i _ _ => by simp [hset], fun i _ => by simp [hset], fun i _ => by simp [hset], fun i hi => os i (by unfold cI; omega) (by unfold cI; omega)⟩) hj (fun k hk => ?_) ?_
      · exact ⟨fun i _ _ => by simp [hset], fun b _ => ⟨fun i _ _ => by simp [hset, hk], fun i _ => ⟨by simp [hset], by simp [hset]⟩⟩, fun f hf => os _ (by unfold cI; omega) (by unfold cI; omega)⟩
      · have h7 := hS.2.2.2.2.2.2.1
        have h8 := hS.2.2.2.2.2.2.2
        refine hS.upd (by simp [hset]) (by simp [hset]) (fun b2 _ i h2 h5 => ?_) (fun b _ i _ => ⟨by simp [hset], by simp [hset]⟩) (os _ (by unfold cI; omega) (by unfold cI; omega)) (fun f _ _ => os _ (by unfold cI; omega) (by unfold cI; omega)) (fun b2 hb2 => ?_) ?_
        · have : i ≠ 5 ∧ i ≠ 6 := by omega
          simp [hset, this]
        · by_cases hbb : b2 = b
          · subst hbb
            refine ⟨o, q, ho2, hq, by simp [hset], ?_, by simp [hset], hs_eq⟩
            rw [hs_i (by unfold cI; omega), hs_eq]
          · have h := h7 b2 hb2
            unfold Roff at h ⊢
            rw [os _ (by unfold cI; omega) (by unfold cI; omega), os _ (by unfold cI; omega) (by unfold cI; omega)]
            simpa [hset, hbb] using h
        · unfold Rmis at h8 ⊢
          rw [os _ (by unfold cI; omega) (by unfold cI; omega), os _ (by unfold cI; omega) (by unfold cI; omega), os _ (by unfold cI; omega) (by unfold cI; omega), os _ (by unfold cI; omega) (by unfold cI; omega), os _ (by unfold cI; omega) (by unfold cI; omega), os _ (by unfold cI; omega) (by unfold cI; omega)]
          simpa [hset] using h8
theorem catch_eq {hB : HPt} {j m v b : Nat} (hS : RS hp 0 j sr m v) (e : hB (17, 0, 0, 0) = sr) (hb : b < 2) : fCatch (hp (5, 0, j, 1 - b) 3) (hp (5, 0, j, 1 - b) 4) (hp (6, 0, j, b) 0) (hp (5, 0, j, b) 5) (hp (5, 0, j, b) 2) (hp (5, 0, j, b) 6) = !rPn hB j b := by
  obtain ⟨c1, c2, c3, c4, c5, c6⟩ := hS.cells b hb
  unfold fCatch rPn rPs rTold rTag
  rw [e, c1, c2, c3, c4, c5, c6]
theorem mg_eq {hB : HPt} {j m v : Nat} (hS : RS hp 0 j sr m v) (e : hB (17, 0, 0, 0) = sr) : rMg hB j = fMerge hp 0 j := by
  have k1 := catch_eq hS e (b := 1) (by decide)
  have k0 := catch_eq hS e (b := 0) (by decide)
  obtain ⟨-, -, c3, -, c5, -⟩ := hS.cells 0 (by decide)
  obtain ⟨-, -, d3, -, d5, -⟩ := hS.cells 1 (by decide)
  unfold rMg fMerge rTold
  rw [show (1 : Nat) - 1 = 0 from rfl] at k1
  rw [show (1 : Nat) - 0 = 1 from rfl] at k0
  rw [k1, k0, e, c3, c5, d3, d5]
  cases rPn hB j 1 <;> cases rPn hB j 0 <;> rfl
theorem mg_pos {j m v : Nat} (hS : RS hp 0 j sr m v) : 0 ≤ fMerge hp 0 j := by
  obtain ⟨-, -, -, a4, -, -, a7, -⟩ := hS
  obtain ⟨o0, q0, ho0, -, e0, -⟩ := a7 0 (by decide)
  obtain ⟨o1, q1, ho1, -, e1, -⟩ := a7 1 (by decide)
  obtain ⟨-, ⟨p0, hp0, c0, -⟩, ⟨p1, hp1, c1, -⟩, -⟩ := a4 0 (Nat.zero_le _)
  unfold fMerge
  split
  · decide
  · split
    · decide
    · rw [e0, e1, c0, c1, nI_add, nI_add, rem6 (by omega), rem6 (by omega), nI_add]
      have h0 := Nat.mod_lt (p0 + o0) (show 256 > 0 by decide)
      have h1 := Nat.mod_lt (p1 + o1) (show 256 > 0 by decide)
      rw [rem6 (by omega)]
      exact nI_pos' (Nat.lt_trans (Nat.mod_lt _ (by decide)) (by decide))
theorem lie_eq {hB : HPt} {j m v : Nat} (hS : RS hp 0 j sr m v) (e : hB (17, 0, 0, 0) = sr) : rLie hB j = mgL hp 0 j := by
  obtain ⟨o0, q0, ho0, hq0, a1, a2, a3, a4⟩ := hS.2.2.2.2.2.2.1 0 (by decide)
  obtain ⟨o1, q1, ho1, hq1, b1, b2, b3, b4⟩ := hS.2.2.2.2.2.2.1 1 (by decide)
  unfold rLie mgL fLies
  rw [e, show cI j 7 = cI j (7 + 0) from rfl, show cI j 8 = cI j (7 + 1) from rfl, show cI j 9 = cI j (9 + 0) from rfl, show cI j 10 = cI j (9 + 1) from rfl, a2, b2, a4, b4, a1, a3, b1, b3, nI_add, nI_add, nI_add]
  have f : ∀ k, k < 2 ^ 31 → (decide (0 < nI k)) = decide (0 < k) := fun k hk => by
    rw [decide_eq_decide, show (0 : Int32) = nI 0 from rfl]
    exact nI_ltI (by decide) hk
  have f2 : ∀ k, k < 2 ^ 31 → (decide (nI k ≤ 0)) = decide (k ≤ 0) := fun k hk => by
    rw [decide_eq_decide, show (0 : Int32) = nI 0 from rfl]
    exact nI_leI hk (by decide)
  rw [f _ (by omega), f _ (by omega), f _ (by omega), f _ (by omega), f2 _ (by omega), Bool.eq_iff_iff]
  simp only [Bool.not_eq_true', decide_eq_false_iff_not, Bool.or_eq_true, decide_eq_true_eq]
  omega
theorem MG_Rep {hB : HPt} {j m v : Nat} (hR : Rep hp 0 sr n) (hj : j < n) (hS : RS hp 0 j sr m v) (e : hB (17, 0, 0, 0) = sr) : Rep (MG hp 0 j) 0 (RG hB j (17, 0, 0, 0)) n := by
  have hG := hR.1
  obtain ⟨h1, h2, h3, h4, ⟨op, op1, op2, op3, op4⟩, h6, h7, h8, h9, q1, q2, q3, q4⟩ := hG
  have c0 : ∀ i f, i < 12 → ¬ i = cI j f := fun i f h => by unfold cI; omega
  obtain ⟨b1, ⟨l, hl, l1, l2⟩, b3, b4, b5, b6⟩ := hS.2.2.2.2.2.2.2
  have off := hS.2.2.2.2.2.2.1
  unfold MG RG
  rw [mg_eq hS e]
  by_cases hm : fMerge hp 0 j < 1000
  · rw [if_pos hm, if_pos hm]
    have os : ∀ i, i ≠ cI j 1 → i ≠ cI j 2 → i ≠ cI j 4 → rmO hB j (fMerge hp 0 j) (17, 0, 0, 0) i = sr i := fun i k1 k2 k4 => by
      unfold rmO
      rw [hs_i k4, hs_i k2, hs_i k1, e]
    have oc1 : rmO hB j (fMerge hp 0 j) (17, 0, 0, 0) (cI j 1) = fMerge hp 0 j := by
      unfold rmO
      rw [hs_i (by unfold cI; omega), hs_i (by unfold cI; omega), hs_eq]
    have oc2 : rmO hB j (fMerge hp 0 j) (17, 0, 0, 0) (cI j 2) = nI op := by
      unfold rmO
      rw [hs_i (by unfold cI; omega), hs_eq, e, op4]
    have oc4 : rmO hB j (fMerge hp 0 j) (17, 0, 0, 0) (cI j 4) = sr (cI j 4) + 1 := by
      unfold rmO
      rw [hs_eq, e]
    have os2 : ∀ i y, i ≠ 11 → hset (rmO hB j (fMerge hp 0 j)) (17, 0, 0, 0) 11 y (17, 0, 0, 0) i = rmO hB j (fMerge hp 0 j) (17, 0, 0, 0) i := fun i y h => hs_i h
    have hcls : ∀ hA : HPt, (∀ a i, a ≠ (0, 0, 0, 0) → hA a i = mgO hp 0 j (fMerge hp 0 j) a i) → (∀ i, i ≠ 9 → hA (0, 0, 0, 0) i = hp (0, 0, 0, 0) i) → hA (0, 0, 0, 0) 9 = hp (0, 0, 0, 0) 9 + bi (mgL hp 0 j) → Rep hA 0 (hset (rmO hB j (fMerge hp 0 j)) (17, 0, 0, 0) 11 (hB (17, 0, 0, 0) 11 + bi (rLie hB j)) (17, 0, 0, 0)) n := by
      intro hA hA1 hA2 hA3
      have a4 : ∀ i, hA (4, 0, j, 0) i = mgO hp 0 j (fMerge hp 0 j) (4, 0, j, 0) i := fun i => hA1 _ i (by simp)
      have ax : ∀ a i, a ≠ (0, 0, 0, 0) → a ≠ (4, 0, j, 0) → hA a i = hp a i := fun a i k0 k4 => by
        rw [hA1 a i k0]
        simp [mgO, hset, k4]
      refine hR.one (j := j) (m := m) (v := v) ?_ hj (fun k hk => ?_) ?_
      · have osg : ∀ i y, i < 11 → hset (rmO hB j (fMerge hp 0 j)) (17, 0, 0, 0) 11 y (17, 0, 0, 0) i = sr i := fun i y h => by
          rw [os2 i y (by omega)]
          exact os i (c0 i 1 (by omega)) (c0 i 2 (by omega)) (c0 i 4 (by omega))
        unfold GL
        rw [osg 0 _ (by decide), osg 1 _ (by decide), osg 2 _ (by decide), osg 3 _ (by decide), osg 4 _ (by decide), osg 5 _ (by decide), osg 6 _ (by decide), osg 7 _ (by decide), osg 8 _ (by decide), osg 9 _ (by decide), osg 10 _ (by decide), hs_eq, hA3, hA2 3 (by decide), hA2 4 (by decide), hA2 5 (by decide), hA2 6 (by decide), hA2 7 (by decide), hA2 8 (by decide), ax (2, 0, 0, 0) 0 (by simp) (by simp), ax (2, 0, 0, 0) 1 (by simp) (by simp), ax (2, 0, 0, 0) 2 (by simp) (by simp), ax (3, 0, 0, 0) 0 (by simp) (by simp), ax (3, 0, 0, 0) 1 (by simp) (by simp)]
        refine ⟨h1, h2, h3, h4, ⟨op, op1, op2, op3, op4⟩, h6, h7, h8, h9, q1, q2, q3, ?_⟩
        rw [e, q4, lie_eq hS e]
      · refine ⟨fun i _ _ => ax _ _ (by simp) (by simp [hk]), fun b _ => ⟨fun i _ _ => ax _ _ (by simp) (by simp), fun i _ => ⟨ax _ _ (by simp) (by simp), ax _ _ (by simp) (by simp)⟩⟩, fun f hf => ?_⟩
        rw [os2 _ _ (by unfold cI; omega)]
        exact os _ (by unfold cI; omega) (by unfold cI; omega) (by unfold cI; omega)
      · have osf : ∀ f y, f ≠ 1 → f ≠ 2 → f ≠ 4 → hset (rmO hB j (fMerge hp 0 j)) (17, 0, 0, 0) 11 y (17, 0, 0, 0) (cI j f) = sr (cI j f) := fun f y k1 k2 k4 => by
          rw [os2 _ y (by unfold cI; omega)]
          exact os _ (by unfold cI; omega) (by unfold cI; omega) (by unfold cI; omega)
        refine hS.upd (by rw [a4]; simp [mgO, hset]) (by rw [a4]; simp [mgO, hset]) (fun b _ i _ _ => ax _ _ (by simp) (by simp)) (fun b _ i _ => ⟨ax _ _ (by simp) (by simp), ax _ _ (by simp) (by simp)⟩) (osf _ _ (by decide) (by decide) (by decide)) (fun f _ _ => osf _ _ (by omega) (by omega) (by omega)) (fun b hb => ?_) ?_
        · have h := off b hb
          unfold Roff at h ⊢
          rw [osf _ _ (by omega) (by omega) (by omega), osf _ _ (by omega) (by omega) (by omega), ax (5, 0, j, b) 5 (by simp) (by simp), ax (5, 0, j, b) 6 (by simp) (by simp)]
          exact h
        · unfold Rmis
          rw [os2 _ _ (by unfold cI; omega), os2 _ _ (by unfold cI; omega), os2 (cI j 4) _ (by unfold cI; omega), oc1, oc2, oc4, osf 3 _ (by decide) (by decide) (by decide), osf 5 _ (by decide) (by decide) (by decide), osf 6 _ (by decide) (by decide) (by decide), a4 4, a4 5, a4 6, a4 7, a4 8, a4 9]
          refine ⟨by simp [mgO, hset], ⟨op, op2, by simp [mgO, hset]; exact op3, rfl⟩, by simp [mgO, hset]; exact b3, by simp [mgO, hset, b4], ?_, by simp [mgO, hset]; exact b6⟩
          simpa [mgO, hset] using b5
    cases hL : mgL hp 0 j
    · rw [if_neg (by decide)]
      refine hcls _ (fun a i _ => rfl) (fun i _ => by simp [mgO, hset]) ?_
      rw [hL]
      simp [mgO, hset]
      exact (Int32.add_zero _).symm
    · rw [if_pos rfl]
      refine hcls _ (fun a i k => hs_a k) (fun i k => by rw [hs_i k]; simp [mgO, hset]) ?_
      rw [hL, hs_eq]
      rfl
  · rw [if_neg hm, if_neg hm]
    have os : ∀ i, i ≠ cI j 3 → i ≠ 10 → rmC hB j (17, 0, 0, 0) i = sr i := fun i k3 k10 => by
      unfold rmC
      rw [hs_i k10, hs_i k3, e]
    have o10 : rmC hB j (17, 0, 0, 0) 10 = sr 10 + 1 := by
      unfold rmC
      rw [hs_eq, e]
    have oc3 : rmC hB j (17, 0, 0, 0) (cI j 3) = sr (cI j 3) + 1 := by
      unfold rmC
      rw [hs_i (by unfold cI; omega), hs_eq, e]
    refine hR.one (j := j) (m := m) (v := v) ?_ hj (fun k hk => ?_) ?_
    · have osg : ∀ i, i < 12 → i ≠ 10 → rmC hB j (17, 0, 0, 0) i = sr i := fun i h h10 => os i (c0 i 3 h) h10
      unfold GL
      rw [osg 0 (by decide) (by decide), osg 1 (by decide) (by decide), osg 2 (by decide) (by decide), osg 3 (by decide) (by decide), osg 4 (by decide) (by decide), osg 5 (by decide) (by decide), osg 6 (by decide) (by decide), osg 7 (by decide) (by decide), osg 8 (by decide) (by decide), osg 9 (by decide) (by decide), osg 11 (by decide) (by decide), o10]
      simp only [mgC, hset, Prod.mk.injEq, and_true, and_self, if_false, if_true, Nat.reduceEqDiff, false_and, and_false, reduceCtorEq]
      exact ⟨h1, h2, h3, h4, ⟨op, op1, op2, op3, op4⟩, h6, h7, h8, h9, q1, q2, by rw [q3], q4⟩
    · refine ⟨fun i _ _ => by simp [mgC, hset, hk], fun b _ => ⟨fun i _ _ => by simp [mgC, hset], fun i _ => ⟨by simp [mgC, hset], by simp [mgC, hset]⟩⟩, fun f hf => os _ (by unfold cI; omega) (by unfold cI; omega)⟩
    · have osf : ∀ f, f ≠ 3 → rmC hB j (17, 0, 0, 0) (cI j f) = sr (cI j f) := fun f k => os _ (by unfold cI; omega) (by unfold cI; omega)
      refine hS.upd (by simp [mgC, hset]) (by simp [mgC, hset]) (fun b _ i _ _ => by simp [mgC, hset]) (fun b _ i _ => ⟨by simp [mgC, hset], by simp [mgC, hset]⟩) (osf _ (by decide)) (fun f _ _ => osf _ (by omega)) (fun b hb => ?_) ?_
      · have h := off b hb
        unfold Roff at h ⊢
        rw [osf _ (by omega), osf _ (by omega)]
        simpa [mgC, hset] using h
      · unfold Rmis
        rw [osf 1 (by decide), osf 2 (by decide), oc3, osf 4 (by decide), osf 5 (by decide), osf 6 (by decide)]
        refine ⟨by simpa [mgC, hset] using b1, ⟨l, hl, by simpa [mgC, hset] using l1, l2⟩, by simp [mgC, hset, b3], by simpa [mgC, hset] using b4, by simpa [mgC, hset] using b5, by simpa [mgC, hset] using b6⟩
theorem rmO_off {hB : HPt} {j : Nat} {v : Int32} : offR hB (rmO hB j v) := ((offR.rfl'.set).set).set
theorem RG_off {hB : HPt} {j : Nat} : offR hB (RG hB j) := by
  unfold RG
  split
  · exact rmO_off.set
  · exact (offR.rfl'.set).set
theorem MG_offS {j : Nat} : offS hp (MG hp 0 j) := by
  have h : ∀ v, offS hp (mgO hp 0 j v) := fun v => ((offS.rfl'.set (by decide)).set (by decide)).set (by decide)
  unfold MG
  split
  · split
    · exact (h _).set (by decide)
    · exact h _
  · exact (offS.rfl'.set (by decide)).set (by decide)
theorem MG_WT {j : Nat} (hW : WT hp) : WT (MG hp 0 j) := by
  have h : ∀ v, WT (mgO hp 0 j v) := fun v => ((hW.set (okv_free rfl rfl)).set (okv_free rfl rfl)).set (okv_free rfl rfl)
  unfold MG
  split
  · split
    · exact (h _).set (okv_free rfl rfl)
    · exact h _
  · exact (hW.set (okv_free rfl rfl)).set (okv_free rfl rfl)
theorem OK_merge (hR : Rep hp 0 sr n) (hW : WT hp) : OK g mX5_mergeParts mX7_merges [vR (0, 0, 0, 0), vI x] [vR (16, 0, 0, 0), vI x] hp sr := by
  have hG := hR.1
  cases hx : fHas hp 0 x
  · exact OK.err hR hW (tX5_mergeParts_e (by decide) hx) (fun hB e => tX7_merges_e (by rw [has_eq hG e]; exact hx))
  · obtain ⟨j, hj, rfl⟩ := has_of hG hx
    have hn8 := hG.1
    have hj8 : j < 8 := by omega
    cases hs : fSlp hp 0
    · obtain ⟨m, v, hS⟩ := hR.2.1 j hj
      refine ⟨_, _, fun h => RG h j, tX5_mergeParts (by decide) hj8 hx hs (mg_pos hS), MG_WT hW, MG_offS, fun _ _ e => RG_loc e, fun hB e => ⟨(tX7_merges hj8 (by rw [has_eq hG e]; exact hx) (by rw [awk_eq hG e, hs]; rfl)).eq (mg_eq hS e) rfl, RG_off, n, MG_Rep hR hj hS e⟩⟩
    · exact OK.err hR hW (tX5_mergeParts_e2 (by decide) hj8 hx hs) (fun hB e => tX7_merges_e2 (by rw [has_eq hG e]; exact hx) (by rw [awk_eq hG e, hs]; rfl))
end O4
