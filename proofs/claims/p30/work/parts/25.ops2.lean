section OPG
variable {hp : HPt} {j n m v c E b r : Nat} {sec : Int32}
theorem gl_set {k : Nat} {w : Int32} (h : GO hp n E) (hk : k < 3) (a1 : ¬ w < fL k) (a2 : w ≤ fM k) : GO (hset hp (2, 0, 0, 0) k w) n E := by
  obtain ⟨m, v, c, ⟨h1, h2, h4, h5, h6, h7, h8, h9⟩, hS, hZ⟩ := h
  refine GO.gl hS hZ ?_ (fun k _ => hs_a (by simp)) (fun k _ => ⟨fun i _ _ => hs_a (by simp), fun b _ => ⟨fun i _ _ => hs_a (by simp), fun i _ => ⟨hs_a (by simp), hs_a (by simp)⟩⟩⟩)
  have e0 : ∀ i, hset hp (2, 0, 0, 0) k w (0, 0, 0, 0) i = hp (0, 0, 0, 0) i := fun i => hs_a (by simp)
  unfold GGl
  simp only [e0]
  have w0 : ¬ w < 0 := by
    intro q
    have : ∀ k, k < 3 → (0 : Int32) ≤ fL k := by decide
    exact a1 (Int32.lt_of_lt_of_le q (this k hk))
  obtain ⟨y, hy, rfl⟩ := nI_of w0
  match k, hk with
  | 0, _ =>
    have l1 : 1 ≤ y := by
      apply Nat.le_of_not_lt
      intro q
      exact a1 (nI_lt (b := 1) q (by decide))
    have l2 : y ≤ 20 := (nI_leI (b := 20) hy (by decide)).mp a2
    exact ⟨h1, h2, h4, ⟨y, l1, l2, hs_eq⟩, by rw [hs_i (by decide)]; exact h6, by rw [hs_i (by decide)]; exact h7, h8, h9⟩
  | 1, _ =>
    have l2 : y ≤ 99 := (nI_leI (b := 99) hy (by decide)).mp a2
    exact ⟨h1, h2, h4, by rw [hs_i (by decide)]; exact h5, ⟨y, l2, hs_eq⟩, by rw [hs_i (by decide)]; exact h7, h8, h9⟩
  | 2, _ =>
    have l2 : y ≤ 4 := (nI_leI (b := 4) hy (by decide)).mp a2
    exact ⟨h1, h2, h4, by rw [hs_i (by decide)]; exact h5, by rw [hs_i (by decide)]; exact h6, ⟨y, l2, hs_eq⟩, h8, h9⟩
theorem gl_seed {w : Int32} (h : GO hp n E) (a1 : ¬ w < 0) (a2 : w ≤ 9999) : GO (hset hp (0, 0, 0, 0) 4 w) n E := by
  obtain ⟨m, v, c, ⟨h1, h2, h4, h5, h6, h7, h8, h9⟩, hS, hZ⟩ := h
  refine GO.gl hS hZ ?_ (fun k _ => hs_a (by simp)) (fun k _ => ⟨fun i _ _ => hs_a (by simp), fun b _ => ⟨fun i _ _ => hs_a (by simp), fun i _ => ⟨hs_a (by simp), hs_a (by simp)⟩⟩⟩)
  obtain ⟨y, hy, rfl⟩ := nI_of a1
  have l2 : y ≤ 9999 := (nI_leI (b := 9999) hy (by decide)).mp a2
  have e2 : ∀ i, hset hp (0, 0, 0, 0) 4 (nI y) (2, 0, 0, 0) i = hp (2, 0, 0, 0) i := fun i => hs_a (by simp)
  have e0 : ∀ i, i ≠ 4 → hset hp (0, 0, 0, 0) 4 (nI y) (0, 0, 0, 0) i = hp (0, 0, 0, 0) i := fun i h => hs_i h
  unfold GGl
  simp only [e2]
  rw [e0 3 (by decide), e0 5 (by decide), e0 6 (by decide), e0 7 (by decide), e0 8 (by decide)]
  exact ⟨h1, ⟨y, by omega, hs_eq⟩, h4, h5, h6, h7, h8, h9⟩
theorem gl_sleep {w : Int32} (h : GO hp n E) : GO (hset hp (3, 0, 0, 0) b w) n E := by
  obtain ⟨m, v, c, hG, hS, hZ⟩ := h
  exact GO.gl hS hZ (hG.cg (fun i _ _ => hs_a (by simp)) (fun i _ => hs_a (by simp))) (fun k _ => hs_a (by simp)) (fun k _ => ⟨fun i _ _ => hs_a (by simp), fun b _ => ⟨fun i _ _ => hs_a (by simp), fun i _ => ⟨hs_a (by simp), hs_a (by simp)⟩⟩⟩)
theorem op_burn (h : GO hp n E) (hj : j < n) : GO (hset (hset hp (4, 0, j, 0) 3 0) (0, 0, 0, 0) 7 (hp (0, 0, 0, 0) 7 + hp (4, 0, j, 0) 3)) n E := by
  obtain ⟨m, v, c, ⟨h1, h2, h4, h5, h6, h7, ⟨M, B, q1, q2, q3⟩, h9⟩, hS, hZ⟩ := h
  have hSj := hS j hj
  obtain ⟨⟨hm, hmv, hv9⟩, ⟨a1, a2, a3⟩, a4, a5, a6, a7, a8⟩ := hSj
  have hsum := sumN_upd (f := fun j => 1 + m j) (f2 := fun k => 1 + (if k = j then 0 else m k)) (j := j) (fun i hi => by rw [if_neg hi]) n hj
  rw [if_pos rfl] at hsum
  have e4 : ∀ i, i ≠ 3 → hset (hset hp (4, 0, j, 0) 3 0) (0, 0, 0, 0) 7 (hp (0, 0, 0, 0) 7 + hp (4, 0, j, 0) 3) (4, 0, j, 0) i = hp (4, 0, j, 0) i := fun i hi => by rw [hs_a (by simp), hs_i hi]
  have ex : ∀ a i, a.1 ≠ 0 → a ≠ (4, 0, j, 0) → hset (hset hp (4, 0, j, 0) 3 0) (0, 0, 0, 0) 7 (hp (0, 0, 0, 0) 7 + hp (4, 0, j, 0) 3) a i = hp a i := fun a i h0 h4 => by rw [hs_a (fun q => h0 (by rw [q])), hs_a h4]
  have e0 : ∀ i, i ≠ 7 → hset (hset hp (4, 0, j, 0) 3 0) (0, 0, 0, 0) 7 (hp (0, 0, 0, 0) 7 + hp (4, 0, j, 0) 3) (0, 0, 0, 0) i = hp (0, 0, 0, 0) i := fun i hi => by rw [hs_i hi, hs_a (by simp)]
  refine GO.one (mj := 0) (vj := v j) (cj := c j) (S := sumN (fun k => 1 + (if k = j then 0 else m k)) n) (C := sumN c n) hS hZ hj (Nat.le_refl _) ⟨⟨h1.1, by rw [e0 3 (by decide)]; exact h1.2⟩, by rw [e0 4 (by decide)]; exact h2, by rw [e0 5 (by decide)]; exact h4, by rw [ex _ _ (by simp) (by simp)]; exact h5, by rw [ex _ _ (by simp) (by simp)]; exact h6, by rw [ex _ _ (by simp) (by simp)]; exact h7, ⟨M, B + m j, by rw [e0 6 (by decide)]; exact q1, by rw [hs_eq, q2, a1, nI_add], by omega⟩, by rw [e0 8 (by decide)]; exact h9⟩ hsum rfl (fun k _ => ex _ _ (by simp) (by simp)) (fun k hk _ => ⟨fun i _ _ => ex _ _ (by simp) (by simp [hk]), fun b _ => ⟨fun i _ _ => ex _ _ (by simp) (by simp), fun i _ => ⟨ex _ _ (by simp) (by simp), ex _ _ (by simp) (by simp)⟩⟩⟩) ?_
  exact ⟨⟨by decide, by omega, hv9⟩, ⟨by rw [hs_a (by simp), hs_eq]; rfl, by rw [e4 2 (by decide)]; exact a2, by rw [e4 6 (by decide)]; exact a3⟩, fun r hr => (a4 r (by omega)).cg (fun b _ => ex _ _ (by simp) (by simp)), fun b hb => (a5 b hb).cg (fun b _ i _ _ => ex _ _ (by simp) (by simp)) (ex _ _ (by simp) (by simp)) hb, fun b hb => (a6 b hb).cg (ex _ _ (by simp) (by simp)) (ex _ _ (by simp) (by simp)), a7.cg (e4 4 (by decide)) (e4 5 (by decide)), a8.cg (Nat.zero_le _) (e4 8 (by decide)) (e4 9 (by decide)) (fun b _ r _ => ex _ _ (by simp) (by simp))⟩
theorem op_lie {o q : Nat} (h : GO hp n E) (hj : j < n) (ho : o < 256) (hq : q < 257) : GO (hset (hset hp (5, 0, j, b) 5 (nI o)) (5, 0, j, b) 6 (nI q)) n E := by
  obtain ⟨m, v, c, hG, hS, hZ⟩ := h
  obtain ⟨a0, a1, a4, a5, a6, a7, a8⟩ := hS j hj
  have ex : ∀ a i, a.1 ≠ 5 → hset (hset hp (5, 0, j, b) 5 (nI o)) (5, 0, j, b) 6 (nI q) a i = hp a i := fun a i h5 => by rw [hs_a (fun q => h5 (by rw [q])), hs_a (fun q => h5 (by rw [q]))]
  have e5 : ∀ b2 i, i < 5 → hset (hset hp (5, 0, j, b) 5 (nI o)) (5, 0, j, b) 6 (nI q) (5, 0, j, b2) i = hp (5, 0, j, b2) i := fun b2 i hi => by rw [hs_i (by omega), hs_i (by omega)]
  refine GO.one (mj := m j) (vj := v j) (cj := c j) hS hZ hj (Nat.le_refl _) (hG.cg (fun i _ _ => ex _ _ (by simp)) (fun i _ => ex _ _ (by simp))) rfl rfl (fun k _ => ex _ _ (by simp)) (fun k hk _ => ⟨fun i _ _ => ex _ _ (by simp), fun b2 _ => ⟨fun i _ _ => by rw [hs_a (by simp [hk]), hs_a (by simp [hk])], fun i _ => ⟨ex _ _ (by simp), ex _ _ (by simp)⟩⟩⟩) ?_
  refine ⟨a0, ⟨by rw [ex _ _ (by simp)]; exact a1.1, by rw [ex _ _ (by simp)]; exact a1.2.1, by rw [ex _ _ (by simp)]; exact a1.2.2⟩, fun r hr => (a4 r hr).cg (fun b _ => ex _ _ (by simp)), fun b2 hb => (a5 b2 hb).cg (fun b _ i _ h5 => e5 b i h5) (ex _ _ (by simp)) hb, fun b2 hb => ?_, a7.cg (ex _ _ (by simp)) (ex _ _ (by simp)), a8.cg (Nat.le_refl _) (ex _ _ (by simp)) (ex _ _ (by simp)) (fun b _ r _ => ex _ _ (by simp))⟩
  by_cases hbb : b2 = b
  · subst hbb
    exact ⟨o, q, ho, hq, by rw [hs_i (by decide), hs_eq], hs_eq⟩
  · exact (a6 b2 hb).cg (by rw [hs_a (by simp [hbb]), hs_a (by simp [hbb])]) (by rw [hs_a (by simp [hbb]), hs_a (by simp [hbb])])
/-- a merger's answer: caught, or a number below 256 -/
theorem mg_v (h : SG hp j sec m v c E) : fMerge hp 0 j = nI 1000 ∨ fMerge hp 0 j = nI 1001 ∨ ∃ w, w < 256 ∧ fMerge hp 0 j = nI w := by
  obtain ⟨-, -, a4, -, a6, -, -⟩ := h
  obtain ⟨o0, q0, ho0, -, e0, -⟩ := a6 0 (by decide)
  obtain ⟨o1, q1, ho1, -, e1, -⟩ := a6 1 (by decide)
  obtain ⟨p0, p1, hp0, hp1, c0, c1, -⟩ := a4 0 (Nat.zero_le _)
  unfold fMerge
  split
  · exact Or.inl rfl
  · split
    · exact Or.inr (Or.inl rfl)
    · right
      right
      rw [e0, e1, c0, c1, nI_add, nI_add, rem6 (by omega), rem6 (by omega), nI_add]
      have h0 := Nat.mod_lt (p0 + o0) (show 256 > 0 by decide)
      have h1 := Nat.mod_lt (p1 + o1) (show 256 > 0 by decide)
      exact ⟨_, Nat.mod_lt _ (by decide), rem6 (by omega)⟩
theorem mg_pos (h : SG hp j sec m v c E) : 0 ≤ fMerge hp 0 j := by
  rcases mg_v h with e | e | ⟨w, hw, e⟩
  · rw [e]; decide
  · rw [e]; decide
  · rw [e]; exact nI_pos' (by omega)
theorem op_merge (h : GO hp n E) (hj : j < n) : GO (MG hp 0 j) n E := by
  obtain ⟨m, v, c, hG, hS, hZ⟩ := h
  have hv := mg_v (hS j hj)
  obtain ⟨a0, a1, a4, a5, a6, a7, a8⟩ := hS j hj
  unfold MG
  by_cases hm : fMerge hp 0 j < 1000
  · rw [if_pos hm]
    have hw : ∃ w, w < 256 ∧ fMerge hp 0 j = nI w := by
      rcases hv with e | e | e
      · rw [e] at hm; exact absurd hm (by decide)
      · rw [e] at hm; exact absurd hm (by decide)
      · exact e
    obtain ⟨w, hw, ew⟩ := hw
    have hcls : ∀ hA : HPt, (∀ a i, a ≠ (0, 0, 0, 0) → hA a i = mgO hp 0 j (fMerge hp 0 j) a i) → (∀ i, i ≠ 9 → hA (0, 0, 0, 0) i = hp (0, 0, 0, 0) i) → GO hA n E := by
      intro hA hA1 hA2
      have a4' : ∀ i, hA (4, 0, j, 0) i = mgO hp 0 j (fMerge hp 0 j) (4, 0, j, 0) i := fun i => hA1 _ i (by simp)
      have ax : ∀ a i, a ≠ (0, 0, 0, 0) → a ≠ (4, 0, j, 0) → hA a i = hp a i := fun a i k0 k4 => by
        rw [hA1 a i k0]
        simp [mgO, hset, k4]
      have e4 : ∀ i, i ≠ 4 → i ≠ 5 → i ≠ 7 → hA (4, 0, j, 0) i = hp (4, 0, j, 0) i := fun i h4 h5 h7 => by
        rw [a4']
        simp [mgO, hset, h4, h5, h7]
      obtain ⟨l, l1, l2, l3⟩ := hG.2.2.2.1
      refine GO.one (mj := m j) (vj := v j) (cj := c j) hS hZ hj (Nat.le_refl _) (hG.cg (fun i _ h => hA2 i (by omega)) (fun i _ => ax _ _ (by simp) (by simp))) rfl rfl (fun k _ => ax _ _ (by simp) (by simp)) (fun k hk _ => ⟨fun i _ _ => ax _ _ (by simp) (by simp [hk]), fun b2 _ => ⟨fun i _ _ => ax _ _ (by simp) (by simp), fun i _ => ⟨ax _ _ (by simp) (by simp), ax _ _ (by simp) (by simp)⟩⟩⟩) ?_
      refine ⟨a0, ⟨by rw [e4 3 (by decide) (by decide) (by decide)]; exact a1.1, by rw [e4 2 (by decide) (by decide) (by decide)]; exact a1.2.1, by rw [e4 6 (by decide) (by decide) (by decide)]; exact a1.2.2⟩, fun r hr => (a4 r hr).cg (fun b _ => ax _ _ (by simp) (by simp)), fun b2 hb => (a5 b2 hb).cg (fun b _ i _ h5 => ax _ _ (by simp) (by simp)) (ax _ _ (by simp) (by simp)) hb, fun b2 hb => (a6 b2 hb).cg (ax _ _ (by simp) (by simp)) (ax _ _ (by simp) (by simp)), ⟨⟨l, l2, ?_⟩, w, hw, ?_⟩, a8.cg (Nat.le_refl _) (e4 8 (by decide) (by decide) (by decide)) (e4 9 (by decide) (by decide) (by decide)) (fun b _ r _ => ax _ _ (by simp) (by simp))⟩
      · rw [a4']
        simp [mgO, hset]
        exact l3
      · rw [a4', ← ew]
        simp [mgO, hset]
    split
    · exact hcls _ (fun a i k => hs_a k) (fun i k => by rw [hs_i k]; simp [mgO, hset])
    · exact hcls _ (fun a i _ => rfl) (fun i _ => by simp [mgO, hset])
  · rw [if_neg hm]
    have ex : ∀ a i, a ≠ (0, 0, 0, 0) → a ≠ (4, 0, j, 0) → mgC hp 0 j a i = hp a i := fun a i h0 h4 => by simp [mgC, hset, h0, h4]
    have e4 : ∀ i, i ≠ 6 → mgC hp 0 j (4, 0, j, 0) i = hp (4, 0, j, 0) i := fun i h => by simp [mgC, hset, h]
    have e0 : ∀ i, i ≠ 8 → mgC hp 0 j (0, 0, 0, 0) i = hp (0, 0, 0, 0) i := fun i h => by simp [mgC, hset, h]
    have e46 : mgC hp 0 j (4, 0, j, 0) 6 = nI (c j + 1) := by simp [mgC, hset, a1.2.2, nI_1]
    obtain ⟨h1, h2, h4, h5, h6, h7, h8, h9⟩ := hG
    have e08 : mgC hp 0 j (0, 0, 0, 0) 8 = nI (sumN c n + 1) := by simp [mgC, hset, h9, nI_1]
    refine GO.one (mj := m j) (vj := v j) (cj := c j + 1) (S := sumN (fun j => 1 + m j) n) (C := sumN c n + 1) hS hZ hj (Nat.le_refl _) ⟨⟨h1.1, by rw [e0 3 (by decide)]; exact h1.2⟩, by rw [e0 4 (by decide)]; exact h2, by rw [e0 5 (by decide)]; exact h4, by rw [ex _ _ (by simp) (by simp)]; exact h5, by rw [ex _ _ (by simp) (by simp)]; exact h6, by rw [ex _ _ (by simp) (by simp)]; exact h7, by rw [e0 6 (by decide), e0 7 (by decide)]; exact h8, e08⟩ rfl (by omega) (fun k _ => ex _ _ (by simp) (by simp)) (fun k hk _ => ⟨fun i _ _ => ex _ _ (by simp) (by simp [hk]), fun b2 _ => ⟨fun i _ _ => ex _ _ (by simp) (by simp), fun i _ => ⟨ex _ _ (by simp) (by simp), ex _ _ (by simp) (by simp)⟩⟩⟩) ?_
    exact ⟨a0, ⟨by rw [e4 3 (by decide)]; exact a1.1, by rw [e4 2 (by decide)]; exact a1.2.1, e46⟩, fun r hr => (a4 r hr).cg (fun b _ => ex _ _ (by simp) (by simp)), fun b2 hb => (a5 b2 hb).cg (fun b _ i _ h5 => ex _ _ (by simp) (by simp)) (ex _ _ (by simp) (by simp)) hb, fun b2 hb => (a6 b2 hb).cg (ex _ _ (by simp) (by simp)) (ex _ _ (by simp) (by simp)), a7.cg (e4 4 (by decide)) (e4 5 (by decide)), a8.cg (Nat.le_refl _) (e4 8 (by decide)) (e4 9 (by decide)) (fun b _ r _ => ex _ _ (by simp) (by simp))⟩
end OPG
