section OPT
variable {hp : HPt} {j n m v c E b r : Nat} {sec : Int32}
theorem wt_b (hW : WT hp) {a : A4} {i : Nat} (hk : bK a.1 i = true) : ∃ q : Bool, hp a i = bi q := by
  rcases hW.b hk with h | h
  · exact ⟨false, h⟩
  · exact ⟨true, h⟩
theorem bi_ne {q : Bool} : (¬ bi q = 0) ↔ q = true := bi_n0
/-- what thieves have, behind a theft -/
theorem tk_th (hb : b < 2) (hr : r ≤ m) (hm : m < 5) (hW : WT hp) (h : Htk hp j m E) : Htk (thB hp 0 j b r) j m (E + 1) := by
  obtain ⟨s, s1, s2, s3, s4⟩ := h
  obtain ⟨a, ha⟩ := wt_b hW (a := (7, 0, j, 0)) (i := r) rfl
  obtain ⟨d, hd⟩ := wt_b hW (a := (7, 0, j, 1)) (i := r) rfl
  obtain ⟨k, hk⟩ := wt_b hW (a := (4, 0, j, 0)) (i := 9) rfl
  obtain ⟨t1, t2, t3, t4⟩ := th_v hb ha hd hk
  have o7 : ∀ b2 i, i ≠ r → thB hp 0 j b r (7, 0, j, b2) i = hp (7, 0, j, b2) i := fun b2 i h => thB_x (by simp) (fun _ => h)
  have e8 : thB hp 0 j b r (4, 0, j, 0) 8 = nI (s + if (if b = 0 then a else d) = true then 0 else 1) := by
    rw [t3, s2]
    cases (if b = 0 then a else d)
    · exact nI_1 s
    · exact Int32.add_zero _
  have q := s3 r hr
  rw [ha, hd, hk] at q
  rw [hk] at s3 s4
  simp only [bi_ne] at q s3 s4
  have qa : a = true → 1 ≤ s := fun e => q.1 0 (by decide) (by rw [ha, e]; decide)
  have qd : d = true → 1 ≤ s := fun e => q.1 1 (by decide) (by rw [hd, e]; decide)
  have qk := q.2
  refine ⟨_, ?_, e8, fun r2 hr2 => ?_, fun h9 => ?_⟩
  · generalize (if b = 0 then a else d) = y
    cases y
    · exact Nat.succ_le_succ s1
    · exact Nat.le_succ_of_le s1
  · by_cases hrr : r2 = r
    · subst hrr
      rw [t4]
      refine ⟨fun b2 hb2 h7 => ?_, fun h70 h71 => ?_⟩
      · match b, hb with
        | 0, _ => cases a <;> simp_all
        | 1, _ => cases d <;> simp_all
      · rw [t1, bi_ne] at h70
        rw [t2, bi_ne] at h71
        rw [bi_ne, h70, h71]
        simp
    · have q2 := s3 r2 hr2
      rw [t4]
      refine ⟨fun b2 hb2 h7 => ?_, fun h70 h71 => ?_⟩
      · rw [o7 _ _ hrr] at h7
        have := q2.1 b2 hb2 h7
        omega
      · rw [o7 _ _ hrr] at h70 h71
        rw [bi_ne, q2.2 h70 h71]
        rfl
  · rw [t4, bi_ne] at h9
    match b, hb with
    | 0, _ => cases a <;> cases d <;> cases k <;> simp_all <;> omega
    | 1, _ => cases a <;> cases d <;> cases k <;> simp_all <;> omega
theorem op_steal (h : GO hp n E) (hj : j < n) (hb : b < 2) (hW : WT hp) (hr : ∀ m, hp (4, 0, j, 0) 3 = nI m → m < 5 → r ≤ m) : GO (thB hp 0 j b r) n (E + 1) := by
  obtain ⟨m, v, c, hG, hS, hZ⟩ := h
  obtain ⟨a0, a1, a4, a5, a6, a7, a8⟩ := hS j hj
  have hr2 := hr (m j) a1.1 a0.1
  have o4 : ∀ i, i ≠ 8 → i ≠ 9 → thB hp 0 j b r (4, 0, j, 0) i = hp (4, 0, j, 0) i := fun i h8 h9 => thB_x (fun _ => ⟨h8, h9⟩) (by simp)
  have ox : ∀ a i, a.1 ≠ 4 → a.1 ≠ 7 → thB hp 0 j b r a i = hp a i := fun a i h4 h7 => thB_x (fun e => absurd (by rw [e]) h4) (fun e => absurd (by rw [e]) h7)
  refine GO.one (mj := m j) (vj := v j) (cj := c j) hS hZ hj (Nat.le_succ E) (hG.cg (fun i _ _ => ox _ _ (by simp) (by simp)) (fun i _ => ox _ _ (by simp) (by simp))) rfl rfl (fun k _ => ox _ _ (by simp) (by simp)) (fun k hk _ => ⟨fun i _ _ => thB_x (by simp [hk]) (by simp), fun b2 _ => ⟨fun i _ _ => ox _ _ (by simp) (by simp), fun i _ => ⟨ox _ _ (by simp) (by simp), thB_x (by simp) (by simp [hk])⟩⟩⟩) ?_
  exact ⟨a0, ⟨by rw [o4 3 (by decide) (by decide)]; exact a1.1, by rw [o4 2 (by decide) (by decide)]; exact a1.2.1, by rw [o4 6 (by decide) (by decide)]; exact a1.2.2⟩, fun r hr => (a4 r hr).cg (fun b _ => ox _ _ (by simp) (by simp)), fun b2 hb => (a5 b2 hb).cg (fun b _ i _ h5 => ox _ _ (by simp) (by simp)) (ox _ _ (by simp) (by simp)) hb, fun b2 hb => (a6 b2 hb).cg (ox _ _ (by simp) (by simp)) (ox _ _ (by simp) (by simp)), a7.cg (o4 4 (by decide) (by decide)) (o4 5 (by decide) (by decide)), tk_th hb hr2 a0.1 hW a8⟩
/-- beats: open ones -/
theorem op_p1 (h : GO hp n E) : ∀ i, i ≤ n → GO (p1 hp 0 i) n E
  | 0, _ => h
  | i + 1, hi => by
    obtain ⟨m, v, c, hG, hS, hZ⟩ := op_p1 h i (by omega)
    obtain ⟨a0, a1, a4, a5, a6, ⟨⟨l, hl, l1⟩, w⟩, a8⟩ := hS i (by omega)
    show GO (hset (p1 hp 0 i) (4, 0, i, 0) 5 _) n E
    rw [l1, (dec_eq hl).1]
    have ex : ∀ a k, a ≠ (4, 0, i, 0) → hset (p1 hp 0 i) (4, 0, i, 0) 5 (nI (l - 1)) a k = p1 hp 0 i a k := fun a k h => hs_a h
    have e4 : ∀ k, k ≠ 5 → hset (p1 hp 0 i) (4, 0, i, 0) 5 (nI (l - 1)) (4, 0, i, 0) k = p1 hp 0 i (4, 0, i, 0) k := fun k h => hs_i h
    refine GO.one (mj := m i) (vj := v i) (cj := c i) hS hZ (by omega) (Nat.le_refl E) (hG.cg (fun k _ _ => ex _ _ (by simp)) (fun k _ => ex _ _ (by simp))) rfl rfl (fun k _ => ex _ _ (by simp)) (fun k hk _ => ⟨fun q _ _ => ex _ _ (by simp [hk]), fun b2 _ => ⟨fun q _ _ => ex _ _ (by simp), fun q _ => ⟨ex _ _ (by simp), ex _ _ (by simp)⟩⟩⟩) ?_
    exact ⟨a0, ⟨by rw [e4 3 (by decide)]; exact a1.1, by rw [e4 2 (by decide)]; exact a1.2.1, by rw [e4 6 (by decide)]; exact a1.2.2⟩, fun r hr => (a4 r hr).cg (fun b _ => ex _ _ (by simp)), fun b2 hb => (a5 b2 hb).cg (fun b _ i _ h5 => ex _ _ (by simp)) (ex _ _ (by simp)) hb, fun b2 hb => (a6 b2 hb).cg (ex _ _ (by simp)) (ex _ _ (by simp)), ⟨⟨l - 1, by omega, hs_eq⟩, by rw [e4 4 (by decide)]; exact w⟩, a8.cg (Nat.le_refl _) (e4 8 (by decide)) (e4 9 (by decide)) (fun b _ r _ => ex _ _ (by simp))⟩
theorem op_p2 {q : Nat} (h : GO hp n E) (hq : hp (0, 0, 0, 0) 5 = nI q) (hq9 : q < 9999) : GO (p2 hp 0 n) n E := by
  obtain ⟨m, v, c, ⟨h1, h2, h4, h5, h6, h7, h8, h9⟩, hS, hZ⟩ := op_p1 h n (Nat.le_refl _)
  unfold p2
  rw [hq, nI_1]
  have e2 : ∀ i, hset (p1 hp 0 n) (0, 0, 0, 0) 5 (nI (q + 1)) (2, 0, 0, 0) i = p1 hp 0 n (2, 0, 0, 0) i := fun i => hs_a (by simp)
  have e0 : ∀ i, i ≠ 5 → hset (p1 hp 0 n) (0, 0, 0, 0) 5 (nI (q + 1)) (0, 0, 0, 0) i = p1 hp 0 n (0, 0, 0, 0) i := fun i h => hs_i h
  refine GO.gl hS hZ ?_ (fun k _ => hs_a (by simp)) (fun k _ => ⟨fun i _ _ => hs_a (by simp), fun b _ => ⟨fun i _ _ => hs_a (by simp), fun i _ => ⟨hs_a (by simp), hs_a (by simp)⟩⟩⟩)
  unfold GGl
  simp only [e2]
  rw [e0 3 (by decide), e0 4 (by decide), e0 6 (by decide), e0 7 (by decide), e0 8 (by decide)]
  exact ⟨h1, h2, ⟨q + 1, by omega, hs_eq⟩, h5, h6, h7, h8, h9⟩
theorem op_q1 (h : GO hp n E) : ∀ i, i ≤ n → GO (q1 hp 0 i) n E
  | 0, _ => h
  | i + 1, hi => by
    have ih := op_q1 h i (by omega)
    unfold q1
    split
    · exact ih
    next hc =>
      refine nx_GO ih (by omega) ?_
      obtain ⟨m, v, c, -, hS, -⟩ := ih
      have a1 := (hS i (by omega)).2.1.2.1
      have a0 := (hS i (by omega)).1.2.2
      rw [a1] at hc ⊢
      refine nI_lt (b := 999) ?_ (by decide)
      apply Nat.lt_of_not_le
      intro hq
      exact hc (nI_le (a := 999) hq (by omega))
theorem op_PB {q : Nat} (h : GO hp n E) (hq : hp (0, 0, 0, 0) 5 = nI q) (hq9 : q < 9999) : GO (PB hp 0 n) n E ∧ PB hp 0 n (0, 0, 0, 0) 5 = nI (q + 1) := by
  have h2 := op_p2 h hq hq9
  have e5 : p2 hp 0 n (0, 0, 0, 0) 5 = nI (q + 1) := by
    unfold p2
    rw [hs_eq, hq, nI_1]
  unfold PB
  split
  · exact ⟨h2, e5⟩
  · exact ⟨op_q1 h2 n (Nat.le_refl _), by rw [q1_0 (by decide)]; exact e5⟩
theorem op_PBs {q : Nat} (h : GO hp n E) (hq : hp (0, 0, 0, 0) 5 = nI q) : ∀ k, q + k ≤ 9999 → GO (PBs hp 0 n k) n E ∧ PBs hp 0 n k (0, 0, 0, 0) 5 = nI (q + k)
  | 0, _ => ⟨h, hq⟩
  | k + 1, hk => by
    have ih := op_PBs h hq k (by omega)
    exact op_PB (q := q + k) ih.1 ih.2 (by omega)
end OPT
