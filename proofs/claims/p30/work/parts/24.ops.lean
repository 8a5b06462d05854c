section MKG
variable {hp : HPt} {j n x val m v c E o : Nat} {sec : Int32}
theorem dAB (hv : val < 256) : (dA x + dB x val) % 256 = val := by
  have h := @dA_lt x
  unfold dB
  omega
theorem mk_SG (hx : x < 65537) (hX : hp (0, 0, 0, 0) 4 = nI x) (hv : val < 256) (h : QG hp j (nI val) m v c E) : SG (MV hp 0 j (nI val)) j (nI val) m v c E := by
  obtain ⟨⟨v1, v2⟩, ⟨v3, v4, v5, v6⟩, ⟨v7, -, -⟩, v10, v11⟩ := MV_v (t := 0) (j := j) hx hX hv
  obtain ⟨⟨hm, hmv, hv9⟩, ⟨a1, a2, a3⟩, a4, a5, a6, a7, a8⟩ := h
  have o4 : ∀ i, i ≠ 2 → MV hp 0 j (nI val) (4, 0, j, 0) i = hp (4, 0, j, 0) i := fun i hi => MV_off (by simp) (fun _ => hi) (by simp) (by simp)
  have o7 : ∀ b i, MV hp 0 j (nI val) (7, 0, j, b) i = hp (7, 0, j, b) i := fun b i => MV_off (by simp) (by simp) (by simp) (by simp)
  have o5 : ∀ b i, 5 ≤ i → MV hp 0 j (nI val) (5, 0, j, b) i = hp (5, 0, j, b) i := fun b i hi => by
    have h2 : i ≠ 2 ∧ i ≠ 3 ∧ i ≠ 4 := by omega
    simp [MV, mv1, mv2, mv3, mv4, mv5, mv6, dr, hset, h2]
  have o6 : ∀ b i, 1 ≤ i → MV hp 0 j (nI val) (6, 0, j, b) i = hp (6, 0, j, b) i := fun b i hi => by
    have h2 : i ≠ 0 := by omega
    simp [MV, mv1, mv2, mv3, mv4, mv5, mv6, dr, hset, h2]
  refine ⟨⟨hm, hmv, hv9⟩, ⟨by rw [o4 3 (by decide)]; exact a1, ?_, by rw [o4 6 (by decide)]; exact a3⟩, fun r hr => ?_, fun b hb => ?_, fun b hb => (a6 b hb).cg (o5 _ _ (by decide)) (o5 _ _ (by decide)), a7.cg (o4 4 (by decide)) (o4 5 (by decide)), a8.cg (Nat.le_refl _) (o4 8 (by decide)) (o4 9 (by decide)) (fun b _ r _ => o7 b r)⟩
  · rw [v7, a2, nI_1]
    congr 1
    omega
  · by_cases h0 : r = 0
    · subst h0
      exact ⟨dA x, dB x val, dA_lt, dB_lt, v1, v2, by rw [dAB hv]⟩
    · exact (a4 r (by omega) hr).cg (fun b hb => o6 b r (by omega))
  · have hf2 : xk x 2 / 16 % 256 < 256 := Nat.mod_lt _ (by decide)
    have hf4 : xk x 4 / 16 % 256 < 256 := Nat.mod_lt _ (by decide)
    match b, hb with
    | 0, _ => exact ⟨xk x 2 / 16 % 256 + 1, xk x 3 / 16 % 257, by omega, by omega, Nat.mod_lt _ (by decide), v3, v4, by rw [v10, v1]⟩
    | 1, _ => exact ⟨xk x 4 / 16 % 256 + 1, xk x 5 / 16 % 257, by omega, by omega, Nat.mod_lt _ (by decide), v5, v6, by rw [v11, v2]⟩
theorem mk_j {k : Nat} {u : Int32} (hk : k ≠ j) : AGj hp (MV hp 0 j u) k :=
  ⟨fun i _ _ => MV_off (by simp) (by simp [hk]) (by simp) (by simp), fun b _ => ⟨fun i _ _ => MV_off (by simp) (by simp) (by simp [hk]) (by simp), fun i _ => ⟨MV_off (by simp) (by simp) (by simp) (by simp [hk]), MV_off (by simp) (by simp) (by simp) (by simp)⟩⟩⟩
theorem kp_QG (h : ZG hp n) : QG hp n sec 0 1 0 E := by
  obtain ⟨z4, z5⟩ := h
  refine ⟨⟨by decide, by decide, by decide⟩, ⟨z4 3 (by decide) (by decide), z4 2 (by decide) (by decide), z4 6 (by decide) (by decide)⟩, fun r h1 h2 => by omega, fun b hb => (z5 b hb).2.2, fun b hb => ⟨0, 0, by decide, by decide, (z5 b hb).1, (z5 b hb).2.1⟩, ⟨⟨0, by decide, z4 5 (by decide) (by decide)⟩, 0, by decide, z4 4 (by decide) (by decide)⟩, 0, Nat.zero_le _, z4 8 (by decide) (by decide), fun r hr => ⟨fun b hb h => ?_, fun h _ => ?_⟩, fun h => absurd (z4 9 (by decide) (by decide)) h⟩
  · obtain rfl : r = 0 := by omega
    exact absurd (z5 b hb).2.2 h
  · obtain rfl : r = 0 := by omega
    exact absurd (z5 0 (by decide)).2.2 h
/-- a secret comes -/
theorem kp_GO (h : GO hp n E) (hn : n < 8) (hv : val < 256) {h2 : HPt} (e2 : ∀ a i, a.1 ≠ 0 → a.1 < 8 → h2 a i = MV hp 0 n (nI val) a i) (e0 : ∀ i, i ≠ 3 → h2 (0, 0, 0, 0) i = MV hp 0 n (nI val) (0, 0, 0, 0) i) (e3 : h2 (0, 0, 0, 0) 3 = nI (n + 1)) (e16 : ∀ k, k ≠ n → h2 (16, 0, 0, 0) k = hp (16, 0, 0, 0) k) (en : h2 (16, 0, 0, 0) n = nI val) : GO h2 (n + 1) E := by
  obtain ⟨m, v, c, ⟨h1, ⟨x, hx, x1⟩, h4, h5, h6, h7, ⟨M, B, q1, q2, q3⟩, q4⟩, hS, hZ⟩ := h
  have o0 : ∀ i, i ≠ 4 → i ≠ 6 → i ≠ 3 → h2 (0, 0, 0, 0) i = hp (0, 0, 0, 0) i := fun i h4 h6 h3 => by
    rw [e0 i h3]
    exact MV_off (fun _ => ⟨h4, h6⟩) (by simp) (by simp) (by simp)
  have o2 : ∀ i, h2 (2, 0, 0, 0) i = hp (2, 0, 0, 0) i := fun i => by
    rw [e2 _ _ (by simp) (by simp)]
    exact MV_off (by simp) (by simp) (by simp) (by simp)
  obtain ⟨-, -, ⟨-, v8, v9⟩, -⟩ := MV_v (t := 0) (j := n) hx x1 hv
  have ag : ∀ k, AGj (MV hp 0 n (nI val)) h2 k := fun k => ⟨fun i _ _ => e2 _ _ (by simp) (by simp), fun b _ => ⟨fun i _ _ => e2 _ _ (by simp) (by simp), fun i _ => ⟨e2 _ _ (by simp) (by simp), e2 _ _ (by simp) (by simp)⟩⟩⟩
  have hnew := (mk_SG hx x1 hv (kp_QG (sec := nI val) (E := E) (hZ n (Nat.le_refl _) hn))).cg (ag n)
  have s1 := sumN_cg (f := fun j => 1 + m j) (f2 := fun k => 1 + (if k = n then 0 else m k)) n (fun i hi => by rw [if_neg (by omega)])
  have s2 := sumN_cg (f := c) (f2 := fun k => if k = n then 0 else c k) n (fun i hi => by rw [if_neg (by omega)])
  refine ⟨fun k => if k = n then 0 else m k, fun k => if k = n then 1 else v k, fun k => if k = n then 0 else c k, ⟨⟨by omega, e3⟩, ⟨_, xk_lt hx 5, ?_⟩, ?_, ?_, ?_, ?_, ⟨M + 1, B, ?_, ?_, ?_⟩, ?_⟩, fun k hk => ?_, fun k hk hk8 => ((hZ k (by omega) hk8).cg (mk_j (by omega))).cg (ag k)⟩
  · rw [e0 4 (by decide)]; exact v8
  · rw [o0 5 (by decide) (by decide) (by decide)]; exact h4
  · rw [o2]; exact h5
  · rw [o2]; exact h6
  · rw [o2]; exact h7
  · rw [e0 6 (by decide), v9, q1, nI_1]
  · rw [o0 7 (by decide) (by decide) (by decide)]; exact q2
  · show M + 1 = B + (sumN _ n + (1 + if n = n then 0 else m n))
    rw [s1, if_pos rfl]
    omega
  · rw [o0 8 (by decide) (by decide) (by decide), q4]
    show _ = nI (sumN _ n + if n = n then 0 else c n)
    rw [s2, if_pos rfl]
    rfl
  · by_cases hkn : k = n
    · subst hkn
      rw [en]
      simp only [if_pos]
      exact hnew
    · simp only [if_neg hkn]
      rw [e16 k hkn]
      exact ((hS k (by omega)).cg (mk_j hkn)).cg (ag k)
theorem nx_QG (hS : SG hp j sec m v c E) (hv : v < 999) (ho : o < 5) (hO : hp (2, 0, 0, 0) 2 = nI o) : QG (mn1 hp 0 j) j sec (min (m + 1) o) (v + 1) c E := by
  obtain ⟨⟨hm, hmv, hv9⟩, ⟨a1, a2, a3⟩, a4, -, a6, a7, ⟨s, s1, s2, s3, s4⟩⟩ := hS
  have o4 : ∀ i, i ≠ 3 → mn1 hp 0 j (4, 0, j, 0) i = hp (4, 0, j, 0) i := fun i hi => by
    rw [mn1_o (fun _ => hi) (by simp)]
    exact frS_off (by simp) (by simp)
  have o5 : ∀ b i, mn1 hp 0 j (5, 0, j, b) i = hp (5, 0, j, b) i := fun b i => by
    rw [mn1_o (by simp) (by simp)]
    exact frS_off (by simp) (by simp)
  have e6 : ∀ b, b < 2 → ∀ r, 1 ≤ r → r < 5 → mn1 hp 0 j (6, 0, j, b) r = hp (6, 0, j, b) (r - 1) := fun b hb r h1 h5 => by
    rw [mn1_o (by simp) (by simp)]
    exact frS_6 hb h1 h5
  have e7 : ∀ b, b < 2 → ∀ r, 1 ≤ r → r < 5 → mn1 hp 0 j (7, 0, j, b) r = hp (7, 0, j, b) (r - 1) := fun b hb r h1 h5 => by
    rw [mn1_o (by simp) (by simp)]
    exact frS_7 hb h1 h5
  have e70 : ∀ b, b < 2 → mn1 hp 0 j (7, 0, j, b) 0 = 0 := fun b hb => by
    rw [mn1_o (by simp) (by simp)]
    exact frS_70 hb
  refine ⟨⟨by omega, by omega, by omega⟩, ⟨(mn1_v hO ho hm a1).1, by rw [o4 2 (by decide)]; exact a2, by rw [o4 6 (by decide)]; exact a3⟩, fun r h1 hr => ?_, e70, fun b hb => (a6 b hb).cg (o5 _ _) (o5 _ _), a7.cg (o4 4 (by decide)) (o4 5 (by decide)), s, s1, by rw [o4 8 (by decide)]; exact s2, fun r hr => ?_, fun h => s4 (by rw [← o4 9 (by decide)]; exact h)⟩
  · have h := a4 (r - 1) (by omega)
    unfold Hrow at h ⊢
    rw [e6 0 (by decide) r h1 (by omega), e6 1 (by decide) r h1 (by omega)]
    exact h
  · by_cases h0 : r = 0
    · subst h0
      exact ⟨fun b hb h => absurd (e70 b hb) h, fun h _ => absurd (e70 0 (by decide)) h⟩
    · have h := s3 (r - 1) (by omega)
      rw [o4 9 (by decide), e7 0 (by decide) r (by omega) (by omega), e7 1 (by decide) r (by omega) (by omega)]
      exact ⟨fun b hb q => h.1 b hb (by rw [← e7 b hb r (by omega) (by omega)]; exact q), h.2⟩
theorem nx_j {k : Nat} (hk : k ≠ j) : AGj hp (mn1 hp 0 j) k := by
  have oo : ∀ a : A4, (∀ b, a ≠ (6, 0, j, b)) → (∀ b, a ≠ (7, 0, j, b)) → a ≠ (4, 0, j, 0) → a.1 ≠ 0 → ∀ i, mn1 hp 0 j a i = hp a i := fun a h6 h7 h4 h0 i => by
    rw [mn1_o (fun e => absurd e h4) (fun e => absurd (by rw [e]) h0)]
    exact frS_off h6 h7
  exact ⟨fun i _ _ => oo _ (by simp) (by simp) (by simp [hk]) (by simp) i, fun b _ => ⟨fun i _ _ => oo _ (by simp) (by simp) (by simp) (by simp) i, fun i _ => ⟨oo _ (by simp [hk]) (by simp) (by simp) (by simp) i, oo _ (by simp) (by simp [hk]) (by simp) (by simp) i⟩⟩⟩
theorem MN_j {k : Nat} (hk : k ≠ j) : AGj hp (MN hp 0 j) k := (nx_j hk).tr (mk_j hk)
theorem offS.k {h1 h2 : HPt} {a : A4} (h : offS h1 h2) (ha : 8 ≤ a.1) (i : Nat) : h2 a i = h1 a i := congrFun (h a (fun q => by omega)) i
theorem SG.get (h : SG hp j sec m v c E) : ∃ val, val < 256 ∧ sec = nI val ∧ fVal hp 0 j = nI val := by
  obtain ⟨p, q, hp1, hq1, e0, e1, e2⟩ := h.2.2.1 0 (Nat.zero_le _)
  refine ⟨(p + q) % 256, Nat.mod_lt _ (by decide), e2, ?_⟩
  unfold fVal
  rw [e0, e1, nI_add]
  exact rem6 (by omega)
/-- the next version is made -/
theorem nx_GO (h : GO hp n E) (hj : j < n) (hv : hp (4, 0, j, 0) 2 < 999) : GO (MN hp 0 j) n E := by
  obtain ⟨m, v, c, hG, hS, hZ⟩ := h
  have hSj := hS j hj
  have hm5 := hSj.1.1
  have hv9 := hSj.1.2.2
  have hvj : v j < 999 := by
    rw [hSj.2.1.2.1] at hv
    exact (nI_ltI (b := 999) (by omega) (by decide)).mp hv
  obtain ⟨h1, ⟨x, hx, x1⟩, h4, h5, h6, ⟨o, ho, hO⟩, ⟨M, B, q1, q2, q3⟩, q4⟩ := hG
  obtain ⟨val, hval, es, ev⟩ := hSj.get
  have hM := hSj.2.1.1
  have f0 : ∀ i, i ≠ 7 → mn1 hp 0 j (0, 0, 0, 0) i = hp (0, 0, 0, 0) i := fun i hi => by
    rw [mn1_o (by simp) (fun _ => hi)]
    exact frS_off (by simp) (by simp)
  have x1' : mn1 hp 0 j (0, 0, 0, 0) 4 = nI x := by rw [f0 4 (by decide)]; exact x1
  have hQ := nx_QG (o := o) hSj hvj (by omega) hO
  rw [es] at hQ
  have hq := mk_SG hx x1' hval hQ
  obtain ⟨-, -, ⟨-, v8, v9⟩, -⟩ := MV_v (t := 0) (j := j) hx x1' hval
  have eN : MN hp 0 j = MV (mn1 hp 0 j) 0 j (nI val) := by
    unfold MN
    rw [ev]
  have o0 : ∀ i, i ≠ 4 → i ≠ 6 → i ≠ 7 → MN hp 0 j (0, 0, 0, 0) i = hp (0, 0, 0, 0) i := fun i h4 h6 h7 => MN_off (fun _ => ⟨h4, h6, h7⟩) (by simp) (by simp) (by simp) (by simp)
  have hmin : min (m j + 1) o ≤ m j + 1 := Nat.min_le_left _ _
  have hsum := sumN_upd (f := fun j => 1 + m j) (f2 := fun k => 1 + (if k = j then min (m j + 1) o else m k)) (j := j) (fun i hi => by rw [if_neg hi]) n hj
  rw [if_pos rfl] at hsum
  refine GO.one (mj := min (m j + 1) o) (vj := v j + 1) (cj := c j) (S := sumN (fun k => 1 + (if k = j then min (m j + 1) o else m k)) n) (C := sumN c n) hS hZ hj (Nat.le_refl _) ⟨⟨h1.1, ?_⟩, ⟨_, xk_lt hx 5, ?_⟩, ?_, ?_, ?_, ⟨o, ho, ?_⟩, ⟨M + 1, B + (m j + 1 - min (m j + 1) o), ?_, ?_, ?_⟩, ?_⟩ hsum rfl (fun k _ => MN_offS.k (a := (16, 0, 0, 0)) (by decide) k) (fun k hk _ => MN_j hk) ?_
  · rw [o0 3 (by decide) (by decide) (by decide)]; exact h1.2
  · rw [eN]; exact v8
  · rw [o0 5 (by decide) (by decide) (by decide)]; exact h4
  · rw [MN_2]; exact h5
  · rw [MN_2]; exact h6
  · rw [MN_2]; exact hO
  · rw [eN, v9, f0 6 (by decide), q1, nI_1]
  · rw [eN, MV_off (fun _ => by decide) (by simp) (by simp) (by simp), (mn1_v hO (by omega) hm5 hM).2, q2, nI_add]
  · omega
  · rw [o0 8 (by decide) (by decide) (by decide)]; exact q4
  · rw [eN, es]; exact hq
end MKG
