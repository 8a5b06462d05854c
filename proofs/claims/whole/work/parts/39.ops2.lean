variable {sr : Nat → Int32}
section NX
variable {hp hB : HPt} {t j m v o n : Nat}
theorem frS_6 {b r : Nat} (hb : b < 2) (h1 : 1 ≤ r) (h5 : r < 5) : frS hp t j (6, t, j, b) r = hp (6, t, j, b) (r - 1) := by
  have : b = 0 ∨ b = 1 := by omega
  have h0 : 0 < r := h1
  rcases this with rfl | rfl <;> simp [frS, frH, shR, hset, h0, h5]
theorem frS_7 {b r : Nat} (hb : b < 2) (h1 : 1 ≤ r) (h5 : r < 5) : frS hp t j (7, t, j, b) r = hp (7, t, j, b) (r - 1) := by
  have : b = 0 ∨ b = 1 := by omega
  have h0 : 0 < r := h1
  have h2 : ¬ r = 0 := by omega
  rcases this with rfl | rfl <;> simp [frS, frH, shR, hset, h0, h5, h2]
theorem frS_70 {b : Nat} (hb : b < 2) : frS hp t j (7, t, j, b) 0 = 0 := by
  have : b = 0 ∨ b = 1 := by omega
  rcases this with rfl | rfl <;> simp [frS, frH, shR, hset]
theorem fMin_nI {a b : Nat} (ha : a < 1000) (hb : b < 1000) : fMin (nI a) (nI b) = nI (min a b) := by
  unfold fMin
  by_cases h : b < a
  · rw [if_pos (nI_lt h (by omega))]
    congr 1
    omega
  · rw [if_neg (nI_nlt (by omega) (by omega))]
    congr 1
    omega
theorem rbs_row {q w : Nat} (hw : w < 4) : ∀ k, k ≤ m → q ≤ m - k → rbs hB j m k (17, 0, 0, 0) (cI j (15 + 4 * q + w)) = hB (17, 0, 0, 0) (cI j (15 + 4 * q + w))
  | 0, _, _ => rfl
  | k + 1, hk, hq => by
    show hset _ _ _ _ _ _ = _
    rw [hs_i (by unfold cI; omega), rz_i (by unfold cI; omega) 4 (Nat.le_refl _)]
    exact rbs_row hw k (by omega) (by omega)
theorem RB_row {q w l : Nat} (hw : w < 4) (hq : q ≤ m) (hl : q ≤ l) : RB hB j m l (17, 0, 0, 0) (cI j (15 + 4 * q + w)) = hB (17, 0, 0, 0) (cI j (15 + 4 * q + w)) := by
  unfold RB
  rw [hs_i (by unfold cI; omega)]
  exact rbs_row hw _ (by omega) (by omega)
theorem RB_9 {l : Nat} : RB hB j m l (17, 0, 0, 0) 9 = hB (17, 0, 0, 0) 9 + nI (m - l) := hs_eq
/-- a version's row behind the moving -/
theorem rf1_row {r w : Nat} (hw : w < 4) (h1 : 1 ≤ r) (hr : r ≤ min (m + 1) o) (hm : m < 5) (ho : o < 5) : rf1 hB j m o (17, 0, 0, 0) (cI j (15 + 4 * r + w)) = hB (17, 0, 0, 0) (cI j (15 + 4 * (r - 1) + w)) := by
  unfold rf1
  rw [if_pos (by omega), hs_i (by unfold cI; omega)]
  unfold rsh
  rw [if_pos ⟨rfl, by unfold cI; omega, by unfold cI; omega⟩, show cI j (15 + 4 * r + w) - 4 = cI j (15 + 4 * (r - 1) + w) by unfold cI; omega]
  exact RB_row hw (by omega) (by omega)
theorem rf1_mid {f : Nat} (h1 : 1 ≤ f) (hf : f < 19) (hm : m < 5) : rf1 hB j m o (17, 0, 0, 0) (cI j f) = hB (17, 0, 0, 0) (cI j f) := by
  unfold rf1
  split
  · rw [hs_i (by unfold cI; omega)]
    unfold rsh
    rw [if_neg (by unfold cI; omega)]
    exact RB_i (by unfold cI; omega) hm
  · rw [hs_i (by unfold cI; omega)]
    exact RB_i (by unfold cI; omega) hm
theorem rf1_olds (hm : m < 5) (hM : hB (17, 0, 0, 0) (cI j 0) = nI m) : rf1 hB j m o (17, 0, 0, 0) (cI j 0) = nI (min (m + 1) o) := by
  have h := RF_olds (o := o) hM
  unfold RF at h
  rw [RM_i (by unfold cI; omega) (Or.inl (by unfold cI; omega))] at h
  rw [h]
  congr 1
  split <;> omega
theorem rf1_9 (hm : m < 5) : rf1 hB j m o (17, 0, 0, 0) 9 = hB (17, 0, 0, 0) 9 + nI (m + 1 - min (m + 1) o) := by
  unfold rf1
  split
  next h =>
    rw [hs_i (by unfold cI; omega)]
    unfold rsh
    rw [if_neg (by unfold cI; omega), RB_9]
    congr 2
    omega
  next h =>
    have h0 : o = 0 := by omega
    subst h0
    rw [hs_eq, RB_9, Int32.add_assoc, nI_1]
    congr 2
theorem mn1_v (hO : hp (2, t, 0, 0) 2 = nI o) (ho : o < 5) (hm : m < 5) (hM : hp (4, t, j, 0) 3 = nI m) : mn1 hp t j (4, t, j, 0) 3 = nI (min (m + 1) o) ∧ mn1 hp t j (0, t, 0, 0) 7 = hp (0, t, 0, 0) 7 + nI (m + 1 - min (m + 1) o) := by
  have e1 : fMin (hp (4, t, j, 0) 3 + 1) (hp (2, t, 0, 0) 2) = nI (min (m + 1) o) := by
    rw [hM, hO, nI_1]
    exact fMin_nI (by omega) (by omega)
  unfold mn1
  rw [e1]
  constructor
  · rw [hs_a (by simp), hs_eq]
  · rw [hs_eq, hM, nI_1, pk_sub (by omega)]
theorem mn1_o {a : A4} {i : Nat} (h4 : a = (4, t, j, 0) → i ≠ 3) (h0 : a = (0, t, 0, 0) → i ≠ 7) : mn1 hp t j a i = frS hp t j a i := by
  unfold mn1
  unfold hset
  rw [if_neg (fun h => h0 h.1 h.2), if_neg (fun h => h4 h.1 h.2)]
theorem nx_QS (hm : m < 5) (hS : RS hp t j (hB (17, 0, 0, 0)) m v) (hv : v < 999) (ho : o < 5) (hO : hp (2, t, 0, 0) 2 = nI o) : QS (mn1 hp t j) t j (rf1 hB j m o (17, 0, 0, 0)) (min (m + 1) o) (v + 1) := by
  obtain ⟨⟨-, hmv, hv9⟩, ⟨a1, a2⟩, a3, a4, -, -, a7, b1, b2, b3, b4, b5, b6⟩ := hS
  have o4 : ∀ i, i ≠ 3 → mn1 hp t j (4, t, j, 0) i = hp (4, t, j, 0) i := fun i hi => by
    rw [mn1_o (fun _ => hi) (by simp)]
    exact frS_off (by simp) (by simp)
  have o5 : ∀ b i, mn1 hp t j (5, t, j, b) i = hp (5, t, j, b) i := fun b i => by
    rw [mn1_o (by simp) (by simp)]
    exact frS_off (by simp) (by simp)
  have om : ∀ f, 1 ≤ f → f < 19 → rf1 hB j m o (17, 0, 0, 0) (cI j f) = hB (17, 0, 0, 0) (cI j f) := fun f h1 h2 => rf1_mid h1 h2 hm
  refine ⟨⟨by omega, by omega, by omega⟩, ⟨(mn1_v hO ho hm a1).1, rf1_olds hm a2⟩, ?_, ?_, ⟨?_, ?_⟩, ?_, ?_⟩
  · rw [o4 2 (by decide)]; exact a3
  · intro r h1 hr
    have h := a4 (r - 1) (by omega)
    unfold Rrow at h ⊢
    have e6 : ∀ b, b < 2 → mn1 hp t j (6, t, j, b) r = hp (6, t, j, b) (r - 1) := fun b hb => by
      rw [mn1_o (by simp) (by simp)]
      exact frS_6 hb h1 (by omega)
    have e7 : ∀ b, b < 2 → mn1 hp t j (7, t, j, b) r = hp (7, t, j, b) (r - 1) := fun b hb => by
      rw [mn1_o (by simp) (by simp)]
      exact frS_7 hb h1 (by omega)
    have w0 := rf1_row (hB := hB) (j := j) (m := m) (o := o) (r := r) (w := 0) (by decide) h1 hr hm ho
    have w1 := rf1_row (hB := hB) (j := j) (m := m) (o := o) (r := r) (w := 1) (by decide) h1 hr hm ho
    have w2 := rf1_row (hB := hB) (j := j) (m := m) (o := o) (r := r) (w := 2) (by decide) h1 hr hm ho
    have w3 := rf1_row (hB := hB) (j := j) (m := m) (o := o) (r := r) (w := 3) (by decide) h1 hr hm ho
    rw [show 16 + 4 * r = 15 + 4 * r + 1 by omega, show 17 + 4 * r = 15 + 4 * r + 2 by omega, show 18 + 4 * r = 15 + 4 * r + 3 by omega, w1, w2, w3, e6 0 (by decide), e6 1 (by decide), e7 0 (by decide), e7 1 (by decide)]
    rw [show 16 + 4 * (r - 1) = 15 + 4 * (r - 1) + 1 by omega, show 17 + 4 * (r - 1) = 15 + 4 * (r - 1) + 2 by omega, show 18 + 4 * (r - 1) = 15 + 4 * (r - 1) + 3 by omega] at h
    refine ⟨?_, h.2⟩
    rw [Nat.add_zero, Nat.add_zero] at w0
    rw [w0, h.1]
    congr 1
    omega
  · rw [mn1_o (by simp) (by simp)]; exact frS_70 (by decide)
  · rw [mn1_o (by simp) (by simp)]; exact frS_70 (by decide)
  · intro b hb
    have h := a7 b hb
    unfold Roff at h ⊢
    rw [om _ (by omega) (by omega), om _ (by omega) (by omega), o5, o5]
    exact h
  · unfold Rmis
    rw [om 1 (by decide) (by decide), om 2 (by decide) (by decide), om 3 (by decide) (by decide), om 4 (by decide) (by decide), om 5 (by decide) (by decide), om 6 (by decide) (by decide), o4 4 (by decide), o4 5 (by decide), o4 6 (by decide), o4 7 (by decide), o4 8 (by decide), o4 9 (by decide)]
    exact ⟨b1, b2, b3, b4, b5, b6⟩
theorem nx_GL (hG : GL hp t (hB (17, 0, 0, 0)) n) (hm : m < 5) (hM : hp (4, t, j, 0) 3 = nI m) (ho : o < 5) (hO : hp (2, t, 0, 0) 2 = nI o) : GL (mn1 hp t j) t (rf1 hB j m o (17, 0, 0, 0)) n := by
  obtain ⟨h1, h2, h3, h4, h5, h6, h7, h8, h9, q1, q2, q3, q4⟩ := hG
  have o0 : ∀ i, i ≠ 7 → mn1 hp t j (0, t, 0, 0) i = hp (0, t, 0, 0) i := fun i hi => by
    rw [mn1_o (by simp) (fun _ => hi)]
    exact frS_off (by simp) (by simp)
  have o2 : ∀ i, mn1 hp t j (2, t, 0, 0) i = hp (2, t, 0, 0) i := fun i => by
    rw [mn1_o (by simp) (by simp)]
    exact frS_off (by simp) (by simp)
  have o3 : ∀ i, mn1 hp t j (3, t, 0, 0) i = hp (3, t, 0, 0) i := fun i => by
    rw [mn1_o (by simp) (by simp)]
    exact frS_off (by simp) (by simp)
  have os : ∀ i, i ≠ 9 → i < 12 → rf1 hB j m o (17, 0, 0, 0) i = hB (17, 0, 0, 0) i := fun i h9 hi => rf1_i (Or.inl ⟨by unfold cI; omega, h9⟩) hm
  unfold GL
  rw [o0 3 (by decide), o0 4 (by decide), o0 5 (by decide), o0 6 (by decide), o0 8 (by decide), o0 9 (by decide), o2, o2, o2, o3, o3, os 0 (by decide) (by decide), os 1 (by decide) (by decide), os 2 (by decide) (by decide), os 3 (by decide) (by decide), os 4 (by decide) (by decide), os 5 (by decide) (by decide), os 6 (by decide) (by decide), os 7 (by decide) (by decide), os 8 (by decide) (by decide), os 10 (by decide) (by decide), os 11 (by decide) (by decide)]
  refine ⟨h1, h2, h3, h4, h5, h6, h7, h8, h9, q1, ?_, q3, q4⟩
  rw [rf1_9 hm, (mn1_v hO ho hm hM).2, q2]
theorem nx_AG {k : Nat} (hk : k ≠ j) (hm : m < 5) : AGs hp (mn1 hp t j) t t k (hB (17, 0, 0, 0)) (rf1 hB j m o (17, 0, 0, 0)) := by
  have oo : ∀ a : A4, (∀ b, a ≠ (6, t, j, b)) → (∀ b, a ≠ (7, t, j, b)) → a ≠ (4, t, j, 0) → a.1 ≠ 0 → ∀ i, mn1 hp t j a i = hp a i := fun a h6 h7 h4 h0 i => by
    rw [mn1_o (fun e => absurd e h4) (fun e => absurd (by rw [e]) h0)]
    exact frS_off h6 h7
  refine ⟨fun i _ _ => ?_, fun b _ => ⟨fun i _ _ => ?_, fun i _ => ⟨?_, ?_⟩⟩, fun f hf => ?_⟩
  · exact oo _ (by simp) (by simp) (by simp [hk]) (by simp) i
  · exact oo _ (by simp) (by simp) (by simp) (by simp) i
  · exact oo _ (by simp [hk]) (by simp) (by simp) (by simp) i
  · exact oo _ (by simp) (by simp [hk]) (by simp) (by simp) i
  · exact rf1_i (by unfold cI; omega) hm
theorem AGs.trans {h1 h2 h3 : HPt} {k : Nat} {s1 s2 s3 : Nat → Int32} (a : AGs h1 h2 t t k s1 s2) (b : AGs h2 h3 t t k s2 s3) : AGs h1 h3 t t k s1 s3 := by
  obtain ⟨a4, a5, as⟩ := a
  obtain ⟨b4, b5, bs⟩ := b
  refine ⟨fun i h2 h10 => (b4 i h2 h10).trans (a4 i h2 h10), fun b hb => ⟨fun i h2 h7 => ((b5 b hb).1 i h2 h7).trans ((a5 b hb).1 i h2 h7), fun i h5 => ⟨((b5 b hb).2 i h5).1.trans ((a5 b hb).2 i h5).1, ((b5 b hb).2 i h5).2.trans ((a5 b hb).2 i h5).2⟩⟩, fun f hf => (bs f hf).trans (as f hf)⟩
/-- the next version is made in both -/
theorem nx_Rep (hR : Rep hp t (hB (17, 0, 0, 0)) n) (hj : j < n) (hS : RS hp t j (hB (17, 0, 0, 0)) m v) (hv : v < 999) (ho : o < 5) (hO : hp (2, t, 0, 0) 2 = nI o) : Rep (MN hp t j) t (RF hB j m o (17, 0, 0, 0)) n ∧ RS (MN hp t j) t j (RF hB j m o (17, 0, 0, 0)) (min (m + 1) o) (v + 1) := by
  have hm := hS.1.1
  have hM := hS.2.1.1
  have hQ := nx_QS hm hS hv ho hO
  have hG1 := nx_GL (j := j) hR.1 hm hM ho hO
  obtain ⟨x, hx, x1, x2⟩ := hG1.2.2.1
  obtain ⟨-, ⟨p0, hp0, c0, r0⟩, ⟨p1, hp1, c1, r1⟩, -⟩ := hS.2.2.2.1 0 (Nat.zero_le _)
  have e1 : fVal hp t j = nI ((p0 + p1) % 256) := by
    unfold fVal
    rw [c0, c1, nI_add]
    exact rem6 (by omega)
  have e2 : rVal hB j = nI ((p0 + p1) % 256) := by
    unfold rVal
    rw [show cI j 16 = cI j (16 + 4 * 0) from rfl, show cI j 17 = cI j (17 + 4 * 0) from rfl, r0, r1, nI_add]
    exact rem6 (by omega)
  have e3 : hB (17, 0, 0, 0) (cI j 15) + 1 = nI (v + 1) := by
    have h := (hS.2.2.2.1 0 (Nat.zero_le _)).1
    rw [show cI j 15 = cI j (15 + 4 * 0) from rfl, h, nI_1]
    congr 1
  have hval : (p0 + p1) % 256 < 256 := Nat.mod_lt _ (by decide)
  have hr := mk_RS (hB := rf1 hB j m o) hx x1 x2 hval hQ
  have hg := mk_GL (hB := rf1 hB j m o) (j := j) (v := nI (v + 1)) hG1 hval
  unfold MN RF
  rw [e1, e2, e3]
  refine ⟨⟨hg, fun k hk => ?_, fun k hk hk8 => ?_⟩, hr⟩
  · by_cases hkj : k = j
    · subst hkj
      exact ⟨_, _, hr⟩
    · obtain ⟨m2, v2, hr2⟩ := hR.2.1 k hk
      exact ⟨m2, v2, hr2.cg ((nx_AG hkj hm).trans (mk_AG hkj))⟩
  · exact (hR.2.2 k hk hk8).cg ((nx_AG (by omega) hm).trans (mk_AG (by omega)))
end NX
