section MK
variable {hp hB : HPt} {t j x val : Nat} {num : Int32}
/-- the numbers drawn -/
def xk (x : Nat) : Nat → Nat
  | 0 => x
  | k + 1 => lcN (xk x k)
theorem xk_lt {x : Nat} (hx : x < 65537) : ∀ k, xk x k < 65537
  | 0 => hx
  | _ + 1 => lcN_lt
theorem xk_s {x : Nat} (hx : x < 65537) (k : Nat) : jrem (75 * nI (xk x k) + 74) 65537 = nI (xk x (k + 1)) := lc_nI (xk_lt hx k)
theorem xk_6 {x : Nat} (hx : x < 65537) (k : Nat) : jrem (nI (xk x k) / 16) 256 = nI (xk x k / 16 % 256) := dvm (xk_lt hx k) (by decide) (by decide)
theorem xk_7 {x : Nat} (hx : x < 65537) (k : Nat) : jrem (nI (xk x k) / 16) 257 = nI (xk x k / 16 % 257) := dvm (xk_lt hx k) (by decide) (by decide)
def dA (x : Nat) : Nat := xk x 1 / 16 % 256
def dB (x val : Nat) : Nat := (val + 256 - dA x) % 256
theorem dA_lt {x : Nat} : dA x < 256 := Nat.mod_lt _ (by decide)
theorem dB_lt {x val : Nat} : dB x val < 256 := Nat.mod_lt _ (by decide)
theorem MV_v (hx : x < 65537) (hX : hp (0, t, 0, 0) 4 = nI x) (hv : val < 256) : (MV hp t j (nI val) (6, t, j, 0) 0 = nI (dA x) ∧ MV hp t j (nI val) (6, t, j, 1) 0 = nI (dB x val)) ∧ (MV hp t j (nI val) (5, t, j, 1) 3 = nI (xk x 2 / 16 % 256 + 1) ∧ MV hp t j (nI val) (5, t, j, 1) 4 = nI (xk x 3 / 16 % 257) ∧ MV hp t j (nI val) (5, t, j, 0) 3 = nI (xk x 4 / 16 % 256 + 1) ∧ MV hp t j (nI val) (5, t, j, 0) 4 = nI (xk x 5 / 16 % 257)) ∧ (MV hp t j (nI val) (4, t, j, 0) 2 = hp (4, t, j, 0) 2 + 1 ∧ MV hp t j (nI val) (0, t, 0, 0) 4 = nI (xk x 5) ∧ MV hp t j (nI val) (0, t, 0, 0) 6 = hp (0, t, 0, 0) 6 + 1) ∧ (MV hp t j (nI val) (5, t, j, 0) 2 = jrem (nI (xk x 2 / 16 % 256 + 1) * nI (dA x) + nI (xk x 3 / 16 % 257)) 257 ∧ MV hp t j (nI val) (5, t, j, 1) 2 = jrem (nI (xk x 4 / 16 % 256 + 1) * nI (dB x val) + nI (xk x 5 / 16 % 257)) 257) := by
  have s0 := xk_s hx 0
  have s1 := xk_s hx 1
  have s2 := xk_s hx 2
  have s3 := xk_s hx 3
  have s4 := xk_s hx 4
  have hX0 : hp (0, t, 0, 0) 4 = nI (xk x 0) := hX
  have c1 := xk_6 hx 1
  have c2 := xk_6 hx 2
  have c3 := xk_7 hx 3
  have c4 := xk_6 hx 4
  have c5 := xk_7 hx 5
  have f1 : fFM (nI val - nI (xk x 1 / 16 % 256)) 256 = nI (dB x val) := fFM_6 (by omega) (by have := @dA_lt x; unfold dA at this; omega)
  refine ⟨⟨?_, ?_⟩, ⟨?_, ?_, ?_, ?_⟩, ⟨?_, ?_, ?_⟩, ?_, ?_⟩ <;> simp [MV, mv1, mv2, mv3, mv4, mv5, mv6, dr, dv, hset, hX0, s0, s1, s2, s3, s4, c1, c2, c3, c4, c5, f1, dA, nI_succ]
theorem RM_v (hx : x < 65537) (hX : hB (17, 0, 0, 0) 3 = nI x) (hv : val < 256) : (RM hB j (nI val) num (17, 0, 0, 0) (cI j 15) = num ∧ RM hB j (nI val) num (17, 0, 0, 0) (cI j 16) = nI (dA x) ∧ RM hB j (nI val) num (17, 0, 0, 0) (cI j 17) = nI (dB x val) ∧ RM hB j (nI val) num (17, 0, 0, 0) (cI j 18) = 0) ∧ (RM hB j (nI val) num (17, 0, 0, 0) (cI j 11) = nI (xk x 2 / 16 % 256 + 1) ∧ RM hB j (nI val) num (17, 0, 0, 0) (cI j 13) = nI (xk x 3 / 16 % 257) ∧ RM hB j (nI val) num (17, 0, 0, 0) (cI j 12) = nI (xk x 4 / 16 % 256 + 1) ∧ RM hB j (nI val) num (17, 0, 0, 0) (cI j 14) = nI (xk x 5 / 16 % 257)) ∧ (RM hB j (nI val) num (17, 0, 0, 0) 3 = nI (xk x 5) ∧ RM hB j (nI val) num (17, 0, 0, 0) 8 = hB (17, 0, 0, 0) 8 + 1) := by
  have s0 := xk_s hx 0
  have s1 := xk_s hx 1
  have s2 := xk_s hx 2
  have s3 := xk_s hx 3
  have s4 := xk_s hx 4
  have hX0 : hB (17, 0, 0, 0) 3 = nI (xk x 0) := hX
  have c1 := xk_6 hx 1
  have c2 := xk_6 hx 2
  have c3 := xk_7 hx 3
  have c4 := xk_6 hx 4
  have c5 := xk_7 hx 5
  have hd := @dA_lt x
  unfold dA at hd
  have f1 : jrem (nI val + 256 - nI (xk x 1 / 16 % 256)) 256 = nI (dB x val) := by
    rw [show (256 : Int32) = nI 256 from rfl, nI_add, pk_sub (by omega)]
    exact rem6 (by omega)
  refine ⟨⟨?_, ?_, ?_, ?_⟩, ⟨?_, ?_, ?_, ?_⟩, ?_, ?_⟩ <;> simp [RM, rm4, rm3, rm2, rm1, rdr, rdv, hset, cI, hX0, s0, s1, s2, s3, s4, c1, c2, c3, c4, c5, f1, dA, nI_succ]
/-- a version is made in both -/
theorem mk_RS {m v : Nat} (hx : x < 65537) (hX : hp (0, t, 0, 0) 4 = nI x) (hXB : hB (17, 0, 0, 0) 3 = nI x) (hv : val < 256) (h : QS hp t j (hB (17, 0, 0, 0)) m v) : RS (MV hp t j (nI val)) t j (RM hB j (nI val) (nI v) (17, 0, 0, 0)) m v := by
  obtain ⟨⟨v1, v2⟩, ⟨v3, v4, v5, v6⟩, ⟨v7, v8, v9⟩, v10, v11⟩ := MV_v (j := j) hx hX hv
  obtain ⟨⟨w1, w2, w3, w4⟩, ⟨w5, w6, w7, w8⟩, w9, w10⟩ := RM_v (j := j) (num := nI v) hx hXB hv
  obtain ⟨⟨hm, hmv, hv9⟩, ⟨a1, a2⟩, a3, a4, ⟨k0, k1⟩, a7, b1, b2, b3, b4, b5, b6⟩ := h
  have o4 : ∀ i, i ≠ 2 → MV hp t j (nI val) (4, t, j, 0) i = hp (4, t, j, 0) i := fun i hi => MV_off (by simp) (fun _ => hi) (by simp) (by simp)
  have o7 : ∀ b i, MV hp t j (nI val) (7, t, j, b) i = hp (7, t, j, b) i := fun b i => MV_off (by simp) (by simp) (by simp) (by simp)
  have o5 : ∀ b i, 5 ≤ i → MV hp t j (nI val) (5, t, j, b) i = hp (5, t, j, b) i := fun b i hi => by
    have h2 : i ≠ 2 ∧ i ≠ 3 ∧ i ≠ 4 := by omega
    simp [MV, mv1, mv2, mv3, mv4, mv5, mv6, dr, hset, h2]
  have o6 : ∀ b i, 1 ≤ i → MV hp t j (nI val) (6, t, j, b) i = hp (6, t, j, b) i := fun b i hi => by
    have h2 : i ≠ 0 := by omega
    simp [MV, mv1, mv2, mv3, mv4, mv5, mv6, dr, hset, h2]
  have oS : ∀ f, f < 11 ∨ 19 ≤ f → RM hB j (nI val) (nI v) (17, 0, 0, 0) (cI j f) = hB (17, 0, 0, 0) (cI j f) := fun f hf => RM_i (by unfold cI; omega) (by unfold cI; omega)
  refine ⟨⟨hm, hmv, hv9⟩, ⟨?_, ?_⟩, ?_, ?_, ?_, ?_, ?_, ?_, ?_, ?_, ?_, ?_, ?_⟩
  · rw [o4 3 (by decide)]; exact a1
  · rw [oS 0 (by decide)]; exact a2
  · rw [v7, a3, nI_1]; congr 1; omega
  · intro r hr
    by_cases h0 : r = 0
    · subst h0
      refine ⟨w1, ⟨dA x, dA_lt, v1, w2⟩, ⟨dB x val, dB_lt, v2, w3⟩, false, false, ?_, ?_, ?_⟩
      · rw [o7]; exact k0
      · rw [o7]; exact k1
      · exact w4
    · have h := a4 r (by omega) hr
      unfold Rrow at h ⊢
      rw [oS _ (by omega), oS _ (by omega), oS _ (by omega), oS _ (by omega), o6 _ _ (by omega), o6 _ _ (by omega), o7, o7]
      exact h
  · intro b hb
    have hf2 : xk x 2 / 16 % 256 < 256 := Nat.mod_lt _ (by decide)
    have hf4 : xk x 4 / 16 % 256 < 256 := Nat.mod_lt _ (by decide)
    match b, hb with
    | 0, _ => exact ⟨_, _, by omega, Nat.mod_lt _ (by decide), v3, w5, v4, w6⟩
    | 1, _ => exact ⟨_, _, by omega, Nat.mod_lt _ (by decide), v5, w7, v6, w8⟩
  · intro b hb
    match b, hb with
    | 0, _ => unfold Rtag; rw [v10, w5, w2, w6]
    | 1, _ => unfold Rtag; rw [v11, w7, w3, w8]
  · intro b hb
    have h := a7 b hb
    unfold Roff at h ⊢
    rw [oS _ (by omega), oS _ (by omega), o5 _ _ (by decide), o5 _ _ (by decide)]
    exact h
  · rw [oS _ (by decide), o4 _ (by decide)]; exact b1
  · rw [oS _ (by decide), o4 _ (by decide)]; exact b2
  · rw [oS _ (by decide), o4 _ (by decide)]; exact b3
  · rw [oS _ (by decide), o4 _ (by decide)]; exact b4
  · rw [oS _ (by decide), o4 _ (by decide)]; exact b5
  · rw [oS _ (by decide), o4 _ (by decide)]; exact b6
theorem mk_GL {n : Nat} {v : Int32} (h : GL hp t (hB (17, 0, 0, 0)) n) (hv : val < 256) : GL (MV hp t j (nI val)) t (RM hB j (nI val) v (17, 0, 0, 0)) n := by
  obtain ⟨h1, h2, ⟨x, hx, x1, x2⟩, h4, h5, h6, h7, h8, h9, q1, q2, q3, q4⟩ := h
  obtain ⟨-, -, ⟨-, v8, v9⟩, -⟩ := MV_v (j := j) hx x1 hv
  obtain ⟨-, -, w9, w10⟩ := RM_v (j := j) (num := v) hx x2 hv
  have o0 : ∀ i, i ≠ 4 → i ≠ 6 → MV hp t j (nI val) (0, t, 0, 0) i = hp (0, t, 0, 0) i := fun i h4 h6 => MV_off (fun _ => ⟨h4, h6⟩) (by simp) (by simp) (by simp)
  have o2 : ∀ i, MV hp t j (nI val) (2, t, 0, 0) i = hp (2, t, 0, 0) i := fun i => MV_off (by simp) (by simp) (by simp) (by simp)
  have o3 : ∀ i, MV hp t j (nI val) (3, t, 0, 0) i = hp (3, t, 0, 0) i := fun i => MV_off (by simp) (by simp) (by simp) (by simp)
  have oS : ∀ i, i ≠ 3 → i ≠ 8 → i < 12 → RM hB j (nI val) v (17, 0, 0, 0) i = hB (17, 0, 0, 0) i := fun i h3 h8 h => RM_i ⟨h3, h8⟩ (Or.inl (by unfold cI; omega))
  unfold GL
  rw [o0 3 (by decide) (by decide), o0 5 (by decide) (by decide), o0 7 (by decide) (by decide), o0 8 (by decide) (by decide), o0 9 (by decide) (by decide), o2, o2, o2, o3, o3, oS 0 (by decide) (by decide) (by decide), oS 1 (by decide) (by decide) (by decide), oS 2 (by decide) (by decide) (by decide), oS 4 (by decide) (by decide) (by decide), oS 5 (by decide) (by decide) (by decide), oS 6 (by decide) (by decide) (by decide), oS 7 (by decide) (by decide) (by decide), oS 9 (by decide) (by decide) (by decide), oS 10 (by decide) (by decide) (by decide), oS 11 (by decide) (by decide) (by decide)]
  refine ⟨h1, h2, ⟨_, xk_lt hx 5, v8, w9⟩, h4, h5, h6, h7, h8, h9, ?_, q2, q3, q4⟩
  rw [w10, v9, q1]
/-- another secret's words stay -/
theorem mk_AG {k : Nat} {u v : Int32} (hk : k ≠ j) : AGs hp (MV hp t j u) t t k (hB (17, 0, 0, 0)) (RM hB j u v (17, 0, 0, 0)) := by
  refine ⟨fun i _ _ => ?_, fun b _ => ⟨fun i _ _ => ?_, fun i _ => ⟨?_, ?_⟩⟩, fun f hf => ?_⟩
  · exact MV_off (by simp) (by simp [hk]) (by simp) (by simp)
  · exact MV_off (by simp) (by simp) (by simp [hk]) (by simp)
  · exact MV_off (by simp) (by simp) (by simp) (by simp [hk])
  · exact MV_off (by simp) (by simp) (by simp) (by simp)
  · exact RM_i (by unfold cI; omega) (by unfold cI; omega)
end MK
