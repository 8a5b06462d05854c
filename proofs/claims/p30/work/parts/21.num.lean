theorem jrem_nI {a d : Nat} (ha : a < 2 ^ 31) (h0 : 0 < d) (hd : d < 2 ^ 31) : jrem (nI a) (nI d) = nI (a % d) := pk_rem ha h0 hd
def lcN (x : Nat) : Nat := (75 * x + 74) % 65537
theorem lcN_lt {x : Nat} : lcN x < 65537 := Nat.mod_lt _ (by decide)
theorem lc_nI {x : Nat} (hx : x < 65537) : jrem (75 * nI x + 74) 65537 = nI (lcN x) := by
  rw [show (75 : Int32) = nI 75 from rfl, show (74 : Int32) = nI 74 from rfl, show (65537 : Int32) = nI 65537 from rfl, pk_mul, nI_add]
  exact jrem_nI (by omega) (by decide) (by decide)
theorem dv16 {x : Nat} (hx : x < 65537) : nI x / 16 = nI (x / 16) := by
  rw [show (16 : Int32) = nI 16 from rfl, pk_div (by omega) (by decide) (by decide)]
theorem dvm {x d : Nat} (hx : x < 65537) (h0 : 0 < d) (hd : d < 2 ^ 31) : jrem (nI x / 16) (nI d) = nI (x / 16 % d) := by
  rw [dv16 hx]
  exact jrem_nI (Nat.lt_of_le_of_lt (Nat.div_le_self _ _) (by omega)) h0 hd
theorem fFM_k6 : ∀ k, k < 769 → 1 ≤ k → fFM (nI k - nI 257) (nI 256) = nI ((k + 256 - 257) % 256) := by decide +kernel
theorem fFM_k7 : ∀ k, k < 769 → fFM (nI k - nI 257) (nI 257) = nI ((k + 257 - 257) % 257) := by decide +kernel
theorem nI_shift {a b c : Nat} (h : b ≤ c) : nI a - nI b = nI (a + c - b) - nI c := by
  rw [show a + c - b = a + (c - b) by omega, ← nI_add, ← pk_sub h]
  simp only [Int32.sub_eq_add_neg]
  rw [Int32.add_assoc, Int32.add_assoc, Int32.add_comm (nI c), Int32.add_assoc, Int32.add_comm (-nI c), Int32.add_right_neg, Int32.add_zero]
theorem fFM_6 {a b : Nat} (ha : a < 512) (hb : b ≤ 256) : fFM (nI a - nI b) 256 = nI ((a + 256 - b) % 256) := by
  rw [nI_shift (c := 257) (by omega)]
  have h := fFM_k6 (a + 257 - b) (by omega) (by omega)
  rw [show a + 257 - b + 256 - 257 = a + 256 - b by omega] at h
  exact h
theorem fFM_7 {a b : Nat} (ha : a < 512) (hb : b ≤ 257) : fFM (nI a - nI b) 257 = nI ((a + 257 - b) % 257) := by
  rw [nI_shift (c := 257) (by omega)]
  have h := fFM_k7 (a + 257 - b) (by omega)
  rw [show a + 257 - b + 257 - 257 = a + 257 - b by omega] at h
  exact h
theorem rem6 {a : Nat} (h : a < 2 ^ 31) : jrem (nI a) 256 = nI (a % 256) := jrem_nI h (by decide) (by decide)
theorem rem7 {a : Nat} (h : a < 2 ^ 31) : jrem (nI a) 257 = nI (a % 257) := jrem_nI h (by decide) (by decide)
section MK
variable {hp hB : HPt} {t j x val : Nat} {num : Int32}
def xk (x : Nat) : Nat → Nat
  | 0 => x
  | k + 1 => lcN (xk x k)
theorem xk_lt {x : Nat} (hx : x < 65537) : ∀ k, xk x k < 65537
  | 0 => hx
  | _ + 1 => lcN_lt
theorem xk_s {x : Nat} (hx : x < 65537) (k : Nat) : jrem (75 * nI (xk x k) + 74) 65537 = nI (xk x (k + 1)) := lc_nI (xk_lt hx k)
theorem xk_6 {x : Nat} (hx : x < 65537) (k : Nat) : jrem (nI (xk x k) / 16) 256 = nI (xk x k / 16 % 256) := dvm (xk_lt hx k) (by decide) (by decide)
theorem xk_7 {x : Nat} (hx : x < 65537) (k : Nat) : jrem (nI (xk x k) / 16) 257 = nI (xk x k / 16 % 257) := dvm (xk_lt hx k) (by decide) (by decide)
def dA (x : Nat) : Nat := xk x 1 / 16 % 256
def dB (x val : Nat) : Nat := (val + 256 - dA x) % 256
theorem dA_lt {x : Nat} : dA x < 256 := Nat.mod_lt _ (by decide)
theorem dB_lt {x val : Nat} : dB x val < 256 := Nat.mod_lt _ (by decide)
theorem MV_v (hx : x < 65537) (hX : hp (0, t, 0, 0) 4 = nI x) (hv : val < 256) : (MV hp t j (nI val) (6, t, j, 0) 0 = nI (dA x) ∧ MV hp t j (nI val) (6, t, j, 1) 0 = nI (dB x val)) ∧ (MV hp t j (nI val) (5, t, j, 1) 3 = nI (xk x 2 / 16 % 256 + 1) ∧ MV hp t j (nI val) (5, t, j, 1) 4 = nI (xk x 3 / 16 % 257) ∧ MV hp t j (nI val) (5, t, j, 0) 3 = nI (xk x 4 / 16 % 256 + 1) ∧ MV hp t j (nI val) (5, t, j, 0) 4 = nI (xk x 5 / 16 % 257)) ∧ (MV hp t j (nI val) (4, t, j, 0) 2 = hp (4, t, j, 0) 2 + 1 ∧ MV hp t j (nI val) (0, t, 0, 0) 4 = nI (xk x 5) ∧ MV hp t j (nI val) (0, t, 0, 0) 6 = hp (0, t, 0, 0) 6 + 1) ∧ (MV hp t j (nI val) (5, t, j, 0) 2 = jrem (nI (xk x 2 / 16 % 256 + 1) * nI (dA x) + nI (xk x 3 / 16 % 257)) 257 ∧ MV hp t j (nI val) (5, t, j, 1) 2 = jrem (nI (xk x 4 / 16 % 256 + 1) * nI (dB x val) + nI (xk x 5 / 16 % 257)) 257) := by
  have s0 := xk_s hx 0
  have s1 := xk_s hx 1
  have s2 := xk_s hx 2
  have s3 := xk_s hx 3
  have s4 := xk_s hx 4
  have hX0 : hp (0, t, 0, 0) 4 = nI (xk x 0) := hX
  have c1 := xk_6 hx 1
  have c2 := xk_6 hx 2
  have c3 := xk_7 hx 3
  have c4 := xk_6 hx 4
  have c5 := xk_7 hx 5
  have f1 : fFM (nI val - nI (xk x 1 / 16 % 256)) 256 = nI (dB x val) := fFM_6 (by omega) (by have := @dA_lt x; unfold dA at this; omega)
  refine ⟨⟨?_, ?_⟩, ⟨?_, ?_, ?_, ?_⟩, ⟨?_, ?_, ?_⟩, ?_, ?_⟩ <;> simp [MV, mv1, mv2, mv3, mv4, mv5, mv6, dr, dv, hset, hX0, s0, s1, s2, s3, s4, c1, c2, c3, c4, c5, f1, dA, nI_succ]
end MK
def offS (hp hA : HPt) : Prop := ∀ a, ¬ (a.1 < 8 ∧ a.2.1 = 0) → hA a = hp a
theorem offS.rfl' {hp : HPt} : offS hp hp := fun _ _ => rfl
section CND
variable {hp hB : HPt} {n : Nat} {x s : Int32}
theorem st_of (h : fSt s = true) : ∃ b, b < 2 ∧ s = nI b := by
  unfold fSt at h
  simp only [Bool.and_eq_true, Bool.not_eq_true', decide_eq_false_iff_not, decide_eq_true_eq] at h
  obtain ⟨j, hj, rfl⟩ := nI_of h.1
  exact ⟨j, (nI_ltI (b := 2) hj (by decide)).mp h.2, rfl⟩
theorem pt_of (h : fPt s = true) : ∃ b, b < 256 ∧ s = nI b := by
  unfold fPt at h
  simp only [Bool.and_eq_true, Bool.not_eq_true', decide_eq_false_iff_not, decide_eq_true_eq] at h
  obtain ⟨j, hj, rfl⟩ := nI_of h.1
  exact ⟨j, (nI_ltI (b := 256) hj (by decide)).mp h.2, rfl⟩
theorem tg_of (h : fTg s = true) : ∃ b, b < 257 ∧ s = nI b := by
  unfold fTg at h
  simp only [Bool.and_eq_true, Bool.not_eq_true', decide_eq_false_iff_not, decide_eq_true_eq] at h
  obtain ⟨j, hj, rfl⟩ := nI_of h.1
  exact ⟨j, (nI_ltI (b := 257) hj (by decide)).mp h.2, rfl⟩
end CND
theorem MV_offS {hp : HPt} {j : Nat} {v : Int32} : offS hp (MV hp 0 j v) := by
  intro a ha
  funext i
  exact MV_off (fun e => absurd (by rw [e]; decide) ha) (fun e => absurd (by rw [e]; exact ⟨by simp, rfl⟩) ha) (fun b e => ha (by rw [e]; exact ⟨by simp, rfl⟩)) (fun b e => ha (by rw [e]; exact ⟨by simp, rfl⟩))
theorem offS.set {hp hA : HPt} {k j b i : Nat} {x : Int32} (h : offS hp hA) (hk : k < 8) : offS hp (hset hA (k, 0, j, b) i x) := by
  intro a ha
  funext q
  rw [hs_a (fun e => ha (by rw [e]; exact ⟨hk, rfl⟩))]
  exact congrFun (h a ha) q
theorem offS.trans {h1 h2 h3 : HPt} (a : offS h1 h2) (b : offS h2 h3) : offS h1 h3 := fun c hc => (b c hc).trans (a c hc)
section NX
variable {hp hB : HPt} {t j m v o n : Nat}
theorem frS_6 {b r : Nat} (hb : b < 2) (h1 : 1 ≤ r) (h5 : r < 5) : frS hp t j (6, t, j, b) r = hp (6, t, j, b) (r - 1) := by
  have : b = 0 ∨ b = 1 := by omega
  have h0 : 0 < r := h1
  rcases this with rfl | rfl <;> simp [frS, frH, shR, hset, h0, h5]
theorem frS_7 {b r : Nat} (hb : b < 2) (h1 : 1 ≤ r) (h5 : r < 5) : frS hp t j (7, t, j, b) r = hp (7, t, j, b) (r - 1) := by
  have : b = 0 ∨ b = 1 := by omega
  have h0 : 0 < r := h1
  have h2 : ¬ r = 0 := by omega
  rcases this with rfl | rfl <;> simp [frS, frH, shR, hset, h0, h5, h2]
theorem frS_70 {b : Nat} (hb : b < 2) : frS hp t j (7, t, j, b) 0 = 0 := by
  have : b = 0 ∨ b = 1 := by omega
  rcases this with rfl | rfl <;> simp [frS, frH, shR, hset]
theorem fMin_nI {a b : Nat} (ha : a < 1000) (hb : b < 1000) : fMin (nI a) (nI b) = nI (min a b) := by
  unfold fMin
  by_cases h : b < a
  · rw [if_pos (nI_lt h (by omega))]
    congr 1
    omega
  · rw [if_neg (nI_nlt (by omega) (by omega))]
    congr 1
    omega
theorem mn1_v (hO : hp (2, t, 0, 0) 2 = nI o) (ho : o < 5) (hm : m < 5) (hM : hp (4, t, j, 0) 3 = nI m) : mn1 hp t j (4, t, j, 0) 3 = nI (min (m + 1) o) ∧ mn1 hp t j (0, t, 0, 0) 7 = hp (0, t, 0, 0) 7 + nI (m + 1 - min (m + 1) o) := by
  have e1 : fMin (hp (4, t, j, 0) 3 + 1) (hp (2, t, 0, 0) 2) = nI (min (m + 1) o) := by
    rw [hM, hO, nI_1]
    exact fMin_nI (by omega) (by omega)
  unfold mn1
  rw [e1]
  constructor
  · rw [hs_a (by simp), hs_eq]
  · rw [hs_eq, hM, nI_1, pk_sub (by omega)]
theorem mn1_o {a : A4} {i : Nat} (h4 : a = (4, t, j, 0) → i ≠ 3) (h0 : a = (0, t, 0, 0) → i ≠ 7) : mn1 hp t j a i = frS hp t j a i := by
  unfold mn1
  unfold hset
  rw [if_neg (fun h => h0 h.1 h.2), if_neg (fun h => h4 h.1 h.2)]
end NX
theorem MN_offS {hp : HPt} {j : Nat} : offS hp (MN hp 0 j) := by
  intro a ha
  funext i
  exact MN_off (fun e => absurd (by rw [e]; decide) ha) (fun e => absurd (by rw [e]; exact ⟨by simp, rfl⟩) ha) (fun b e => ha (by rw [e]; exact ⟨by simp, rfl⟩)) (fun b e => ha (by rw [e]; exact ⟨by simp, rfl⟩)) (fun b e => ha (by rw [e]; exact ⟨by simp, rfl⟩))
section O4
variable {g : Gh} {hp : HPt} {n : Nat} {x y z w : Int32}
theorem half_of (h : fHalf hp 0 x y = true) : fSt x = true ∧ fHas hp 0 y = true := by
  unfold fHalf at h
  exact Bool.and_eq_true_iff.mp h
theorem MG_offS {j : Nat} : offS hp (MG hp 0 j) := by
  have h : ∀ v, offS hp (mgO hp 0 j v) := fun v => ((offS.rfl'.set (by decide)).set (by decide)).set (by decide)
  unfold MG
  split
  · split
    · exact (h _).set (by decide)
    · exact h _
  · exact (offS.rfl'.set (by decide)).set (by decide)
theorem MG_WT {j : Nat} (hW : WT hp) : WT (MG hp 0 j) := by
  have h : ∀ v, WT (mgO hp 0 j v) := fun v => ((hW.set (okv_free rfl rfl)).set (okv_free rfl rfl)).set (okv_free rfl rfl)
  unfold MG
  split
  · split
    · exact (h _).set (okv_free rfl rfl)
    · exact h _
  · exact (hW.set (okv_free rfl rfl)).set (okv_free rfl rfl)
theorem th_v {j b r : Nat} {a c k : Bool} (hb : b < 2) (ha : hp (7, 0, j, 0) r = bi a) (hc : hp (7, 0, j, 1) r = bi c) (hk : hp (4, 0, j, 0) 9 = bi k) : thB hp 0 j b r (7, 0, j, 0) r = bi (a || decide (b = 0)) ∧ thB hp 0 j b r (7, 0, j, 1) r = bi (c || decide (b = 1)) ∧ thB hp 0 j b r (4, 0, j, 0) 8 = hp (4, 0, j, 0) 8 + bi (!(if b = 0 then a else c)) ∧ thB hp 0 j b r (4, 0, j, 0) 9 = bi (k || ((a || decide (b = 0)) && (c || decide (b = 1)))) := by
  match b, hb with
  | 0, _ => cases a <;> cases c <;> cases k <;> simp [thB, thA, hset, fTk, bi, ha, hc, hk] <;> exact (Int32.add_zero _).symm
  | 1, _ => cases a <;> cases c <;> cases k <;> simp [thB, thA, hset, fTk, bi, ha, hc, hk] <;> exact (Int32.add_zero _).symm
theorem thB_x {j b r : Nat} {a : A4} {i : Nat} (h4 : a = (4, 0, j, 0) → i ≠ 8 ∧ i ≠ 9) (h7 : a = (7, 0, j, b) → i ≠ r) : thB hp 0 j b r a i = hp a i := by
  unfold thB
  have e9 : ¬ (a = (4, 0, j, 0) ∧ i = 9) := fun h => (h4 h.1).2 h.2
  have e8 : ¬ (a = (4, 0, j, 0) ∧ i = 8) := fun h => (h4 h.1).1 h.2
  have e7 : ¬ (a = (7, 0, j, b) ∧ i = r) := fun h => h7 h.1 h.2
  unfold hset
  rw [if_neg e9]
  unfold thA
  split
  · unfold hset
    rw [if_neg e8, if_neg e7]
  · rfl
theorem thB_offS {j b r : Nat} : offS hp (thB hp 0 j b r) := by
  have h : offS hp (thA hp 0 j b r) := by
    unfold thA
    split
    · exact (offS.rfl'.set (by decide)).set (by decide)
    · exact offS.rfl'
  exact h.set (by decide)
theorem thB_WT {j b r : Nat} (hW : WT hp) : WT (thB hp 0 j b r) := by
  have h : WT (thA hp 0 j b r) := by
    unfold thA
    split
    · exact (hW.set okv_1).set (okv_free rfl rfl)
    · exact hW
  exact h.set (okv_bi rfl)
end O4
section O6
variable {g : Gh} {hp hB : HPt} {n : Nat} {x : Int32}
theorem p1_offS : ∀ i, offS hp (p1 hp 0 i)
  | 0 => offS.rfl'
  | i + 1 => (p1_offS i).set (by decide)
theorem q1_offS : ∀ i, offS hp (q1 hp 0 i)
  | 0 => offS.rfl'
  | i + 1 => by
    unfold q1
    split
    · exact q1_offS i
    · exact (q1_offS i).trans MN_offS
theorem PB_offS {n : Nat} : offS hp (PB hp 0 n) := by
  have h : offS hp (p2 hp 0 n) := (p1_offS n).set (by decide)
  unfold PB
  split
  · exact h
  · exact h.trans (q1_offS n)
theorem PBs_offS {n : Nat} : ∀ k, offS hp (PBs hp 0 n k)
  | 0 => offS.rfl'
  | k + 1 => (PBs_offS k).trans PB_offS
theorem dec_eq {l : Nat} (hl : l ≤ 20) : (if 0 < nI l - 1 then nI l - 1 else 0) = nI (l - 1) ∧ nI l - (if nI l ≤ 0 then 0 else 1) = nI (l - 1) := by
  have : l = 0 ∨ l = 1 ∨ l = 2 ∨ l = 3 ∨ l = 4 ∨ l = 5 ∨ l = 6 ∨ l = 7 ∨ l = 8 ∨ l = 9 ∨ l = 10 ∨ l = 11 ∨ l = 12 ∨ l = 13 ∨ l = 14 ∨ l = 15 ∨ l = 16 ∨ l = 17 ∨ l = 18 ∨ l = 19 ∨ l = 20 := by omega
  rcases this with rfl | rfl | rfl | rfl | rfl | rfl | rfl | rfl | rfl | rfl | rfl | rfl | rfl | rfl | rfl | rfl | rfl | rfl | rfl | rfl | rfl <;> decide
theorem p1_0 {t i k : Nat} : p1 hp t i (0, t, 0, 0) k = hp (0, t, 0, 0) k := p1_off (Or.inl (by simp)) i
theorem MN_lo {t j k : Nat} (h : k = 3 ∨ k = 5) : MN hp t j (0, t, 0, 0) k = hp (0, t, 0, 0) k := MN_off (fun _ => by omega) (by simp) (by simp) (by simp) (by simp)
theorem MN_2 {t j k : Nat} : MN hp t j (2, t, 0, 0) k = hp (2, t, 0, 0) k := MN_off (by simp) (by simp) (by simp) (by simp) (by simp)
end O6
theorem WT.of {hp h2 : HPt} (h : WT hp) (e : ∀ a i, (a.1 < 8 ∨ a.1 = 11 ∨ a.1 = 13 ∨ (a.1 = 14 ∧ i = 2)) → h2 a i = hp a i) : WT h2 := by
  intro a i
  obtain ⟨k, t, j, b⟩ := a
  by_cases hk : k < 8 ∨ k = 11 ∨ k = 13 ∨ (k = 14 ∧ i = 2)
  · rw [e _ _ hk]
    exact h (k, t, j, b) i
  · have hb : bK k i = false := by
      cases hq : bK k i
      · rfl
      · exfalso
        unfold bK at hq
        simp only [Bool.or_eq_true, Bool.and_eq_true, Nat.beq_eq] at hq
        omega
    have hc : cK k i = false := by
      cases hq : cK k i
      · rfl
      · exfalso
        unfold cK at hq
        simp only [Bool.or_eq_true, Bool.and_eq_true, Nat.beq_eq] at hq
        omega
    exact okv_free hb hc
theorem recA_a {hA : HPt} {o z : Nat} {r : Int32} {a : A4} (h : a ≠ (8, 0, 0, 0)) : recA hA o z r a = hA a := by
  funext i
  unfold recA
  split
  · rfl
  · unfold recH
    split
    · exact hs_a h
    · exact hs_a h
theorem recH_8 {h1 h2 : HPt} {o z i : Nat} (e : h1 (8, 0, 0, 0) = h2 (8, 0, 0, 0)) : recH h1 o z (8, 0, 0, 0) i = recH h2 o z (8, 0, 0, 0) i := by
  unfold recH
  split <;> (unfold hset; split <;> first | rfl | rw [e])
