theorem jrem_nI {a d : Nat} (ha : a < 2 ^ 31) (h0 : 0 < d) (hd : d < 2 ^ 31) : jrem (nI a) (nI d) = nI (a % d) := pk_rem ha h0 hd
def lcN (x : Nat) : Nat := (75 * x + 74) % 65537
theorem lcN_lt {x : Nat} : lcN x < 65537 := Nat.mod_lt _ (by decide)
theorem lc_nI {x : Nat} (hx : x < 65537) : jrem (75 * nI x + 74) 65537 = nI (lcN x) := by
  rw [show (75 : Int32) = nI 75 from rfl, show (74 : Int32) = nI 74 from rfl, show (65537 : Int32) = nI 65537 from rfl, pk_mul, nI_add]
  exact jrem_nI (by omega) (by decide) (by decide)
theorem dv16 {x : Nat} (hx : x < 65537) : nI x / 16 = nI (x / 16) := by
  rw [show (16 : Int32) = nI 16 from rfl, pk_div (by omega) (by decide) (by decide)]
theorem dvm {x d : Nat} (hx : x < 65537) (h0 : 0 < d) (hd : d < 2 ^ 31) : jrem (nI x / 16) (nI d) = nI (x / 16 % d) := by
  rw [dv16 hx]
  exact jrem_nI (Nat.lt_of_le_of_lt (Nat.div_le_self _ _) (by omega)) h0 hd
theorem fFM_k6 : ∀ k, k < 769 → 1 ≤ k → fFM (nI k - nI 257) (nI 256) = nI ((k + 256 - 257) % 256) := by decide +kernel
theorem fFM_k7 : ∀ k, k < 769 → fFM (nI k - nI 257) (nI 257) = nI ((k + 257 - 257) % 257) := by decide +kernel
theorem nI_shift {a b c : Nat} (h : b ≤ c) : nI a - nI b = nI (a + c - b) - nI c := by
  rw [show a + c - b = a + (c - b) by omega, ← nI_add, ← pk_sub h]
  simp only [Int32.sub_eq_add_neg]
  rw [Int32.add_assoc, Int32.add_assoc, Int32.add_comm (nI c), Int32.add_assoc, Int32.add_comm (-nI c), Int32.add_right_neg, Int32.add_zero]
/-- the remainder that is not negative, for what lies less than d below 0 -/
theorem fFM_6 {a b : Nat} (ha : a < 512) (hb : b ≤ 256) : fFM (nI a - nI b) 256 = nI ((a + 256 - b) % 256) := by
  rw [nI_shift (c := 257) (by omega)]
  have h := fFM_k6 (a + 257 - b) (by omega) (by omega)
  rw [show a + 257 - b + 256 - 257 = a + 256 - b by omega] at h
  exact h
theorem fFM_7 {a b : Nat} (ha : a < 512) (hb : b ≤ 257) : fFM (nI a - nI b) 257 = nI ((a + 257 - b) % 257) := by
  rw [nI_shift (c := 257) (by omega)]
  have h := fFM_k7 (a + 257 - b) (by omega)
  rw [show a + 257 - b + 257 - 257 = a + 257 - b by omega] at h
  exact h
theorem rem6 {a : Nat} (h : a < 2 ^ 31) : jrem (nI a) 256 = nI (a % 256) := jrem_nI h (by decide) (by decide)
theorem rem7 {a : Nat} (h : a < 2 ^ 31) : jrem (nI a) 257 = nI (a % 257) := jrem_nI h (by decide) (by decide)
/-- a half's numbers, in the class and in the reference's row -/
def Rrow (hp : HPt) (t j : Nat) (s : Nat → Int32) (v r : Nat) : Prop := s (cI j (15 + 4 * r)) = nI (v - r) ∧ (∃ p, p < 256 ∧ hp (6, t, j, 0) r = nI p ∧ s (cI j (16 + 4 * r)) = nI p) ∧ (∃ p, p < 256 ∧ hp (6, t, j, 1) r = nI p ∧ s (cI j (17 + 4 * r)) = nI p) ∧ ∃ a b : Bool, hp (7, t, j, 0) r = bi a ∧ hp (7, t, j, 1) r = bi b ∧ s (cI j (18 + 4 * r)) = nI ((if a = true then 1 else 0) + (if b = true then 2 else 0))
def Roff (hp : HPt) (t j : Nat) (s : Nat → Int32) (b : Nat) : Prop := ∃ o q, o < 256 ∧ q < 257 ∧ hp (5, t, j, b) 5 = nI o ∧ s (cI j (7 + b)) = nI o ∧ hp (5, t, j, b) 6 = nI q ∧ s (cI j (9 + b)) = nI q
def Rfac (hp : HPt) (t j : Nat) (s : Nat → Int32) (b : Nat) : Prop := ∃ f q, f < 257 ∧ q < 257 ∧ hp (5, t, j, 1 - b) 3 = nI f ∧ s (cI j (11 + b)) = nI f ∧ hp (5, t, j, 1 - b) 4 = nI q ∧ s (cI j (13 + b)) = nI q
def Rtag (hp : HPt) (t j : Nat) (s : Nat → Int32) (b : Nat) : Prop := hp (5, t, j, b) 2 = jrem (s (cI j (11 + b)) * s (cI j (16 + b)) + s (cI j (13 + b))) 257
def Rmis (hp : HPt) (t j : Nat) (s : Nat → Int32) : Prop := s (cI j 1) = hp (4, t, j, 0) 4 ∧ (∃ l, l ≤ 20 ∧ hp (4, t, j, 0) 5 = nI l ∧ s (cI j 2) = nI l) ∧ s (cI j 3) = hp (4, t, j, 0) 6 ∧ s (cI j 4) = hp (4, t, j, 0) 7 ∧ (∃ k : Bool, hp (4, t, j, 0) 9 = bi k ∧ s (cI j 5) = bi k) ∧ s (cI j 6) = hp (4, t, j, 0) 8
/-- a secret: m old versions, v the one now -/
def RS (hp : HPt) (t j : Nat) (s : Nat → Int32) (m v : Nat) : Prop := (m < 5 ∧ m < v ∧ v ≤ 999) ∧ (hp (4, t, j, 0) 3 = nI m ∧ s (cI j 0) = nI m) ∧ hp (4, t, j, 0) 2 = nI v ∧ (∀ r, r ≤ m → Rrow hp t j s v r) ∧ (∀ b, b < 2 → Rfac hp t j s b) ∧ (∀ b, b < 2 → Rtag hp t j s b) ∧ (∀ b, b < 2 → Roff hp t j s b) ∧ Rmis hp t j s
/-- ahead of the making of version v -/
def QS (hp : HPt) (t j : Nat) (s : Nat → Int32) (m v : Nat) : Prop := (m < 5 ∧ m < v ∧ v ≤ 999) ∧ (hp (4, t, j, 0) 3 = nI m ∧ s (cI j 0) = nI m) ∧ hp (4, t, j, 0) 2 = nI (v - 1) ∧ (∀ r, 1 ≤ r → r ≤ m → Rrow hp t j s v r) ∧ (hp (7, t, j, 0) 0 = 0 ∧ hp (7, t, j, 1) 0 = 0) ∧ (∀ b, b < 2 → Roff hp t j s b) ∧ Rmis hp t j s
/-- a secret that is not there -/
def ZS (hp : HPt) (t j : Nat) (s : Nat → Int32) : Prop := (∀ i, 2 ≤ i → i < 10 → hp (4, t, j, 0) i = 0) ∧ (∀ b, b < 2 → hp (5, t, j, b) 5 = 0 ∧ hp (5, t, j, b) 6 = 0 ∧ hp (7, t, j, b) 0 = 0) ∧ ∀ f, f < 11 → s (cI j f) = 0
/-- what is no secret's -/
def GL (hp : HPt) (t : Nat) (s : Nat → Int32) (n : Nat) : Prop := n ≤ 8 ∧ (hp (0, t, 0, 0) 3 = nI n ∧ s 5 = nI n) ∧ (∃ x, x < 65537 ∧ hp (0, t, 0, 0) 4 = nI x ∧ s 3 = nI x) ∧ (∃ x, x ≤ 9999 ∧ hp (0, t, 0, 0) 5 = nI x ∧ s 4 = nI x) ∧ (∃ x, 1 ≤ x ∧ x ≤ 20 ∧ hp (2, t, 0, 0) 0 = nI x ∧ s 0 = nI x) ∧ (∃ x, x ≤ 99 ∧ hp (2, t, 0, 0) 1 = nI x ∧ s 1 = nI x) ∧ (∃ x, x ≤ 4 ∧ hp (2, t, 0, 0) 2 = nI x ∧ s 2 = nI x) ∧ (∃ a : Bool, hp (3, t, 0, 0) 0 = bi a ∧ s 6 = bi a) ∧ (∃ a : Bool, hp (3, t, 0, 0) 1 = bi a ∧ s 7 = bi a) ∧ s 8 = hp (0, t, 0, 0) 6 ∧ s 9 = hp (0, t, 0, 0) 7 ∧ s 10 = hp (0, t, 0, 0) 8 ∧ s 11 = hp (0, t, 0, 0) 9
/-- the Stores t is the reference's row s, with n secrets -/
def Rep (hp : HPt) (t : Nat) (s : Nat → Int32) (n : Nat) : Prop := GL hp t s n ∧ (∀ j, j < n → ∃ m v, RS hp t j s m v) ∧ ∀ j, n ≤ j → j < 8 → ZS hp t j s
/-- the same in a secret's words -/
def AGs (hp h2 : HPt) (t t2 j : Nat) (s s2 : Nat → Int32) : Prop := (∀ i, 2 ≤ i → i < 10 → h2 (4, t2, j, 0) i = hp (4, t, j, 0) i) ∧ (∀ b, b < 2 → (∀ i, 2 ≤ i → i < 7 → h2 (5, t2, j, b) i = hp (5, t, j, b) i) ∧ ∀ i, i < 5 → h2 (6, t2, j, b) i = hp (6, t, j, b) i ∧ h2 (7, t2, j, b) i = hp (7, t, j, b) i) ∧ ∀ f, f < 35 → s2 (cI j f) = s (cI j f)
theorem RS.cg {hp h2 : HPt} {t t2 j m v : Nat} {s s2 : Nat → Int32} (h : RS hp t j s m v) (e : AGs hp h2 t t2 j s s2) : RS h2 t2 j s2 m v := by
  obtain ⟨⟨hm, hmv, hv⟩, ⟨a1, a2⟩, a3, a4, a5, a6, a7, b1, b2, b3, b4, b5, b6⟩ := h
  obtain ⟨e4, e5, es⟩ := e
  have e0 := e5 0 (by decide)
  have e1 := e5 1 (by decide)
  refine ⟨⟨hm, hmv, hv⟩, ⟨?_, ?_⟩, ?_, ?_, ?_, ?_, ?_, ?_, ?_, ?_, ?_, ?_, ?_⟩
  · rw [e4 3 (by decide) (by decide)]; exact a1
  · rw [es 0 (by decide)]; exact a2
  · rw [e4 2 (by decide) (by decide)]; exact a3
  · intro r hr
    have h := a4 r hr
    unfold Rrow at h ⊢
    rw [es _ (by omega), es _ (by omega), es _ (by omega), es _ (by omega), (e0.2 r (by omega)).1, (e0.2 r (by omega)).2, (e1.2 r (by omega)).1, (e1.2 r (by omega)).2]
    exact h
  · intro b hb
    have h := a5 b hb
    have ek := e5 (1 - b) (by omega)
    unfold Rfac at h ⊢
    rw [es _ (by omega), es _ (by omega), ek.1 3 (by decide) (by decide), ek.1 4 (by decide) (by decide)]
    exact h
  · intro b hb
    have h := a6 b hb
    have ek := e5 b hb
    unfold Rtag at h ⊢
    rw [es _ (by omega), es _ (by omega), es _ (by omega), ek.1 2 (by decide) (by decide)]
    exact h
  · intro b hb
    have h := a7 b hb
    have ek := e5 b hb
    unfold Roff at h ⊢
    rw [es _ (by omega), es _ (by omega), ek.1 5 (by decide) (by decide), ek.1 6 (by decide) (by decide)]
    exact h
  · rw [es _ (by decide), e4 _ (by decide) (by decide)]; exact b1
  · rw [es _ (by decide), e4 _ (by decide) (by decide)]; exact b2
  · rw [es _ (by decide), e4 _ (by decide) (by decide)]; exact b3
  · rw [es _ (by decide), e4 _ (by decide) (by decide)]; exact b4
  · rw [es _ (by decide), e4 _ (by decide) (by decide)]; exact b5
  · rw [es _ (by decide), e4 _ (by decide) (by decide)]; exact b6
theorem ZS.cg {hp h2 : HPt} {t t2 j : Nat} {s s2 : Nat → Int32} (h : ZS hp t j s) (e : AGs hp h2 t t2 j s s2) : ZS h2 t2 j s2 := by
  obtain ⟨e4, e5, es⟩ := e
  refine ⟨fun i h2 h10 => ?_, fun b hb => ⟨?_, ?_, ?_⟩, fun f hf => ?_⟩
  · rw [e4 i h2 h10]; exact h.1 i h2 h10
  · rw [(e5 b hb).1 5 (by decide) (by decide)]; exact (h.2.1 b hb).1
  · rw [(e5 b hb).1 6 (by decide) (by decide)]; exact (h.2.1 b hb).2.1
  · rw [((e5 b hb).2 0 (by decide)).2]; exact (h.2.1 b hb).2.2
  · rw [es f (by omega)]; exact h.2.2 f hf
def AGg (hp h2 : HPt) (t t2 : Nat) (s s2 : Nat → Int32) : Prop := (∀ i, 3 ≤ i → i < 10 → h2 (0, t2, 0, 0) i = hp (0, t, 0, 0) i) ∧ (∀ i, i < 3 → h2 (2, t2, 0, 0) i = hp (2, t, 0, 0) i) ∧ (∀ i, i < 2 → h2 (3, t2, 0, 0) i = hp (3, t, 0, 0) i) ∧ ∀ i, i < 12 → s2 i = s i
theorem GL.cg {hp h2 : HPt} {t t2 n : Nat} {s s2 : Nat → Int32} (h : GL hp t s n) (e : AGg hp h2 t t2 s s2) : GL h2 t2 s2 n := by
  obtain ⟨e0, e2, e3, es⟩ := e
  unfold GL
  rw [e0 3 (by decide) (by decide), e0 4 (by decide) (by decide), e0 5 (by decide) (by decide), e0 6 (by decide) (by decide), e0 7 (by decide) (by decide), e0 8 (by decide) (by decide), e0 9 (by decide) (by decide), e2 0 (by decide), e2 1 (by decide), e2 2 (by decide), e3 0 (by decide), e3 1 (by decide), es 0 (by decide), es 1 (by decide), es 2 (by decide), es 3 (by decide), es 4 (by decide), es 5 (by decide), es 6 (by decide), es 7 (by decide), es 8 (by decide), es 9 (by decide), es 10 (by decide), es 11 (by decide)]
  exact h
theorem Rep.cg {hp h2 : HPt} {t t2 n : Nat} {s s2 : Nat → Int32} (h : Rep hp t s n) (eg : AGg hp h2 t t2 s s2) (e : ∀ j, j < 8 → AGs hp h2 t t2 j s s2) : Rep h2 t2 s2 n := by
  refine ⟨h.1.cg eg, fun j hj => ?_, fun j hj hj8 => (h.2.2 j hj hj8).cg (e j hj8)⟩
  obtain ⟨m, v, hr⟩ := h.2.1 j hj
  exact ⟨m, v, hr.cg (e j (by have := h.1.1; omega))⟩
