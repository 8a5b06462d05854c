def sumN (f : Nat → Nat) : Nat → Nat
  | 0 => 0
  | n + 1 => sumN f n + f n
theorem sumN_cg {f f2 : Nat → Nat} : ∀ n, (∀ i, i < n → f2 i = f i) → sumN f2 n = sumN f n
  | 0, _ => rfl
  | n + 1, e => by
    unfold sumN
    rw [sumN_cg n (fun i hi => e i (by omega)), e n (by omega)]
theorem sumN_upd {f f2 : Nat → Nat} {j : Nat} (e : ∀ i, i ≠ j → f2 i = f i) : ∀ n, j < n → sumN f2 n + f j = sumN f n + f2 j
  | 0, h => absurd h (Nat.not_lt_zero _)
  | n + 1, h => by
    unfold sumN
    by_cases q : j = n
    · subst q
      rw [sumN_cg j (fun i hi => e i (by omega))]
      omega
    · have ih := sumN_upd e n (by omega)
      rw [e n (by omega)]
      omega
/-- both parts of a row, added, are the secret -/
def Hrow (hp : HPt) (j r : Nat) (sec : Int32) : Prop := ∃ p q, p < 256 ∧ q < 256 ∧ hp (6, 0, j, 0) r = nI p ∧ hp (6, 0, j, 1) r = nI q ∧ sec = nI ((p + q) % 256)
def Hfac (hp : HPt) (j b : Nat) : Prop := ∃ f s, 1 ≤ f ∧ f < 257 ∧ s < 257 ∧ hp (5, 0, j, 1 - b) 3 = nI f ∧ hp (5, 0, j, 1 - b) 4 = nI s ∧ hp (5, 0, j, b) 2 = jrem (nI f * hp (6, 0, j, b) 0 + nI s) 257
def Hoff (hp : HPt) (j b : Nat) : Prop := ∃ o q, o < 256 ∧ q < 257 ∧ hp (5, 0, j, b) 5 = nI o ∧ hp (5, 0, j, b) 6 = nI q
def Hopn (hp : HPt) (j : Nat) : Prop := (∃ l, l ≤ 20 ∧ hp (4, 0, j, 0) 5 = nI l) ∧ ∃ w, w < 256 ∧ hp (4, 0, j, 0) 4 = nI w
/-- what thieves have: E bounds how many -/
def Htk (hp : HPt) (j m E : Nat) : Prop := ∃ s, s ≤ E ∧ hp (4, 0, j, 0) 8 = nI s ∧ (∀ r, r ≤ m → (∀ b, b < 2 → ¬ hp (7, 0, j, b) r = 0 → 1 ≤ s) ∧ (¬ hp (7, 0, j, 0) r = 0 → ¬ hp (7, 0, j, 1) r = 0 → ¬ hp (4, 0, j, 0) 9 = 0)) ∧ (¬ hp (4, 0, j, 0) 9 = 0 → 2 ≤ s)
/-- a secret: m old versions, v the one now, c lies caught -/
def SG (hp : HPt) (j : Nat) (sec : Int32) (m v c E : Nat) : Prop := (m < 5 ∧ m < v ∧ v ≤ 999) ∧ (hp (4, 0, j, 0) 3 = nI m ∧ hp (4, 0, j, 0) 2 = nI v ∧ hp (4, 0, j, 0) 6 = nI c) ∧ (∀ r, r ≤ m → Hrow hp j r sec) ∧ (∀ b, b < 2 → Hfac hp j b) ∧ (∀ b, b < 2 → Hoff hp j b) ∧ Hopn hp j ∧ Htk hp j m E
/-- ahead of the making of version v -/
def QG (hp : HPt) (j : Nat) (sec : Int32) (m v c E : Nat) : Prop := (m < 5 ∧ m < v ∧ v ≤ 999) ∧ (hp (4, 0, j, 0) 3 = nI m ∧ hp (4, 0, j, 0) 2 = nI (v - 1) ∧ hp (4, 0, j, 0) 6 = nI c) ∧ (∀ r, 1 ≤ r → r ≤ m → Hrow hp j r sec) ∧ (∀ b, b < 2 → hp (7, 0, j, b) 0 = 0) ∧ (∀ b, b < 2 → Hoff hp j b) ∧ Hopn hp j ∧ Htk hp j m E
/-- a secret that is not there -/
def ZG (hp : HPt) (j : Nat) : Prop := (∀ i, 2 ≤ i → i < 10 → hp (4, 0, j, 0) i = 0) ∧ ∀ b, b < 2 → hp (5, 0, j, b) 5 = 0 ∧ hp (5, 0, j, b) 6 = 0 ∧ hp (7, 0, j, b) 0 = 0
/-- what is no secret's -/
def GGl (hp : HPt) (n S C : Nat) : Prop := (n ≤ 8 ∧ hp (0, 0, 0, 0) 3 = nI n) ∧ (∃ x, x < 65537 ∧ hp (0, 0, 0, 0) 4 = nI x) ∧ (∃ t, t ≤ 9999 ∧ hp (0, 0, 0, 0) 5 = nI t) ∧ (∃ x, 1 ≤ x ∧ x ≤ 20 ∧ hp (2, 0, 0, 0) 0 = nI x) ∧ (∃ x, x ≤ 99 ∧ hp (2, 0, 0, 0) 1 = nI x) ∧ (∃ x, x ≤ 4 ∧ hp (2, 0, 0, 0) 2 = nI x) ∧ (∃ M B, hp (0, 0, 0, 0) 6 = nI M ∧ hp (0, 0, 0, 0) 7 = nI B ∧ M = B + S) ∧ hp (0, 0, 0, 0) 8 = nI C
/-- all is well: n secrets, as the law's row has them -/
def GO (hp : HPt) (n E : Nat) : Prop := ∃ m v c : Nat → Nat, GGl hp n (sumN (fun j => 1 + m j) n) (sumN c n) ∧ (∀ j, j < n → SG hp j (hp (16, 0, 0, 0) j) (m j) (v j) (c j) E) ∧ ∀ j, n ≤ j → j < 8 → ZG hp j
/-- alike in a secret's words -/
def AGj (hp h2 : HPt) (j : Nat) : Prop := (∀ i, 2 ≤ i → i < 10 → h2 (4, 0, j, 0) i = hp (4, 0, j, 0) i) ∧ ∀ b, b < 2 → (∀ i, 2 ≤ i → i < 7 → h2 (5, 0, j, b) i = hp (5, 0, j, b) i) ∧ ∀ i, i < 5 → h2 (6, 0, j, b) i = hp (6, 0, j, b) i ∧ h2 (7, 0, j, b) i = hp (7, 0, j, b) i
theorem AGj.rf {hp : HPt} {j : Nat} : AGj hp hp j := ⟨fun _ _ _ => rfl, fun _ _ => ⟨fun _ _ _ => rfl, fun _ _ => ⟨rfl, rfl⟩⟩⟩
theorem AGj.tr {h1 h2 h3 : HPt} {k : Nat} (a : AGj h1 h2 k) (b : AGj h2 h3 k) : AGj h1 h3 k := ⟨fun i h2 h10 => (b.1 i h2 h10).trans (a.1 i h2 h10), fun c hc => ⟨fun i h2 h7 => ((b.2 c hc).1 i h2 h7).trans ((a.2 c hc).1 i h2 h7), fun i h5 => ⟨((b.2 c hc).2 i h5).1.trans ((a.2 c hc).2 i h5).1, ((b.2 c hc).2 i h5).2.trans ((a.2 c hc).2 i h5).2⟩⟩⟩
theorem AG.j {hp h2 : HPt} {j : Nat} (h : AG h2 hp) (hj : j < 8) : AGj hp h2 j := ⟨fun _ a b => h.c4 hj a b, fun _ hb => ⟨fun _ a c => h.c5 hj hb a c, fun _ a => ⟨h.c6 hj hb a, h.c7 hj hb a⟩⟩⟩
section SGS
variable {hp h2 : HPt} {j n m v c E E2 : Nat} {sec : Int32}
theorem Hrow.cg {r : Nat} (h : Hrow hp j r sec) (e : ∀ b, b < 2 → h2 (6, 0, j, b) r = hp (6, 0, j, b) r) : Hrow h2 j r sec := by
  unfold Hrow at h ⊢
  rw [e 0 (by decide), e 1 (by decide)]
  exact h
theorem Hfac.cg {b : Nat} (h : Hfac hp j b) (e : ∀ b, b < 2 → ∀ i, 2 ≤ i → i < 5 → h2 (5, 0, j, b) i = hp (5, 0, j, b) i) (e6 : h2 (6, 0, j, b) 0 = hp (6, 0, j, b) 0) (hb : b < 2) : Hfac h2 j b := by
  unfold Hfac at h ⊢
  rw [e (1 - b) (by omega) 3 (by decide) (by decide), e (1 - b) (by omega) 4 (by decide) (by decide), e b hb 2 (by decide) (by decide), e6]
  exact h
theorem Hoff.cg {b : Nat} (h : Hoff hp j b) (e5 : h2 (5, 0, j, b) 5 = hp (5, 0, j, b) 5) (e6 : h2 (5, 0, j, b) 6 = hp (5, 0, j, b) 6) : Hoff h2 j b := by
  unfold Hoff at h ⊢
  rw [e5, e6]
  exact h
theorem Hopn.cg (h : Hopn hp j) (e4 : h2 (4, 0, j, 0) 4 = hp (4, 0, j, 0) 4) (e5 : h2 (4, 0, j, 0) 5 = hp (4, 0, j, 0) 5) : Hopn h2 j := by
  unfold Hopn at h ⊢
  rw [e4, e5]
  exact h
theorem Htk.cg {m2 : Nat} (h : Htk hp j m E) (hm : m2 ≤ m) (e8 : h2 (4, 0, j, 0) 8 = hp (4, 0, j, 0) 8) (e9 : h2 (4, 0, j, 0) 9 = hp (4, 0, j, 0) 9) (e7 : ∀ b, b < 2 → ∀ r, r ≤ m2 → h2 (7, 0, j, b) r = hp (7, 0, j, b) r) : Htk h2 j m2 E := by
  obtain ⟨s, s1, s2, s3, s4⟩ := h
  refine ⟨s, s1, by rw [e8]; exact s2, fun r hr => ⟨fun b hb h => (s3 r (by omega)).1 b hb (by rw [← e7 b hb r hr]; exact h), fun a b => ?_⟩, fun h => s4 (by rw [← e9]; exact h)⟩
  rw [e9]
  exact (s3 r (by omega)).2 (by rw [← e7 0 (by decide) r hr]; exact a) (by rw [← e7 1 (by decide) r hr]; exact b)
theorem Htk.mono (h : Htk hp j m E) (hE : E ≤ E2) : Htk hp j m E2 := by
  obtain ⟨s, s1, s2⟩ := h
  exact ⟨s, by omega, s2⟩
theorem SG.mono (h : SG hp j sec m v c E) (hE : E ≤ E2) : SG hp j sec m v c E2 := ⟨h.1, h.2.1, h.2.2.1, h.2.2.2.1, h.2.2.2.2.1, h.2.2.2.2.2.1, h.2.2.2.2.2.2.mono hE⟩
theorem SG.cg (h : SG hp j sec m v c E) (e : AGj hp h2 j) : SG h2 j sec m v c E := by
  obtain ⟨a0, ⟨a1, a2, a3⟩, a4, a5, a6, a7, a8⟩ := h
  obtain ⟨e4, e5⟩ := e
  refine ⟨a0, ⟨by rw [e4 3 (by decide) (by decide)]; exact a1, by rw [e4 2 (by decide) (by decide)]; exact a2, by rw [e4 6 (by decide) (by decide)]; exact a3⟩, fun r hr => (a4 r hr).cg (fun b hb => ((e5 b hb).2 r (by omega)).1), fun b hb => (a5 b hb).cg (fun b hb i h2 h5 => (e5 b hb).1 i h2 (by omega)) ((e5 b hb).2 0 (by decide)).1 hb, fun b hb => (a6 b hb).cg ((e5 b hb).1 5 (by decide) (by decide)) ((e5 b hb).1 6 (by decide) (by decide)), a7.cg (e4 4 (by decide) (by decide)) (e4 5 (by decide) (by decide)), a8.cg (Nat.le_refl _) (e4 8 (by decide) (by decide)) (e4 9 (by decide) (by decide)) (fun b hb r hr => ((e5 b hb).2 r (by omega)).2)⟩
theorem ZG.cg (h : ZG hp j) (e : AGj hp h2 j) : ZG h2 j := by
  obtain ⟨e4, e5⟩ := e
  refine ⟨fun i a b => by rw [e4 i a b]; exact h.1 i a b, fun b hb => ⟨?_, ?_, ?_⟩⟩
  · rw [(e5 b hb).1 5 (by decide) (by decide)]; exact (h.2 b hb).1
  · rw [(e5 b hb).1 6 (by decide) (by decide)]; exact (h.2 b hb).2.1
  · rw [((e5 b hb).2 0 (by decide)).2]; exact (h.2 b hb).2.2
theorem GGl.cg {S C : Nat} (h : GGl hp n S C) (e0 : ∀ i, 3 ≤ i → i < 9 → h2 (0, 0, 0, 0) i = hp (0, 0, 0, 0) i) (e2 : ∀ i, i < 3 → h2 (2, 0, 0, 0) i = hp (2, 0, 0, 0) i) : GGl h2 n S C := by
  unfold GGl
  rw [e0 3 (by decide) (by decide), e0 4 (by decide) (by decide), e0 5 (by decide) (by decide), e0 6 (by decide) (by decide), e0 7 (by decide) (by decide), e0 8 (by decide) (by decide), e2 0 (by decide), e2 1 (by decide), e2 2 (by decide)]
  exact h
theorem GO.mono (h : GO hp n E) (hE : E ≤ E2) : GO hp n E2 := by
  obtain ⟨m, v, c, h1, h3, h4⟩ := h
  exact ⟨m, v, c, h1, fun j hj => (h3 j hj).mono hE, h4⟩
theorem GO.cg (h : GO hp n E) (e : AG h2 hp) (e16 : ∀ k, k < n → h2 (16, 0, 0, 0) k = hp (16, 0, 0, 0) k) : GO h2 n E := by
  obtain ⟨m, v, c, h1, h3, h4⟩ := h
  have hn := h1.1.1
  refine ⟨m, v, c, h1.cg (fun i a b => e.c0 a (by omega)) (fun i a => e.c2 a), fun j hj => ?_, fun j hj hj8 => (h4 j hj hj8).cg (e.j hj8)⟩
  rw [e16 j hj]
  exact (h3 j hj).cg (e.j (by omega))
/-- what is no secret's changes -/
theorem GO.gl {m v c : Nat → Nat} (h3 : ∀ j, j < n → SG hp j (hp (16, 0, 0, 0) j) (m j) (v j) (c j) E) (h4 : ∀ j, n ≤ j → j < 8 → ZG hp j) (hG : GGl h2 n (sumN (fun j => 1 + m j) n) (sumN c n)) (e16 : ∀ k, k < 8 → h2 (16, 0, 0, 0) k = hp (16, 0, 0, 0) k) (ag : ∀ k, k < 8 → AGj hp h2 k) : GO h2 n E := by
  have hn := hG.1.1
  refine ⟨m, v, c, hG, fun j hj => ?_, fun j hj hj8 => (h4 j hj hj8).cg (ag j hj8)⟩
  rw [e16 j (by omega)]
  exact (h3 j hj).cg (ag j (by omega))
/-- one secret changes -/
theorem GO.one {m v c : Nat → Nat} {mj vj cj S C : Nat} (h3 : ∀ j, j < n → SG hp j (hp (16, 0, 0, 0) j) (m j) (v j) (c j) E) (h4 : ∀ j, n ≤ j → j < 8 → ZG hp j) (hj : j < n) (hE : E ≤ E2) (hG : GGl h2 n S C) (hS : S + (1 + m j) = sumN (fun j => 1 + m j) n + (1 + mj)) (hC : C + c j = sumN c n + cj) (e16 : ∀ k, k < 8 → h2 (16, 0, 0, 0) k = hp (16, 0, 0, 0) k) (ag : ∀ k, k ≠ j → k < 8 → AGj hp h2 k) (hq : SG h2 j (hp (16, 0, 0, 0) j) mj vj cj E2) : GO h2 n E2 := by
  have hn := hG.1.1
  have s1 := sumN_upd (f := fun j => 1 + m j) (f2 := fun k => 1 + (if k = j then mj else m k)) (j := j) (fun i hi => by rw [if_neg hi]) n hj
  have s2 := sumN_upd (f := c) (f2 := fun k => if k = j then cj else c k) (j := j) (fun i hi => if_neg hi) n hj
  rw [if_pos rfl] at s1 s2
  refine ⟨fun k => if k = j then mj else m k, fun k => if k = j then vj else v k, fun k => if k = j then cj else c k, ?_, fun k hk => ?_, fun k hk hk8 => (h4 k hk hk8).cg (ag k (by omega) hk8)⟩
  · have e1 : sumN (fun k => 1 + (if k = j then mj else m k)) n = S := by omega
    have e2 : sumN (fun k => if k = j then cj else c k) n = C := by omega
    rw [e1, e2]
    exact hG
  · rw [e16 k (by omega)]
    by_cases hkj : k = j
    · subst hkj
      simp only [if_pos]
      exact hq
    · simp only [if_neg hkj]
      exact ((h3 k hk).cg (ag k hkj (by omega))).mono hE
end SGS
