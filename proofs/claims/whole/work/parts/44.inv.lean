theorem Rep.same {hp h2 : HPt} {t n : Nat} {s s2 : Nat → Int32} (h : Rep hp t s n) (e : ∀ a, a.1 < 8 → a.2.1 = t → h2 a = hp a) (es : ∀ k, k < 292 → s2 k = s k) : Rep h2 t s2 n := by
  refine h.cg ⟨fun i _ _ => ?_, fun i _ => ?_, fun i _ => ?_, fun i hi => es i (by omega)⟩ (fun j hj => ⟨fun i _ _ => ?_, fun b _ => ⟨fun i _ _ => ?_, fun i _ => ⟨?_, ?_⟩⟩, fun f hf => es _ (by unfold cI; omega)⟩) <;> exact congrFun (e _ (by simp) rfl) i
/-- the copy of a Stores -/
theorem Rep.copy {hp : HPt} {t u n : Nat} {s : Nat → Int32} (h : Rep hp u s n) (htu : t ≠ u) : Rep (CPS hp t u) t s n :=
  h.cg ⟨fun i h1 h2 => CPS_0 h1 h2, fun i h => CPS_2 htu h, fun i h => CPS_3 htu h, fun _ _ => rfl⟩ (fun j hj => ⟨fun i h1 h2 => CPS_on htu hj (Or.inl ⟨rfl, rfl, h1, h2⟩), fun b hb => ⟨fun i h1 h2 => CPS_on htu hj (Or.inr (Or.inl ⟨rfl, hb, h1, h2⟩)), fun i hi => ⟨CPS_on htu hj (Or.inr (Or.inr ⟨Or.inl rfl, hb, hi⟩)), CPS_on htu hj (Or.inr (Or.inr ⟨Or.inr rfl, hb, hi⟩))⟩⟩, fun _ _ => rfl⟩)
def HIST (hp : HPt) (o z : Nat) : Prop := ∀ i, i < z → ∃ n, Rep hp (hrow o i + 1) (fun k => hp (18, 0, 0, 0) (292 * i + k)) n
def SLT (hp : HPt) : Prop := ∀ b, b < 2 → ∃ c : Bool, hp (11, 0, 0, 0) b = bi c ∧ hp (20, 0, 0, 0) b = bi c ∧ (c = true → ∃ n, Rep hp (8 + b) (fun k => hp (19, 0, 0, 0) (292 * b + k)) n)
def PAD (hp : HPt) (len : Nat) : Prop := len ≤ 80 ∧ hp (12, 0, 0, 0) 1 = nI len ∧ hp (16, 0, 0, 0) 6 = nI len ∧ hp (13, 0, 0, 0) = hp (21, 0, 0, 0)
/-- all that the class and the reference hold is alike -/
def INVp (hp : HPt) (o z len n : Nat) : Prop := WT hp ∧ Rep hp 0 (hp (17, 0, 0, 0)) n ∧ HN hp o z ∧ hp (16, 0, 0, 0) 2 = nI z ∧ HIST hp o z ∧ SLT hp ∧ PAD hp len
def INV (hp : HPt) : Prop := ∃ o z len n, INVp hp o z len n
theorem SLT.cg {hp h2 : HPt} (h : SLT hp) (e : ∀ a, a.1 = 11 ∨ a.1 = 19 ∨ a.1 = 20 → h2 a = hp a) (e2 : ∀ a, a.1 < 8 → a.2.1 = 8 ∨ a.2.1 = 9 → h2 a = hp a) : SLT h2 := by
  intro b hb
  obtain ⟨c, h1, h3, h4⟩ := h b hb
  refine ⟨c, by rw [e _ (Or.inl rfl)]; exact h1, by rw [e _ (Or.inr (Or.inr rfl))]; exact h3, fun hc => ?_⟩
  obtain ⟨n, hn⟩ := h4 hc
  refine ⟨n, hn.same (fun a h1 h2 => e2 a h1 (by omega)) (fun k _ => ?_)⟩
  show h2 _ _ = _
  rw [e _ (Or.inr (Or.inl rfl))]
theorem PAD.cg {hp h2 : HPt} {len : Nat} (h : PAD hp len) (e12 : h2 (12, 0, 0, 0) 1 = hp (12, 0, 0, 0) 1) (e16 : h2 (16, 0, 0, 0) 6 = hp (16, 0, 0, 0) 6) (e13 : h2 (13, 0, 0, 0) = hp (13, 0, 0, 0)) (e21 : h2 (21, 0, 0, 0) = hp (21, 0, 0, 0)) : PAD h2 len := by
  unfold PAD
  rw [e12, e16, e13, e21]
  exact h
theorem hrow_ne {o i z : Nat} (hi : i < z) (hz : z ≤ 6) : hrow o i ≠ hrow o z := by
  unfold hrow
  omega
theorem INV_no {hp h2 : HPt} {o z len len2 n n2 : Nat} (hI : INVp hp o z len n) (hW : WT h2) (hR : Rep h2 0 (h2 (17, 0, 0, 0)) n2) (hc : ∀ a, a.1 < 8 → a.2.1 ≠ 0 → a.2.1 ≠ hrow o z + 1 → h2 a = hp a) (h8 : h2 (8, 0, 0, 0) = hp (8, 0, 0, 0)) (h16 : h2 (16, 0, 0, 0) 2 = hp (16, 0, 0, 0) 2) (h18 : h2 (18, 0, 0, 0) = hp (18, 0, 0, 0)) (hs : ∀ a, a.1 = 11 ∨ a.1 = 19 ∨ a.1 = 20 → h2 a = hp a) (hP : PAD h2 len2) : INVp h2 o z len2 n2 := by
  obtain ⟨-, -, ⟨k1, k2, k3, k4⟩, k5, k6, k7, -⟩ := hI
  refine ⟨hW, hR, ⟨k1, k2, by rw [h8]; exact k3, by rw [h8]; exact k4⟩, by rw [h16]; exact k5, fun i hi => ?_, k7.cg hs (fun a h1 h2 => hc a h1 (by omega) (by have := @hrow_lt o z; omega)), hP⟩
  obtain ⟨q, hq⟩ := k6 i hi
  refine ⟨q, hq.same (fun a h1 h2 => hc a h1 (by omega) (by have := hrow_ne (o := o) hi k2; omega)) (fun k _ => ?_)⟩
  show h2 _ _ = _
  rw [h18]
/-- the reference's record in its words -/
def YES (hp h2 : HPt) (z : Nat) : Prop := (z < 6 ∧ h2 (16, 0, 0, 0) 2 = nI (z + 1) ∧ (∀ i, i < z → ∀ k, k < 292 → h2 (18, 0, 0, 0) (292 * i + k) = hp (18, 0, 0, 0) (292 * i + k)) ∧ ∀ k, k < 292 → h2 (18, 0, 0, 0) (292 * z + k) = hp (17, 0, 0, 0) k) ∨ (z = 6 ∧ h2 (16, 0, 0, 0) 2 = nI 6 ∧ (∀ i, i < 5 → ∀ k, k < 292 → h2 (18, 0, 0, 0) (292 * i + k) = hp (18, 0, 0, 0) (292 * (i + 1) + k)) ∧ ∀ k, k < 292 → h2 (18, 0, 0, 0) (292 * 5 + k) = hp (17, 0, 0, 0) k)
theorem INV_yes {hp h2 : HPt} {o z len len2 n n2 : Nat} (hI : INVp hp o z len n) (hW : WT h2) (hR : Rep h2 0 (h2 (17, 0, 0, 0)) n2) (hc : ∀ a, a.1 < 8 → a.2.1 ≠ 0 → a.2.1 ≠ hrow o z + 1 → h2 a = hp a) (hd : ∀ a, a.1 < 8 → a.2.1 = hrow o z + 1 → h2 a = CPS hp (hrow o z + 1) 0 a) (h81 : h2 (8, 0, 0, 0) 1 = recH hp o z (8, 0, 0, 0) 1) (h82 : h2 (8, 0, 0, 0) 2 = recH hp o z (8, 0, 0, 0) 2) (hy : YES hp h2 z) (hs : ∀ a, a.1 = 11 ∨ a.1 = 19 ∨ a.1 = 20 → h2 a = hp a) (hP : PAD h2 len2) : INV h2 := by
  obtain ⟨-, kR, ⟨k1, k2, k3, k4⟩, k5, k6, k7, -⟩ := hI
  have hnew : ∀ s : Nat → Int32, (∀ k, k < 292 → s k = hp (17, 0, 0, 0) k) → Rep h2 (hrow o z + 1) s n := fun s e => (kR.copy (t := hrow o z + 1) (by omega)).same (fun a h1 h2 => hd a h1 h2) e
  have hS : SLT h2 := k7.cg hs (fun a h1 h2 => hc a h1 (by omega) (by have := @hrow_lt o z; omega))
  rcases hy with ⟨hz, y1, y2, y3⟩ | ⟨hz, y1, y2, y3⟩
  · unfold recH at h81 h82
    rw [if_pos hz] at h81 h82
    rw [hs_eq] at h82
    rw [hs_i (by decide), k3] at h81
    refine ⟨o, z + 1, len2, n2, hW, hR, ⟨k1, by omega, h81, h82⟩, y1, fun i hi => ?_, hS, hP⟩
    by_cases hiz : i = z
    · subst hiz
      exact ⟨n, hnew _ y3⟩
    · obtain ⟨q, hq⟩ := k6 i (by omega)
      exact ⟨q, hq.same (fun a h1 h2 => hc a h1 (by omega) (by have := hrow_ne (o := o) (show i < z by omega) k2; omega)) (fun k hk => y2 i (by omega) k hk)⟩
  · subst hz
    unfold recH at h81 h82
    rw [if_neg (by decide)] at h81 h82
    rw [hs_eq] at h81
    rw [hs_i (by decide), k4] at h82
    refine ⟨(o + 1) % 7, 6, len2, n2, hW, hR, ⟨Nat.mod_lt _ (by decide), Nat.le_refl _, h81, h82⟩, y1, fun i hi => ?_, hS, hP⟩
    have er : hrow ((o + 1) % 7) i = hrow o (i + 1) := by unfold hrow; omega
    rw [er]
    by_cases hi5 : i = 5
    · subst hi5
      exact ⟨n, hnew _ y3⟩
    · obtain ⟨q, hq⟩ := k6 (i + 1) (by omega)
      exact ⟨q, hq.same (fun a h1 h2 => hc a h1 (by omega) (by have := hrow_ne (o := o) (show i + 1 < 6 by omega) k2; omega)) (fun k hk => y2 i (by omega) k hk)⟩
theorem RPu_a {hp : HPt} {z : Nat} {a : A4} (h18 : a ≠ (18, 0, 0, 0)) (h16 : a ≠ (16, 0, 0, 0)) : RPu hp z a = hp a := by
  funext i
  unfold RPu
  split
  · unfold rpA rpB
    rw [hs_a h16, cpK_off (Or.inl h18), hs_a h16, cpK_off (Or.inl h18)]
  · unfold rpA
    rw [hs_a h16, cpK_off (Or.inl h18)]
theorem RPu_16 {hp : HPt} {z i : Nat} (hi : i ≠ 2) : RPu hp z (16, 0, 0, 0) i = hp (16, 0, 0, 0) i := by
  unfold RPu
  split
  · unfold rpA rpB
    rw [hs_i hi, cpK_off (Or.inl (by decide)), hs_i hi, cpK_off (Or.inl (by decide))]
  · unfold rpA
    rw [hs_i hi, cpK_off (Or.inl (by decide))]
theorem RPu_YES {hp H : HPt} {z : Nat} (hz : z ≤ 6) (e18 : H (18, 0, 0, 0) = hp (18, 0, 0, 0)) (e22 : ∀ k, k < 292 → H (22, 0, 0, 0) k = hp (17, 0, 0, 0) k) : YES hp (RPu H z) z := by
  by_cases h6 : z = 6
  · subst h6
    right
    have e : RPu H 6 = rpA (rpB H) 5 := if_pos rfl
    rw [e]
    refine ⟨rfl, ?_, fun i hi k hk => ?_, fun k hk => ?_⟩
    · unfold rpA
      exact hs_eq
    · unfold rpA
      rw [hs_a (by decide), cpK_off (Or.inr (Or.inl (by omega)))]
      unfold rpB
      rw [hs_a (by decide)]
      have h := cpK_on (hp := H) (d := (18, 0, 0, 0)) (s := (18, 0, 0, 0)) (dO := 0) (sO := 292) (n := 1460) (i := 292 * i + k) (by omega)
      rw [Nat.zero_add] at h
      rw [h, e18]
      congr 1
      omega
    · unfold rpA
      rw [hs_a (by decide), cpK_on hk, Nat.zero_add]
      unfold rpB
      rw [hs_a (by decide), cpK_off (Or.inl (by decide))]
      exact e22 k hk
  · left
    have e : RPu H z = rpA H z := if_neg h6
    rw [e]
    refine ⟨by omega, ?_, fun i hi k hk => ?_, fun k hk => ?_⟩
    · unfold rpA
      exact hs_eq
    · unfold rpA
      rw [hs_a (by decide), cpK_off (Or.inr (Or.inl (by omega))), e18]
    · unfold rpA
      rw [hs_a (by decide), cpK_on hk, Nat.zero_add]
      exact e22 k hk
theorem WT.of {hp h2 : HPt} (h : WT hp) (e : ∀ a i, (a.1 < 8 ∨ a.1 = 11 ∨ a.1 = 20 ∨ a.1 = 13 ∨ (a.1 = 14 ∧ i = 2) ∨ (a.1 = 16 ∧ i = 9)) → h2 a i = hp a i) : WT h2 := by
  intro a i
  obtain ⟨k, t, j, b⟩ := a
  by_cases hk : k < 8 ∨ k = 11 ∨ k = 20 ∨ k = 13 ∨ (k = 14 ∧ i = 2) ∨ (k = 16 ∧ i = 9)
  · rw [e _ _ hk]
    exact h (k, t, j, b) i
  · have hb : bK k i = false := by
      cases hq : bK k i
      · rfl
      · exfalso
        unfold bK at hq
        simp only [Bool.or_eq_true, Bool.and_eq_true, Nat.beq_eq] at hq
        omega
    have hc : cK k i = false := by
      cases hq : cK k i
      · rfl
      · exfalso
        unfold cK at hq
        simp only [Bool.or_eq_true, Bool.and_eq_true, Nat.beq_eq] at hq
        omega
    exact okv_free hb hc
theorem recA_a {hA : HPt} {o z : Nat} {r : Int32} {a : A4} (h : a ≠ (8, 0, 0, 0)) : recA hA o z r a = hA a := by
  funext i
  unfold recA
  split
  · rfl
  · unfold recH
    split
    · exact hs_a h
    · exact hs_a h
theorem lkH_a {hp : HPt} {a : A4} (h : a ≠ (22, 0, 0, 0)) : lkH hp a = hp a := by
  funext i
  unfold lkH
  exact cpK_off (Or.inl h)
theorem lkH_22 {hp : HPt} {k : Nat} (h : k < 292) : lkH hp (22, 0, 0, 0) k = hp (17, 0, 0, 0) k := by
  have e := cpK_on (hp := hp) (d := (22, 0, 0, 0)) (s := (17, 0, 0, 0)) (dO := 0) (sO := 0) (n := 292) (i := k) h
  rw [Nat.zero_add] at e
  exact e
theorem recH_8 {h1 h2 : HPt} {o z i : Nat} (e : h1 (8, 0, 0, 0) = h2 (8, 0, 0, 0)) : recH h1 o z (8, 0, 0, 0) i = recH h2 o z (8, 0, 0, 0) i := by
  unfold recH
  split <;> (unfold hset; split <;> first | rfl | rw [e])
/-- a change tried in both: recorded if it is no error -/
theorem INV_rec {hp hA hD : HPt} {o z len n n2 : Nat} {r : Int32} (hI : INVp hp o z len n) (hW : WT hA) (hS : offS (CPS hp (hrow o z + 1) 0) hA) (hD1 : offR (lkH (recA hA o z r)) hD) (hR : Rep hA 0 (hD (17, 0, 0, 0)) n2) : INV (rcA hD z r) := by
  have hz := hI.2.2.1.2.1
  have hH : ∀ a, (a.2.1 ≠ hrow o z + 1 ∨ 8 ≤ a.1) → CPS hp (hrow o z + 1) 0 a = hp a := fun a h => by
    funext i
    exact CPS_off h
  -- the heap behind both, word by word
  have eD : ∀ a, a.1 ≠ 8 → a.1 ≠ 17 → a.1 ≠ 22 → hD a = hA a := fun a h8 h17 h22 => by
    rw [hD1 a (fun e => h17 (by rw [e])), lkH_a (fun e => h22 (by rw [e])), recA_a (fun e => h8 (by rw [e]))]
  have eA8 : ∀ a, 8 ≤ a.1 → hA a = hp a := fun a h => by
    rw [hS a (by omega)]
    exact hH a (Or.inr h)
  have e2 : ∀ a, a.1 ≠ 18 → a.1 ≠ 16 → rcA hD z r a = hD a := fun a h18 h16 => by
    unfold rcA
    split
    · rfl
    · exact RPu_a (fun e => h18 (by rw [e])) (fun e => h16 (by rw [e]))
  have e216 : ∀ i, i ≠ 2 → rcA hD z r (16, 0, 0, 0) i = hp (16, 0, 0, 0) i := fun i hi => by
    have h : rcA hD z r (16, 0, 0, 0) i = hD (16, 0, 0, 0) i := by
      unfold rcA
      split
      · rfl
      · exact RPu_16 hi
    rw [h, eD _ (by decide) (by decide) (by decide), eA8 _ (by decide)]
  have ecl : ∀ a, a.1 < 8 → rcA hD z r a = hA a := fun a h => by
    rw [e2 a (by omega) (by omega), eD a (by omega) (by omega) (by omega)]
  have e17 : rcA hD z r (17, 0, 0, 0) = hD (17, 0, 0, 0) := e2 _ (by decide) (by decide)
  have hR2 : Rep (rcA hD z r) 0 (rcA hD z r (17, 0, 0, 0)) n2 := by
    rw [e17]
    exact hR.same (fun a h _ => ecl a h) (fun _ _ => rfl)
  have hc : ∀ a, a.1 < 8 → a.2.1 ≠ 0 → a.2.1 ≠ hrow o z + 1 → rcA hD z r a = hp a := fun a h h0 hne => by
    rw [ecl a h, hS a (fun e => h0 e.2), hH a (Or.inl hne)]
  have hWf : WT (rcA hD z r) := by
    refine hW.of (fun a i h => ?_)
    rcases h with h | h | h | h | ⟨h, rfl⟩ | ⟨h, rfl⟩
    · rw [ecl a h]
    · rw [e2 a (by omega) (by omega), eD a (by omega) (by omega) (by omega)]
    · rw [e2 a (by omega) (by omega), eD a (by omega) (by omega) (by omega)]
    · rw [e2 a (by omega) (by omega), eD a (by omega) (by omega) (by omega)]
    · rw [e2 a (by omega) (by omega), eD a (by omega) (by omega) (by omega)]
    · have h9 : rcA hD z r a 9 = hD a 9 := by
        unfold rcA
        split
        · rfl
        · by_cases ha : a = (16, 0, 0, 0)
          · subst ha; exact RPu_16 (by decide)
          · rw [RPu_a (fun e => by rw [e] at h; revert h; decide) ha]
      rw [h9, eD a (by omega) (by omega) (by omega)]
  have hsl : ∀ a, a.1 = 11 ∨ a.1 = 19 ∨ a.1 = 20 → rcA hD z r a = hp a := fun a h => by
    rw [e2 a (by omega) (by omega), eD a (by omega) (by omega) (by omega), eA8 a (by omega)]
  have hP : PAD (rcA hD z r) len := by
    refine hI.2.2.2.2.2.2.cg ?_ (e216 6 (by decide)) ?_ ?_
    · rw [e2 _ (by decide) (by decide), eD _ (by decide) (by decide) (by decide), eA8 _ (by decide)]
    · rw [e2 _ (by decide) (by decide), eD _ (by decide) (by decide) (by decide), eA8 _ (by decide)]
    · rw [e2 _ (by decide) (by decide), eD _ (by decide) (by decide) (by decide), eA8 _ (by decide)]
  have e8 : rcA hD z r (8, 0, 0, 0) = recA hA o z r (8, 0, 0, 0) := by
    rw [e2 _ (by decide) (by decide), hD1 _ (by decide), lkH_a (by decide)]
  by_cases hr : r < 0
  · have er : rcA hD z r = hD := if_pos hr
    have era : recA hA o z r = hA := if_pos hr
    refine ⟨o, z, len, n2, INV_no hI hWf hR2 hc ?_ ?_ ?_ hsl hP⟩
    · rw [e8, era, eA8 _ (by decide)]
    · rw [er, eD _ (by decide) (by decide) (by decide), eA8 _ (by decide)]
    · rw [er, eD _ (by decide) (by decide) (by decide), eA8 _ (by decide)]
  · have er : rcA hD z r = RPu hD z := if_neg hr
    have era : recA hA o z r = recH hA o z := if_neg hr
    refine INV_yes hI hWf hR2 hc (fun a h h2 => ?_) ?_ ?_ ?_ hsl hP
    · rw [ecl a h, hS a (by omega)]
    · rw [e8, era]; exact recH_8 (eA8 _ (by decide))
    · rw [e8, era]; exact recH_8 (eA8 _ (by decide))
    · rw [er]
      refine RPu_YES hz ?_ (fun k hk => ?_)
      · rw [eD _ (by decide) (by decide) (by decide), eA8 _ (by decide)]
      · rw [hD1 _ (by decide), lkH_22 hk, recA_a (by decide), eA8 _ (by decide)]
