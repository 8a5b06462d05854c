/-- two heaps are alike in the words of the Stores 0 -/
def AG (hA hB : HPt) : Prop := ∀ a i, relS a i → a.2.1 = 0 → hA a i = hB a i
section AGS
variable {hA hB : HPt}
theorem AG.rf {h : HPt} : AG h h := fun _ _ _ _ => rfl
theorem AG.sy (h : AG hA hB) : AG hB hA := fun a i r t => (h a i r t).symm
theorem AG.tr {hC : HPt} (h : AG hA hB) (h2 : AG hB hC) : AG hA hC := fun a i r t => (h a i r t).trans (h2 a i r t)
theorem AG.c0 (h : AG hA hB) {i : Nat} (h3 : 3 ≤ i) (hi : i < 10) : hA (0, 0, 0, 0) i = hB (0, 0, 0, 0) i := h (0, 0, 0, 0) i (Or.inl ⟨rfl, rfl, h3, hi⟩) rfl
theorem AG.c2 (h : AG hA hB) {i : Nat} (hi : i < 3) : hA (2, 0, 0, 0) i = hB (2, 0, 0, 0) i := h (2, 0, 0, 0) i (Or.inr (Or.inl ⟨rfl, rfl, hi⟩)) rfl
theorem AG.c3 (h : AG hA hB) {i : Nat} (hi : i < 2) : hA (3, 0, 0, 0) i = hB (3, 0, 0, 0) i := h (3, 0, 0, 0) i (Or.inr (Or.inr (Or.inl ⟨rfl, rfl, hi⟩))) rfl
theorem AG.c4 (h : AG hA hB) {j i : Nat} (hj : j < 8) (h2 : 2 ≤ i) (hi : i < 10) : hA (4, 0, j, 0) i = hB (4, 0, j, 0) i := h (4, 0, j, 0) i (Or.inr (Or.inr (Or.inr (Or.inl ⟨rfl, hj, rfl, h2, hi⟩)))) rfl
theorem AG.c5 (h : AG hA hB) {j b i : Nat} (hj : j < 8) (hb : b < 2) (h2 : 2 ≤ i) (hi : i < 7) : hA (5, 0, j, b) i = hB (5, 0, j, b) i := h (5, 0, j, b) i (Or.inr (Or.inr (Or.inr (Or.inr (Or.inl ⟨rfl, hj, hb, h2, hi⟩))))) rfl
theorem AG.c6 (h : AG hA hB) {j b i : Nat} (hj : j < 8) (hb : b < 2) (hi : i < 5) : hA (6, 0, j, b) i = hB (6, 0, j, b) i := h (6, 0, j, b) i (Or.inr (Or.inr (Or.inr (Or.inr (Or.inr ⟨Or.inl rfl, hj, hb, hi⟩))))) rfl
theorem AG.c7 (h : AG hA hB) {j b i : Nat} (hj : j < 8) (hb : b < 2) (hi : i < 5) : hA (7, 0, j, b) i = hB (7, 0, j, b) i := h (7, 0, j, b) i (Or.inr (Or.inr (Or.inr (Or.inr (Or.inr ⟨Or.inr rfl, hj, hb, hi⟩))))) rfl
theorem AG.set (h : AG hA hB) {a : A4} {i : Nat} {x y : Int32} (e : x = y) : AG (hset hA a i x) (hset hB a i y) := by
  subst e
  intro c k hr ht
  unfold hset
  split
  · rfl
  · exact h c k hr ht
theorem AG.of (h0 : ∀ i, 3 ≤ i → i < 10 → hA (0, 0, 0, 0) i = hB (0, 0, 0, 0) i) (h2 : ∀ i, i < 3 → hA (2, 0, 0, 0) i = hB (2, 0, 0, 0) i) (h3 : ∀ i, i < 2 → hA (3, 0, 0, 0) i = hB (3, 0, 0, 0) i) (h4 : ∀ j i, j < 8 → 2 ≤ i → i < 10 → hA (4, 0, j, 0) i = hB (4, 0, j, 0) i) (h5 : ∀ j b i, j < 8 → b < 2 → 2 ≤ i → i < 7 → hA (5, 0, j, b) i = hB (5, 0, j, b) i) (h6 : ∀ j b i, j < 8 → b < 2 → i < 5 → hA (6, 0, j, b) i = hB (6, 0, j, b) i ∧ hA (7, 0, j, b) i = hB (7, 0, j, b) i) : AG hA hB := by
  rintro ⟨k, t, j, b⟩ i hr ht
  have ht : t = 0 := ht
  subst ht
  rcases hr with ⟨e, e2, p, q⟩ | ⟨e, e2, p⟩ | ⟨e, e2, p⟩ | ⟨e, hj, e2, p, q⟩ | ⟨e, hj, hb, p, q⟩ | ⟨e, hj, hb, p⟩
  · have e : k = 0 := e
    have e2 : (j, b) = (0, 0) := e2
    cases e2
    subst e
    exact h0 i p q
  · have e : k = 2 := e
    have e2 : (j, b) = (0, 0) := e2
    cases e2
    subst e
    exact h2 i p
  · have e : k = 3 := e
    have e2 : (j, b) = (0, 0) := e2
    cases e2
    subst e
    exact h3 i p
  · have e : k = 4 := e
    have e2 : b = 0 := e2
    subst e e2
    exact h4 j i hj p q
  · have e : k = 5 := e
    subst e
    exact h5 j b i hj hb p q
  · rcases e with e | e
    · have e : k = 6 := e
      subst e
      exact (h6 j b i hj hb p).1
    · have e : k = 7 := e
      subst e
      exact (h6 j b i hj hb p).2
theorem AG.sh (h : AG hA hB) {j b r : Nat} (hj : j < 8) (hb : b < 2) : AG (shR hA 0 j b r) (shR hB 0 j b r) := by
  intro a i hr ht
  unfold shR
  split
  next e =>
    obtain ⟨e1, e2, e3⟩ := e
    rcases e1 with rfl | rfl
    · exact h.c6 hj hb (by omega)
    · exact h.c7 hj hb (by omega)
  next => exact h a i hr ht
theorem AG.gfrS (h : AG hA hB) {j : Nat} (hj : j < 8) : AG (frS hA 0 j) (frS hB 0 j) := ((((h.sh hj (by decide)).set rfl).sh hj (by decide)).set rfl)
theorem AG.gdr (h : AG hA hB) : AG (dr hA 0) (dr hB 0) := h.set (by rw [h.c0 (i := 4) (by decide) (by decide)])
theorem AG.gdv (h : AG hA hB) : dv hA 0 = dv hB 0 := by
  unfold dv
  rw [h.gdr.c0 (i := 4) (by decide) (by decide)]
theorem AG.gMV (h : AG hA hB) {j : Nat} {v : Int32} (hj : j < 8) : AG (MV hA 0 j v) (MV hB 0 j v) := by
  have e1 : AG (mv1 hA 0 j v) (mv1 hB 0 j v) := by
    have q : AG (hset (dr hA 0) (6, 0, j, 0) 0 (jrem (dv hA 0) 256)) (hset (dr hB 0) (6, 0, j, 0) 0 (jrem (dv hB 0) 256)) := h.gdr.set (by rw [h.gdv])
    exact q.set (by rw [q.c6 hj (by decide) (by decide)])
  have e2 : ∀ (a b : HPt) (k : Nat), AG a b → AG (mv2 a 0 j k) (mv2 b 0 j k) := fun a b k q => q.gdr.set (by rw [q.gdv])
  have e3 : ∀ (a b : HPt) (k : Nat), AG a b → AG (mv3 a 0 j k) (mv3 b 0 j k) := fun a b k q => q.gdr.set (by rw [q.gdv])
  have e4 : ∀ (a b : HPt) (k : Nat), k < 2 → AG a b → AG (mv4 a 0 j k) (mv4 b 0 j k) := fun a b k hk q => q.set (by rw [q.c5 hj (by omega) (i := 3) (by decide) (by decide), q.c5 hj (by omega) (i := 4) (by decide) (by decide), q.c6 hj hk (by decide)])
  have e5 : ∀ (a b : HPt), AG a b → AG (mv5 a 0 j) (mv5 b 0 j) := fun a b q => q.set (by rw [q.c4 hj (by decide) (by decide)])
  have e6 : ∀ (a b : HPt), AG a b → AG (mv6 a 0) (mv6 b 0) := fun a b q => q.set (by rw [q.c0 (by decide) (by decide)])
  exact e6 _ _ (e5 _ _ (e4 _ _ 1 (by decide) (e4 _ _ 0 (by decide) (e3 _ _ 0 (e2 _ _ 0 (e3 _ _ 1 (e2 _ _ 1 e1)))))))
theorem AG.gMN (h : AG hA hB) {j : Nat} (hj : j < 8) : AG (MN hA 0 j) (MN hB 0 j) := by
  have ev : fVal hA 0 j = fVal hB 0 j := by
    unfold fVal
    rw [h.c6 hj (b := 0) (by decide) (by decide), h.c6 hj (b := 1) (by decide) (by decide)]
  have e1 : AG (mn1 hA 0 j) (mn1 hB 0 j) := by
    unfold mn1
    rw [h.c4 hj (i := 3) (by decide) (by decide), h.c2 (i := 2) (by decide), h.c0 (i := 7) (by decide) (by decide)]
    exact ((h.gfrS hj).set rfl).set rfl
  show AG (MV _ _ _ _) (MV _ _ _ _)
  rw [ev]
  exact e1.gMV hj
theorem AG.slp (h : AG hA hB) : fSlp hA 0 = fSlp hB 0 := by
  unfold fSlp
  rw [h.c3 (i := 0) (by decide), h.c3 (i := 1) (by decide)]
theorem AG.has (h : AG hA hB) {x : Int32} : fHas hA 0 x = fHas hB 0 x := by
  unfold fHas
  rw [h.c0 (i := 3) (by decide) (by decide)]
theorem AG.merge (h : AG hA hB) {j : Nat} (hj : j < 8) : fMerge hA 0 j = fMerge hB 0 j := by
  unfold fMerge
  rw [h.c5 hj (b := 0) (i := 3) (by decide) (by decide) (by decide), h.c5 hj (b := 0) (i := 4) (by decide) (by decide) (by decide), h.c5 hj (b := 0) (i := 5) (by decide) (by decide) (by decide), h.c5 hj (b := 0) (i := 2) (by decide) (by decide) (by decide), h.c5 hj (b := 0) (i := 6) (by decide) (by decide) (by decide), h.c5 hj (b := 1) (i := 3) (by decide) (by decide) (by decide), h.c5 hj (b := 1) (i := 4) (by decide) (by decide) (by decide), h.c5 hj (b := 1) (i := 5) (by decide) (by decide) (by decide), h.c5 hj (b := 1) (i := 2) (by decide) (by decide) (by decide), h.c5 hj (b := 1) (i := 6) (by decide) (by decide) (by decide), h.c6 hj (b := 0) (by decide) (by decide), h.c6 hj (b := 1) (by decide) (by decide)]
theorem AG.gMG (h : AG hA hB) {j : Nat} (hj : j < 8) : AG (MG hA 0 j) (MG hB 0 j) := by
  have e1 : ∀ v, AG (mgO hA 0 j v) (mgO hB 0 j v) := fun v => ((h.set rfl).set (by rw [h.c2 (by decide)])).set (by rw [h.c4 hj (by decide) (by decide)])
  have e2 : mgL hA 0 j = mgL hB 0 j := by
    unfold mgL
    rw [h.c5 hj (b := 0) (i := 5) (by decide) (by decide) (by decide), h.c5 hj (b := 0) (i := 6) (by decide) (by decide) (by decide), h.c5 hj (b := 1) (i := 5) (by decide) (by decide) (by decide), h.c5 hj (b := 1) (i := 6) (by decide) (by decide) (by decide)]
  unfold MG
  rw [h.merge hj, e2]
  split
  · split
    · exact (e1 _).set (by rw [h.c0 (by decide) (by decide)])
    · exact e1 _
  · exact (h.set (by rw [h.c4 hj (by decide) (by decide)])).set (by rw [h.c0 (by decide) (by decide)])
theorem AG.gthB (h : AG hA hB) {j b r : Nat} (hj : j < 8) (hb : b < 2) (hr : r < 5) : AG (thB hA 0 j b r) (thB hB 0 j b r) := by
  have e1 : AG (thA hA 0 j b r) (thA hB 0 j b r) := by
    unfold thA
    rw [h.c7 hj hb hr]
    split
    · exact (h.set rfl).set (by rw [h.c4 hj (by decide) (by decide)])
    · exact h
  exact e1.set (by rw [h.c4 hj (i := 9) (by decide) (by decide), e1.c7 hj (b := 0) (by decide) hr, e1.c7 hj (b := 1) (by decide) hr])
theorem AG.gp1 (h : AG hA hB) : ∀ i, i ≤ 8 → AG (p1 hA 0 i) (p1 hB 0 i)
  | 0, _ => h
  | i + 1, hi => by
    have ih := h.gp1 i (by omega)
    exact ih.set (by rw [ih.c4 (j := i) (by omega) (by decide) (by decide)])
theorem AG.gq1 (h : AG hA hB) : ∀ i, i ≤ 8 → AG (q1 hA 0 i) (q1 hB 0 i)
  | 0, _ => h
  | i + 1, hi => by
    have ih := h.gq1 i (by omega)
    unfold q1
    rw [ih.c4 (j := i) (i := 2) (by omega) (by decide) (by decide)]
    split
    · exact ih
    · exact ih.gMN (by omega)
theorem AG.skip (h : AG hA hB) : fSkip hA 0 = fSkip hB 0 := by
  unfold fSkip
  rw [h.c2 (i := 1) (by decide), h.c0 (i := 5) (by decide) (by decide), h.slp]
theorem AG.gPB (h : AG hA hB) {n : Nat} (hn : n ≤ 8) : AG (PB hA 0 n) (PB hB 0 n) := by
  have e : AG (p2 hA 0 n) (p2 hB 0 n) := (h.gp1 n hn).set (by rw [h.c0 (by decide) (by decide)])
  unfold PB
  rw [e.skip]
  split
  · exact e
  · exact e.gq1 n hn
theorem AG.gPBs (h : AG hA hB) {n : Nat} (hn : n ≤ 8) : ∀ k, AG (PBs hA 0 n k) (PBs hB 0 n k)
  | 0 => h
  | k + 1 => (h.gPBs hn k).gPB hn
end AGS
