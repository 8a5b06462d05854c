section TK
variable {c : Nat → Int32} {p : Nat} {lo hi x wo : Int32}
theorem tk_ok (h : fIn (c p) lo hi = true) : tk c lo hi p false = (c p - lo, p + 1, false) := by simp [tk, tkP, tkW, h]
theorem tk_no (h : fIn (c p) lo hi = false) : tk c lo hi p false = (c p - lo, p, true) := by simp [tk, tkP, tkW, h]
theorem tk_w : tk c lo hi p true = (c p - lo, p, true) := by simp [tk, tkP, tkW]
theorem tN_w : tN c p true = (c p - 48, p, true) := by simp [tN]
theorem tN_no (h : isD (c p) = false) : tN c p false = (c p - 48, p, true) := by simp [tN, h]
theorem tN_ok (h : isD (c p) = true) : (tN c p false).2.2 = false := by
  unfold tN
  rw [if_neg (by simp [h])]
  split
  · rfl
  · split
    · rfl
    · split <;> rfl
theorem tN_eq (h : isD (c p) = true) : tN c p false = ((tN c p false).1, (tN c p false).2.1, false) := by
  have e := tN_ok h
  generalize tN c p false = t at e
  obtain ⟨a, b, d⟩ := t
  simp only at e
  subst e
  rfl
theorem tB_w : tB c x wo p true = (wo, p, true) := by simp [tB]
theorem tB_no (h : ¬ c p = x) : tB c x wo p false = (wo, p, false) := by simp [tB, h]
theorem tB_ok (h : c p = x) : tB c x wo p false = tN c (p + 1) false := by simp [tB, h]
end TK
/-- an order read: where it ends or is wrong, and what it tells -/
def qO (c : Nat → Int32) (p : Nat) : Nat × Option (Int32 × Int32 × Int32 × Int32) :=
  if c p = 107 ∨ c p = 98 then (if isD (c (p + 1)) = true then ((tN c (p + 1) false).2.1, some ((tN c (p + 1) false).1, 0, 0, 0)) else (p + 1, none))
  else if c p = 114 ∨ c p = 117 ∨ c p = 109 then (if isD (c (p + 1)) = true then (p + 2, some (c (p + 1) - 48, 0, 0, 0)) else (p + 1, none))
  else if c p = 122 then (if fIn (c (p + 1)) 97 98 = true then (p + 2, some (c (p + 1) - 97, 0, 0, 0)) else (p + 1, none))
  else if c p = 108 ∨ c p = 116 then
    (if fIn (c (p + 1)) 97 98 = true then
      (if isD (c (p + 2)) = true then
        (if c p = 108 then
          (if c (p + 3) = 43 then
            (if isD (c (p + 4)) = true then
              (if c (tN c (p + 4) false).2.1 = 44 then
                (if isD (c ((tN c (p + 4) false).2.1 + 1)) = true then ((tN c ((tN c (p + 4) false).2.1 + 1) false).2.1, some (c (p + 1) - 97, c (p + 2) - 48, (tN c (p + 4) false).1, (tN c ((tN c (p + 4) false).2.1 + 1) false).1))
                else ((tN c (p + 4) false).2.1 + 1, none))
              else ((tN c (p + 4) false).2.1, some (c (p + 1) - 97, c (p + 2) - 48, (tN c (p + 4) false).1, 0)))
            else (p + 4, none))
          else (p + 3, none))
        else
          (if c (p + 3) = 46 then
            (if isD (c (p + 4)) = true then ((tN c (p + 4) false).2.1, some (c (p + 1) - 97, c (p + 2) - 48, (tN c (p + 4) false).1, 0))
            else (p + 4, none))
          else (p + 3, some (c (p + 1) - 97, c (p + 2) - 48, -6, 0))))
      else (p + 2, none))
    else (p + 1, none))
  else (p, none)
theorem fIn_one {x y : Int32} : fIn x y y = decide (x = y) := by
  unfold fIn
  by_cases h : x = y
  · subst h
    have h2 : ¬ x < x := Int32.lt_irrefl
    simp [h2]
  · have h2 : x < y ∨ y < x := by
      rcases Int32.lt_or_le x y with h3 | h3
      · exact Or.inl h3
      · right
        refine Int32.lt_of_le_of_ne h3 (fun h4 => h h4.symm)
    rcases h2 with h2 | h2 <;> simp [h, h2]
section RO2
variable {g : Gh} {hp : HPt} {len p : Nat} {o : Nat → Int32}
/-- what an order's reading leaves in the reference -/
def RdR (g : Gh) (hp : HPt) (len p : Nat) (o : Nat → Int32) : Prop := ∃ o2, Cv g mX7_readOrder [vR (16, 0, 0, 0)] (PQ hp p false o) (PQ hp (qO (cRf hp len) p).1 (qO (cRf hp len) p).2.isNone o2) ∧ ∀ a, (qO (cRf hp len) p).2 = some a → o2 0 = cRf hp len p ∧ o2 1 = a.1 ∧ o2 2 = a.2.1 ∧ o2 3 = a.2.2.1 ∧ o2 4 = a.2.2.2
theorem RdR.mk {q : Nat} {r : Option (Int32 × Int32 × Int32 × Int32)} {w : Bool} {o2 : Nat → Int32} (h : Cv g mX7_readOrder [vR (16, 0, 0, 0)] (PQ hp p false o) (PQ hp q w o2)) (e : qO (cRf hp len) p = (q, r)) (ew : w = r.isNone) (ha : ∀ a, r = some a → o2 0 = cRf hp len p ∧ o2 1 = a.1 ∧ o2 2 = a.2.1 ∧ o2 3 = a.2.2.1 ∧ o2 4 = a.2.2.2) : RdR g hp len p o := by
  refine ⟨o2, ?_, ?_⟩
  · rw [e]
    subst ew
    exact h
  · rw [e]
    exact ha
theorem RdR_num {L : Int32} (hc : cRf hp len p = L) (hL : L = 107 ∨ L = 98) (h : Cv g mX7_readOrder [vR (16, 0, 0, 0)] (PQ hp p false o) (PQ hp (tN (cRf hp len) (p + 1) false).2.1 (tN (cRf hp len) (p + 1) false).2.2 (up (up (up (up (up o 0 L) 1 (tN (cRf hp len) (p + 1) false).1) 2 0) 3 0) 4 0))) : RdR g hp len p o := by
  cases hd : isD (cRf hp len (p + 1))
  · rw [tN_no hd] at h
    refine RdR.mk h (r := none) ?_ rfl (fun a e => by cases e)
    simp only [qO, hc, hL, hd, if_true]
    rfl
  · rw [tN_eq hd] at h
    refine RdR.mk h (r := some ((tN (cRf hp len) (p + 1) false).1, 0, 0, 0)) ?_ rfl (fun a e => by cases e; exact ⟨hc.symm, rfl, rfl, rfl, rfl⟩)
    simp only [qO, hc, hL, hd, if_true]
theorem RdR_dig {L : Int32} (hc : cRf hp len p = L) (hL : L = 114 ∨ L = 117 ∨ L = 109) (h : Cv g mX7_readOrder [vR (16, 0, 0, 0)] (PQ hp p false o) (PQ hp (tk (cRf hp len) 48 57 (p + 1) false).2.1 (tk (cRf hp len) 48 57 (p + 1) false).2.2 (up (up (up (up (up o 0 L) 1 (tk (cRf hp len) 48 57 (p + 1) false).1) 2 0) 3 0) 4 0))) : RdR g hp len p o := by
  have hn : ¬ (L = 107 ∨ L = 98) := by rcases hL with rfl | rfl | rfl <;> decide
  cases hd : isD (cRf hp len (p + 1))
  · rw [tk_no hd] at h
    refine RdR.mk h (r := none) ?_ rfl (fun a e => by cases e)
    simp only [qO, hc, hL, hn, hd, if_true, if_false]
    rfl
  · rw [tk_ok hd] at h
    refine RdR.mk h (r := some (cRf hp len (p + 1) - 48, 0, 0, 0)) ?_ rfl (fun a e => by cases e; exact ⟨hc.symm, rfl, rfl, rfl, rfl⟩)
    simp only [qO, hc, hL, hn, hd, if_true, if_false]
theorem RdR_all (hl : len ≤ 80) (hL : hp (16, 0, 0, 0) 6 = nI len) (hpl : p ≤ len) : RdR g hp len p o := by
  by_cases h107 : cRf hp len p = 107
  · exact RdR_num h107 (Or.inl rfl) (tX7_rO_k hl hL h107)
  by_cases h98 : cRf hp len p = 98
  · exact RdR_num h98 (Or.inr rfl) (tX7_rO_b hl hL h98)
  by_cases h114 : cRf hp len p = 114
  · exact RdR_dig h114 (Or.inl rfl) (tX7_rO_r hl hL h114)
  by_cases h117 : cRf hp len p = 117
  · exact RdR_dig h117 (Or.inr (Or.inl rfl)) (tX7_rO_u hl hL h117)
  by_cases h109 : cRf hp len p = 109
  · exact RdR_dig h109 (Or.inr (Or.inr rfl)) (tX7_rO_m hl hL h109)
  by_cases h122 : cRf hp len p = 122
  · have h := tX7_rO_z (g := g) (o := o) hl hL h122
    cases hd : fIn (cRf hp len (p + 1)) 97 98
    · rw [tk_no hd] at h
      refine RdR.mk h (r := none) ?_ rfl (fun a e => by cases e)
      simp [qO, h122, hd]
    · rw [tk_ok hd] at h
      refine RdR.mk h (r := some (cRf hp len (p + 1) - 97, 0, 0, 0)) ?_ rfl (fun a e => by cases e; exact ⟨h122.symm, rfl, rfl, rfl, rfl⟩)
      simp [qO, h122, hd]
  by_cases h108 : cRf hp len p = 108
  · have h := tX7_rO_l (g := g) (o := o) hl hL h108
    cases hd : fIn (cRf hp len (p + 1)) 97 98
    · simp only [l5, l4, l3, l2, l1, tk_no hd, tk_w, tN_w, tB_w] at h
      refine RdR.mk h (r := none) ?_ rfl (fun a e => by cases e)
      simp [qO, h108, hd]
    · cases hd2 : isD (cRf hp len (p + 2))
      · have q2 := tk_no (c := cRf hp len) (p := p + 2) (lo := 48) (hi := 57) hd2
        simp only [l5, l4, l3, l2, l1, tk_ok hd, q2, tk_w, tN_w, tB_w] at h
        refine RdR.mk h (r := none) ?_ rfl (fun a e => by cases e)
        simp [qO, h108, hd, hd2]
      · have q2 := tk_ok (c := cRf hp len) (p := p + 2) (lo := 48) (hi := 57) hd2
        by_cases hd3 : cRf hp len (p + 3) = 43
        · have q3 := tk_ok (c := cRf hp len) (p := p + 3) (lo := 43) (hi := 43) (by rw [fIn_one]; simp [hd3])
          cases hd4 : isD (cRf hp len (p + 4))
          · have q4 := tN_no hd4
            simp only [l5, l4, l3, l2, l1, tk_ok hd, q2, q3, q4, tN_w, tB_w] at h
            refine RdR.mk h (r := none) ?_ rfl (fun a e => by cases e)
            simp [qO, h108, hd, hd2, hd3, hd4]
          · have q4 := tN_ok hd4
            have h5 : l4 (cRf hp len) p = tN (cRf hp len) (p + 4) false := by simp only [l4, l3, l2, l1, tk_ok hd, q2, q3]
            have h51 : (l1 (cRf hp len) p).1 = cRf hp len (p + 1) - 97 := by simp only [l1, tk_ok hd]
            have h52 : (l2 (cRf hp len) p).1 = cRf hp len (p + 2) - 48 := by simp only [l2, l1, tk_ok hd, q2]
            simp only [l5, h5, h51, h52, q4] at h
            by_cases hd5 : cRf hp len (tN (cRf hp len) (p + 4) false).2.1 = 44
            · rw [tB_ok hd5] at h
              cases hd6 : isD (cRf hp len ((tN (cRf hp len) (p + 4) false).2.1 + 1))
              · rw [tN_no hd6] at h
                refine RdR.mk h (r := none) ?_ rfl (fun a e => by cases e)
                simp [qO, h108, hd, hd2, hd3, hd4, hd5, hd6]
              · rw [tN_eq hd6] at h
                refine RdR.mk h (r := some (cRf hp len (p + 1) - 97, cRf hp len (p + 2) - 48, (tN (cRf hp len) (p + 4) false).1, (tN (cRf hp len) ((tN (cRf hp len) (p + 4) false).2.1 + 1) false).1)) ?_ rfl (fun a e => by cases e; exact ⟨h108.symm, rfl, rfl, rfl, rfl⟩)
                simp [qO, h108, hd, hd2, hd3, hd4, hd5, hd6]
            · rw [tB_no hd5] at h
              refine RdR.mk h (r := some (cRf hp len (p + 1) - 97, cRf hp len (p + 2) - 48, (tN (cRf hp len) (p + 4) false).1, 0)) ?_ rfl (fun a e => by cases e; exact ⟨h108.symm, rfl, rfl, rfl, rfl⟩)
              simp [qO, h108, hd, hd2, hd3, hd4, hd5]
        · have q3 := tk_no (c := cRf hp len) (p := p + 3) (lo := 43) (hi := 43) (by rw [fIn_one]; simp [hd3])
          simp only [l5, l4, l3, l2, l1, tk_ok hd, q2, q3, tN_w, tB_w] at h
          refine RdR.mk h (r := none) ?_ rfl (fun a e => by cases e)
          simp [qO, h108, hd, hd2, hd3]
  by_cases h116 : cRf hp len p = 116
  · have h := tX7_rO_t (g := g) (o := o) hl hL h116
    cases hd : fIn (cRf hp len (p + 1)) 97 98
    · simp only [t3, l2, l1, tk_no hd, tk_w, tB_w] at h
      refine RdR.mk h (r := none) ?_ rfl (fun a e => by cases e)
      simp [qO, h116, hd]
    · cases hd2 : isD (cRf hp len (p + 2))
      · have q2 := tk_no (c := cRf hp len) (p := p + 2) (lo := 48) (hi := 57) hd2
        simp only [t3, l2, l1, tk_ok hd, q2, tB_w] at h
        refine RdR.mk h (r := none) ?_ rfl (fun a e => by cases e)
        simp [qO, h116, hd, hd2]
      · have q2 := tk_ok (c := cRf hp len) (p := p + 2) (lo := 48) (hi := 57) hd2
        by_cases hd3 : cRf hp len (p + 3) = 46
        · have q3 := tB_ok (c := cRf hp len) (p := p + 3) (wo := -6) hd3
          cases hd4 : isD (cRf hp len (p + 4))
          · have q4 := tN_no hd4
            simp only [t3, l2, l1, tk_ok hd, q2, q3, q4] at h
            refine RdR.mk h (r := none) ?_ rfl (fun a e => by cases e)
            simp [qO, h116, hd, hd2, hd3, hd4]
          · have q4 := tN_ok hd4
            simp only [t3, l2, l1, tk_ok hd, q2, q3] at h
            rw [tN_eq hd4] at h
            refine RdR.mk h (r := some (cRf hp len (p + 1) - 97, cRf hp len (p + 2) - 48, (tN (cRf hp len) (p + 4) false).1, 0)) ?_ rfl (fun a e => by cases e; exact ⟨h116.symm, rfl, rfl, rfl, rfl⟩)
            simp [qO, h116, hd, hd2, hd3, hd4]
        · have q3 := tB_no (c := cRf hp len) (p := p + 3) (wo := -6) hd3
          simp only [t3, l2, l1, tk_ok hd, q2, q3] at h
          refine RdR.mk h (r := some (cRf hp len (p + 1) - 97, cRf hp len (p + 2) - 48, -6, 0)) ?_ rfl (fun a e => by cases e; exact ⟨h116.symm, rfl, rfl, rfl, rfl⟩)
          simp [qO, h116, hd, hd2, hd3]
  have h := tX7_rO_n (g := g) (o := o) hl hL hpl h107 h114 h117 h109 h122 h108 h116 h98
  refine RdR.mk h (r := none) ?_ rfl (fun a e => by cases e)
  simp [qO, h107, h98, h114, h117, h109, h122, h108, h116]
end RO2
