variable {sr : Nat → Int32}
section O5
variable {g : Gh} {hp : HPt} {n : Nat} {x y z w : Int32}
theorem rkF_n {hB : HPt} {j : Nat} {q : Int32} : ∀ k, (∀ r, r < k → ¬ hB (17, 0, 0, 0) (cI j (15 + 4 * r)) = q) → rkF hB j q k = -6
  | 0, _ => rfl
  | k + 1, h => by
    unfold rkF
    rw [if_neg (h k (by omega))]
    exact rkF_n k (fun r hr => h r (by omega))
theorem rkF_y {hB : HPt} {j r : Nat} {q : Int32} (he : hB (17, 0, 0, 0) (cI j (15 + 4 * r)) = q) : ∀ d, (∀ k, r < k → k < r + 1 + d → ¬ hB (17, 0, 0, 0) (cI j (15 + 4 * k)) = q) → rkF hB j q (r + 1 + d) = nI r
  | 0, _ => by
    unfold rkF
    rw [if_pos he]
  | d + 1, h => by
    show (if hB (17, 0, 0, 0) (cI j (15 + 4 * (r + 1 + d))) = q then nI (r + 1 + d) else rkF hB j q (r + 1 + d)) = _
    rw [if_neg (h (r + 1 + d) (by omega) (by omega))]
    exact rkF_y he d (fun k h1 h2 => h k h1 (by omega))
theorem th_v {j b r : Nat} {a c k : Bool} (hb : b < 2) (ha : hp (7, 0, j, 0) r = bi a) (hc : hp (7, 0, j, 1) r = bi c) (hk : hp (4, 0, j, 0) 9 = bi k) : thB hp 0 j b r (7, 0, j, 0) r = bi (a || decide (b = 0)) ∧ thB hp 0 j b r (7, 0, j, 1) r = bi (c || decide (b = 1)) ∧ thB hp 0 j b r (4, 0, j, 0) 8 = hp (4, 0, j, 0) 8 + bi (!(if b = 0 then a else c)) ∧ thB hp 0 j b r (4, 0, j, 0) 9 = bi (k || ((a || decide (b = 0)) && (c || decide (b = 1)))) := by
  match b, hb with
  | 0, _ => cases a <;> cases c <;> cases k <;> simp [thB, thA, hset, fTk, bi, ha, hc, hk] <;> exact (Int32.add_zero _).symm
  | 1, _ => cases a <;> cases c <;> cases k <;> simp [thB, thA, hset, fTk, bi, ha, hc, hk] <;> exact (Int32.add_zero _).symm
theorem thB_x {j b r : Nat} {a : A4} {i : Nat} (h4 : a = (4, 0, j, 0) → i ≠ 8 ∧ i ≠ 9) (h7 : a = (7, 0, j, b) → i ≠ r) : thB hp 0 j b r a i = hp a i := by
  unfold thB
  have e9 : ¬ (a = (4, 0, j, 0) ∧ i = 9) := fun h => (h4 h.1).2 h.2
  have e8 : ¬ (a = (4, 0, j, 0) ∧ i = 8) := fun h => (h4 h.1).1 h.2
  have e7 : ¬ (a = (7, 0, j, b) ∧ i = r) := fun h => h7 h.1 h.2
  unfold hset
  rw [if_neg e9]
  unfold thA
  split
  · unfold hset
    rw [if_neg e8, if_neg e7]
  · rfl
theorem rt_v {hB : HPt} {j b r : Nat} {a c k : Bool} (hb : b < 2) (hr : r < 5) (h18 : hB (17, 0, 0, 0) (cI j (18 + 4 * r)) = nI ((if a = true then 1 else 0) + (if c = true then 2 else 0))) (hk : hB (17, 0, 0, 0) (cI j 5) = bi k) : RT3 hB j b r (17, 0, 0, 0) (cI j (18 + 4 * r)) = nI ((if (a || decide (b = 0)) = true then 1 else 0) + (if (c || decide (b = 1)) = true then 2 else 0)) ∧ RT3 hB j b r (17, 0, 0, 0) (cI j 6) = hB (17, 0, 0, 0) (cI j 6) + bi (!(if b = 0 then a else c)) ∧ RT3 hB j b r (17, 0, 0, 0) (cI j 5) = bi (k || ((a || decide (b = 0)) && (c || decide (b = 1)))) := by
  have n1 : rNw hB j b r = !(if b = 0 then a else c) := by
    unfold rNw
    rw [h18]
    match b, hb with
    | 0, _ => cases a <;> cases c <;> decide
    | 1, _ => cases a <;> cases c <;> decide
  have n2 : rt1 hB j b r (17, 0, 0, 0) (cI j (18 + 4 * r)) = nI ((if (a || decide (b = 0)) = true then 1 else 0) + (if (c || decide (b = 1)) = true then 2 else 0)) := by
    unfold rt1
    rw [hs_eq, h18]
    match b, hb with
    | 0, _ => cases a <;> cases c <;> decide
    | 1, _ => cases a <;> cases c <;> decide
  have n3 : rt2 hB j b r (17, 0, 0, 0) (cI j (18 + 4 * r)) = rt1 hB j b r (17, 0, 0, 0) (cI j (18 + 4 * r)) := hs_i (by unfold cI; omega)
  have n4 : rt2 hB j b r (17, 0, 0, 0) (cI j 5) = bi k := by
    unfold rt2 rt1
    rw [hs_i (by unfold cI; omega), hs_i (by unfold cI; omega)]
    exact hk
  have n5 : rt2 hB j b r (17, 0, 0, 0) (cI j 6) = hB (17, 0, 0, 0) (cI j 6) + bi (rNw hB j b r) := by
    unfold rt2
    rw [hs_eq]
    unfold rt1
    rw [hs_i (by unfold cI; omega)]
  refine ⟨?_, ?_, ?_⟩
  · unfold RT3
    rw [hs_i (by unfold cI; omega), n3, n2]
  · unfold RT3
    rw [hs_i (by unfold cI; omega), n5, n1]
  · unfold RT3
    rw [hs_eq, n4, n3, n2]
    match b, hb with
    | 0, _ => cases a <;> cases c <;> cases k <;> decide
    | 1, _ => cases a <;> cases c <;> cases k <;> decide
theorem RT3_x {hB : HPt} {j b r i : Nat} (h5 : i ≠ cI j 5) (h6 : i ≠ cI j 6) (h18 : i ≠ cI j (18 + 4 * r)) : RT3 hB j b r (17, 0, 0, 0) i = hB (17, 0, 0, 0) i := by
  unfold RT3 rt2 rt1
  rw [hs_i h5, hs_i h6, hs_i h18]
theorem RT3_off {hB : HPt} {j b r : Nat} : offR hB (RT3 hB j b r) := ((offR.rfl'.set).set).set
theorem thB_offS {j b r : Nat} : offS hp (thB hp 0 j b r) := by
  have h : offS hp (thA hp 0 j b r) := by
    unfold thA
    split
    · exact (offS.rfl'.set (by decide)).set (by decide)
    · exact offS.rfl'
  exact h.set (by decide)
theorem thB_WT {j b r : Nat} (hW : WT hp) : WT (thB hp 0 j b r) := by
  have h : WT (thA hp 0 j b r) := by
    unfold thA
    split
    · exact (hW.set okv_1).set (okv_free rfl rfl)
    · exact hW
  exact h.set (okv_bi rfl)
theorem th_Rep {hB : HPt} {j b r m v : Nat} (hR : Rep hp 0 sr n) (hj : j < n) (hS : RS hp 0 j sr m v) (e : hB (17, 0, 0, 0) = sr) (hb : b < 2) (hr : r ≤ m) : Rep (thB hp 0 j b r) 0 (RT3 hB j b r (17, 0, 0, 0)) n := by
  have c0 : ∀ i f, i < 12 → ¬ i = cI j f := fun i f h => by unfold cI; omega
  obtain ⟨⟨hm5, hmv, hv⟩, a1, a3, a4, a5, a6, a7, b1, b2, b3, b4, ⟨k, k1, k2⟩, b6⟩ := hS
  obtain ⟨r1, r2, r3, a, c, ra, rc, rs⟩ := a4 r hr
  obtain ⟨t1, t2, t3, t4⟩ := th_v hb ra rc k1
  obtain ⟨u1, u2, u3⟩ := rt_v (hB := hB) (j := j) (r := r) (a := a) (c := c) (k := k) hb (by omega) (by rw [e]; exact rs) (by rw [e]; exact k2)
  have os : ∀ i, i ≠ cI j 5 → i ≠ cI j 6 → i ≠ cI j (18 + 4 * r) → RT3 hB j b r (17, 0, 0, 0) i = sr i := fun i h5 h6 h18 => by rw [RT3_x h5 h6 h18, e]
  refine hR.one (j := j) (m := m) (v := v) (hR.1.cg ⟨fun i _ _ => thB_x (by simp) (by simp), fun i _ => thB_x (by simp) (by simp), fun i _ => thB_x (by simp) (by simp), fun i hi => os i (c0 i _ hi) (c0 i _ hi) (c0 i _ hi)⟩) hj (fun q hq => ?_) ?_
  · exact ⟨fun i _ _ => thB_x (by simp [hq]) (by simp), fun b _ => ⟨fun i _ _ => thB_x (by simp) (by simp), fun i _ => ⟨thB_x (by simp) (by simp), thB_x (by simp) (by simp [hq])⟩⟩, fun f hf => os _ (by unfold cI; omega) (by unfold cI; omega) (by unfold cI; omega)⟩
  · have o4 : ∀ i, i ≠ 8 → i ≠ 9 → thB hp 0 j b r (4, 0, j, 0) i = hp (4, 0, j, 0) i := fun i h8 h9 => thB_x (fun _ => ⟨h8, h9⟩) (by simp)
    have o5 : ∀ b2 i, thB hp 0 j b r (5, 0, j, b2) i = hp (5, 0, j, b2) i := fun b2 i => thB_x (by simp) (by simp)
    have o6 : ∀ b2 i, thB hp 0 j b r (6, 0, j, b2) i = hp (6, 0, j, b2) i := fun b2 i => thB_x (by simp) (by simp)
    have o7 : ∀ b2 i, i ≠ r → thB hp 0 j b r (7, 0, j, b2) i = hp (7, 0, j, b2) i := fun b2 i h => thB_x (by simp) (fun _ => h)
    have of : ∀ f, f ≠ 5 → f ≠ 6 → f ≠ 18 + 4 * r → RT3 hB j b r (17, 0, 0, 0) (cI j f) = sr (cI j f) := fun f h5 h6 h18 => os _ (by unfold cI; omega) (by unfold cI; omega) (by unfold cI; omega)
    refine ⟨⟨hm5, hmv, hv⟩, ⟨by rw [o4 3 (by decide) (by decide)]; exact a1.1, by rw [of 0 (by decide) (by decide) (by omega)]; exact a1.2⟩, by rw [o4 2 (by decide) (by decide)]; exact a3, fun r2 hr2 => ?_, fun b2 hb2 => ?_, fun b2 hb2 => ?_, fun b2 hb2 => ?_, ?_⟩
    · have h := a4 r2 hr2
      unfold Rrow at h ⊢
      rw [of _ (by omega) (by omega) (by omega), of _ (by omega) (by omega) (by omega), of _ (by omega) (by omega) (by omega), o6, o6]
      by_cases hrr : r2 = r
      · subst hrr
        exact ⟨h.1, h.2.1, h.2.2.1, _, _, t1, t2, u1⟩
      · rw [of _ (by omega) (by omega) (by omega), o7 _ _ hrr, o7 _ _ hrr]
        exact h
    · have h := a5 b2 hb2
      unfold Rfac at h ⊢
      rw [of _ (by omega) (by omega) (by omega), of _ (by omega) (by omega) (by omega), o5, o5]
      exact h
    · have h := a6 b2 hb2
      unfold Rtag at h ⊢
      rw [of _ (by omega) (by omega) (by omega), of _ (by omega) (by omega) (by omega), of _ (by omega) (by omega) (by omega), o5]
      exact h
    · have h := a7 b2 hb2
      unfold Roff at h ⊢
      rw [of _ (by omega) (by omega) (by omega), of _ (by omega) (by omega) (by omega), o5, o5]
      exact h
    · unfold Rmis
      rw [of 1 (by decide) (by decide) (by omega), of 2 (by decide) (by decide) (by omega), of 3 (by decide) (by decide) (by omega), of 4 (by decide) (by decide) (by omega), o4 4 (by decide) (by decide), o4 5 (by decide) (by decide), o4 6 (by decide) (by decide), o4 7 (by decide) (by decide), u2, u3, t3, t4, e, b6]
      exact ⟨b1, b2, b3, b4, ⟨_, rfl, rfl⟩, rfl⟩
theorem OK_steal (hR : Rep hp 0 sr n) (hW : WT hp) : OK g mX5_givePartToThief mX7_steals [vR (0, 0, 0, 0), vI x, vI y, vI z] [vR (16, 0, 0, 0), vI x, vI y, vI z] hp sr := by
  have hG := hR.1
  cases hx : fHalf hp 0 x y
  · exact OK.err hR hW (tX5_givePartToThief_e (by decide) hx) (fun hB e => tX7_steals_e (by rw [half_eq hG e]; exact hx))
  · obtain ⟨hs, hh⟩ := half_of hx
    obtain ⟨b, hb, rfl⟩ := st_of hs
    obtain ⟨j, hj, rfl⟩ := has_of hG hh
    have hn8 := hG.1
    have hj8 : j < 8 := by omega
    obtain ⟨m, v, hS⟩ := hR.2.1 j hj
    obtain ⟨⟨hm5, hmv, hv⟩, ⟨a1, a2⟩, a3, a4, -⟩ := id hS
    by_cases hc : ∃ r, r ≤ m ∧ z = nI (v - r)
    · obtain ⟨r, hr, rfl⟩ := hc
      have c1 : ¬ hp (4, 0, j, 0) 2 < nI (v - r) := by rw [a3]; exact nI_nlt (by omega) (by omega)
      have c2 : hp (4, 0, j, 0) 2 - hp (4, 0, j, 0) 3 ≤ nI (v - r) := by
        rw [a3, a1, pk_sub (by omega)]
        exact nI_le (by omega) (by omega)
      have c3 : hp (4, 0, j, 0) 2 - nI (v - r) = nI r := by
        rw [a3, pk_sub (by omega)]
        congr 1
        omega
      have hk : ∀ hB : HPt, hB (17, 0, 0, 0) = sr → rkF hB j (nI (v - r)) (m + 1) = nI r := fun hB e => by
        have h := rkF_y (hB := hB) (j := j) (r := r) (q := nI (v - r)) (by rw [e]; exact (a4 r hr).1) (m - r) (fun k h1 h2 => by
          rw [e, (a4 k (by omega)).1, nI_eq (by omega) (by omega)]
          omega)
        rw [show r + 1 + (m - r) = m + 1 by omega] at h
        exact h
      refine ⟨_, _, fun h => RT3 h j b r, tX5_givePartToThief (by decide) hj8 hb (by omega) hW hx c1 c2 c3, thB_WT hW, thB_offS, fun _ _ e => RT3_loc e, fun hB e => ⟨(tX7_steals hj8 hb hm5 (by rw [e]; exact a2) (by rw [has_eq hG e]; exact hh) (by omega) (hk hB e)).eq ?_ rfl, RT3_off, n, th_Rep hR hj hS e hb hr⟩⟩
      rw [e]
      obtain ⟨-, ⟨p0, -, q0, q1⟩, ⟨p1, -, q2, q3⟩, -⟩ := a4 r hr
      match b, hb with
      | 0, _ => rw [q0]; exact q1
      | 1, _ => rw [q2, ← q3, show 16 + 4 * r + 1 = 17 + 4 * r by omega]
    · have hno : ∀ r, r ≤ m → ¬ z = nI (v - r) := fun r hr h => hc ⟨r, hr, h⟩
      refine OK.err hR hW (tX5_givePartToThief_e2 (by decide) hj8 hx ?_) (fun hB e => tX7_steals_e2 hj8 hm5 (by rw [e]; exact a2) (by rw [half_eq hG e]; exact hx) (rkF_n _ (fun r hr h => ?_)))
      · rw [a3, a1, pk_sub (by omega)]
        cases hq : (!decide (nI v < z) && decide (nI (v - m) ≤ z))
        · rfl
        · exfalso
          simp only [Bool.and_eq_true, Bool.not_eq_true', decide_eq_false_iff_not, decide_eq_true_eq] at hq
          obtain ⟨q1, q2⟩ := hq
          have hz0 : ¬ z < 0 := fun h => by
            have e1 := Int32.le_iff_toInt_le.mp q2
            have e2 := Int32.lt_iff_toInt_lt.mp h
            rw [nI_toInt (by omega)] at e1
            have e3 : (0 : Int32).toInt = 0 := by decide
            omega
          obtain ⟨q, hq, rfl⟩ := nI_of hz0
          have l1 := (nI_leI (by omega) hq).mp q2
          have l2 : q ≤ v := by
            apply Nat.le_of_not_lt
            intro h
            exact q1 (nI_lt h hq)
          exact hno (v - q) (by omega) (by congr 1; omega)
      · rw [e, (a4 r (by omega)).1] at h
        exact hno r (by omega) h.symm
end O5
