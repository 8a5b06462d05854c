/-- a call's answer is the same, and all stays alike -/
def FCE (g : Gh) (Mc Mr : Md) (as : List Vv) (hp : HPt) : Prop := ∃ r h1 h2, Ci g Mc (vR (15, 0, 0, 0) :: as) hp r h1 ∧ Ci g Mr (vR (16, 0, 0, 0) :: as) h1 r h2 ∧ INV h2
section FC
variable {g : Gh} {hp : HPt} {o z len n : Nat} {x y w v : Int32}
theorem drf_a (hI : INVp hp o z len n) {a : A4} (h : a.2.1 = 0 ∨ 8 ≤ a.1) : CPS hp (hrow o z + 1) 0 a = hp a := by
  funext i
  exact CPS_off (by rcases h with h | h; exact Or.inl (by omega); exact Or.inr h)
theorem drf_Rep (hI : INVp hp o z len n) : Rep (CPS hp (hrow o z + 1) 0) 0 (CPS hp (hrow o z + 1) 0 (17, 0, 0, 0)) n := by
  rw [drf_a hI (Or.inr (by decide))]
  exact hI.2.1.same (fun a h1 h2 => drf_a hI (Or.inl h2)) (fun _ _ => rfl)
theorem LK_chg {Mc Mr M5 M7 : Md} {as : List Vv} (hI : INVp hp o z len n) (hOK : OK g M5 M7 (vR (0, 0, 0, 0) :: as) (vR (16, 0, 0, 0) :: as) (CPS hp (hrow o z + 1) 0) (CPS hp (hrow o z + 1) 0 (17, 0, 0, 0))) (tc : ∀ r h1, Ci g M5 (vR (0, 0, 0, 0) :: as) (CPS hp (hrow o z + 1) 0) r h1 → HN h1 o z → Ci g Mc (vR (15, 0, 0, 0) :: as) hp r (recA h1 o z r)) (tr : ∀ H r hD, Ci g M7 (vR (16, 0, 0, 0) :: as) (lkH H) r hD → hD (16, 0, 0, 0) 2 = nI z → Ci g Mr (vR (16, 0, 0, 0) :: as) H r (rcA hD z r)) : FCE g Mc Mr as hp := by
  obtain ⟨r, hA, hC, hWA, hSA, hB⟩ := hOK.old
  have e8 : ∀ a, 8 ≤ a.1 → hA a = hp a := fun a h => by rw [hSA a (by omega), drf_a hI (Or.inr h)]
  have hN : HN hA o z := by
    obtain ⟨k1, k2, k3, k4⟩ := hI.2.2.1
    exact ⟨k1, k2, by rw [e8 _ (by decide)]; exact k3, by rw [e8 _ (by decide)]; exact k4⟩
  obtain ⟨hD, hR, hoff, n2, hRep⟩ := hB (lkH (recA hA o z r)) (by rw [lkH_a (by decide), recA_a (by decide), e8 _ (by decide), drf_a hI (Or.inr (by decide))])
  have h16 : hD (16, 0, 0, 0) 2 = nI z := by
    rw [hoff _ (by decide), lkH_a (by decide), recA_a (by decide), e8 _ (by decide)]
    exact hI.2.2.2.1
  exact ⟨r, _, _, tc r hA hC hN, tr _ r hD hR h16, INV_rec hI hWA hSA hoff hRep⟩
theorem LK_keep (hI : INVp hp o z len n) : FCE g mX6_keep mX7_keep [vI x] hp := LK_chg hI (OK_keep (drf_Rep hI) (CPS_WT hI.1)) (fun _ _ C hN => tX6_keep C hI.2.2.1 hI.1 hN) (fun _ _ _ C h => tX7_keep C hI.2.2.1.2.1 h)
theorem LK_refresh (hI : INVp hp o z len n) : FCE g mX6_refresh mX7_refresh [vI x] hp := LK_chg hI (OK_refresh (drf_Rep hI) (CPS_WT hI.1)) (fun _ _ C hN => tX6_refresh C hI.2.2.1 hI.1 hN) (fun _ _ _ C h => tX7_refresh C hI.2.2.1.2.1 h)
theorem LK_burn (hI : INVp hp o z len n) : FCE g mX6_burn mX7_burn [vI x] hp := LK_chg hI (OK_burn (drf_Rep hI) (CPS_WT hI.1)) (fun _ _ C hN => tX6_burn C hI.2.2.1 hI.1 hN) (fun _ _ _ C h => tX7_burn C hI.2.2.1.2.1 h)
theorem LK_sleep (hI : INVp hp o z len n) : FCE g mX6_sleep mX7_sleep [vI x] hp := LK_chg hI (OK_sleep (drf_Rep hI) (CPS_WT hI.1)) (fun _ _ C hN => tX6_sleep C hI.2.2.1 hI.1 hN) (fun _ _ _ C h => tX7_sleep C hI.2.2.1.2.1 h)
theorem LK_lie (hI : INVp hp o z len n) : FCE g mX6_lie mX7_lie [vI x, vI y, vI w, vI v] hp := LK_chg hI (OK_lie (drf_Rep hI) (CPS_WT hI.1)) (fun _ _ C hN => tX6_lie C hI.2.2.1 hI.1 hN) (fun _ _ _ C h => tX7_lie C hI.2.2.1.2.1 h)
theorem LK_merge (hI : INVp hp o z len n) : FCE g mX6_merge mX7_merge [vI x] hp := LK_chg hI (OK_merge (drf_Rep hI) (CPS_WT hI.1)) (fun _ _ C hN => tX6_merge C hI.2.2.1 hI.1 hN) (fun _ _ _ C h => tX7_merge C hI.2.2.1.2.1 h)
theorem LK_steal (hI : INVp hp o z len n) : FCE g mX6_steal mX7_steal [vI x, vI y, vI w] hp := LK_chg hI (OK_steal (drf_Rep hI) (CPS_WT hI.1)) (fun _ _ C hN => tX6_steal C hI.2.2.1 hI.1 hN) (fun _ _ _ C h => tX7_steal C hI.2.2.1.2.1 h)
theorem LK_pass (hI : INVp hp o z len n) : FCE g mX6_pass mX7_pass [vI x] hp := LK_chg hI (OK_pass (drf_Rep hI) (CPS_WT hI.1)) (fun _ _ C hN => tX6_pass C hI.2.2.1 hI.1 hN) (fun _ _ _ C h => tX7_pass C hI.2.2.1.2.1 h)
theorem drf_HN (hI : INVp hp o z len n) : HN (CPS hp (hrow o z + 1) 0) o z := by
  obtain ⟨k1, k2, k3, k4⟩ := hI.2.2.1
  exact ⟨k1, k2, by rw [drf_a hI (Or.inr (by decide))]; exact k3, by rw [drf_a hI (Or.inr (by decide))]; exact k4⟩
theorem drf_INV (hI : INVp hp o z len n) : INV (CPS hp (hrow o z + 1) 0) := by
  refine ⟨o, z, len, n, INV_no hI (CPS_WT hI.1) (drf_Rep hI) (fun a _ h0 h => ?_) (drf_a hI (Or.inr (by decide))) (by rw [drf_a hI (Or.inr (by decide))]) (drf_a hI (Or.inr (by decide))) (fun a h => drf_a hI (Or.inr (by omega))) (hI.2.2.2.2.2.2.cg ?_ ?_ ?_ ?_)⟩
  · funext i
    exact CPS_off (Or.inl h)
  · rw [drf_a hI (Or.inr (by decide))]
  · rw [drf_a hI (Or.inr (by decide))]
  · rw [drf_a hI (Or.inr (by decide))]
  · rw [drf_a hI (Or.inr (by decide))]
theorem RPu_17 {h h2 : HPt} (e : offR h h2) : RPu h2 z = fun a i => if a = (17, 0, 0, 0) then h2 a i else RPu h z a i := by
  funext a i
  by_cases ha : a = (17, 0, 0, 0)
  · subst ha
    rw [if_pos rfl, RPu_a (by decide) (by decide)]
  · rw [if_neg ha]
    have ea := e a ha
    have e18 := e (18, 0, 0, 0) (by decide)
    have e22 := e (22, 0, 0, 0) (by decide)
    unfold RPu
    split
    · simp only [rpA, rpB, cpK, hset, ea, e18, e22]
    · simp only [rpA, cpK, hset, ea, e22]
theorem RPu_set {h : HPt} {k : Nat} : RPu (hset h (17, 0, 0, 0) k v) z = hset (RPu h z) (17, 0, 0, 0) k v := by
  rw [RPu_17 (offR.rfl'.set)]
  funext a i
  unfold hset
  by_cases ha : a = (17, 0, 0, 0)
  · subst ha
    rw [if_pos rfl, RPu_a (by decide) (by decide)]
  · rw [if_neg ha, if_neg (fun q => ha q.1)]
theorem rec_neg {h : HPt} {r : Int32} (hr : r < 0) : recA h o z r = h := if_pos hr
/-- what set and seed do: a number is changed -/
theorem LK_one {Mc Mr : Md} {as : List Vv} {a : A4} {i k : Nat} {r : Int32} {n2 : Nat} (hI : INVp hp o z len n) (ha : a.1 < 8 ∧ a.2.1 = 0) (hf : bK a.1 i = false ∧ cK a.1 i = false) (hr : ¬ r < 0) (C : Ci g Mc (vR (15, 0, 0, 0) :: as) hp r (recA (hset (CPS hp (hrow o z + 1) 0) a i v) o z r)) (D : ∀ H : HPt, H (16, 0, 0, 0) 2 = nI z → H (17, 0, 0, 0) = hp (17, 0, 0, 0) → Ci g Mr (vR (16, 0, 0, 0) :: as) H r (hset (RPu (lkH H) z) (17, 0, 0, 0) k v)) (hR : Rep (hset (CPS hp (hrow o z + 1) 0) a i v) 0 (hset hp (17, 0, 0, 0) k v (17, 0, 0, 0)) n2) : FCE g Mc Mr as hp := by
  have hA : ∀ b, 8 ≤ b.1 → hset (CPS hp (hrow o z + 1) 0) a i v b = hp b := fun b hb => by
    funext q
    rw [hs_a (fun e => by rw [e] at hb; omega), drf_a hI (Or.inr hb)]
  have D2 := D (recA (hset (CPS hp (hrow o z + 1) 0) a i v) o z r) (by rw [recA_a (by decide), hA _ (by decide)]; exact hI.2.2.2.1) (by rw [recA_a (by decide), hA _ (by decide)])
  refine ⟨r, _, _, C, D2, ?_⟩
  have hfin := INV_rec (r := r) (hA := hset (CPS hp (hrow o z + 1) 0) a i v) (hD := hset (lkH (recA (hset (CPS hp (hrow o z + 1) 0) a i v) o z r)) (17, 0, 0, 0) k v) (n2 := n2) hI ((CPS_WT hI.1).set (okv_free hf.1 hf.2)) (fun b hb => by
    funext q
    exact hs_a (fun e => hb (by rw [e]; exact ha))) (offR.rfl'.set) (by
    have e : hset (lkH (recA (hset (CPS hp (hrow o z + 1) 0) a i v) o z r)) (17, 0, 0, 0) k v (17, 0, 0, 0) = hset hp (17, 0, 0, 0) k v (17, 0, 0, 0) := by
      funext q
      unfold hset
      rw [show lkH (recA (fun b j => if b = a ∧ j = i then v else CPS hp (hrow o z + 1) 0 b j) o z r) (17, 0, 0, 0) = hp (17, 0, 0, 0) by rw [lkH_a (by decide), recA_a (by decide)]; exact hA _ (by decide)]
    rw [e]
    exact hR)
  have e2 : rcA (hset (lkH (recA (hset (CPS hp (hrow o z + 1) 0) a i v) o z r)) (17, 0, 0, 0) k v) z r = hset (RPu (lkH (recA (hset (CPS hp (hrow o z + 1) 0) a i v) o z r)) z) (17, 0, 0, 0) k v := by
    unfold rcA
    rw [if_neg hr, RPu_set]
  rw [e2] at hfin
  exact hfin
theorem RPu_lk {H : HPt} {k : Nat} : RPu (lkH H) z (17, 0, 0, 0) k = H (17, 0, 0, 0) k := by
  rw [RPu_a (by decide) (by decide), lkH_a (by decide)]
theorem in_of {a b : Nat} {x : Int32} (hb : b < 2 ^ 31) (h : fIn x (nI a) (nI b) = true) (ha : a < 2 ^ 31) : ∃ q, a ≤ q ∧ q ≤ b ∧ x = nI q := by
  unfold fIn at h
  simp only [Bool.and_eq_true, Bool.not_eq_true', decide_eq_false_iff_not] at h
  have h0 : ¬ x < 0 := fun q => h.1 (by
    have e1 := Int32.lt_iff_toInt_lt.mp q
    have e3 : (0 : Int32).toInt = 0 := by decide
    refine Int32.lt_iff_toInt_lt.mpr ?_
    rw [nI_toInt ha]
    omega)
  obtain ⟨q, hq, rfl⟩ := nI_of h0
  refine ⟨q, ?_, ?_, rfl⟩
  · apply Nat.le_of_not_lt
    intro h2
    exact h.1 (nI_lt h2 ha)
  · apply Nat.le_of_not_lt
    intro h2
    exact h.2 (nI_lt h2 hq)
theorem GL.setx (hG : GL hp 0 (hp (17, 0, 0, 0)) n) {q : Nat} (hq : q < 65537) {h2 : HPt} {s2 : Nat → Int32} (e0 : ∀ i, i ≠ 4 → h2 (0, 0, 0, 0) i = hp (0, 0, 0, 0) i) (e04 : h2 (0, 0, 0, 0) 4 = nI q) (e2 : ∀ i, h2 (2, 0, 0, 0) i = hp (2, 0, 0, 0) i) (e3 : ∀ i, h2 (3, 0, 0, 0) i = hp (3, 0, 0, 0) i) (es : ∀ i, i ≠ 3 → s2 i = hp (17, 0, 0, 0) i) (es3 : s2 3 = nI q) : GL h2 0 s2 n := by
  obtain ⟨h1, h2', h3, h4⟩ := hG
  unfold GL
  rw [e0 3 (by decide), e0 5 (by decide), e0 6 (by decide), e0 7 (by decide), e0 8 (by decide), e0 9 (by decide), e2, e2, e2, e3, e3, es 0 (by decide), es 1 (by decide), es 2 (by decide), es 4 (by decide), es 5 (by decide), es 6 (by decide), es 7 (by decide), es 8 (by decide), es 9 (by decide), es 10 (by decide), es 11 (by decide)]
  exact ⟨h1, h2', ⟨q, hq, e04, es3⟩, h4⟩
theorem LK_seed (hI : INVp hp o z len n) : FCE g mX6_seed mX7_seed [vI x] hp := by
  have hR := drf_Rep hI
  have e99 : fIn x 0 9999 = (!decide (x < 0) && decide (x ≤ 9999)) := by
    unfold fIn
    congr 1
    rw [Bool.eq_iff_iff]
    simp only [Bool.not_eq_true', decide_eq_false_iff_not, decide_eq_true_eq]
    exact Int32.not_lt
  cases hx : fIn x 0 9999
  · have C := tX6_seed (tX5_changeX_e (g := g) (t := 0) (hp := CPS hp (hrow o z + 1) 0) (by decide) (by rw [← e99]; exact hx)) hI.2.2.1 hI.1 (drf_HN hI)
    rw [rec_neg (by decide)] at C
    exact ⟨-2, _, _, C, tX7_seed_e hx, drf_INV hI⟩
  · have hx2 := hx
    rw [e99] at hx2
    simp only [Bool.and_eq_true, Bool.not_eq_true', decide_eq_false_iff_not, decide_eq_true_eq] at hx2
    obtain ⟨q, hq, rfl⟩ := nI_of hx2.1
    have hq9 : q ≤ 9999 := (nI_leI (b := 9999) hq (by decide)).mp hx2.2
    obtain ⟨x0, hx0, k1, k2⟩ := hR.1.2.2.1
    have C1 := tX5_changeX (g := g) (t := 0) (hp := CPS hp (hrow o z + 1) 0) (by decide) hx2.1 hx2.2
    have C := tX6_seed C1 hI.2.2.1 hI.1 (by
      obtain ⟨k1, k2, k3, k4⟩ := drf_HN hI
      exact ⟨k1, k2, by rw [hs_a (by decide)]; exact k3, by rw [hs_a (by decide)]; exact k4⟩)
    rw [k1] at C
    refine LK_one (n2 := n) hI ⟨by decide, rfl⟩ ⟨rfl, rfl⟩ (nI_pos (by omega)) C (fun H h1 h2 => (tX7_seed hx hI.2.2.1.2.1 h1).eq ?_ rfl) ⟨?_, fun j hj => ?_, fun j hj hj8 => ?_⟩
    · rw [RPu_lk, h2, ← drf_a hI (Or.inr (by decide)), k2]
    · have e17 : CPS hp (hrow o z + 1) 0 (17, 0, 0, 0) = hp (17, 0, 0, 0) := drf_a hI (Or.inr (by decide))
      refine hR.1.setx (q := q) (by omega) (fun i hi => hs_i hi) hs_eq (fun i => hs_a (by simp)) (fun i => hs_a (by simp)) (fun i hi => ?_) hs_eq
      rw [hs_i hi, e17]
    · obtain ⟨m, v, h⟩ := hR.2.1 j hj
      refine ⟨m, v, h.cg ⟨fun i _ _ => hs_a (by simp), fun b _ => ⟨fun i _ _ => hs_a (by simp), fun i _ => ⟨hs_a (by simp), hs_a (by simp)⟩⟩, fun f _ => ?_⟩⟩
      rw [hs_i (by unfold cI; omega), drf_a hI (Or.inr (by decide))]
    · refine (hR.2.2 j hj hj8).cg ⟨fun i _ _ => hs_a (by simp), fun b _ => ⟨fun i _ _ => hs_a (by simp), fun i _ => ⟨hs_a (by simp), hs_a (by simp)⟩⟩, fun f _ => ?_⟩
      rw [hs_i (by unfold cI; omega), drf_a hI (Or.inr (by decide))]
end FC
