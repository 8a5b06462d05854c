section ASK2
variable {g : Gh} {hp : HPt} {o z len n : Nat} {x y w v : Int32}
/-- a half's numbers as they are -/
theorem RS.nums {j m ve b : Nat} (hS : RS hp 0 j (hp (17, 0, 0, 0)) m ve) (hb : b < 2) : ∃ f u p, f < 257 ∧ u < 257 ∧ p < 256 ∧ hp (17, 0, 0, 0) (cI j (11 + b)) = nI f ∧ hp (17, 0, 0, 0) (cI j (13 + b)) = nI u ∧ hp (17, 0, 0, 0) (cI j (16 + b)) = nI p := by
  obtain ⟨f, u, hf, hu, -, f2, -, u2⟩ := hS.2.2.2.2.1 b hb
  obtain ⟨-, ⟨p0, h0, -, c0⟩, ⟨p1, h1, -, c1⟩, -⟩ := hS.2.2.2.1 0 (Nat.zero_le _)
  match b, hb with
  | 0, _ => exact ⟨f, u, p0, hf, hu, h0, f2, u2, c0⟩
  | 1, _ => exact ⟨f, u, p1, hf, hu, h1, f2, u2, c1⟩
theorem mulb {f p u : Nat} (hf : f < 257) (hp : p < 256) (hu : u < 257) : f * p + u < 2 ^ 31 := by
  have h := Nat.mul_le_mul (Nat.le_of_lt_succ hf) (Nat.le_of_lt hp)
  omega
/-- the tag that is due, and the one that there is -/
theorem due_eq {j m ve b q : Nat} (hS : RS hp 0 j (hp (17, 0, 0, 0)) m ve) (hb : b < 2) (hq : q < 256) : ∃ D T, D < 257 ∧ T < 257 ∧ fPass hp 0 j b (nI q) = nI ((D + 257 - T) % 257) ∧ ∀ k, k < 257 → rPs hp j b (nI q) (nI k) = decide (D = (T + k) % 257) := by
  obtain ⟨f, u, p, hf, hu, hp2, f2, u2, p2⟩ := hS.nums hb
  obtain ⟨c1, c2, -, -, c5, c6⟩ := hS.cells b hb
  have e1 : jrem (nI p + nI q) 256 = nI ((p + q) % 256) := by
    rw [nI_add]
    exact rem6 (by omega)
  have hm : (p + q) % 256 < 256 := Nat.mod_lt _ (by decide)
  have e2 : jrem (nI f * nI ((p + q) % 256) + nI u) 257 = nI ((f * ((p + q) % 256) + u) % 257) := by
    rw [pk_mul, nI_add]
    exact rem7 (mulb hf hm hu)
  have e3 : jrem (nI f * nI p + nI u) 257 = nI ((f * p + u) % 257) := by
    rw [pk_mul, nI_add]
    exact rem7 (mulb hf hp2 hu)
  have hD : (f * ((p + q) % 256) + u) % 257 < 257 := Nat.mod_lt _ (by decide)
  have hT : (f * p + u) % 257 < 257 := Nat.mod_lt _ (by decide)
  refine ⟨(f * ((p + q) % 256) + u) % 257, (f * p + u) % 257, hD, hT, ?_, fun k hk => ?_⟩
  · unfold fPass
    rw [c1, c2, c5, c6, f2, u2, p2, e1, e2, e3]
    exact fFM_7 (by omega) (by omega)
  · unfold rPs rTold rTag
    rw [f2, u2, p2, e1, e2, e3, nI_add, rem7 (by omega), decide_eq_decide]
    exact nI_eq (by omega) (Nat.lt_trans (Nat.mod_lt _ (by decide)) (by decide))
theorem rsr_eq {j b q0 : Nat} {q : Int32} (hq0 : q0 < 257) (h : ∀ k, k < 257 → (rPs hp j b q (nI k) = true ↔ k = q0)) : ∀ k, k ≤ 256 → 256 - k ≤ q0 → rsr hp j b q k = q0
  | 0, _, hk => by
    show 256 = q0
    omega
  | k + 1, hk, hle => by
    show (if rPs hp j b q (nI (256 - (k + 1))) = true then 256 - (k + 1) else rsr hp j b q k) = q0
    by_cases he : 256 - (k + 1) = q0
    · rw [if_pos ((h _ (by omega)).mpr he)]
      exact he
    · rw [if_neg (fun e => he ((h _ (by omega)).mp e))]
      exact rsr_eq hq0 h k (by omega) (by omega)
theorem LK_passing (hI : INVp hp o z len n) : FCE g mX6_passing mX7_passing [vI x, vI y, vI w] hp := by
  have hR := hI.2.1
  have hG := hR.1
  cases hx : fHalf hp 0 x y
  · exact LK_ask hI (tX6_passing (tX5_tagOffsetThatPasses_e (by decide) hx)) (tX7_passing_e (by rw [half_eq hG rfl]; exact hx))
  · cases hw : fPt w
    · exact LK_ask hI (tX6_passing (tX5_tagOffsetThatPasses_e2 (by decide) hx hw)) (tX7_passing_e2 (by rw [half_eq hG rfl]; exact hx) (by rw [pt_eq]; exact hw))
    · obtain ⟨hs, hh⟩ := half_of hx
      obtain ⟨b, hb, rfl⟩ := st_of hs
      obtain ⟨j, hj, rfl⟩ := has_of hG hh
      have hn8 := hG.1
      obtain ⟨m, ve, hS⟩ := hR.2.1 j hj
      obtain ⟨q, hq, rfl⟩ := pt_of hw
      obtain ⟨D, T, hD, hT, e1, e2⟩ := due_eq hS hb hq
      refine LK_ask hI (tX6_passing (tX5_tagOffsetThatPasses (by decide) (by omega) hb hx hw)) ((tX7_passing (by omega) hb (by rw [has_eq hG rfl]; exact hh) (by rw [pt_eq]; exact hw)).eq ?_ rfl)
      rw [e1]
      congr 1
      refine rsr_eq (Nat.mod_lt _ (by decide)) (fun k hk => ?_) 256 (Nat.le_refl _) (by omega)
      rw [e2 k hk, decide_eq_true_eq]
      omega
theorem LK_passes (hI : INVp hp o z len n) : FCE g mX6_passes mX7_passes_ [vI x, vI y, vI w] hp := by
  have hR := hI.2.1
  have hG := hR.1
  cases hx : fHalf hp 0 x y
  · exact LK_ask hI (tX6_passes (tX5_offsetsThatPass_e (by decide) hx)) (tX7_passes__e (by rw [half_eq hG rfl]; exact hx))
  · cases hw : fTg w
    · exact LK_ask hI (tX6_passes (tX5_offsetsThatPass_e2 (by decide) hx hw)) (tX7_passes__e2 (by rw [half_eq hG rfl]; exact hx) (by rw [tg_eq]; exact hw))
    · obtain ⟨hs, hh⟩ := half_of hx
      obtain ⟨b, hb, rfl⟩ := st_of hs
      obtain ⟨j, hj, rfl⟩ := has_of hG hh
      have hn8 := hG.1
      obtain ⟨m, ve, hS⟩ := hR.2.1 j hj
      obtain ⟨q, hq, rfl⟩ := tg_of hw
      have key : ∀ r, r ≤ 255 → rnP hp j b (nI q) r = nPass hp 0 j b (nI q) r := by
        intro r
        induction r with
        | zero => intro _; rfl
        | succ r ih =>
          intro hr
          show rnP hp j b (nI q) r + _ = nPass hp 0 j b (nI q) r + _
          rw [ih (by omega)]
          obtain ⟨D, T, hD, hT, e1, e2⟩ := due_eq hS hb (show r + 1 < 256 by omega)
          rw [e1, e2 q hq]
          have hmod : (D + 257 - T) % 257 < 257 := Nat.mod_lt _ (by decide)
          have e3 : (nI ((D + 257 - T) % 257) = nI q) = (D = (T + q) % 257) := by
            rw [nI_eq (by omega) (by omega)]
            apply propext
            omega
          by_cases hc : D = (T + q) % 257
          · rw [if_pos (by simpa using hc), if_pos (by rw [e3]; exact hc)]
          · rw [if_neg (by simpa using hc), if_neg (by rw [e3]; exact hc)]
      exact LK_ask hI (tX6_passes (tX5_offsetsThatPass (by decide) (by omega) hb hx hw)) ((tX7_passes_ (by omega) hb (by rw [has_eq hG rfl]; exact hh) (by rw [tg_eq]; exact hw)).eq (congrArg nI (key 255 (Nat.le_refl _))) rfl)
theorem cF_eq (hP : PAD hp len) : cRf hp len = cF hp len := by
  funext p
  unfold cRf cF
  rw [hP.2.2.2]
theorem LK_fault (hI : INVp hp o z len n) : FCE g mX6_fault mX7_fault [] hp := by
  obtain ⟨hW, hR, hH, h16, hHi, hS, hP⟩ := id hI
  have hRD : RDp hp len := ⟨hP.1, hP.2.1, hW⟩
  obtain ⟨f2, C, hc⟩ := tX6_fault (g := g) (f := hp (14, 0, 0, 0)) hRD ((hW (14, 0, 0, 0) 2).2 rfl)
  rw [RQ_self] at C
  have eA : ∀ a, a ≠ (14, 0, 0, 0) → RQ hp f2 a = hp a := fun a h => by funext i; exact RQ_a h
  obtain ⟨p2, w2, o2, D⟩ := tX7_fault (g := g) (hp := RQ hp f2) (len := len) hP.1 (by rw [eA _ (by decide)]; exact hP.2.2.1)
  have ec : cRf (RQ hp f2) len = cF hp len := by
    rw [← cF_eq hP]
    funext p
    unfold cRf
    rw [eA _ (by decide)]
  rw [ec] at D
  have eB : ∀ a, a.1 ≠ 14 → a.1 ≠ 16 → a.1 ≠ 23 → PQ (RQ hp f2) p2 w2 o2 a = hp a := fun a h14 h16 h23 => by
    funext i
    rw [PQ_a (fun e => h16 (by rw [e])) (fun e => h23 (by rw [e]))]
    exact RQ_a (fun e => h14 (by rw [e]))
  have eB16 : ∀ i, i ≠ 8 → i ≠ 9 → PQ (RQ hp f2) p2 w2 o2 (16, 0, 0, 0) i = hp (16, 0, 0, 0) i := fun i h8 h9 => by
    simp [PQ, h8, h9]
    exact RQ_a (by decide)
  refine ⟨_, _, _, C, D, o, z, len, n, INV_no hI ?_ ?_ (fun a h _ _ => eB a (by omega) (by omega) (by omega)) (eB _ (by decide) (by decide) (by decide)) (eB16 2 (by decide) (by decide)) (eB _ (by decide) (by decide) (by decide)) (fun a h => eB a (by omega) (by omega) (by omega)) (hP.cg (by rw [eB _ (by decide) (by decide) (by decide)]) (eB16 6 (by decide) (by decide)) (eB _ (by decide) (by decide) (by decide)) (eB _ (by decide) (by decide) (by decide)))⟩
  · intro a i
    by_cases h14 : a = (14, 0, 0, 0)
    · subst h14
      rw [PQ_a (by decide) (by decide)]
      by_cases hi : i = 2
      · subst hi
        refine ⟨fun h => absurd (show false = true from h) (by decide), fun _ => ?_⟩
        rw [RQ_2]
        exact hc
      · refine okv_free rfl ?_
        show (false || Nat.beq i 2) = false
        cases hq : Nat.beq i 2
        · rfl
        · exact absurd (Nat.eq_of_beq_eq_true hq) hi
    · by_cases h9 : a = (16, 0, 0, 0) ∧ i = 9
      · obtain ⟨rfl, rfl⟩ := h9
        rw [PQ_9]
        exact okv_bi rfl
      · have e : ∀ (a : A4) (i : Nat) (x : Int32), a.1 = 16 → i ≠ 9 → okv a.1 i x := fun a i x h h9 => by
          rw [h]
          refine okv_free ?_ rfl
          show (Nat.beq 16 4 && Nat.beq i 9 || Nat.beq i 9) = false
          cases hq : Nat.beq i 9
          · rfl
          · exact absurd (Nat.eq_of_beq_eq_true hq) h9
        by_cases h16 : a = (16, 0, 0, 0)
        · subst h16
          exact e _ _ _ rfl (fun q => h9 ⟨rfl, q⟩)
        · by_cases h23 : a = (23, 0, 0, 0)
          · subst h23
            exact okv_free rfl rfl
          · rw [PQ_a h16 h23, RQ_a h14]
            exact hW a i
  · rw [eB (17, 0, 0, 0) (by decide) (by decide) (by decide)]
    exact hR.same (fun a h _ => eB a (by omega) (by omega) (by omega)) (fun _ _ => rfl)
end ASK2
