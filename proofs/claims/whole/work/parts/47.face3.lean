section FC3
variable {g : Gh} {hp : HPt} {o z len n : Nat} {x y w v : Int32}
theorem cls_ne {a b : A4} (h : a.1 < 8) (hb : 8 ≤ b.1) : a ≠ b := fun q => by rw [q] at h; omega
theorem LK_save (hI : INVp hp o z len n) : FCE g mX6_save mX7_save [vI x] hp := by
  obtain ⟨hW, hR, hH, h16, hHi, hS, hP⟩ := id hI
  cases hx : fSt x
  · exact ⟨-2, hp, hp, tX6_save_e hx, tX7_save_e (by rw [st_eq]; exact hx), o, z, len, n, hI⟩
  · obtain ⟨b, hb, rfl⟩ := st_of hx
    have C := tX6_save (g := g) hb hW
    have eA : ∀ a, 8 ≤ a.1 → a ≠ (11, 0, 0, 0) → hset (CPS hp (b + 8) 0) (11, 0, 0, 0) b 1 a = hp a := fun a h h11 => by
      funext i
      rw [hs_a h11, CPS_off (Or.inr h)]
    have eR : ∀ a, a.1 < 8 → a.2.1 ≠ b + 8 → hset (CPS hp (b + 8) 0) (11, 0, 0, 0) b 1 a = hp a := fun a h h0 => by
      funext i
      rw [hs_a (cls_ne h (by decide)), CPS_off (Or.inl h0)]
    have hrep : Rep (hset (CPS hp (b + 8) 0) (11, 0, 0, 0) b 1) (8 + b) (hp (17, 0, 0, 0)) n := by
      rw [Nat.add_comm 8 b]
      exact (hR.copy (t := b + 8) (by omega)).same (fun a h _ => by funext i; exact hs_a (cls_ne h (by decide))) (fun _ _ => rfl)
    have e11 : ∀ i, hset (CPS hp (b + 8) 0) (11, 0, 0, 0) b 1 (11, 0, 0, 0) i = if i = b then 1 else hp (11, 0, 0, 0) i := fun i => by
      by_cases hi : i = b
      · subst hi
        rw [if_pos rfl, hs_eq]
      · rw [if_neg hi, hs_i hi, CPS_off (Or.inr (by decide))]
    have hW1 : WT (hset (CPS hp (b + 8) 0) (11, 0, 0, 0) b 1) := (CPS_WT hW).set okv_1
    generalize hset (CPS hp (b + 8) 0) (11, 0, 0, 0) b 1 = h1 at *
    have D := tX7_save (g := g) (hp := h1) hb
    have eU : ∀ a, a ≠ (19, 0, 0, 0) → a ≠ (20, 0, 0, 0) → RSv h1 b a = h1 a := fun a h19 h20 => by
      funext i
      unfold RSv
      rw [hs_a h20, cpK_off (Or.inl h19)]
    have eU19 : ∀ c k, c < 2 → k < 292 → RSv h1 b (19, 0, 0, 0) (292 * c + k) = if c = b then hp (17, 0, 0, 0) k else hp (19, 0, 0, 0) (292 * c + k) := fun c k hc hk => by
      unfold RSv
      rw [hs_a (by decide)]
      by_cases hcb : c = b
      · subst hcb
        rw [if_pos rfl, cpK_on hk, Nat.zero_add, eA _ (by decide) (by decide)]
      · rw [if_neg hcb, cpK_off (Or.inr (by omega)), eA _ (by decide) (by decide)]
    have eU20 : ∀ c, c < 2 → RSv h1 b (20, 0, 0, 0) c = if c = b then 1 else hp (20, 0, 0, 0) c := fun c hc => by
      unfold RSv
      by_cases hcb : c = b
      · subst hcb
        rw [if_pos rfl, hs_eq]
      · rw [if_neg hcb, hs_i hcb, cpK_off (Or.inl (by decide)), eA _ (by decide) (by decide)]
    have hWf : WT (RSv h1 b) := by
      unfold RSv
      refine WT.set (hW1.of (fun a i h => ?_)) okv_1
      exact cpK_off (Or.inl (fun e => by rw [e] at h; revert h; simp))
    have ecl : ∀ a, a.1 < 8 → RSv h1 b a = h1 a := fun a h => eU a (cls_ne h (by decide)) (cls_ne h (by decide))
    refine ⟨hp (0, 0, 0, 0) 3, h1, RSv h1 b, C, D.eq ?_ rfl, o, z, len, n, hWf, ?_, ?_, ?_, fun i hi => ?_, fun c hc => ?_, hP.cg ?_ ?_ ?_ ?_⟩
    · rw [eA _ (by decide) (by decide), hR.1.2.1.2, hR.1.2.1.1]
    · rw [eU _ (by decide) (by decide), eA _ (by decide) (by decide)]
      exact hR.same (fun a h h0 => by rw [ecl a h, eR a h (by omega)]) (fun _ _ => rfl)
    · obtain ⟨k1, k2, k3, k4⟩ := hH
      exact ⟨k1, k2, by rw [eU _ (by decide) (by decide), eA _ (by decide) (by decide)]; exact k3, by rw [eU _ (by decide) (by decide), eA _ (by decide) (by decide)]; exact k4⟩
    · rw [eU _ (by decide) (by decide), eA _ (by decide) (by decide)]; exact h16
    · obtain ⟨q, hq⟩ := hHi i hi
      have := @hrow_lt o i
      refine ⟨q, hq.same (fun a h h0 => by rw [ecl a h, eR a h (by omega)]) (fun k _ => ?_)⟩
      show RSv h1 b _ _ = _
      rw [eU _ (by decide) (by decide), eA _ (by decide) (by decide)]
    · have a11 : RSv h1 b (11, 0, 0, 0) c = if c = b then 1 else hp (11, 0, 0, 0) c := by rw [eU _ (by decide) (by decide), e11]
      by_cases hcb : c = b
      · subst hcb
        refine ⟨true, by rw [a11, if_pos rfl]; rfl, by rw [eU20 c hc, if_pos rfl]; rfl, fun _ => ⟨n, hrep.same (fun a h _ => ecl a h) (fun k hk => ?_)⟩⟩
        show RSv h1 c _ _ = _
        rw [eU19 c k hc hk, if_pos rfl]
      · obtain ⟨d, d1, d2, d3⟩ := hS c hc
        refine ⟨d, by rw [a11, if_neg hcb]; exact d1, by rw [eU20 c hc, if_neg hcb]; exact d2, fun hd => ?_⟩
        obtain ⟨q, hq⟩ := d3 hd
        refine ⟨q, hq.same (fun a h h0 => by rw [ecl a h, eR a h (by omega)]) (fun k hk => ?_)⟩
        show RSv h1 b _ _ = _
        rw [eU19 c k hc hk, if_neg hcb]
    · rw [eU _ (by decide) (by decide), eA _ (by decide) (by decide)]
    · rw [eU _ (by decide) (by decide), eA _ (by decide) (by decide)]
    · rw [eU _ (by decide) (by decide), eA _ (by decide) (by decide)]
    · rw [eU _ (by decide) (by decide), eA _ (by decide) (by decide)]
theorem LK_restore (hI : INVp hp o z len n) : FCE g mX6_restore mX7_restore [vI x] hp := by
  obtain ⟨hW, hR, hH, h16, hHi, hS, hP⟩ := id hI
  cases hx : fSt x
  · exact ⟨-2, hp, hp, tX6_restore_e hx, tX7_restore_e (by rw [st_eq]; exact hx), o, z, len, n, hI⟩
  · obtain ⟨b, hb, rfl⟩ := st_of hx
    obtain ⟨d, d1, d2, d3⟩ := hS b hb
    cases d with
    | false => exact ⟨-5, hp, hp, tX6_restore_e2 hb d1, tX7_restore_e2 hb d2, o, z, len, n, hI⟩
    | true =>
      have h1n : ¬ hp (11, 0, 0, 0) b = 0 := by rw [d1]; decide
      have h2n : ¬ hp (20, 0, 0, 0) b = 0 := by rw [d2]; decide
      obtain ⟨q, hq⟩ := d3 rfl
      have C := tX6_restore (g := g) (hp := hp) hb h1n hH hW
      have hz7 : hrow o z < 7 := hrow_lt
      have hrep : Rep (rsH hp o z b) 0 (fun k => hp (19, 0, 0, 0) (292 * b + k)) q := by
        have h5 : Rep (CPS hp (hrow o z + 1) 0) (b + 8) (fun k => hp (19, 0, 0, 0) (292 * b + k)) q := by
          rw [Nat.add_comm b 8]
          exact hq.same (fun a _ h0 => by funext i; exact CPS_off (Or.inl (by omega))) (fun _ _ => rfl)
        exact h5.copy (t := 0) (by omega)
      have hoff : offS (CPS hp (hrow o z + 1) 0) (rsH hp o z b) := fun a ha => by
        funext i
        exact CPS_off (by omega)
      have hWA : WT (rsH hp o z b) := CPS_WT (CPS_WT hW)
      have e8 : ∀ a, 8 ≤ a.1 → rsH hp o z b a = hp a := fun a h => by rw [hoff a (by omega), drf_a hI (Or.inr h)]
      have hk : rsH hp o z b (0, 0, 0, 0) 3 = nI q := hrep.1.2.1.1
      rw [hk] at C
      have hpos : ¬ nI q < 0 := nI_pos (by have := hrep.1.1; omega)
      have er : recA (rsH hp o z b) o z (nI q) = recH (rsH hp o z b) o z := if_neg hpos
      generalize hh1 : recA (rsH hp o z b) o z (nI q) = h1 at *
      have eh1 : ∀ a, 9 ≤ a.1 → h1 a = hp a := fun a h => by
        rw [← hh1, recA_a (fun e => by rw [e] at h; revert h; decide), e8 a (by omega)]
      have D := tX7_restore (g := g) (hp := h1) (z := z) hb (by rw [eh1 _ (by decide)]; exact h2n) hI.2.2.1.2.1 (by rw [eh1 _ (by decide)]; exact h16)
      have hDoff : offR (lkH h1) (cpK (lkH h1) (17, 0, 0, 0) 0 (19, 0, 0, 0) (292 * b) 292) := fun a ha => by
        funext i
        exact cpK_off (Or.inl ha)
      have e17 : ∀ k, k < 292 → cpK (lkH h1) (17, 0, 0, 0) 0 (19, 0, 0, 0) (292 * b) 292 (17, 0, 0, 0) k = hp (19, 0, 0, 0) (292 * b + k) := fun k hk => by
        have h := cpK_on (hp := lkH h1) (d := (17, 0, 0, 0)) (s := (19, 0, 0, 0)) (dO := 0) (sO := 292 * b) (n := 292) (i := k) hk
        rw [Nat.zero_add] at h
        rw [h, lkH_a (by decide), eh1 _ (by decide)]
      have hfin := INV_rec (r := nI q) (n2 := q) hI hWA hoff (by rw [hh1]; exact hDoff) (hrep.same (fun _ _ _ => rfl) e17)
      have e2 : rcA (cpK (lkH h1) (17, 0, 0, 0) 0 (19, 0, 0, 0) (292 * b) 292) z (nI q) = RRs h1 z b := by
        unfold rcA
        rw [if_neg hpos, RPu_17 hDoff]
        funext a i
        unfold RRs
        by_cases ha : a = (17, 0, 0, 0)
        · subst ha
          rw [if_pos rfl]
          unfold cpK
          rw [RPu_a (by decide) (by decide), RPu_a (by decide) (by decide)]
        · rw [if_neg ha, cpK_off (Or.inl ha)]
      rw [e2] at hfin
      refine ⟨nI q, h1, RRs h1 z b, C, D.eq ?_ rfl, hfin⟩
      unfold RRs
      have h := cpK_on (hp := RPu (lkH h1) z) (d := (17, 0, 0, 0)) (s := (19, 0, 0, 0)) (dO := 0) (sO := 292 * b) (n := 292) (i := 5) (by decide)
      rw [Nat.zero_add] at h
      rw [h, RPu_a (by decide) (by decide), lkH_a (by decide), eh1 _ (by decide)]
      exact hrep.1.2.1.2
theorem LK_put {c : Int64} (hI : INVp hp o z len n) : FCE g mX6_put mX7_put [vJ c] hp := by
  obtain ⟨hW, hR, hH, h16, hHi, hS, hP⟩ := id hI
  obtain ⟨p1, p2, p3, p4⟩ := id hP
  rcases sg_rg (x := c) 8 0 rfl rfl with ⟨s0, rb⟩ | ⟨s0, s8, rg8⟩
  · exact ⟨-2, hp, hp, tX6_put_e s0, tX7_put_e rb, o, z, len, n, hI⟩
  · by_cases hb : 80 < len + sg c 8
    · exact ⟨-4, hp, hp, tX6_put_e2 s0 rfl s8 p1 p2 hb, tX7_put_e2 rg8 s8 p1 p3 hb, o, z, len, n, hI⟩
    · have C := tX6_put (g := g) (hp := hp) (x := c) s0 rfl s8 p2 (by omega)
      have eA : ∀ a, a ≠ (13, 0, 0, 0) → a ≠ (12, 0, 0, 0) → hset (wrt hp (13, 0, 0, 0) len (sg c 8) c (sg c 8)) (12, 0, 0, 0) 1 (nI (len + sg c 8)) a = hp a := fun a h13 h12 => by
        funext i
        rw [hs_a h12, wrt_a h13]
      have e13 : hset (wrt hp (13, 0, 0, 0) len (sg c 8) c (sg c 8)) (12, 0, 0, 0) 1 (nI (len + sg c 8)) (13, 0, 0, 0) = wrt hp (13, 0, 0, 0) len (sg c 8) c (sg c 8) (13, 0, 0, 0) := by
        funext i
        exact hs_a (by decide)
      have e12 : hset (wrt hp (13, 0, 0, 0) len (sg c 8) c (sg c 8)) (12, 0, 0, 0) 1 (nI (len + sg c 8)) (12, 0, 0, 0) 1 = nI (len + sg c 8) := hs_eq
      have hWw : ∀ i, WT (wrt hp (13, 0, 0, 0) len (sg c 8) c i) := fun i => by
        induction i with
        | zero => exact hW
        | succ i ih =>
          refine ih.set ⟨fun h => absurd (show false = true from h) (by decide), fun _ => ?_⟩
          obtain ⟨q, h1, h2⟩ := cd_v (x := c) (k := i)
          exact ⟨q, by omega, h2⟩
      have hW1 : WT (hset (wrt hp (13, 0, 0, 0) len (sg c 8) c (sg c 8)) (12, 0, 0, 0) 1 (nI (len + sg c 8))) := (hWw _).set (okv_free rfl rfl)
      generalize hset (wrt hp (13, 0, 0, 0) len (sg c 8) c (sg c 8)) (12, 0, 0, 0) 1 (nI (len + sg c 8)) = h1 at *
      have D := tX7_put (g := g) (hp := h1) (x := c) rg8 s8 (len := len) (by rw [eA _ (by decide) (by decide)]; exact p3) (by omega)
      have eB : ∀ a, a ≠ (21, 0, 0, 0) → a ≠ (16, 0, 0, 0) → hset (wrt h1 (21, 0, 0, 0) len (sg c 8) c (sg c 8)) (16, 0, 0, 0) 6 (nI (len + sg c 8)) a = h1 a := fun a h21 h16 => by
        funext i
        rw [hs_a h16, wrt_a h21]
      have eB16 : ∀ i, i ≠ 6 → hset (wrt h1 (21, 0, 0, 0) len (sg c 8) c (sg c 8)) (16, 0, 0, 0) 6 (nI (len + sg c 8)) (16, 0, 0, 0) i = hp (16, 0, 0, 0) i := fun i hi => by
        rw [hs_i hi, wrt_a (by decide), eA _ (by decide) (by decide)]
      have eC : ∀ a, a.1 ≠ 12 → a.1 ≠ 13 → a.1 ≠ 16 → a.1 ≠ 21 → hset (wrt h1 (21, 0, 0, 0) len (sg c 8) c (sg c 8)) (16, 0, 0, 0) 6 (nI (len + sg c 8)) a = hp a := fun a q12 q13 q16 q21 => by
        rw [eB a (fun e => q21 (by rw [e])) (fun e => q16 (by rw [e])), eA a (fun e => q13 (by rw [e])) (fun e => q12 (by rw [e]))]
      refine ⟨_, _, _, C, D, o, z, len + sg c 8, n, INV_no hI (hW1.of (fun a i h => ?_)) ?_ (fun a h _ _ => eC a (by omega) (by omega) (by omega) (by omega)) (eC _ (by decide) (by decide) (by decide) (by decide)) (eB16 2 (by decide)) (eC _ (by decide) (by decide) (by decide) (by decide)) (fun a h => eC a (by omega) (by omega) (by omega) (by omega)) ⟨by omega, ?_, hs_eq, ?_⟩⟩
      · by_cases h16 : a = (16, 0, 0, 0)
        · subst h16
          rw [eB16 i (by intro e; subst e; revert h; decide), eA _ (by decide) (by decide)]
        · rw [eB a (fun e => by rw [e] at h; revert h; simp) h16]
      · rw [eC (17, 0, 0, 0) (by decide) (by decide) (by decide) (by decide)]
        exact hR.same (fun a h _ => eC a (by omega) (by omega) (by omega) (by omega)) (fun _ _ => rfl)
      · rw [eB _ (by decide) (by decide)]; exact e12
      · rw [eB _ (by decide) (by decide), e13]
        funext k
        rw [hs_a (by decide)]
        exact congrFun (wrt_2 (by rw [eA _ (by decide) (by decide)]; exact p4) _) k
end FC3
