section STP
variable {g : Gh} {hp h2 : HPt} {o z o2 z2 n E E2 K t u : Nat} {a b r : Int32}
theorem relS_lt {a : A4} {i : Nat} (h : relS a i) : a.1 < 8 := by
  rcases h with ⟨e, -⟩ | ⟨e, -⟩ | ⟨e, -⟩ | ⟨e, -⟩ | ⟨e, -⟩ | ⟨e, -⟩
  · rw [e]; decide
  · rw [e]; decide
  · rw [e]; decide
  · rw [e]; decide
  · rw [e]; decide
  · rcases e with e | e <;> rw [e] <;> decide
/-- what is copied -/
theorem CPS_rel (htu : t ≠ u) : ∀ a i, relS a i → a.2.1 = t → CPS hp t u a i = hp (a.1, u, a.2.2) i := by
  rintro ⟨k, t2, j, b⟩ i hr ht
  have ht : t2 = t := ht
  subst ht
  rcases hr with ⟨e, e2, p, q⟩ | ⟨e, e2, p⟩ | ⟨e, e2, p⟩ | ⟨e, hj, e2, p, q⟩ | ⟨e, hj, hb, p, q⟩ | ⟨e, hj, hb, p⟩
  · have e : k = 0 := e
    have e2 : (j, b) = (0, 0) := e2
    cases e2
    subst e
    exact CPS_0 p q
  · have e : k = 2 := e
    have e2 : (j, b) = (0, 0) := e2
    cases e2
    subst e
    exact CPS_2 htu p
  · have e : k = 3 := e
    have e2 : (j, b) = (0, 0) := e2
    cases e2
    subst e
    exact CPS_3 htu p
  · have e : k = 4 := e
    have e2 : b = 0 := e2
    subst e e2
    exact CPS_on htu hj (Or.inl ⟨rfl, rfl, p, q⟩)
  · have e : k = 5 := e
    subst e
    exact CPS_on htu hj (Or.inr (Or.inl ⟨rfl, hb, p, q⟩))
  · exact CPS_on htu hj (Or.inr (Or.inr ⟨e, hb, p⟩))
theorem AG.r8 {h : HPt} : AG (recA h o z r) h := fun a i hr _ => congrFun (recA_a (fun e => by
  have q := relS_lt hr
  rw [e] at q
  exact absurd q (by decide))) i
theorem AG.r16 {h : HPt} {i : Nat} {x : Int32} : AG (hset h (16, 0, 0, 0) i x) h := fun a i hr _ => hs_a (fun e => by
  have q := relS_lt hr
  rw [e] at q
  exact absurd q (by decide))
theorem AG.gT {h : HPt} {x : Int32} : AG (chT h r x) h := by
  unfold chT
  split
  · exact AG.rf
  · exact AG.r16
theorem AG.gS : AG (chS hp o z n K a b) (opK K a b n (hdr hp o z)).2 := AG.r8
theorem AG.gH : AG (chH hp o z n K a b) (opK K a b n (hdr hp o z)).2 := by
  unfold chH
  split
  · exact AG.gT.tr AG.r8
  · exact AG.r8
theorem fRen_A {k : Nat} (hn : n ≤ 8) : OPA n (fRen n k) := by
  unfold fRen
  split
  · exact oRen_A (by omega)
  · exact oErr_A
theorem fBurn_A {k : Nat} (hn : n ≤ 8) : OPA n (fBurn n k) := by
  unfold fBurn
  split
  · exact oBurn_A (by omega)
  · exact oErr_A
theorem fMrg_A {k : Nat} (hn : n ≤ 8) : OPA n (fMrg n k) := by
  unfold fMrg
  split
  · exact oMrg_A (by omega)
  · exact oErr_A
theorem fLie_A {c k x q : Nat} (hn : n ≤ 8) (hc : c < 2) : OPA n (fLie n c k x q) := by
  unfold fLie
  split
  · exact oLie_A (by omega) hc
  · exact oErr_A
theorem fLieP_A {c k x : Nat} (hn : n ≤ 8) (hc : c < 2) : OPA n (fLieP n c k x) := by
  unfold fLieP
  split
  · exact oLieP_A (by omega) hc
  · exact oErr_A
theorem fStl_A {c k d : Nat} (hn : n ≤ 8) (hc : c < 2) (hd : d < 5) : OPA n (fStl n c k d) := by
  unfold fStl
  split
  · exact oStl_A (by omega) hc hd
  · exact oErr_A
theorem fRen_G {k : Nat} : OPG n (fRen n k) := by
  unfold fRen
  split
  next h => exact oRen_G h
  · exact oErr_G
theorem fBurn_G {k : Nat} : OPG n (fBurn n k) := by
  unfold fBurn
  split
  next h => exact oBurn_G h
  · exact oErr_G
theorem fMrg_G {k : Nat} : OPG n (fMrg n k) := by
  unfold fMrg
  split
  next h => exact oMrg_G h
  · exact oErr_G
theorem fLie_G {c k x q : Nat} (hx : x < 256) (hq : q < 257) : OPG n (fLie n c k x q) := by
  unfold fLie
  split
  next h => exact oLie_G h hx hq
  · exact oErr_G
theorem fLieP_G {c k x : Nat} (hc : c < 2) (hx : x < 256) : OPG n (fLieP n c k x) := by
  unfold fLieP
  split
  next h => exact oLieP_G h hc hx
  · exact oErr_G
theorem fStl_G {c k d : Nat} (hc : c < 2) (hd : d < 5) : OPG n (fStl n c k d) := by
  unfold fStl
  split
  next h => exact oStl_G h hc hd
  · exact oErr_G
theorem l2 {v : Int32} : lowN v 2 < 2 := lowN_lt (by decide)
theorem l5 {v : Int32} : lowN v 4 < 5 := Nat.lt_trans (lowN_lt (by decide)) (by decide)
theorem opK_A (hn : n ≤ 8) (hK : K < 17) : OPA n (opK K a b n) := by
  match K, hK with
  | 0, _ => exact oKeep_A
  | 1, _ => exact oKeep_A
  | 2, _ => exact oKeep_A
  | 3, _ => exact fRen_A hn
  | 4, _ => exact fRen_A hn
  | 5, _ => exact fBurn_A hn
  | 6, _ => exact oSleep_A l2
  | 7, _ => exact fLie_A hn l2
  | 8, _ => exact fLieP_A hn l2
  | 9, _ => exact fLie_A hn l2
  | 10, _ => exact fMrg_A hn
  | 11, _ => exact fMrg_A hn
  | 12, _ => exact fStl_A hn l2 l5
  | 13, _ => exact fStl_A hn l2 l5
  | 14, _ => exact oPas_A hn
  | 15, _ => exact oSet_A (lowN_lt (by decide))
  | 16, _ => exact oSeed_A
  | q + 17, h => exact absurd h (by omega)
theorem opK_G (hK : K < 17) (h3 : 3 ≤ K) : OPG n (opK K a b n) := by
  match K, hK, h3 with
  | 3, _, _ => exact fRen_G
  | 4, _, _ => exact fRen_G
  | 5, _, _ => exact fBurn_G
  | 6, _, _ => exact oSleep_G
  | 7, _, _ => exact fLie_G (lowN_lt (by decide)) (lowN_lt (by decide))
  | 8, _, _ => exact fLieP_G l2 (lowN_lt (by decide))
  | 9, _, _ => exact fLie_G (by decide) (by decide)
  | 10, _, _ => exact fMrg_G
  | 11, _, _ => exact fMrg_G
  | 12, _, _ => exact fStl_G l2 l5
  | 13, _, _ => exact fStl_G l2 l5
  | 14, _, _ => exact oPas_G (by have := @lowN_lt a 9 (by decide); omega)
  | 15, _, _ => exact oSet_G (lowN_lt (by decide))
  | 16, _, _ => exact oSeed_G (nI_pos (by have := @lowN_lt a 10000 (by decide); omega)) (nI_le (b := 9999) (by have := @lowN_lt a 10000 (by decide); omega) (by decide))
  | q + 17, h, _ => exact absurd h (by omega)
theorem tL_change (hX : GX g) (L : LI hp o z n E) (hK : K < 17) : Ci g mL_change [vR (15, 0, 0, 0), vR (16, 0, 0, 0), vI (nI K), vI a, vI b] hp (chR hp o z n K a b) (chH hp o z n K a b) := by
  match K, hK with
  | 0, _ => exact tL_ch_k L (by decide)
  | 1, _ => exact tL_ch_k L (by decide)
  | 2, _ => exact tL_ch_k L (by decide)
  | 3, _ => exact tL_ch_3 L
  | 4, _ => exact tL_ch_4 L
  | 5, _ => exact tL_ch_5 L
  | 6, _ => exact tL_ch_6 L
  | 7, _ => exact tL_ch_7 L
  | 8, _ => exact tL_ch_8 L
  | 9, _ => exact tL_ch_9 L
  | 10, _ => exact tL_ch_10 L
  | 11, _ => exact tL_ch_11 L
  | 12, _ => exact tL_ch_12 L (Or.inl rfl)
  | 13, _ => exact tL_ch_12 L (Or.inr rfl)
  | 14, _ => exact tL_ch_14 L
  | 15, _ => exact tL_ch_15 hX L
  | 16, _ => exact tL_ch_16 L
  | q + 17, h => exact absurd h (by omega)
/-- the same change from a state that is alike: the same answer, and alike behind it -/
theorem ch_AG (L : LI hp o z n E) (L2 : LI h2 o2 z2 n E2) (e : AG hp h2) (hK : K < 17) : chR hp o z n K a b = chR h2 o2 z2 n K a b ∧ AG (chH hp o z n K a b) (chH h2 o2 z2 n K a b) := by
  have D := L.dft (o2 := o) (z2 := z)
  have q := (opK_A (a := a) (b := b) L.n8 hK (hdr hp o z) E D.2.2 D.2.1).2 (hdr h2 o2 z2) (hdr_AG.tr (e.tr hdr_AG.sy))
  exact ⟨q.1, AG.gH.tr (q.2.tr AG.gH.sy)⟩
/-- the row that a change keeps: the state before it -/
theorem ch_row (L : LI hp o z n E) (hK : K < 17) : ∀ c i, relS c i → c.2.1 = 0 → chH hp o z n K a b (c.1, hrow o z + 1, c.2.2) i = hp c i := by
  intro c i hr ht
  have D := L.dft (o2 := o) (z2 := z)
  have q := ((opK_A (a := a) (b := b) L.n8 hK (hdr hp o z) E D.2.2 D.2.1).1).1
  have hc := relS_lt hr
  have e1 : chS hp o z n K a b (c.1, hrow o z + 1, c.2.2) i = hdr hp o z (c.1, hrow o z + 1, c.2.2) i := by
    unfold chS
    rw [recA_a (fun e => by
      have := congrArg Prod.fst e
      have : c.1 = 8 := this
      omega)]
    exact congrFun (q (c.1, hrow o z + 1, c.2.2) (fun h => absurd h.2 (by show ¬ hrow o z + 1 = 0; omega))) i
  have e2 : chH hp o z n K a b (c.1, hrow o z + 1, c.2.2) i = chS hp o z n K a b (c.1, hrow o z + 1, c.2.2) i := by
    unfold chH
    split
    · unfold chT
      split
      · rfl
      · exact hs_a (fun e => by
          have := congrArg Prod.fst e
          have : c.1 = 16 := this
          omega)
    · rfl
  rw [e2, e1]
  have q3 := CPS_rel (hp := hp) (t := hrow o z + 1) (u := 0) (by omega) (c.1, hrow o z + 1, c.2.2) i hr rfl
  rw [show hdr hp o z (c.1, hrow o z + 1, c.2.2) i = hp (c.1, 0, c.2.2) i from q3, ← ht]
/-- the history's numbers behind a change -/
def nO (o z : Nat) (r : Int32) : Nat := if r < 0 then o else if z < 6 then o else (o + 1) % 7
def nZ (z : Nat) (r : Int32) : Nat := if r < 0 then z else if z < 6 then z + 1 else 6
theorem HN.rec {h : HPt} (H : HN h o z) : HN (recA h o z r) (nO o z r) (nZ z r) := by
  obtain ⟨h1, h2, h3, h4⟩ := H
  unfold recA nO nZ
  split
  · exact ⟨h1, h2, h3, h4⟩
  · unfold recH
    split
    · exact ⟨h1, by omega, by rw [hs_i (by decide)]; exact h3, hs_eq⟩
    next hz =>
      obtain rfl : z = 6 := by omega
      exact ⟨Nat.mod_lt _ (by decide), by decide, hs_eq, by rw [hs_i (by decide)]; exact h4⟩
theorem recA_WT {h : HPt} (hW : WT h) : WT (recA h o z r) := by
  unfold recA
  split
  · exact hW
  · unfold recH
    split
    · exact hW.set (okv_free rfl rfl)
    · exact hW.set (okv_free rfl rfl)
theorem keep_e {x : Nat} (h : GO hp n E) (hr : (oKeep x hp).1 < 0) : (oKeep x hp).2 = hp := by
  obtain ⟨k1, k2⟩ := h.kept
  unfold oKeep at hr ⊢
  split
  next h8 =>
    split
    · rfl
    next hs =>
      rw [if_pos h8, if_neg hs, k1] at hr
      exact absurd hr (nI_pos (by omega))
  · rfl
theorem HN.cg {h h2 : HPt} (H : HN h o z) (e : ∀ i, h2 (8, 0, 0, 0) i = h (8, 0, 0, 0) i) : HN h2 o z := ⟨H.1, H.2.1, by rw [e]; exact H.2.2.1, by rw [e]; exact H.2.2.2⟩
/-- a change keeps all well -/
theorem ch_LI (L : LI hp o z n E) (hK : K < 17) : ∃ n2, LI (chH hp o z n K a b) (nO o z (chR hp o z n K a b)) (nZ z (chR hp o z n K a b)) n2 (E + 1) ∧ n ≤ n2 ∧ ∀ k, k < n → chH hp o z n K a b (16, 0, 0, 0) k = hp (16, 0, 0, 0) k := by
  have D := L.dft (o2 := o) (z2 := z)
  have q := (opK_A (a := a) (b := b) L.n8 hK (hdr hp o z) E D.2.2 D.2.1).1
  have HS : HN (chS hp o z n K a b) (nO o z (chR hp o z n K a b)) (nZ z (chR hp o z n K a b)) := HN.rec (D.1.off q.1)
  have WS : WT (chS hp o z n K a b) := recA_WT q.2
  have e16 : ∀ k, chS hp o z n K a b (16, 0, 0, 0) k = hp (16, 0, 0, 0) k := fun k => by
    unfold chS
    rw [recA_a (by decide), q.1.k (a := (16, 0, 0, 0)) (by decide)]
    exact hdr_k (by decide)
  by_cases h3 : 3 ≤ K
  · have eH : chH hp o z n K a b = chS hp o z n K a b := if_neg (by omega)
    rw [eH]
    refine ⟨n, ⟨HS, WS, ?_⟩, Nat.le_refl _, fun k _ => e16 k⟩
    refine (opK_G (a := a) (b := b) hK h3 (hdr hp o z) E D.2.2 D.2.1).cg AG.r8 (fun k _ => ?_)
    unfold chS
    rw [recA_a (by decide)]
  · have eH : chH hp o z n K a b = chT (chS hp o z n K a b) (chR hp o z n K a b) (nI (lowN a 256)) := if_pos (by omega)
    have eo : opK K a b n = oKeep (lowN a 256) := by
      rcases (show K = 0 ∨ K = 1 ∨ K = 2 by omega) with rfl | rfl | rfl <;> rfl
    have hR : chR hp o z n K a b = (oKeep (lowN a 256) (hdr hp o z)).1 := by
      unfold chR
      rw [eo]
    rw [eH]
    unfold chT
    by_cases hr : chR hp o z n K a b < 0
    · rw [if_pos hr]
      refine ⟨n, ⟨HS, WS, ?_⟩, Nat.le_refl _, fun k _ => e16 k⟩
      have hk : (opK K a b n (hdr hp o z)).2 = hdr hp o z := by
        rw [eo]
        exact keep_e D.2.2 (by rw [← hR]; exact hr)
      refine (D.2.2.mono (Nat.le_succ E)).cg (AG.gS.tr (by rw [hk]; exact AG.rf)) (fun k _ => ?_)
      rw [e16]
      exact (hdr_k (by decide)).symm
    · rw [if_neg hr]
      obtain ⟨k1, k2, k3⟩ := keep_r D.2.2 (by rw [← hR]; exact hr)
      have hc : (chR hp o z n K a b).toNatClampNeg = n := by
        rw [hR, k1, nI_clamp (by omega)]
      rw [hc]
      have eS : ∀ c i, c.1 < 8 → chS hp o z n K a b c i = hset (MV (hdr hp o z) 0 n (nI (lowN a 256))) (0, 0, 0, 0) 3 (nI (n + 1)) c i := fun c i h8 => by
        unfold chS
        rw [recA_a (fun e => by rw [e] at h8; exact absurd h8 (by decide)), eo, k3]
      refine ⟨n + 1, ⟨HS.cg (fun i => hs_a (by decide)), WS.set (okv_free rfl rfl), ?_⟩, Nat.le_succ _, fun k hk => by rw [hs_i (by omega)]; exact e16 k⟩
      refine (kp_GO (val := lowN a 256) D.2.2 k2 (lowN_lt (by decide)) (fun c i h0 h8 => ?_) (fun i h3 => ?_) ?_ (fun k hk => ?_) hs_eq).mono (Nat.le_succ E)
      · rw [hs_a (fun e => by rw [e] at h8; exact absurd h8 (by decide)), eS c i h8, hs_a (fun e => h0 (by rw [e]))]
      · rw [hs_a (by decide), eS _ i (by decide), hs_i h3]
      · rw [hs_a (by decide), eS _ 3 (by decide), hs_eq]
      · rw [hs_i hk, e16]
        exact (hdr_k (by decide)).symm
/-- how far a merger that is tried goes -/
theorem ch_mg (L : LI hp o z n E) (hK : K = 10 ∨ K = 11) : chR hp o z n K a b = if lowN a (n + 1) < n then (if fSlp hp 0 = true then -5 else fMerge hp 0 (lowN a (n + 1))) else -1 := by
  have h8 := L.n8
  have e := hdr_AG (hp := hp) (o := o) (z := z)
  have eR : chR hp o z n K a b = (fMrg n (lowN a (n + 1)) (hdr hp o z)).1 := by
    rcases hK with rfl | rfl <;> rfl
  rw [eR]
  unfold fMrg
  split
  next h =>
    unfold oMrg
    rw [e.slp, e.merge (j := lowN a (n + 1)) (by omega)]
    split <;> rfl
  · rfl
/-- an undo right behind a change: the state before it -/
theorem un_LI (L : LI hp o z n E) (hK : K < 17) (hr : ¬ chR hp o z n K a b < 0) : ∃ y o4, y = (if z = 6 then 5 else z) ∧ Ci g mX6_undo [vR (15, 0, 0, 0)] (hdr (chH hp o z n K a b) (nO o z (chR hp o z n K a b)) (nZ z (chR hp o z n K a b))) (nI y) (CPS (hset (hdr (chH hp o z n K a b) (nO o z (chR hp o z n K a b)) (nZ z (chR hp o z n K a b))) (8, 0, 0, 0) 2 (nI y)) 0 (hrow o z + 1)) ∧ LI (CPS (hset (hdr (chH hp o z n K a b) (nO o z (chR hp o z n K a b)) (nZ z (chR hp o z n K a b))) (8, 0, 0, 0) 2 (nI y)) 0 (hrow o z + 1)) o4 y n E ∧ AG (CPS (hset (hdr (chH hp o z n K a b) (nO o z (chR hp o z n K a b)) (nZ z (chR hp o z n K a b))) (8, 0, 0, 0) 2 (nI y)) 0 (hrow o z + 1)) hp := by
  obtain ⟨n2, L2, hn2, e16⟩ := ch_LI (a := a) (b := b) L hK
  have hrow2 := ch_row (a := a) (b := b) L hK
  have ho := L.1.1
  have hz := L.1.2.1
  have L3 := L2.dft (o2 := nO o z (chR hp o z n K a b)) (z2 := nZ z (chR hp o z n K a b))
  have eO : nO o z (chR hp o z n K a b) = if z < 6 then o else (o + 1) % 7 := if_neg hr
  have eZ : nZ z (chR hp o z n K a b) = if z < 6 then z + 1 else 6 := if_neg hr
  have hZ : nZ z (chR hp o z n K a b) = (if z = 6 then 5 else z) + 1 := by
    rw [eZ]
    split <;> split <;> omega
  have hR1 : hrow (nO o z (chR hp o z n K a b)) (if z = 6 then 5 else z) = hrow o z := by
    rw [eO]
    unfold hrow
    split <;> split <;> omega
  have hR2 : hrow (nO o z (chR hp o z n K a b)) (nZ z (chR hp o z n K a b)) ≠ hrow o z := by
    rw [eO, eZ]
    unfold hrow
    split <;> omega
  generalize nO o z (chR hp o z n K a b) = o2 at *
  generalize nZ z (chR hp o z n K a b) = z2 at *
  generalize chH hp o z n K a b = h2 at *
  subst hZ
  refine ⟨_, o2, rfl, ?_, ?_, ?_⟩
  · have q := tX6_undo (g := g) L3.1 L3.2.1
    rw [hR1] at q
    exact q
  all_goals
    have ag : AG (CPS (hset (hdr h2 o2 ((if z = 6 then 5 else z) + 1)) (8, 0, 0, 0) 2 (nI (if z = 6 then 5 else z))) 0 (hrow o z + 1)) hp := by
      intro c i hr hc
      rw [CPS_rel (by omega) c i hr hc, hs_a (fun e => by
        have := congrArg Prod.fst e
        have : c.1 = 8 := this
        have := relS_lt hr
        omega)]
      have q : hdr h2 o2 ((if z = 6 then 5 else z) + 1) (c.1, hrow o z + 1, c.2.2) i = h2 (c.1, hrow o z + 1, c.2.2) i := CPS_off (Or.inl (by
        show hrow o z + 1 ≠ hrow o2 _ + 1
        omega))
      rw [q]
      exact hrow2 c i hr hc
  · refine ⟨⟨L3.1.1, by split <;> omega, ?_, ?_⟩, CPS_WT (L3.2.1.set (okv_free rfl rfl)), L.2.2.cg ag (fun k hk => ?_)⟩
    · rw [CPS_off (Or.inr (by decide)), hs_i (by decide)]
      exact L3.1.2.2.1
    · rw [CPS_off (Or.inr (by decide)), hs_eq]
    · rw [CPS_off (Or.inr (by decide)), hs_a (by decide), hdr_k (by decide)]
      exact e16 k hk
  · exact ag
end STP
