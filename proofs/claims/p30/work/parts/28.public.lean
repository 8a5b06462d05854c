/-- the history's numbers, and all is well -/
def LI (hp : HPt) (o z n E : Nat) : Prop := HN hp o z ∧ WT hp ∧ GO hp n E
/-- the heap behind a draft -/
abbrev hdr (hp : HPt) (o z : Nat) : HPt := CPS hp (hrow o z + 1) 0
section PUB
variable {g : Gh} {hp h1 : HPt} {o z n k b E : Nat}
theorem HN.off (h : HN hp o z) (e : offS hp h1) : HN h1 o z := ⟨h.1, h.2.1, by rw [e.k (a := (8, 0, 0, 0)) (by decide)]; exact h.2.2.1, by rw [e.k (a := (8, 0, 0, 0)) (by decide)]; exact h.2.2.2⟩
theorem hdr_AG : AG (hdr hp o z) hp := by
  rintro ⟨k, t, j, b⟩ i hr ht
  have ht : t = 0 := ht
  subst ht
  exact CPS_off (Or.inl (by show 0 ≠ hrow o z + 1; omega))
theorem hdr_k {a : A4} (ha : 8 ≤ a.1) {i : Nat} : hdr hp o z a i = hp a i := CPS_off (Or.inr ha)
theorem LI.dft (L : LI hp o z n E) {o2 z2 : Nat} : LI (hdr hp o2 z2) o z n E := by
  obtain ⟨⟨h1, h2, h3, h4⟩, hW, hG⟩ := L
  exact ⟨⟨h1, h2, by rw [hdr_k (by decide)]; exact h3, by rw [hdr_k (by decide)]; exact h4⟩, CPS_WT hW, hG.cg hdr_AG (fun k _ => hdr_k (by decide))⟩
theorem LI.n8 (L : LI hp o z n E) : n ≤ 8 := L.2.2.kept.2
theorem LI.hn (L : LI hp o z n E) {f : RO} (hf : OPA n f) : HN (f (hdr hp o z)).2 o z := (L.dft.1).off (hf _ E L.dft.2.2 L.dft.2.1).1.1
abbrev fRen (n k : Nat) : RO := if k < n then oRen k else oErr (-1)
abbrev fBurn (n k : Nat) : RO := if k < n then oBurn k else oErr (-1)
abbrev fMrg (n k : Nat) : RO := if k < n then oMrg k else oErr (-1)
abbrev fLie (n b k o q : Nat) : RO := if k < n then oLie b k o q else oErr (-1)
abbrev fLieP (n b k o : Nat) : RO := if k < n then oLieP b k o else oErr (-1)
abbrev fStl (n b k d : Nat) : RO := if k < n then oStl b k d else oErr (-1)
theorem P_keep {x : Nat} (L : LI hp o z n E) (hx : x < 256) : Ci g mX6_keep [vR (15, 0, 0, 0), vI (nI x)] hp (oKeep x (hdr hp o z)).1 (recA (oKeep x (hdr hp o z)).2 o z (oKeep x (hdr hp o z)).1) := by
  have hA := L.hn (oKeep_A (n := n) (x := x))
  refine tX6_keep ?_ L.1 L.2.1 hA
  obtain ⟨k1, k2⟩ := (L.dft (o2 := o) (z2 := z)).2.2.kept
  have hpt := fPt_nI hx
  show Ci g mX5_adm _ (hdr hp o z) _ _
  generalize hdr hp o z = h at *
  unfold oKeep
  by_cases h8 : h (0, 0, 0, 0) 3 < 8
  · rw [if_pos h8]
    have hn8 : n < 8 := by
      rw [k1] at h8
      exact (nI_ltI (b := 8) (by omega) (by decide)).mp h8
    cases hs : fSlp h 0
    · rw [if_neg (by decide)]
      exact (tX5_adm (by decide) hn8 k1 hpt hs).eq k1.symm (by rw [k1, nI_clamp (by omega), nI_1])
    · rw [if_pos rfl]
      exact tX5_adm_e3 (by decide) hpt h8 hs
  · rw [if_neg h8]
    exact tX5_adm_e2 (by decide) hpt h8
theorem P_refresh (L : LI hp o z n E) (hk : k ≤ n) : Ci g mX6_refresh [vR (15, 0, 0, 0), vI (nI k)] hp (fRen n k (hdr hp o z)).1 (recA (fRen n k (hdr hp o z)).2 o z (fRen n k (hdr hp o z)).1) := by
  have h8 := L.n8
  have hG := L.dft (o2 := o) (z2 := z)
  by_cases hkn : k < n
  · rw [show fRen n k = oRen k from if_pos hkn]
    refine tX6_refresh ?_ L.1 L.2.1 (L.hn (oRen_A (j := k) (by omega)))
    show Ci g mX5_renew _ (hdr hp o z) _ _
    have hh := hG.2.2.has hkn
    have hw := hG.2.1
    generalize hdr hp o z = h at *
    unfold oRen
    cases hs : (fSlp h 0 || !decide (h (4, 0, k, 0) 2 < 999))
    · rw [if_neg (by decide)]
      simp at hs
      exact tX5_renew (by decide) (by omega) hw hh hs.1 hs.2
    · rw [if_pos rfl]
      exact tX5_renew_e2 (by decide) (by omega) hh hs
  · obtain rfl : k = n := by omega
    rw [show fRen k k = oErr (-1) from if_neg hkn]
    exact tX6_refresh (tX5_renew_e (by decide) hG.2.2.hasn) L.1 L.2.1 (L.hn oErr_A)
theorem P_burn (L : LI hp o z n E) (hk : k ≤ n) : Ci g mX6_burn [vR (15, 0, 0, 0), vI (nI k)] hp (fBurn n k (hdr hp o z)).1 (recA (fBurn n k (hdr hp o z)).2 o z (fBurn n k (hdr hp o z)).1) := by
  have h8 := L.n8
  have hG := L.dft (o2 := o) (z2 := z)
  by_cases hkn : k < n
  · rw [show fBurn n k = oBurn k from if_pos hkn]
    refine tX6_burn ?_ L.1 L.2.1 (L.hn (oBurn_A (j := k) (by omega)))
    show Ci g mX5_burnOldVersions _ (hdr hp o z) _ _
    have hh := hG.2.2.has hkn
    generalize hdr hp o z = h at *
    unfold oBurn
    cases hs : fSlp h 0
    · rw [if_neg (by decide)]
      exact tX5_burnOldVersions (by decide) (by omega) hh hs
    · rw [if_pos rfl]
      exact tX5_burnOldVersions_e2 (by decide) (by omega) hh hs
  · obtain rfl : k = n := by omega
    rw [show fBurn k k = oErr (-1) from if_neg hkn]
    exact tX6_burn (tX5_burnOldVersions_e (by decide) hG.2.2.hasn) L.1 L.2.1 (L.hn oErr_A)
theorem P_merge (L : LI hp o z n E) (hk : k ≤ n) : Ci g mX6_merge [vR (15, 0, 0, 0), vI (nI k)] hp (fMrg n k (hdr hp o z)).1 (recA (fMrg n k (hdr hp o z)).2 o z (fMrg n k (hdr hp o z)).1) := by
  have h8 := L.n8
  have hG := L.dft (o2 := o) (z2 := z)
  by_cases hkn : k < n
  · rw [show fMrg n k = oMrg k from if_pos hkn]
    refine tX6_merge ?_ L.1 L.2.1 (L.hn (oMrg_A (j := k) (by omega)))
    show Ci g mX5_mergeParts _ (hdr hp o z) _ _
    have hh := hG.2.2.has hkn
    have hp0 : 0 ≤ fMerge (hdr hp o z) 0 k := by
      obtain ⟨m, v, c, -, hS, -⟩ := hG.2.2
      exact mg_pos (hS k hkn)
    generalize hdr hp o z = h at *
    unfold oMrg
    cases hs : fSlp h 0
    · rw [if_neg (by decide)]
      exact tX5_mergeParts (by decide) (by omega) hh hs hp0
    · rw [if_pos rfl]
      exact tX5_mergeParts_e2 (by decide) (by omega) hh hs
  · obtain rfl : k = n := by omega
    rw [show fMrg k k = oErr (-1) from if_neg hkn]
    exact tX6_merge (tX5_mergeParts_e (by decide) hG.2.2.hasn) L.1 L.2.1 (L.hn oErr_A)
theorem P_sleep (L : LI hp o z n E) (hb : b < 2) : Ci g mX6_sleep [vR (15, 0, 0, 0), vI (nI b)] hp (oSleep b (hdr hp o z)).1 (recA (oSleep b (hdr hp o z)).2 o z (oSleep b (hdr hp o z)).1) :=
  tX6_sleep (tX5_turnSleep (by decide) hb) L.1 L.2.1 (L.hn (oSleep_A hb))
theorem fTg_nI {r : Nat} (h : r < 257) : fTg (nI r) = true := by
  unfold fTg
  have h1 : ¬ nI r < 0 := nI_pos (by omega)
  have h2 : nI r < 257 := nI_lt (b := 257) h (by decide)
  simp [h1, h2]
theorem P_lie {x q : Nat} (L : LI hp o z n E) (hk : k ≤ n) (hb : b < 2) (hx : x < 256) (hq : q < 257) : Ci g mX6_lie [vR (15, 0, 0, 0), vI (nI b), vI (nI k), vI (nI x), vI (nI q)] hp (fLie n b k x q (hdr hp o z)).1 (recA (fLie n b k x q (hdr hp o z)).2 o z (fLie n b k x q (hdr hp o z)).1) := by
  have h8 := L.n8
  have hG := L.dft (o2 := o) (z2 := z)
  by_cases hkn : k < n
  · rw [show fLie n b k x q = oLie b k x q from if_pos hkn]
    exact tX6_lie (tX5_takeUpLie (by decide) (by omega) hb (hG.2.2.half hkn hb) (fPt_nI hx) (fTg_nI hq)) L.1 L.2.1 (L.hn (oLie_A (j := k) (by omega) hb))
  · obtain rfl : k = n := by omega
    rw [show fLie k b k x q = oErr (-1) from if_neg hkn]
    exact tX6_lie (tX5_takeUpLie_e (by decide) hG.2.2.halfn) L.1 L.2.1 (L.hn oErr_A)
theorem P_lieP {x : Nat} (L : LI hp o z n E) (hk : k < n) (hb : b < 2) (hx : x < 256) : Ci g mX6_lie [vR (15, 0, 0, 0), vI (nI b), vI (nI k), vI (nI x), vI (fPass hp 0 k b (nI x))] hp (fLieP n b k x (hdr hp o z)).1 (recA (fLieP n b k x (hdr hp o z)).2 o z (fLieP n b k x (hdr hp o z)).1) := by
  have h8 := L.n8
  have hG := L.dft (o2 := o) (z2 := z)
  have e := hdr_AG (hp := hp) (o := o) (z := z)
  obtain ⟨q1, q2⟩ := pasN_lt hG.2.2 hk hb hx
  rw [show fLieP n b k x = oLieP b k x from if_pos hk, ← e.pass (by omega) hb, q2]
  exact tX6_lie (tX5_takeUpLie (by decide) (by omega) hb (hG.2.2.half hk hb) (fPt_nI hx) (fTg_nI q1)) L.1 L.2.1 (L.hn (oLieP_A (j := k) (by omega) hb))
theorem P_steal_e {s v : Int32} (L : LI hp o z n E) {d : Nat} : Ci g mX6_steal [vR (15, 0, 0, 0), vI s, vI (nI n), vI v] hp (fStl n b n d (hdr hp o z)).1 (recA (fStl n b n d (hdr hp o z)).2 o z (fStl n b n d (hdr hp o z)).1) := by
  rw [show fStl n b n d = oErr (-1) from if_neg (Nat.lt_irrefl n)]
  exact tX6_steal (tX5_givePartToThief_e (by decide) (L.dft (o2 := o) (z2 := z)).2.2.halfn) L.1 L.2.1 (L.hn oErr_A)
theorem P_steal {d : Nat} (L : LI hp o z n E) (hk : k < n) (hb : b < 2) (hd : d < 5) : Ci g mX6_steal [vR (15, 0, 0, 0), vI (nI b), vI (nI k), vI (hp (4, 0, k, 0) 2 - nI d)] hp (fStl n b k d (hdr hp o z)).1 (recA (fStl n b k d (hdr hp o z)).2 o z (fStl n b k d (hdr hp o z)).1) := by
  have h8 := L.n8
  have hG := L.dft (o2 := o) (z2 := z)
  have e := hdr_AG (hp := hp) (o := o) (z := z)
  rw [show fStl n b k d = oStl b k d from if_pos hk, ← e.c4 (j := k) (i := 2) (by omega) (by decide) (by decide)]
  refine tX6_steal ?_ L.1 L.2.1 (L.hn (oStl_A (j := k) (by omega) hb hd))
  show Ci g mX5_givePartToThief _ (hdr hp o z) _ _
  have hh := hG.2.2.half hk hb
  have hw := hG.2.1
  obtain ⟨m, v, c, -, hS, -⟩ := hG.2.2
  have hSk := hS k hk
  generalize hdr hp o z = h at *
  obtain ⟨⟨m5, mv, v9⟩, ⟨a1, a2, -⟩, -⟩ := hSk
  unfold oStl
  by_cases hc : h (4, 0, k, 0) 3 < nI d
  · rw [if_pos hc]
    refine tX5_givePartToThief_e2 (by decide) (by omega) hh ?_
    rw [a1] at hc
    have hc2 := (nI_ltI (by omega) (by omega)).mp hc
    rw [a2, a1, pk_sub (a := v k) (b := m k) (by omega)]
    by_cases hdv : d ≤ v k
    · rw [pk_sub hdv]
      have q : ¬ nI (v k - m k) ≤ nI (v k - d) := fun q => by
        have := (nI_leI (by omega) (by omega)).mp q
        omega
      simp [q]
    · have q0 := pk_sneg (a := v k) (b := d) (by omega) (by omega)
      have q : ¬ nI (v k - m k) ≤ nI (v k) - nI d := fun q => absurd (Int32.lt_of_le_of_lt q q0) (nI_pos (by omega))
      simp [q]
  · rw [if_neg hc]
    rw [a1] at hc
    have hdm : d ≤ m k := by
      apply Nat.le_of_not_lt
      intro q
      exact hc (nI_lt q (by omega))
    refine tX5_givePartToThief (by decide) (by omega) hb hd hw hh ?_ ?_ ?_
    · rw [a2, pk_sub (by omega)]
      exact nI_nlt (by omega) (by omega)
    · rw [a2, a1, pk_sub (by omega), pk_sub (by omega)]
      exact nI_le (by omega) (by omega)
    · rw [a2, pk_sub (by omega), pk_sub (by omega)]
      congr 1
      omega
theorem P_pass (L : LI hp o z n E) (h1 : 1 ≤ k) (hk : k < 100) : Ci g mX6_pass [vR (15, 0, 0, 0), vI (nI k)] hp (oPas n k (hdr hp o z)).1 (recA (oPas n k (hdr hp o z)).2 o z (oPas n k (hdr hp o z)).1) := by
  have h8 := L.n8
  have hG := L.dft (o2 := o) (z2 := z)
  refine tX6_pass ?_ L.1 L.2.1 (L.hn (oPas_A h8))
  show Ci g mX5_passBeats _ (hdr hp o z) _ _
  obtain ⟨k1, k2⟩ := hG.2.2.kept
  have hw := hG.2.1
  have a1 : ¬ nI k < 1 := nI_nlt (b := 1) h1 (by omega)
  have a2 : nI k ≤ 99 := nI_le (b := 99) (by omega) (by decide)
  generalize hdr hp o z = h at *
  unfold oPas
  by_cases hc : h (0, 0, 0, 0) 5 + nI k ≤ 9999
  · rw [if_pos hc]
    exact tX5_passBeats (by decide) h8 k1 hw hk a1 a2 hc
  · rw [if_neg hc]
    exact tX5_passBeats_e2 (by decide) a1 a2 hc
theorem P_set {w : Int32} (hX : GX g) (L : LI hp o z n E) (hk : k < 3) : Ci g mX6_set [vR (15, 0, 0, 0), vI (nI k), vI w] hp (oSet k w (hdr hp o z)).1 (recA (oSet k w (hdr hp o z)).2 o z (oSet k w (hdr hp o z)).1) := by
  refine tX6_set ?_ L.1 L.2.1 (L.hn (oSet_A hk))
  show Ci g mX5_changeSetting _ (hdr hp o z) _ _
  generalize hdr hp o z = h
  unfold oSet
  cases hc : (!decide (w < fL k) && decide (w ≤ fM k))
  · rw [if_neg (by decide)]
    exact tX5_changeSetting_e2 hX (by decide) hk hc
  · rw [if_pos rfl]
    simp only [Bool.and_eq_true, Bool.not_eq_true', decide_eq_false_iff_not, decide_eq_true_eq] at hc
    exact tX5_changeSetting hX (by decide) hk hc.1 hc.2
theorem P_seed {w : Int32} (L : LI hp o z n E) (a1 : ¬ w < 0) (a2 : w ≤ 9999) : Ci g mX6_seed [vR (15, 0, 0, 0), vI w] hp (oSeed w (hdr hp o z)).1 (recA (oSeed w (hdr hp o z)).2 o z (oSeed w (hdr hp o z)).1) :=
  tX6_seed (tX5_changeX (by decide) a1 a2) L.1 L.2.1 (L.hn oSeed_A)
end PUB
