abbrev RO : Type := HPt → Int32 × HPt
def oErr (r : Int32) : RO := fun hp => (r, hp)
def oKeep (x : Nat) : RO := fun hp => if hp (0, 0, 0, 0) 3 < 8 then (if fSlp hp 0 = true then (-5, hp) else (hp (0, 0, 0, 0) 3, hset (MV hp 0 (hp (0, 0, 0, 0) 3).toNatClampNeg (nI x)) (0, 0, 0, 0) 3 (hp (0, 0, 0, 0) 3 + 1))) else (-4, hp)
def oRen (j : Nat) : RO := fun hp => if (fSlp hp 0 || !decide (hp (4, 0, j, 0) 2 < 999)) = true then (-5, hp) else (MN hp 0 j (4, 0, j, 0) 2, MN hp 0 j)
def oBurn (j : Nat) : RO := fun hp => if fSlp hp 0 = true then (-5, hp) else (hp (4, 0, j, 0) 3, hset (hset hp (4, 0, j, 0) 3 0) (0, 0, 0, 0) 7 (hp (0, 0, 0, 0) 7 + hp (4, 0, j, 0) 3))
def oSleep (b : Nat) : RO := fun hp => (bi (decide (hp (3, 0, 0, 0) b = 0)), hset hp (3, 0, 0, 0) b (bi (decide (hp (3, 0, 0, 0) b = 0))))
def oLie (b j o q : Nat) : RO := fun hp => (hp (5, 0, j, b) 5, hset (hset hp (5, 0, j, b) 5 (nI o)) (5, 0, j, b) 6 (nI q))
def pasN (hp : HPt) (j b o : Nat) : Nat := (fPass hp 0 j b (nI o)).toNatClampNeg
def oLieP (b j o : Nat) : RO := fun hp => oLie b j o (pasN hp j b o) hp
def oMrg (j : Nat) : RO := fun hp => if fSlp hp 0 = true then (-5, hp) else (fMerge hp 0 j, MG hp 0 j)
def oStl (b j d : Nat) : RO := fun hp => if hp (4, 0, j, 0) 3 < nI d then (-1, hp) else (hp (6, 0, j, b) d, thB hp 0 j b d)
def oPas (n k : Nat) : RO := fun hp => if hp (0, 0, 0, 0) 5 + nI k ≤ 9999 then (PBs hp 0 n k (0, 0, 0, 0) 6 - hp (0, 0, 0, 0) 6, PBs hp 0 n k) else (-5, hp)
def oSet (k : Nat) (w : Int32) : RO := fun hp => if (!decide (w < fL k) && decide (w ≤ fM k)) = true then (hp (2, 0, 0, 0) k, hset hp (2, 0, 0, 0) k w) else (-2, hp)
def oSeed (w : Int32) : RO := fun hp => (hp (0, 0, 0, 0) 4, hset hp (0, 0, 0, 0) 4 w)
/-- an op touches the Stores 0 alone, and what it does depends on that alone -/
def OPA (n : Nat) (f : RO) : Prop := ∀ hp E, GO hp n E → WT hp → (offS hp (f hp).2 ∧ WT (f hp).2) ∧ ∀ hB, AG hp hB → (f hp).1 = (f hB).1 ∧ AG (f hp).2 (f hB).2
/-- it keeps all well -/
def OPG (n : Nat) (f : RO) : Prop := ∀ hp E, GO hp n E → WT hp → GO (f hp).2 n (E + 1)
section OPF
variable {n j b d o q k E : Nat} {hp : HPt} {w : Int32}
theorem GO.kept (h : GO hp n E) : hp (0, 0, 0, 0) 3 = nI n ∧ n ≤ 8 := by
  obtain ⟨m, v, c, hG, -⟩ := h
  exact ⟨hG.1.2, hG.1.1⟩
theorem GO.has (h : GO hp n E) (hj : j < n) : fHas hp 0 (nI j) = true := by
  obtain ⟨h1, h2⟩ := h.kept
  unfold fHas
  rw [h1]
  have e1 : ¬ nI j < 0 := nI_pos (by omega)
  have e2 : nI j < nI n := nI_lt hj (by omega)
  simp [e1, e2]
theorem GO.hasn (h : GO hp n E) : fHas hp 0 (nI n) = false := by
  obtain ⟨h1, h2⟩ := h.kept
  unfold fHas
  rw [h1]
  have e2 : ¬ nI n < nI n := nI_nlt (Nat.le_refl _) (by omega)
  simp [e2]
theorem GO.half (h : GO hp n E) (hj : j < n) (hb : b < 2) : fHalf hp 0 (nI b) (nI j) = true := by
  unfold fHalf
  rw [h.has hj, fSt_nI hb]
  rfl
theorem GO.halfn (h : GO hp n E) {s : Int32} : fHalf hp 0 s (nI n) = false := by
  unfold fHalf
  rw [h.hasn]
  exact Bool.and_false _
theorem oErr_A {r : Int32} : OPA n (oErr r) := fun hp E h hW => ⟨⟨offS.rfl', hW⟩, fun hB e => ⟨rfl, e⟩⟩
theorem oErr_G {r : Int32} : OPG n (oErr r) := fun hp E h hW => h.mono (Nat.le_succ _)
theorem oKeep_A {x : Nat} : OPA n (oKeep x) := by
  intro hp E h hW
  obtain ⟨h1, h2⟩ := h.kept
  refine ⟨?_, fun hB e => ?_⟩
  · unfold oKeep
    split
    · split
      · exact ⟨offS.rfl', hW⟩
      · exact ⟨MV_offS.set (by decide), (MV_WT hW).set (okv_free rfl rfl)⟩
    · exact ⟨offS.rfl', hW⟩
  · unfold oKeep
    rw [← e.c0 (i := 3) (by decide) (by decide), ← e.slp]
    split
    next hlt =>
      split
      · exact ⟨rfl, e⟩
      · refine ⟨rfl, (e.gMV ?_).set rfl⟩
        rw [h1] at hlt ⊢
        rw [nI_clamp (by omega)]
        exact (nI_ltI (b := 8) (by omega) (by decide)).mp hlt
    · exact ⟨rfl, e⟩
theorem oRen_A (hj : j < 8) : OPA n (oRen j) := by
  intro hp E h hW
  refine ⟨?_, fun hB e => ?_⟩
  · unfold oRen
    split
    · exact ⟨offS.rfl', hW⟩
    · exact ⟨MN_offS, MN_WT hW⟩
  · unfold oRen
    rw [← e.c4 hj (i := 2) (by decide) (by decide), ← e.slp]
    split
    · exact ⟨rfl, e⟩
    · exact ⟨(e.gMN hj).c4 hj (by decide) (by decide), e.gMN hj⟩
theorem oRen_G (hj : j < n) : OPG n (oRen j) := by
  intro hp E h hW
  unfold oRen
  split
  · exact h.mono (Nat.le_succ _)
  next hc =>
    refine (nx_GO h hj ?_).mono (Nat.le_succ _)
    simp at hc
    exact hc.2
theorem oBurn_A (hj : j < 8) : OPA n (oBurn j) := by
  intro hp E h hW
  refine ⟨?_, fun hB e => ?_⟩
  · unfold oBurn
    split
    · exact ⟨offS.rfl', hW⟩
    · exact ⟨(offS.rfl'.set (by decide)).set (by decide), (hW.set (okv_free rfl rfl)).set (okv_free rfl rfl)⟩
  · unfold oBurn
    rw [← e.c4 hj (i := 3) (by decide) (by decide), ← e.slp, ← e.c0 (i := 7) (by decide) (by decide)]
    split
    · exact ⟨rfl, e⟩
    · exact ⟨rfl, (e.set rfl).set rfl⟩
theorem oBurn_G (hj : j < n) : OPG n (oBurn j) := by
  intro hp E h hW
  unfold oBurn
  split
  · exact h.mono (Nat.le_succ _)
  · exact (op_burn h hj).mono (Nat.le_succ _)
theorem oSleep_A (hb : b < 2) : OPA n (oSleep b) := by
  intro hp E h hW
  refine ⟨⟨offS.rfl'.set (by decide), hW.set (okv_bi rfl)⟩, fun hB e => ?_⟩
  unfold oSleep
  rw [← e.c3 hb]
  exact ⟨rfl, e.set rfl⟩
theorem oSleep_G : OPG n (oSleep b) := fun hp E h hW => (gl_sleep h).mono (Nat.le_succ _)
theorem oLie_A (hj : j < 8) (hb : b < 2) : OPA n (oLie b j o q) := by
  intro hp E h hW
  refine ⟨⟨(offS.rfl'.set (by decide)).set (by decide), (hW.set (okv_free rfl rfl)).set (okv_free rfl rfl)⟩, fun hB e => ?_⟩
  unfold oLie
  rw [← e.c5 hj hb (i := 5) (by decide) (by decide)]
  exact ⟨rfl, (e.set rfl).set rfl⟩
theorem oLie_G (hj : j < n) (ho : o < 256) (hq : q < 257) : OPG n (oLie b j o q) := fun hp E h hW => (op_lie h hj ho hq).mono (Nat.le_succ _)
theorem AG.pass {hA hB : HPt} {v : Int32} (e : AG hA hB) (hj : j < 8) (hb : b < 2) : fPass hA 0 j b v = fPass hB 0 j b v := by
  unfold fPass
  rw [e.c5 hj (b := 1 - b) (i := 3) (by omega) (by decide) (by decide), e.c5 hj (b := 1 - b) (i := 4) (by omega) (by decide) (by decide), e.c6 hj hb (by decide), e.c5 hj hb (i := 2) (by decide) (by decide)]
/-- the tag's offset that lets a lie pass is one -/
theorem pas_v (h : GO hp n E) (hj : j < n) (hb : b < 2) (ho : o < 256) : ∃ f p s, 1 ≤ f ∧ f < 257 ∧ p < 256 ∧ s < 257 ∧ fPass hp 0 j b (nI o) = nI (((f * ((p + o) % 256) + s) % 257 + 257 - (f * p + s) % 257) % 257) ∧ hp (6, 0, j, b) 0 = nI p ∧ hp (5, 0, j, b) 2 = nI ((f * p + s) % 257) := by
  obtain ⟨m, v, c, hG, hS, -⟩ := h
  obtain ⟨-, -, a4, a5, -⟩ := hS j hj
  obtain ⟨f, s, f1, f2, s1, e1, e2, e3⟩ := a5 b hb
  have hp0 : ∃ p, p < 256 ∧ hp (6, 0, j, b) 0 = nI p := by
    obtain ⟨p, q, hp1, hq1, c0, c1, -⟩ := a4 0 (Nat.zero_le _)
    match b, hb with
    | 0, _ => exact ⟨p, hp1, c0⟩
    | 1, _ => exact ⟨q, hq1, c1⟩
  obtain ⟨p, hp1, ep⟩ := hp0
  have m1 : ∀ x, x < 256 → f * x + s < 2 ^ 31 := fun x hx => by
    have : f * x ≤ 257 * 256 := Nat.mul_le_mul (by omega) (by omega)
    omega
  have et : hp (5, 0, j, b) 2 = nI ((f * p + s) % 257) := by
    rw [e3, ep, pk_mul, nI_add]
    exact rem7 (m1 p hp1)
  refine ⟨f, p, s, f1, f2, hp1, s1, ?_, ep, et⟩
  unfold fPass
  rw [e1, e2, ep, et, nI_add, rem6 (by omega), pk_mul, nI_add, rem7 (m1 _ (Nat.mod_lt _ (by decide)))]
  have h1 := Nat.mod_lt (f * ((p + o) % 256) + s) (show 257 > 0 by decide)
  have h2 := Nat.mod_lt (f * p + s) (show 257 > 0 by decide)
  exact fFM_7 (by omega) (by omega)
theorem pasN_lt (h : GO hp n E) (hj : j < n) (hb : b < 2) (ho : o < 256) : pasN hp j b o < 257 ∧ fPass hp 0 j b (nI o) = nI (pasN hp j b o) := by
  obtain ⟨f, p, s, -, -, -, -, e, -⟩ := pas_v h hj hb ho
  unfold pasN
  have h1 := Nat.mod_lt ((f * ((p + o) % 256) + s) % 257 + 257 - (f * p + s) % 257) (show 257 > 0 by decide)
  rw [e, nI_clamp (by omega)]
  exact ⟨h1, rfl⟩
theorem oLieP_A (hj : j < 8) (hb : b < 2) : OPA n (oLieP b j o) := by
  intro hp E h hW
  refine ⟨(oLie_A hj hb hp E h hW).1, fun hB e => ?_⟩
  have h2 := (oLie_A (o := o) (q := pasN hp j b o) hj hb hp E h hW).2 hB e
  have ep : pasN hB j b o = pasN hp j b o := by
    unfold pasN
    rw [e.pass hj hb]
  show (oLie b j o (pasN hp j b o) hp).1 = (oLie b j o (pasN hB j b o) hB).1 ∧ AG (oLie b j o (pasN hp j b o) hp).2 (oLie b j o (pasN hB j b o) hB).2
  rw [ep]
  exact h2
theorem oLieP_G (hj : j < n) (hb : b < 2) (ho : o < 256) : OPG n (oLieP b j o) := fun hp E h hW => (op_lie h hj ho (pasN_lt h hj hb ho).1).mono (Nat.le_succ _)
theorem oMrg_A (hj : j < 8) : OPA n (oMrg j) := by
  intro hp E h hW
  refine ⟨?_, fun hB e => ?_⟩
  · unfold oMrg
    split
    · exact ⟨offS.rfl', hW⟩
    · exact ⟨MG_offS, MG_WT hW⟩
  · unfold oMrg
    rw [← e.merge hj, ← e.slp]
    split
    · exact ⟨rfl, e⟩
    · exact ⟨rfl, e.gMG hj⟩
theorem oMrg_G (hj : j < n) : OPG n (oMrg j) := by
  intro hp E h hW
  unfold oMrg
  split
  · exact h.mono (Nat.le_succ _)
  · exact (op_merge h hj).mono (Nat.le_succ _)
theorem oStl_A (hj : j < 8) (hb : b < 2) (hd : d < 5) : OPA n (oStl b j d) := by
  intro hp E h hW
  refine ⟨?_, fun hB e => ?_⟩
  · unfold oStl
    split
    · exact ⟨offS.rfl', hW⟩
    · exact ⟨thB_offS, thB_WT hW⟩
  · unfold oStl
    rw [← e.c4 hj (i := 3) (by decide) (by decide), ← e.c6 hj hb hd]
    split
    · exact ⟨rfl, e⟩
    · exact ⟨rfl, e.gthB hj hb hd⟩
theorem oStl_G (hj : j < n) (hb : b < 2) (hd : d < 5) : OPG n (oStl b j d) := by
  intro hp E h hW
  unfold oStl
  split
  · exact h.mono (Nat.le_succ _)
  next hc =>
    refine op_steal h hj hb hW (fun m hm h5 => ?_)
    rw [hm] at hc
    apply Nat.le_of_not_lt
    intro hq
    exact hc (nI_lt hq (by omega))
theorem oPas_A (hn : n ≤ 8) : OPA n (oPas n k) := by
  intro hp E h hW
  refine ⟨?_, fun hB e => ?_⟩
  · unfold oPas
    split
    · exact ⟨PBs_offS k, PBs_WT hW k⟩
    · exact ⟨offS.rfl', hW⟩
  · unfold oPas
    rw [← e.c0 (i := 5) (by decide) (by decide), ← e.c0 (i := 6) (by decide) (by decide), ← (e.gPBs hn k).c0 (i := 6) (by decide) (by decide)]
    split
    · exact ⟨rfl, e.gPBs hn k⟩
    · exact ⟨rfl, e⟩
theorem GO.beats (h : GO hp n E) : ∃ t, t ≤ 9999 ∧ hp (0, 0, 0, 0) 5 = nI t := by
  obtain ⟨m, v, c, hG, -⟩ := h
  exact hG.2.2.1
theorem oPas_G (hk : k < 100) : OPG n (oPas n k) := by
  intro hp E h hW
  obtain ⟨t, ht, et⟩ := h.beats
  unfold oPas
  split
  next hc =>
    rw [et, nI_add] at hc
    exact (op_PBs h et k ((nI_leI (b := 9999) (by omega) (by decide)).mp hc)).1.mono (Nat.le_succ _)
  · exact h.mono (Nat.le_succ _)
theorem oSet_A (hk : k < 3) : OPA n (oSet k w) := by
  intro hp E h hW
  refine ⟨?_, fun hB e => ?_⟩
  · unfold oSet
    split
    · exact ⟨offS.rfl'.set (by decide), hW.set (okv_free rfl rfl)⟩
    · exact ⟨offS.rfl', hW⟩
  · unfold oSet
    rw [← e.c2 hk]
    split
    · exact ⟨rfl, e.set rfl⟩
    · exact ⟨rfl, e⟩
theorem oSet_G (hk : k < 3) : OPG n (oSet k w) := by
  intro hp E h hW
  unfold oSet
  split
  next hc =>
    simp only [Bool.and_eq_true, Bool.not_eq_true', decide_eq_false_iff_not, decide_eq_true_eq] at hc
    exact (gl_set h hk hc.1 hc.2).mono (Nat.le_succ _)
  · exact h.mono (Nat.le_succ _)
theorem oSeed_A : OPA n (oSeed w) := by
  intro hp E h hW
  refine ⟨⟨offS.rfl'.set (by decide), hW.set (okv_free rfl rfl)⟩, fun hB e => ?_⟩
  unfold oSeed
  rw [← e.c0 (i := 4) (by decide) (by decide)]
  exact ⟨rfl, e.set rfl⟩
theorem oSeed_G (a1 : ¬ w < 0) (a2 : w ≤ 9999) : OPG n (oSeed w) := fun hp E h hW => (gl_seed h a1 a2).mono (Nat.le_succ _)
end OPF
