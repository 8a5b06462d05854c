variable {sr : Nat → Int32}
def offS (hp hA : HPt) : Prop := ∀ a, ¬ (a.1 < 8 ∧ a.2.1 = 0) → hA a = hp a
def offR (hB hD : HPt) : Prop := ∀ a, a ≠ (17, 0, 0, 0) → hD a = hB a
/-- the class and the reference answer alike, and stay alike -/
def OK (g : Gh) (Mc Mr : Md) (ac ar : List Vv) (hp : HPt) (sr : Nat → Int32) : Prop := ∃ r hA, ∃ F : HPt → HPt, Ci g Mc ac hp r hA ∧ WT hA ∧ offS hp hA ∧ LOC F ∧ ∀ hB : HPt, hB (17, 0, 0, 0) = sr → Ci g Mr ar hB r (F hB) ∧ offR hB (F hB) ∧ ∃ n, Rep hA 0 (F hB (17, 0, 0, 0)) n
theorem OK.old {g : Gh} {Mc Mr : Md} {ac ar : List Vv} {hp : HPt} (h : OK g Mc Mr ac ar hp sr) : ∃ r hA, Ci g Mc ac hp r hA ∧ WT hA ∧ offS hp hA ∧ ∀ hB : HPt, hB (17, 0, 0, 0) = sr → ∃ hD, Ci g Mr ar hB r hD ∧ offR hB hD ∧ ∃ n, Rep hA 0 (hD (17, 0, 0, 0)) n := by
  obtain ⟨r, hA, F, h1, h2, h3, -, h5⟩ := h
  exact ⟨r, hA, h1, h2, h3, fun hB e => ⟨F hB, h5 hB e⟩⟩
theorem OK.new {g : Gh} {Mc Mr : Md} {ac ar : List Vv} {hp : HPt} (h : OK g Mc Mr ac ar hp sr) : ∃ r hA s2 n, Ci g Mc ac hp r hA ∧ WT hA ∧ offS hp hA ∧ Rep hA 0 s2 n ∧ ∀ hB : HPt, hB (17, 0, 0, 0) = sr → ∃ hD, Ci g Mr ar hB r hD ∧ offR hB hD ∧ hD (17, 0, 0, 0) = s2 := by
  obtain ⟨r, hA, F, h1, h2, h3, h4, h5⟩ := h
  obtain ⟨-, -, n, hn⟩ := h5 (Zr sr) Zr_17
  refine ⟨r, hA, _, n, h1, h2, h3, hn, fun hB e => ⟨F hB, (h5 hB e).1, (h5 hB e).2.1, h4 _ _ (by rw [e, Zr_17])⟩⟩
theorem offS.rfl' {hp : HPt} : offS hp hp := fun _ _ => rfl
theorem offR.rfl' {hp : HPt} : offR hp hp := fun _ _ => rfl
theorem OK.err {g : Gh} {Mc Mr : Md} {ac ar : List Vv} {hp : HPt} {r : Int32} {n : Nat} (hR : Rep hp 0 sr n) (hW : WT hp) (hc : Ci g Mc ac hp r hp) (hr : ∀ hB : HPt, hB (17, 0, 0, 0) = sr → Ci g Mr ar hB r hB) : OK g Mc Mr ac ar hp sr :=
  ⟨r, hp, fun h => h, hc, hW, offS.rfl', fun _ _ e => e, fun hB e => ⟨hr hB e, offR.rfl', n, by show Rep hp 0 (hB (17, 0, 0, 0)) n; rw [e]; exact hR⟩⟩
theorem i32_le1 {x : Int32} {k : Nat} (hk : k + 1 < 2 ^ 31) : (¬ nI k < x) ↔ x < nI (k + 1) := by
  rw [Int32.lt_iff_toInt_lt, Int32.lt_iff_toInt_lt, nI_toInt (by omega), nI_toInt (by omega)]
  omega
theorem fIn_k {x : Int32} {k : Nat} (hk : k + 1 < 2 ^ 31) : fIn x 0 (nI k) = (!decide (x < 0) && decide (x < nI (k + 1))) := by
  unfold fIn
  congr 1
  rw [Bool.eq_iff_iff]
  simp only [Bool.not_eq_true', decide_eq_false_iff_not, decide_eq_true_eq]
  exact i32_le1 hk
theorem st_eq {x : Int32} : fIn x 0 1 = fSt x := fIn_k (k := 1) (by decide)
theorem pt_eq {x : Int32} : fIn x 0 255 = fPt x := fIn_k (k := 255) (by decide)
theorem tg_eq {x : Int32} : fIn x 0 256 = fTg x := fIn_k (k := 256) (by decide)
theorem pred_eq {x : Int32} {n : Nat} (hn : n < 1000) : fIn x 0 (nI n - 1) = (!decide (x < 0) && decide (x < nI n)) := by
  cases n with
  | zero =>
    unfold fIn
    congr 1
    rw [Bool.eq_iff_iff]
    simp only [Bool.not_eq_true', decide_eq_false_iff_not, decide_eq_true_eq]
    rw [Int32.lt_iff_toInt_lt, Int32.lt_iff_toInt_lt]
    have e1 : (nI 0 - 1).toInt = -1 := by decide
    have e2 : (nI 0).toInt = 0 := by decide
    rw [e1, e2]
    omega
  | succ n =>
    rw [nI_pred]
    exact fIn_k (by omega)
section CND
variable {hp hB : HPt} {n : Nat} {x s : Int32}
theorem has_eq (hG : GL hp 0 sr n) (e : hB (17, 0, 0, 0) = sr) : rHas hB x = fHas hp 0 x := by
  have h1 := hG.1
  have h2 := hG.2.1
  unfold rHas fHas
  rw [e, h2.1, h2.2]
  exact pred_eq (by omega)
theorem half_eq (hG : GL hp 0 sr n) (e : hB (17, 0, 0, 0) = sr) : (fIn s 0 1 && rHas hB x) = fHalf hp 0 s x := by
  rw [has_eq hG e, st_eq]
  rfl
theorem awk_eq (hG : GL hp 0 sr n) (e : hB (17, 0, 0, 0) = sr) : rAwk hB = !fSlp hp 0 := by
  obtain ⟨-, -, -, -, -, -, -, ⟨a, a1, a2⟩, ⟨b, b1, b2⟩, -⟩ := hG
  unfold rAwk fSlp
  rw [e, a1, a2, b1, b2]
  cases a <;> cases b <;> decide
theorem has_of (hG : GL hp 0 sr n) (h : fHas hp 0 x = true) : ∃ j, j < n ∧ x = nI j := by
  unfold fHas at h
  rw [hG.2.1.1] at h
  simp only [Bool.and_eq_true, Bool.not_eq_true', decide_eq_false_iff_not, decide_eq_true_eq] at h
  obtain ⟨j, hj, rfl⟩ := nI_of h.1
  have := hG.1
  exact ⟨j, (nI_ltI hj (by omega)).mp h.2, rfl⟩
theorem st_of (h : fSt s = true) : ∃ b, b < 2 ∧ s = nI b := by
  unfold fSt at h
  simp only [Bool.and_eq_true, Bool.not_eq_true', decide_eq_false_iff_not, decide_eq_true_eq] at h
  obtain ⟨j, hj, rfl⟩ := nI_of h.1
  exact ⟨j, (nI_ltI (b := 2) hj (by decide)).mp h.2, rfl⟩
theorem pt_of (h : fPt s = true) : ∃ b, b < 256 ∧ s = nI b := by
  unfold fPt at h
  simp only [Bool.and_eq_true, Bool.not_eq_true', decide_eq_false_iff_not, decide_eq_true_eq] at h
  obtain ⟨j, hj, rfl⟩ := nI_of h.1
  exact ⟨j, (nI_ltI (b := 256) hj (by decide)).mp h.2, rfl⟩
theorem tg_of (h : fTg s = true) : ∃ b, b < 257 ∧ s = nI b := by
  unfold fTg at h
  simp only [Bool.and_eq_true, Bool.not_eq_true', decide_eq_false_iff_not, decide_eq_true_eq] at h
  obtain ⟨j, hj, rfl⟩ := nI_of h.1
  exact ⟨j, (nI_ltI (b := 257) hj (by decide)).mp h.2, rfl⟩
end CND
theorem AGs.w {hp h1 h2 : HPt} {t t2 j : Nat} {s0 s s1 : Nat → Int32} (e : AGs hp h1 t t2 j s s1) (e4 : ∀ a i, a.1 ≠ 0 → h2 a i = h1 a i) (es : ∀ f, f < 35 → s (cI j f) = s0 (cI j f)) : AGs hp h2 t t2 j s0 s1 := by
  obtain ⟨q4, q5, qs⟩ := e
  refine ⟨fun i a b => ?_, fun b hb => ⟨fun i a c => ?_, fun i a => ⟨?_, ?_⟩⟩, fun f hf => ?_⟩
  · rw [e4 _ _ (by simp)]; exact q4 i a b
  · rw [e4 _ _ (by simp)]; exact (q5 b hb).1 i a c
  · rw [e4 _ _ (by simp)]; exact ((q5 b hb).2 i a).1
  · rw [e4 _ _ (by simp)]; exact ((q5 b hb).2 i a).2
  · rw [← es f hf]; exact qs f hf
theorem MV_offS {hp : HPt} {j : Nat} {v : Int32} : offS hp (MV hp 0 j v) := by
  intro a ha
  funext i
  exact MV_off (fun e => absurd (by rw [e]; decide) ha) (fun e => absurd (by rw [e]; exact ⟨by simp, rfl⟩) ha) (fun b e => ha (by rw [e]; exact ⟨by simp, rfl⟩)) (fun b e => ha (by rw [e]; exact ⟨by simp, rfl⟩))
theorem offS.set {hp hA : HPt} {k j b i : Nat} {x : Int32} (h : offS hp hA) (hk : k < 8) : offS hp (hset hA (k, 0, j, b) i x) := by
  intro a ha
  funext q
  rw [hs_a (fun e => ha (by rw [e]; exact ⟨hk, rfl⟩))]
  exact congrFun (h a ha) q
theorem offR.set {hB hD : HPt} {i : Nat} {x : Int32} (h : offR hB hD) : offR hB (hset hD (17, 0, 0, 0) i x) := by
  intro a ha
  funext q
  rw [hs_a ha]
  exact congrFun (h a ha) q
theorem offR.trans {h1 h2 h3 : HPt} (a : offR h1 h2) (b : offR h2 h3) : offR h1 h3 := fun c hc => (b c hc).trans (a c hc)
theorem offS.trans {h1 h2 h3 : HPt} (a : offS h1 h2) (b : offS h2 h3) : offS h1 h3 := fun c hc => (b c hc).trans (a c hc)
theorem rdr_off {hp : HPt} : offR hp (rdr hp) := offR.rfl'.set
theorem RM_off {hp : HPt} {j : Nat} {v num : Int32} : offR hp (RM hp j v num) := by
  have h1 : offR hp (rm1 hp j v num) := (((rdr_off.set).set).set).set
  have h2 : ∀ (H : HPt) b, offR hp H → offR hp (rm2 H j b) := fun H b h => (h.trans rdr_off).set
  have h3 : ∀ (H : HPt) b, offR hp H → offR hp (rm3 H j b) := fun H b h => (h.trans rdr_off).set
  exact (h3 _ _ (h2 _ _ (h3 _ _ (h2 _ _ h1)))).set
theorem kp_QS {hp : HPt} {n : Nat} {s : Nat → Int32} (h : ZS hp 0 n s) : QS hp 0 n s 0 1 := by
  obtain ⟨z4, z5, zs⟩ := h
  refine ⟨⟨by decide, by decide, by decide⟩, ⟨z4 3 (by decide) (by decide), zs 0 (by decide)⟩, z4 2 (by decide) (by decide), fun r h1 h2 => by omega, ⟨(z5 0 (by decide)).2.2, (z5 1 (by decide)).2.2⟩, fun b hb => ?_, ?_⟩
  · exact ⟨0, 0, by decide, by decide, (z5 b hb).1, zs _ (by omega), (z5 b hb).2.1, zs _ (by omega)⟩
  · unfold Rmis
    rw [zs 1 (by decide), zs 2 (by decide), zs 3 (by decide), zs 4 (by decide), zs 5 (by decide), zs 6 (by decide), z4 4 (by decide) (by decide), z4 5 (by decide) (by decide), z4 6 (by decide) (by decide), z4 7 (by decide) (by decide), z4 8 (by decide) (by decide), z4 9 (by decide) (by decide)]
    exact ⟨rfl, ⟨0, by decide, rfl, rfl⟩, rfl, rfl, ⟨false, rfl, rfl⟩, rfl⟩
theorem kp_Rep {hp hB : HPt} {n val : Nat} (hR : Rep hp 0 sr n) (e : hB (17, 0, 0, 0) = sr) (hn : n < 8) (hv : val < 256) : Rep (hset (MV hp 0 n (nI val)) (0, 0, 0, 0) 3 (nI (n + 1))) 0 (RK hB n (nI val) (17, 0, 0, 0)) (n + 1) := by
  obtain ⟨hG, hS, hZ⟩ := hR
  have hB5 : ∀ i, i ≠ 5 → hset hB (17, 0, 0, 0) 5 (nI (n + 1)) (17, 0, 0, 0) i = sr i := fun i hi => by rw [hs_i hi, e]
  have es : ∀ j f, f < 35 → hset hB (17, 0, 0, 0) 5 (nI (n + 1)) (17, 0, 0, 0) (cI j f) = sr (cI j f) := fun j f _ => hB5 _ (by unfold cI; omega)
  have e4 : ∀ a i, a.1 ≠ 0 → hset (MV hp 0 n (nI val)) (0, 0, 0, 0) 3 (nI (n + 1)) a i = MV hp 0 n (nI val) a i := fun a i h => hs_a (fun q => h (by rw [q]))
  have ag : ∀ j, j ≠ n → AGs hp (hset (MV hp 0 n (nI val)) (0, 0, 0, 0) 3 (nI (n + 1))) 0 0 j sr (RK hB n (nI val) (17, 0, 0, 0)) := fun j hj => (mk_AG hj).w e4 (es j)
  obtain ⟨h1, h2, ⟨x, hx, x1, x2⟩, h4, h5, h6, h7, h8, h9, q1, q2, q3, q4⟩ := hG
  have x2' : hset hB (17, 0, 0, 0) 5 (nI (n + 1)) (17, 0, 0, 0) 3 = nI x := by rw [hB5 3 (by decide)]; exact x2
  refine ⟨?_, fun j hj => ?_, fun j hj hj8 => (hZ j (by omega) hj8).cg (ag j (by omega))⟩
  · obtain ⟨-, -, ⟨-, v8, v9⟩, -⟩ := MV_v (j := n) hx x1 hv
    obtain ⟨-, -, w9, w10⟩ := RM_v (j := n) (num := 1) hx x2' hv
    have o0 : ∀ i, i ≠ 4 → i ≠ 6 → MV hp 0 n (nI val) (0, 0, 0, 0) i = hp (0, 0, 0, 0) i := fun i h4 h6 => MV_off (fun _ => ⟨h4, h6⟩) (by simp) (by simp) (by simp)
    have o2 : ∀ i, MV hp 0 n (nI val) (2, 0, 0, 0) i = hp (2, 0, 0, 0) i := fun i => MV_off (by simp) (by simp) (by simp) (by simp)
    have o3 : ∀ i, MV hp 0 n (nI val) (3, 0, 0, 0) i = hp (3, 0, 0, 0) i := fun i => MV_off (by simp) (by simp) (by simp) (by simp)
    have oS : ∀ i, i ≠ 3 → i ≠ 8 → i ≠ 5 → i < 12 → RK hB n (nI val) (17, 0, 0, 0) i = sr i := fun i h3 h8 h5 h => by
      unfold RK
      rw [RM_i ⟨h3, h8⟩ (Or.inl (by unfold cI; omega))]
      exact hB5 i h5
    have oS5 : RK hB n (nI val) (17, 0, 0, 0) 5 = nI (n + 1) := by
      unfold RK
      rw [RM_i (by decide) (Or.inl (by unfold cI; omega))]
      exact hs_eq
    have oA : ∀ i, i ≠ 3 → hset (MV hp 0 n (nI val)) (0, 0, 0, 0) 3 (nI (n + 1)) (0, 0, 0, 0) i = MV hp 0 n (nI val) (0, 0, 0, 0) i := fun i hi => hs_i hi
    have oA2 : ∀ i, hset (MV hp 0 n (nI val)) (0, 0, 0, 0) 3 (nI (n + 1)) (2, 0, 0, 0) i = MV hp 0 n (nI val) (2, 0, 0, 0) i := fun i => e4 _ _ (by simp)
    have oA3 : ∀ i, hset (MV hp 0 n (nI val)) (0, 0, 0, 0) 3 (nI (n + 1)) (3, 0, 0, 0) i = MV hp 0 n (nI val) (3, 0, 0, 0) i := fun i => e4 _ _ (by simp)
    unfold GL
    rw [oA 4 (by decide), oA 5 (by decide), oA 6 (by decide), oA 7 (by decide), oA 8 (by decide), oA 9 (by decide), oA2, oA2, oA2, oA3, oA3, o0 5 (by decide) (by decide), o0 7 (by decide) (by decide), o0 8 (by decide) (by decide), o0 9 (by decide) (by decide), o2, o2, o2, o3, o3, oS 0 (by decide) (by decide) (by decide) (by decide), oS 1 (by decide) (by decide) (by decide) (by decide), oS 2 (by decide) (by decide) (by decide) (by decide), oS 4 (by decide) (by decide) (by decide) (by decide), oS 6 (by decide) (by decide) (by decide) (by decide), oS 7 (by decide) (by decide) (by decide) (by decide), oS 9 (by decide) (by decide) (by decide) (by decide), oS 10 (by decide) (by decide) (by decide) (by decide), oS 11 (by decide) (by decide) (by decide) (by decide)]
    refine ⟨hn, ⟨hs_eq, oS5⟩, ⟨_, xk_lt hx 5, v8, w9⟩, h4, h5, h6, h7, h8, h9, ?_, q2, q3, q4⟩
    rw [v9, ← q1]
    show RM _ _ _ _ _ 8 = _
    rw [w10, hB5 8 (by decide)]
  · by_cases hjn : j = n
    · subst hjn
      refine ⟨0, 1, ?_⟩
      have hq : QS hp 0 j (hset hB (17, 0, 0, 0) 5 (nI (j + 1)) (17, 0, 0, 0)) 0 1 := by
        have hz : ZS hp 0 j (hset hB (17, 0, 0, 0) 5 (nI (j + 1)) (17, 0, 0, 0)) := by
          obtain ⟨z4, z5, zs⟩ := hZ j (Nat.le_refl _) hn
          exact ⟨z4, z5, fun f hf => by rw [es j f (by omega)]; exact zs f hf⟩
        exact kp_QS hz
      have hr := mk_RS hx x1 x2' hv hq
      refine hr.cg ⟨fun i _ _ => e4 _ _ (by simp), fun b _ => ⟨fun i _ _ => e4 _ _ (by simp), fun i _ => ⟨e4 _ _ (by simp), e4 _ _ (by simp)⟩⟩, fun f _ => rfl⟩
    · obtain ⟨m, v, hr⟩ := hS j (by omega)
      exact ⟨m, v, hr.cg (ag j hjn)⟩
theorem OK_keep {g : Gh} {hp : HPt} {n : Nat} {x : Int32} (hR : Rep hp 0 sr n) (hW : WT hp) : OK g mX5_adm mX7_keeps [vR (0, 0, 0, 0), vI x] [vR (16, 0, 0, 0), vI x] hp sr := by
  have hG := hR.1
  cases hx : fPt x
  · exact OK.err hR hW (tX5_adm_e (by decide) hx) (fun hB e => tX7_keeps_e (by rw [pt_eq]; exact hx))
  · have hn8 := hG.1
    by_cases h8 : n = 8
    · subst h8
      exact OK.err hR hW (tX5_adm_e2 (by decide) hx (by rw [hG.2.1.1]; decide)) (fun hB e => tX7_keeps_e2 (by rw [pt_eq]; exact hx) (by rw [e, hG.2.1.2]; rfl))
    · have hlt : hp (0, 0, 0, 0) 3 < 8 := by rw [hG.2.1.1]; exact nI_lt (b := 8) (by omega) (by decide)
      have hne : ¬ sr 5 = 8 := by
        rw [hG.2.1.2, show (8 : Int32) = nI 8 from rfl, nI_eq (by omega) (by decide)]
        exact h8
      cases hs : fSlp hp 0
      · obtain ⟨val, hv, rfl⟩ := pt_of hx
        refine ⟨nI n, _, fun h => RK h n (nI val), tX5_adm (by decide) (by omega) hG.2.1.1 hx hs, (MV_WT hW).set (okv_free rfl rfl), MV_offS.set (by decide), fun _ _ e => RK_loc e, fun hB e => ⟨tX7_keeps (by rw [pt_eq]; exact hx) (by omega) (by rw [e]; exact hG.2.1.2) (by rw [awk_eq hG e, hs]; rfl), (offR.rfl'.set).trans RM_off, n + 1, kp_Rep hR e (by omega) hv⟩⟩
      · exact OK.err hR hW (tX5_adm_e3 (by decide) hx hlt hs) (fun hB e => tX7_keeps_e3 (by rw [pt_eq]; exact hx) (by rw [e]; exact hne) (by rw [awk_eq hG e, hs]; rfl))
