variable {sr : Nat → Int32}
theorem RS.upd {hp h2 : HPt} {t j m v : Nat} {s s2 : Nat → Int32} (h : RS hp t j s m v) (e3 : h2 (4, t, j, 0) 3 = hp (4, t, j, 0) 3) (e2 : h2 (4, t, j, 0) 2 = hp (4, t, j, 0) 2) (e5 : ∀ b, b < 2 → ∀ i, 2 ≤ i → i < 5 → h2 (5, t, j, b) i = hp (5, t, j, b) i) (e6 : ∀ b, b < 2 → ∀ i, i < 5 → h2 (6, t, j, b) i = hp (6, t, j, b) i ∧ h2 (7, t, j, b) i = hp (7, t, j, b) i) (es0 : s2 (cI j 0) = s (cI j 0)) (es : ∀ f, 11 ≤ f → f < 35 → s2 (cI j f) = s (cI j f)) (ho : ∀ b, b < 2 → Roff h2 t j s2 b) (hm : Rmis h2 t j s2) : RS h2 t j s2 m v := by
  obtain ⟨⟨hm5, hmv, hv⟩, ⟨a1, a2⟩, a3, a4, a5, a6, -, -⟩ := h
  refine ⟨⟨hm5, hmv, hv⟩, ⟨by rw [e3]; exact a1, by rw [es0]; exact a2⟩, by rw [e2]; exact a3, fun r hr => ?_, fun b hb => ?_, fun b hb => ?_, ho, hm⟩
  · have h := a4 r hr
    unfold Rrow at h ⊢
    rw [es _ (by omega) (by omega), es _ (by omega) (by omega), es _ (by omega) (by omega), es _ (by omega) (by omega), (e6 0 (by decide) r (by omega)).1, (e6 0 (by decide) r (by omega)).2, (e6 1 (by decide) r (by omega)).1, (e6 1 (by decide) r (by omega)).2]
    exact h
  · have h := a5 b hb
    unfold Rfac at h ⊢
    rw [es _ (by omega) (by omega), es _ (by omega) (by omega), e5 (1 - b) (by omega) 3 (by decide) (by decide), e5 (1 - b) (by omega) 4 (by decide) (by decide)]
    exact h
  · have h := a6 b hb
    unfold Rtag at h ⊢
    rw [es _ (by omega) (by omega), es _ (by omega) (by omega), es _ (by omega) (by omega), e5 b hb 2 (by decide) (by decide)]
    exact h
theorem Rep.one {hp h2 : HPt} {t j m v n : Nat} {s s2 : Nat → Int32} (hR : Rep hp t s n) (hG : GL h2 t s2 n) (hj : j < n) (ag : ∀ k, k ≠ j → AGs hp h2 t t k s s2) (hS : RS h2 t j s2 m v) : Rep h2 t s2 n := by
  refine ⟨hG, fun k hk => ?_, fun k hk hk8 => (hR.2.2 k hk hk8).cg (ag k (by omega))⟩
  by_cases hkj : k = j
  · subst hkj
    exact ⟨m, v, hS⟩
  · obtain ⟨m2, v2, h⟩ := hR.2.1 k hk
    exact ⟨m2, v2, h.cg (ag k hkj)⟩
theorem RS.cells {hp : HPt} {t j m v : Nat} {s : Nat → Int32} (h : RS hp t j s m v) : ∀ b, b < 2 → hp (5, t, j, 1 - b) 3 = s (cI j (11 + b)) ∧ hp (5, t, j, 1 - b) 4 = s (cI j (13 + b)) ∧ hp (5, t, j, b) 5 = s (cI j (7 + b)) ∧ hp (5, t, j, b) 6 = s (cI j (9 + b)) ∧ hp (6, t, j, b) 0 = s (cI j (16 + b)) ∧ hp (5, t, j, b) 2 = jrem (s (cI j (11 + b)) * s (cI j (16 + b)) + s (cI j (13 + b))) 257 := by
  intro b hb
  obtain ⟨-, -, -, a4, a5, a6, a7, -⟩ := h
  obtain ⟨f, q, -, -, f1, f2, f3, f4⟩ := a5 b hb
  obtain ⟨o, w, -, -, o1, o2, o3, o4⟩ := a7 b hb
  obtain ⟨-, ⟨p0, -, c0, r0⟩, ⟨p1, -, c1, r1⟩, -⟩ := a4 0 (Nat.zero_le _)
  refine ⟨f1.trans f2.symm, f3.trans f4.symm, o1.trans o2.symm, o3.trans o4.symm, ?_, a6 b hb⟩
  match b, hb with
  | 0, _ => exact c0.trans r0.symm
  | 1, _ => exact c1.trans r1.symm
theorem MN_offS {hp : HPt} {j : Nat} : offS hp (MN hp 0 j) := by
  intro a ha
  funext i
  exact MN_off (fun e => absurd (by rw [e]; decide) ha) (fun e => absurd (by rw [e]; exact ⟨by simp, rfl⟩) ha) (fun b e => ha (by rw [e]; exact ⟨by simp, rfl⟩)) (fun b e => ha (by rw [e]; exact ⟨by simp, rfl⟩)) (fun b e => ha (by rw [e]; exact ⟨by simp, rfl⟩))
theorem RB_off {hB : HPt} {j m l : Nat} : offR hB (RB hB j m l) := by
  intro a ha
  funext i
  unfold RB
  rw [hs_a ha]
  exact rbs_a ha _
theorem rf1_off {hB : HPt} {j m o : Nat} : offR hB (rf1 hB j m o) := by
  intro a ha
  funext i
  unfold rf1
  split
  · rw [hs_a ha]
    unfold rsh
    rw [if_neg (fun h => ha h.1)]
    exact congrFun (RB_off a ha) i
  · rw [hs_a ha]
    exact congrFun (RB_off a ha) i
theorem RF_off {hB : HPt} {j m o : Nat} : offR hB (RF hB j m o) := rf1_off.trans RM_off
section O3
variable {g : Gh} {hp : HPt} {n : Nat} {x s : Int32}
theorem GL.old (hG : GL hp 0 sr n) : ∃ o, o < 5 ∧ hp (2, 0, 0, 0) 2 = nI o ∧ sr 2 = nI o := by
  obtain ⟨-, -, -, -, -, -, ⟨o, h1, h2, h3⟩, -⟩ := hG
  exact ⟨o, by omega, h2, h3⟩
theorem ver0 {t j m v : Nat} {s : Nat → Int32} (h : RS hp t j s m v) : s (cI j 15) = nI v := (h.2.2.2.1 0 (Nat.zero_le _)).1
theorem OK_refresh (hR : Rep hp 0 sr n) (hW : WT hp) : OK g mX5_renew mX7_refreshed [vR (0, 0, 0, 0), vI x] [vR (16, 0, 0, 0), vI x] hp sr := by
  have hG := hR.1
  cases hx : fHas hp 0 x
  · exact OK.err hR hW (tX5_renew_e (by decide) hx) (fun hB e => tX7_refreshed_e (by rw [has_eq hG e]; exact hx))
  · obtain ⟨j, hj, rfl⟩ := has_of hG hx
    have hn8 := hG.1
    have hj8 : j < 8 := by omega
    obtain ⟨m, v, hS⟩ := hR.2.1 j hj
    have hv9 := hS.1.2.2
    have ec : hp (4, 0, j, 0) 2 = nI v := hS.2.2.1
    have er := ver0 hS
    by_cases hc : fSlp hp 0 = true ∨ v = 999
    · refine OK.err hR hW (tX5_renew_e2 (by decide) hj8 hx ?_) (fun hB e => tX7_refreshed_e2 hj8 (by rw [has_eq hG e]; exact hx) ?_)
      · rcases hc with h | h
        · simp [h]
        · rw [ec, h]; simp; right; decide
      · unfold rCan
        rw [awk_eq hG e, e, er]
        rcases hc with h | h
        · simp [h]
        · subst h; simp; intro _; decide
    · have hs : fSlp hp 0 = false := by
        cases hq : fSlp hp 0
        · rfl
        · exact absurd (Or.inl hq) hc
      have hv : v < 999 := by
        have : v ≠ 999 := fun h => hc (Or.inr h)
        omega
      obtain ⟨o, ho, hO, hO2⟩ := hG.old
      have key := fun (hB : HPt) (e : hB (17, 0, 0, 0) = sr) => nx_Rep (hp := hp) (hB := hB) (m := m) (v := v) (o := o) (by rw [e]; exact hR) hj (by rw [e]; exact hS) hv ho hO
      refine ⟨_, _, fun h => RF h j m o, tX5_renew (by decide) hj8 hW hx hs (by rw [ec]; exact nI_lt (b := 999) hv (by decide)), MN_WT hW, MN_offS, fun _ _ e => RF_loc e, fun hB e => ⟨?_, RF_off, n, (key hB e).1⟩⟩
      refine (tX7_refreshed hj8 hS.1.1 (by rw [e]; exact hS.2.1.2) ho (by rw [e]; exact hO2) (by rw [has_eq hG e]; exact hx) ?_).eq ?_ rfl
      · unfold rCan
        rw [awk_eq hG e, e, er, hs]
        have : ¬ (999 : Int32) ≤ nI v := nI_ge (b := 999) hv (by decide)
        simp [this]
      · rw [ver0 (key hB e).2, (key hB e).2.2.2.1]
theorem OK_burn (hR : Rep hp 0 sr n) (hW : WT hp) : OK g mX5_burnOldVersions mX7_burnt [vR (0, 0, 0, 0), vI x] [vR (16, 0, 0, 0), vI x] hp sr := by
  have hG := hR.1
  cases hx : fHas hp 0 x
  · exact OK.err hR hW (tX5_burnOldVersions_e (by decide) hx) (fun hB e => tX7_burnt_e (by rw [has_eq hG e]; exact hx))
  · obtain ⟨j, hj, rfl⟩ := has_of hG hx
    have hn8 := hG.1
    have hj8 : j < 8 := by omega
    cases hs : fSlp hp 0
    · obtain ⟨m, v, hS⟩ := hR.2.1 j hj
      have hm := hS.1.1
      refine ⟨_, _, fun h => RB h j m 0, tX5_burnOldVersions (by decide) hj8 hx hs, (hW.set (okv_free rfl rfl)).set (okv_free rfl rfl), (offS.rfl'.set (by decide)).set (by decide), fun _ _ e => RB_loc e, fun hB e => ⟨(tX7_burnt hj8 hm (by rw [e]; exact hS.2.1.2) (by rw [has_eq hG e]; exact hx) (by rw [awk_eq hG e, hs]; rfl)).eq hS.2.1.1.symm rfl, RB_off, n, ?_⟩⟩
      show Rep _ 0 (RB hB j m 0 (17, 0, 0, 0)) n
      have hM : hB (17, 0, 0, 0) (cI j 0) = nI m := by rw [e]; exact hS.2.1.2
      have ei : ∀ i, (i < cI j 0 ∧ i ≠ 9) ∨ (cI j 0 < i ∧ i < cI j 19) ∨ cI j 35 ≤ i → RB hB j m 0 (17, 0, 0, 0) i = sr i := fun i h => by rw [RB_i h hm, e]
      refine hR.one (j := j) (m := 0) (v := v) ?_ hj (fun k hk => ?_) ?_
      · obtain ⟨h1, h2, h3, h4, h5, h6, h7, h8, h9, q1, q2, q3, q4⟩ := hG
        have os : ∀ i, i ≠ 9 → i < 12 → RB hB j m 0 (17, 0, 0, 0) i = sr i := fun i h9 hi => ei i (Or.inl ⟨by unfold cI; omega, h9⟩)
        unfold GL
        rw [os 0 (by decide) (by decide), os 1 (by decide) (by decide), os 2 (by decide) (by decide), os 3 (by decide) (by decide), os 4 (by decide) (by decide), os 5 (by decide) (by decide), os 6 (by decide) (by decide), os 7 (by decide) (by decide), os 8 (by decide) (by decide), os 10 (by decide) (by decide), os 11 (by decide) (by decide), RB_9]
        simp only [hset, Prod.mk.injEq, and_true, and_self, if_false, if_true, Nat.reduceEqDiff, false_and, and_false, reduceCtorEq]
        refine ⟨h1, h2, h3, h4, h5, h6, h7, h8, h9, q1, ?_, q3, q4⟩
        rw [e, q2, hS.2.1.1]
        rfl
      · refine ⟨fun i _ _ => ?_, fun b _ => ⟨fun i _ _ => ?_, fun i _ => ⟨?_, ?_⟩⟩, fun f hf => ei _ (by unfold cI; omega)⟩ <;> simp [hset, hk]
      · obtain ⟨⟨-, hmv, hv⟩, -, a3, a4, a5, a6, a7, a8⟩ := hS
        have em : ∀ f, 1 ≤ f → f < 19 → RB hB j m 0 (17, 0, 0, 0) (cI j f) = sr (cI j f) := fun f h1 h2 => ei _ (by unfold cI; omega)
        refine ⟨⟨by decide, by omega, hv⟩, ⟨by simp [hset]; rfl, ?_⟩, by simp [hset]; exact a3, fun r hr => ?_, fun b hb => ?_, fun b hb => ?_, fun b hb => ?_, ?_⟩
        · unfold RB
          rw [hs_i (by unfold cI; omega), rbs_0 hM]
          congr 1
          omega
        · have : r = 0 := by omega
          subst this
          have h := a4 0 (Nat.zero_le _)
          unfold Rrow at h ⊢
          rw [em _ (by decide) (by decide), em _ (by decide) (by decide), em _ (by decide) (by decide), em _ (by decide) (by decide)]
          simpa [hset] using h
        · have h := a5 b hb
          unfold Rfac at h ⊢
          rw [em _ (by omega) (by omega), em _ (by omega) (by omega)]
          simpa [hset] using h
        · have h := a6 b hb
          unfold Rtag at h ⊢
          rw [em _ (by omega) (by omega), em _ (by omega) (by omega), em _ (by omega) (by omega)]
          simpa [hset] using h
        · have h := a7 b hb
          unfold Roff at h ⊢
          rw [em _ (by omega) (by omega), em _ (by omega) (by omega)]
          simpa [hset] using h
        · unfold Rmis at a8 ⊢
          rw [em 1 (by decide) (by decide), em 2 (by decide) (by decide), em 3 (by decide) (by decide), em 4 (by decide) (by decide), em 5 (by decide) (by decide), em 6 (by decide) (by decide)]
          simpa [hset] using a8
    · exact OK.err hR hW (tX5_burnOldVersions_e2 (by decide) hj8 hx hs) (fun hB e => tX7_burnt_e2 hj8 (by rw [has_eq hG e]; exact hx) (by rw [awk_eq hG e, hs]; rfl))
theorem OK_sleep (hR : Rep hp 0 sr n) (hW : WT hp) : OK g mX5_turnSleep mX7_sleeps [vR (0, 0, 0, 0), vI x] [vR (16, 0, 0, 0), vI x] hp sr := by
  cases hx : fSt x
  · exact OK.err hR hW (tX5_turnSleep_e (by decide) hx) (fun hB e => tX7_sleeps_e (by rw [st_eq]; exact hx))
  · obtain ⟨b, hb, rfl⟩ := st_of hx
    obtain ⟨h1, h2, h3, h4, h5, h6, h7, ⟨c, c1, c2⟩, ⟨d, d1, d2⟩, q1, q2, q3, q4⟩ := hR.1
    have ev : ∃ a : Bool, hp (3, 0, 0, 0) b = bi a ∧ sr (6 + b) = bi a := by
      match b, hb with
      | 0, _ => exact ⟨c, c1, c2⟩
      | 1, _ => exact ⟨d, d1, d2⟩
    obtain ⟨a, a1, a2⟩ := ev
    have e1 : bi (decide (hp (3, 0, 0, 0) b = 0)) = bi (!a) := by rw [a1]; cases a <;> decide
    have e2 : 1 - sr (6 + b) = bi (!a) := by rw [a2]; cases a <;> decide
    have ht := tX5_turnSleep (g := g) (t := 0) (hp := hp) (by decide) hb
    rw [e1] at ht
    refine ⟨_, _, fun h => hset h (17, 0, 0, 0) (6 + b) (bi (!a)), ht, hW.set (okv_bi rfl), offS.rfl'.set (by decide), fun _ _ e => hs_loc e rfl, fun hB e => ?_⟩
    show Ci g mX7_sleeps _ hB _ (hset hB (17, 0, 0, 0) (6 + b) (bi (!a))) ∧ offR hB (hset hB (17, 0, 0, 0) (6 + b) (bi (!a))) ∧ ∃ n, Rep _ 0 (hset hB (17, 0, 0, 0) (6 + b) (bi (!a)) (17, 0, 0, 0)) n
    have hr := tX7_sleeps (g := g) (hp := hB) hb
    rw [e, e2] at hr
    refine ⟨hr, offR.rfl'.set, n, hR.2.1 |> fun hS => ⟨?_, fun j hj => ?_, fun j hj hj8 => ?_⟩⟩
    · have oB : ∀ i, i ≠ 6 + b → hset hB (17, 0, 0, 0) (6 + b) (bi (!a)) (17, 0, 0, 0) i = sr i := fun i hi => by rw [hs_i hi, e]
      unfold GL
      rw [oB 0 (by omega), oB 1 (by omega), oB 2 (by omega), oB 3 (by omega), oB 4 (by omega), oB 5 (by omega), oB 8 (by omega), oB 9 (by omega), oB 10 (by omega), oB 11 (by omega)]
      simp only [hset, Prod.mk.injEq, and_true, and_self, if_false, if_true, Nat.reduceEqDiff, false_and, reduceCtorEq]
      match b, hb with
      | 0, _ => exact ⟨h1, h2, h3, h4, h5, h6, h7, ⟨!a, by simp, by simp⟩, ⟨d, by simpa using d1, by simp [e]; exact d2⟩, q1, q2, q3, q4⟩
      | 1, _ => exact ⟨h1, h2, h3, h4, h5, h6, h7, ⟨c, by simpa using c1, by simp [e]; exact c2⟩, ⟨!a, by simp, by simp⟩, q1, q2, q3, q4⟩
    · obtain ⟨m, v, h⟩ := hS j hj
      refine ⟨m, v, h.cg ⟨fun i _ _ => ?_, fun k _ => ⟨fun i _ _ => ?_, fun i _ => ⟨?_, ?_⟩⟩, fun f hf => ?_⟩⟩
      · simp [hset]
      · simp [hset]
      · simp [hset]
      · simp [hset]
      · rw [hs_i (by unfold cI; omega), e]
    · refine (hR.2.2 j hj hj8).cg ⟨fun i _ _ => ?_, fun k _ => ⟨fun i _ _ => ?_, fun i _ => ⟨?_, ?_⟩⟩, fun f hf => ?_⟩
      · simp [hset]
      · simp [hset]
      · simp [hset]
      · simp [hset]
      · rw [hs_i (by unfold cI; omega), e]
end O3
