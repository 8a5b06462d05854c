/-- what the first heap's numbers are -/
def HPz : HPt := hset (hset (hset HPx (17, 0, 0, 0) 0 1) (17, 0, 0, 0) 2 2) (17, 0, 0, 0) 3 1
theorem HPz_n {a : A4} (h : a ≠ (17, 0, 0, 0)) : HPz a = HPx a := by
  funext i
  unfold HPz
  rw [hs_a h, hs_a h, hs_a h]
theorem HPz_s {i : Nat} : HPz (17, 0, 0, 0) i = if i = 3 then 1 else if i = 2 then 2 else if i = 0 then 1 else 0 := by
  unfold HPz hset
  by_cases h3 : i = 3
  · simp [h3]
  · by_cases h2 : i = 2
    · simp [h2]
    · by_cases h0 : i = 0
      · simp [h0]
      · simp [h3, h2, h0, HPx]
theorem HPz_WT : WT HPz := by
  intro a i
  obtain ⟨k, t, j, b⟩ := a
  have hz : HPz (k, t, j, b) i = 0 → okv k i (HPz (k, t, j, b) i) := fun h => ⟨fun _ => Or.inl h, fun _ => ⟨0, by decide, h⟩⟩
  have hf : k = 0 ∨ k = 2 ∨ k = 17 → okv k i (HPz (k, t, j, b) i) := by
    intro h
    rcases h with rfl | rfl | rfl
    · exact okv_free rfl rfl
    · exact okv_free rfl rfl
    · exact okv_free rfl rfl
  by_cases h : k = 0 ∨ k = 2 ∨ k = 17
  · exact hf h
  · refine hz ?_
    have h0 : k ≠ 0 := fun e => h (Or.inl e)
    have h2 : k ≠ 2 := fun e => h (Or.inr (Or.inl e))
    have h17 : k ≠ 17 := fun e => h (Or.inr (Or.inr e))
    rw [HPz_n (by simp [h17])]
    simp [HPx, h0, h2]
theorem HPz_0 {a : A4} {i : Nat} (h : a.1 ≠ 0 ∧ a.1 ≠ 2 ∧ a.1 ≠ 17) : HPz a i = 0 := by
  rw [HPz_n (fun e => h.2.2 (by rw [e])), HPx_0 ⟨h.1, h.2.1⟩]
theorem HPz_INV : INV HPz := by
  have s0 : ∀ k, k ≠ 0 → k ≠ 2 → k ≠ 3 → HPz (17, 0, 0, 0) k = 0 := fun k h0 h2 h3 => by
    rw [HPz_s, if_neg h3, if_neg h2, if_neg h0]
  have a0 : ∀ i, i ≠ 4 → HPz (0, 0, 0, 0) i = 0 := fun i h => by
    rw [HPz_n (by decide)]
    simp [HPx, h]
  have n0 : (0 : Int32) = nI 0 := rfl
  refine ⟨0, 0, 0, 0, HPz_WT, ⟨⟨by decide, ⟨a0 3 (by decide), s0 5 (by decide) (by decide) (by decide)⟩, ⟨1, by decide, ?_, ?_⟩, ⟨0, by decide, a0 5 (by decide), s0 4 (by decide) (by decide) (by decide)⟩, ⟨1, by decide, by decide, ?_, ?_⟩, ⟨0, by decide, ?_, s0 1 (by decide) (by decide) (by decide)⟩, ⟨2, by decide, ?_, ?_⟩, ⟨false, ?_, s0 6 (by decide) (by decide) (by decide)⟩, ⟨false, ?_, s0 7 (by decide) (by decide) (by decide)⟩, ?_, ?_, ?_, ?_⟩, fun j hj => absurd hj (Nat.not_lt_zero _), fun j _ hj => ⟨fun i h2 h10 => HPz_0 (by simp), fun b hb => ⟨HPz_0 (by simp), HPz_0 (by simp), HPz_0 (by simp)⟩, fun f hf => ?_⟩⟩, ⟨by decide, by decide, HPz_0 (by decide), HPz_0 (by decide)⟩, HPz_0 (by decide), fun i hi => absurd hi (Nat.not_lt_zero _), fun b hb => ⟨false, HPz_0 (by decide), HPz_0 (by decide), fun h => by cases h⟩, ⟨by decide, HPz_0 (by decide), HPz_0 (by decide), ?_⟩⟩
  · rw [HPz_n (by decide)]; rfl
  · rw [HPz_s]; rfl
  · rw [HPz_n (by decide)]; rfl
  · rw [HPz_s]; rfl
  · rw [HPz_n (by decide)]; rfl
  · rw [HPz_n (by decide)]; rfl
  · rw [HPz_s]; rfl
  · exact HPz_0 (by decide)
  · exact HPz_0 (by decide)
  · rw [s0 8 (by decide) (by decide) (by decide), a0 6 (by decide)]
  · rw [s0 9 (by decide) (by decide) (by decide), a0 7 (by decide)]
  · rw [s0 10 (by decide) (by decide) (by decide), a0 8 (by decide)]
  · rw [s0 11 (by decide) (by decide) (by decide), a0 9 (by decide)]
  · exact s0 _ (by unfold cI; omega) (by unfold cI; omega) (by unfold cI; omega)
  · funext i
    rw [HPz_0 (by decide), HPz_0 (by decide)]
theorem arrV_cg {cA : ClassId} {k : Nat} {f h : Nat → Value} (e : ∀ j, j < k → f j = h j) : arrV cA k f = arrV cA k h := by
  unfold arrV
  have e2 : (fun j : Fin k => f j.val) = fun j : Fin k => h j.val := by
    funext j
    exact e j.val j.isLt
  rw [e2]
theorem cn_at {g : Gh} {hp : HPt} {a : A4} {ad : Nat} {H : Heap} (h : va_at (g.1.1, g.1.2) vwCl (ad, cn g RPx hp a) H) : va_at (g.1.1, g.1.2) vwCl (ad, cn g RP hp a) H := by
  by_cases hk : a.1 = 1 ∨ a.1 = 9 ∨ a.1 = 10
  · have key : ∀ (t len : Nat), rkd a.1 = some (t, len) → (∀ j, j < len → RPx a j = RP a j) → va_at (g.1.1, g.1.2) vwCl (ad, cn g RP hp a) H := by
      intro t len ho hj
      rw [cn_rr ho] at h ⊢
      have h2 : H[ad]? = some (arrV (g.2.1 t) len (fun j => va_rf ((RPx a j).map (al g)))) := h
      have h3 : arrV (g.2.1 t) len (fun j => va_rf ((RPx a j).map (al g))) = arrV (g.2.1 t) len (fun j => va_rf ((RP a j).map (al g))) := arrV_cg (fun j hl => by rw [hj j hl])
      rw [h3] at h2
      exact h2
    rcases hk with e | e | e
    · exact key 4 8 (by rw [e]; rfl) (fun j hj => by simp [RPx, e]; omega)
    · exact key 3 7 (by rw [e]; rfl) (fun j hj => by simp [RPx, e]; omega)
    · exact key 3 2 (by rw [e]; rfl) (fun j hj => by simp [RPx, e]; omega)
  · have h1 : a.1 ≠ 1 := fun e => hk (Or.inl e)
    have h9 : a.1 ≠ 9 := fun e => hk (Or.inr (Or.inl e))
    have h10 : a.1 ≠ 10 := fun e => hk (Or.inr (Or.inr e))
    rw [cn_cong (rp' := RPx) (hp' := hp) (by funext i; simp [RPx, h1, h9, h10]) rfl]
    exact h
theorem HX_fin {g : Gh} {rp : RPt} {hp hq : HPt} {H : Heap} (hH : HX g 616 rp hp H) (h : ∀ i, i < 616 → rp (nm i) = RPx (nm i) ∧ hp (nm i) = hq (nm i)) : HX g 616 RP hq H := by
  refine ⟨fun k q hk => ?_, hH.2⟩
  have hk6 : k < 616 := by
    rcases Nat.lt_or_ge k 616 with z | z
    · exact z
    · unfold wl at hk
      rw [List.getElem?_eq_none (by rw [List.length_map, List.length_range]; exact z)] at hk
      cases hk
  have h2 : (wl g 616 rp hp)[k]? = some (g.2.2.1 + k, cn g RPx hq (nm k)) := by
    unfold wl
    rw [List.getElem?_map, List.getElem?_range hk6, Option.map_some, cn_cong (h k hk6).1 (h k hk6).2]
  have h3 : (wl g 616 RP hq)[k]? = some (g.2.2.1 + k, cn g RP hq (nm k)) := by
    unfold wl
    rw [List.getElem?_map, List.getElem?_range hk6, Option.map_some]
  rw [h3] at hk
  cases hk
  exact cn_at (hH.1 k _ h2)
section LS
variable {g : Gh} {M : Md} {mc ms cu su n pc : Nat} {L : List (Option Vv)} {st : List Vv} {rp : RPt} {hp : HPt} {P : Pst}
theorem V.fin {hq : HPt} (h : ∀ i, i < 616 → rp (nm i) = RPx (nm i) ∧ hp (nm i) = hq (nm i)) (k : V g M mc ms cu su 616 pc L st RP hq P) : V g M mc ms cu su 616 pc L st rp hp P := by
  intro p l e R s m args below meth c Q C RT H locs LS hH hS hl
  exact k p l e R s m args below meth c Q C RT H locs LS (HX_fin hH h) hS hl
end LS
/-- the law from its first instruction -/
theorem law_V {g : Gh} {N : Nat} {xs : Nat → Int32} (hX : GX g) (hx0 : g.2.2.2.2 0 = (N, xs)) (hN : N ≤ 2560) : V g mL_law 616 6877 0 0 0 0 (inL [vR (24, 0, 0, 0)] 4) [] (fun _ _ => none) (fun _ _ => 0) PL := by
  have hf0 : fr 0 (fun _ _ => none) (fun _ _ => 0) := fun m _ _ => ⟨rfl, rfl⟩
  refine r_new dL_law_0 (ci := 6) (Cn := RX6) (T := TX6) (N := 6) rfl wd_117 wd_118 wd_108 (by decide) (by rw [nm_0]; rfl) rfl rfl (by decide) (by decide) ?_
  rw [nm_0]
  refine r_dup dL_law_3 rfl ?_
  refine r_callI dL_law_4 (coX6_init (by decide) (by decide)) (as := []) (b := (15, 0, 0, 0)) wd_119 wd_120 rfl rfl rfl rfl (Nat.le_of_ble_eq_true rfl) (by decide) (by decide) (Nat.le_of_ble_eq_true rfl) (cX6 hf0) ?_
  rintro v n' rp1 hp1 ⟨rfl, rfl, hD⟩
  have hf1 := hD.free hf0 (by decide)
  refine r_astore_n dL_law_7 (i := 1) rfl (Nat.le_of_ble_eq_true rfl) rfl rfl ?_
  refine r_new dL_law_8 (ci := 7) (Cn := RX7) (T := TX7) (N := 11) rfl wd_765 wd_766 wd_115 (by decide) (by rw [nm_608]; rfl) (hf1 _ (Nat.le_refl _) (by decide)).1 (hf1 _ (Nat.le_refl _) (by decide)).2 (by decide) (by decide) ?_
  rw [nm_608]
  refine r_dup dL_law_11 rfl ?_
  refine r_callI dL_law_12 (coX7_init (by decide) (by decide)) (as := []) (b := (16, 0, 0, 0)) wd_767 wd_768 rfl rfl rfl rfl (Nat.le_of_ble_eq_true rfl) (by decide) (by decide) (Nat.le_of_ble_eq_true rfl) (cX7 hf1) ?_
  rintro v n' rp2 hp2 ⟨rfl, rfl, hq, hD2, rfl⟩
  refine r_astore_n dL_law_15 (i := 2) rfl (Nat.le_of_ble_eq_true rfl) rfl rfl ?_
  refine r_iconst dL_law_16 (v := 0) rfl ?_
  refine r_istore_n dL_law_17 (i := 3) rfl (Nat.le_of_ble_eq_true rfl) rfl rfl ?_
  refine V.fin (hq := HPz) (fun i hi => ?_) ?_
  · have z : rp2 (nm i) = RPx (nm i) ∧ hq (nm i) = HPx (nm i) := by
      by_cases h : i < 608
      · have y := hD2.2 i hi (Or.inl h)
        rw [y.1, y.2]
        exact hD.1 i (Nat.zero_le _) h
      · exact hD2.1 i (by omega) hi
    refine ⟨z.1, ?_⟩
    unfold HPz
    funext k
    simp only [hset]
    rw [z.2]
  · refine V.eqC (cu2 := 616) (su2 := 6877) (n2 := 616) rfl rfl rfl ?_
    exact law_loop hX hx0 hN N 0 (Nat.zero_le _) (Nat.le_refl _) HPz HPz_INV
/-- a walk from a method's entry -/
theorem V.begin {g : Gh} {M : Md} {mc ms n : Nat} {as : List Vv} {rp : RPt} {hp : HPt} {P : Pst} {p : Program} {l : Launch} {e : Env} {R : Room} {s : State} {m : MethodId} {args : Array Value} {below : List Frame} {meth : Method} {c : Code} {Q : State → Prop} (hV : V g M mc ms 0 0 n 0 (inL as (mL M)) [] rp hp P) (hw : wdL as ≤ mL M) (C : CX g M mc ms p R s m args meth c)
    (RT : ∀ (v : Option Vv) (n' cu' su' : Nat) (rp' : RPt) (hp' : HPt) (H' : Heap) (locs' : List Loc) (LS' : Array Slot) (pc' : Nat), P v n' rp' hp' → cu' ≤ mc → su' ≤ ms → HX g n' rp' hp' H' → va_S (Af g) s.heap H' locs' → RTt M v pc' → W p l e R s m args below meth c H' locs' cu' su' Q (F0 m pc' LS' (v.toList.map (trv g)))) (hH : HX g n rp hp s.heap) :
    W p l e R s m args below meth c s.heap [] 0 0 Q (entryFrame m (as.map (trv g)).toArray (mL M)) := by
  have hl := lv_entry (as.map (trv g)) (n := mL M) (by rw [wdL_sl]; exact hw)
  rw [lg_entry_eq]
  refine hV p l e R s m args below meth c Q C RT s.heap [] _ hH va_S.rf ⟨hl.1, hl.2.1, fun q hq => ?_⟩
  obtain ⟨v, h1, h2⟩ := cvL_mem.mp hq
  have h3 := inL_mem (g := g) as (mL M) 0 q.1 v h1
  rw [Nat.zero_add, ← h2] at h3
  exact hl.2.2 q h3
/-- the arrays' classes -/
theorem ar_P {args : Array Value} {s : State} {ty : FieldType} (h : (Cond.arrayClass ty).before args s = true) (hno : ∀ Cn, ty ≠ .object Cn) : ∃ cA : ClassId, ArrOfT s cA ty ∧ va_RA s cA ty := by
  obtain ⟨cA, kA, comp, h1, h2, h3⟩ := Cond.arrayClass_spec h
  refine ⟨cA, fun N z => ⟨(fun k h => by cases h), kA, h2, comp, h3⟩, ?_⟩
  cases ty with
  | object C => exact absurd rfl (hno C)
  | _ => exact h1
theorem ar_R {args : Array Value} {s : State} {C : String} (h : (Cond.arrayOver (.object C)).before args s = true) : ∃ cA : ClassId, ArrOfT s cA (.object C) ∧ va_RA s cA (.object C) := by
  obtain ⟨comp, cA, kA, h1, h2, h3, h4, h5⟩ := Cond.arrayOver_spec h
  exact ⟨cA, fun N z => ⟨(fun k h => by cases h), kA, h3, comp, h4⟩, kA, comp, h3, h4, h1, h5⟩
theorem nest_on {w : Cond} (hw : w ∈ lw_nest) : w.onTables = true := by
  have hn := (List.mem_filter.mp hw).2
  cases w <;> first | rfl | (exact absurd hn (by decide)) | (simp [isNest] at hn)
abbrev tmL : Term := .static "SplitSecrets" "LEAST_OF_SETTING" "[I"
abbrev tmM : Term := .static "SplitSecrets" "MOST_OF_SETTING" "[I"
/-- what the tables and the start say -/
theorem sx_mk {s : State} {b N : Nat} {xs : Nat → Int32} (hts : ∀ w ∈ lw_tbl, w.before #[Value.ref b] s = true) (hX : va_X b N xs s s.heap) (hbl : b < s.heap.size) (hgv : (Jvm.Cond.and given_1 narrow_1).before #[Value.ref b] s = true) : ∃ g : Gh, SX g s ∧ GX g ∧ g.2.2.2.2 0 = (N, xs) ∧ g.2.2.2.1 0 = b ∧ g.2.2.1 = s.heap.size := by
  have hg : ∀ w ∈ lw_good, w.before #[Value.ref b] s = true := fun w h => hts w (List.mem_filter.mp h).1
  have hA : ∀ a : Nat, a < s.heap.size → ¬ s.heap.size ≤ a := fun a h => Nat.not_le.mpr h
  have hs := flat_of_before _ hgv
  -- the classes
  have hcl : ∀ k : Nat, ∃ x : ClassId × (Nat → Nat), ∀ q, vwCl[k]? = some q → u_Kn s q.1 q.2.1 q.2.2 x.1 x.2 := by
    have key : ∀ (C : String) (T : u_T) (n : Nat), (∀ w ∈ u_ws C T n, w ∈ lw_good) → Cond.instantiable C n ∈ lw_good → ∃ x : ClassId × (Nat → Nat), u_Kn s C T n x.1 x.2 := by
      intro C T n h1 h2
      obtain ⟨cC, iS, h⟩ := u_known (C := C) (T := T) (N := n) (n := n) hg h1 (hg _ h2)
      exact ⟨(cC, iS), h⟩
    intro k
    match k with
    | 0 => exact (key RX0 TX0 7 clf_0.1 wd_139).imp (fun x h q hq => by cases hq; exact h)
    | 1 => exact (key RX1 TX1 3 clf_1.1 wd_250).imp (fun x h q hq => by cases hq; exact h)
    | 2 => exact (key RX2 TX2 2 clf_2.1 wd_270).imp (fun x h q hq => by cases hq; exact h)
    | 3 => exact (key RX3 TX3 7 clf_3.1 wd_286).imp (fun x h q hq => by cases hq; exact h)
    | 4 => exact (key RX4 TX4 10 clf_4.1 wd_133).imp (fun x h q hq => by cases hq; exact h)
    | 5 => exact (key RX5 TX5 10 clf_5.1 wd_126).imp (fun x h q hq => by cases hq; exact h)
    | 6 => exact (key RX6 TX6 6 clf_6.1 wd_118).imp (fun x h q hq => by cases hq; exact h)
    | 7 => exact (key RX7 TX7 11 clf_7.1 wd_766).imp (fun x h q hq => by cases hq; exact h)
    | k + 8 => exact ⟨(0, fun _ => 0), fun q hq => by simp [vwCl] at hq⟩
  obtain ⟨F, hF⟩ := Classical.axiomOfChoice hcl
  obtain ⟨a0, ha0⟩ := ar_P (hg _ wd_174) (fun Cn h => by cases h)
  obtain ⟨a1, ha1⟩ := ar_P (hg _ wd_175) (fun Cn h => by cases h)
  obtain ⟨a2, ha2⟩ := ar_P (hg _ wd_284) (fun Cn h => by cases h)
  have o5 : (Cond.arrayOver (.object RX5)).before #[Value.ref b] s = true := hts _ (List.mem_of_getElem? (i := 256) (by decide +kernel))
  have o4 : (Cond.arrayOver (.object RX4)).before #[Value.ref b] s = true := hts _ (List.mem_of_getElem? (i := 132) (by decide +kernel))
  obtain ⟨a3, ha3⟩ := ar_R o5
  obtain ⟨a4, ha4⟩ := ar_R o4
  -- the arrays that nobody writes
  have e1 : (Cond.arrayOf tmL .int).before #[Value.ref b] s = true := hs _ (by decide +kernel)
  have e2 : (Cond.eq (.length tmL) (.int 3)).before #[Value.ref b] s = true := hs _ (by decide +kernel)
  have e3 : (Cond.eq (.elem tmL (.int 0)) (.int 1)).before #[Value.ref b] s = true := hs _ (by decide +kernel)
  have e4 : (Cond.eq (.elem tmL (.int 1)) (.int 0)).before #[Value.ref b] s = true := hs _ (by decide +kernel)
  have e5 : (Cond.eq (.elem tmL (.int 2)) (.int 0)).before #[Value.ref b] s = true := hs _ (by decide +kernel)
  have m1 : (Cond.arrayOf tmM .int).before #[Value.ref b] s = true := hs _ (by decide +kernel)
  have m2 : (Cond.eq (.length tmM) (.int 3)).before #[Value.ref b] s = true := hs _ (by decide +kernel)
  have m3 : (Cond.eq (.elem tmM (.int 0)) (.int 20)).before #[Value.ref b] s = true := hs _ (by decide +kernel)
  have m4 : (Cond.eq (.elem tmM (.int 1)) (.int 99)).before #[Value.ref b] s = true := hs _ (by decide +kernel)
  have m5 : (Cond.eq (.elem tmM (.int 2)) (.int 4)).before #[Value.ref b] s = true := hs _ (by decide +kernel)
  obtain ⟨tL, hvL, hTL⟩ := va_Tof (N := 3) (f := fun j => .int (fL j)) (A := fun q => s.heap.size ≤ q) (by decide) e1 (va_eqt e2) (fun j hj => by
    match j, hj with
    | 0, _ => exact va_eqt e3
    | 1, _ => exact va_eqt e4
    | 2, _ => exact va_eqt e5) hA
  obtain ⟨tM, hvM, hTM⟩ := va_Tof (N := 3) (f := fun j => .int (fM j)) (A := fun q => s.heap.size ≤ q) (by decide) m1 (va_eqt m2) (fun j hj => by
    match j, hj with
    | 0, _ => exact va_eqt m3
    | 1, _ => exact va_eqt m4
    | 2, _ => exact va_eqt m5) hA
  have hini : (Cond.initialized "SplitSecrets").before #[Value.ref b] s = true := hg _ wd_108
  have zL := va_Zof (A := fun q => s.heap.size ≤ q) (hts (Cond.laysStatic "SplitSecrets" "LEAST_OF_SETTING" "[I") (List.mem_of_getElem? (i := 362) (by decide +kernel))) hini hvL hA
  have zM := va_Zof (A := fun q => s.heap.size ≤ q) (hts (Cond.laysStatic "SplitSecrets" "MOST_OF_SETTING" "[I") (List.mem_of_getElem? (i := 364) (by decide +kernel))) hini hvM hA
  have hT0 : va_T .int b N (fun j => .int (xs j)) (fun q => s.heap.size ≤ q) s s.heap := by
    obtain ⟨scr, h1, h2, h3, h4, h5⟩ := hX
    exact ⟨scr, h1, h2, h3, Nat.le_of_eq h4.symm, by rw [h4], h5, hA b hbl⟩
  refine ⟨((fun k => (F k).1, fun k => (F k).2), fun t => match t with | 0 => a0 | 1 => a1 | 2 => a2 | 3 => a3 | _ => a4, s.heap.size, fun t => match t with | 0 => b | 1 => tL | _ => tM, fun t => match t with | 0 => (N, xs) | 1 => (3, fL) | _ => (3, fM)), ⟨⟨fun c q hq => hF c q hq, fun k q hq => ?_⟩, fun w hw => va_Nw.of (nest_on hw) (hts w (List.mem_filter.mp hw).1), ⟨va_AO.of o5, va_AO.of o4⟩, zL, zM, fun t ht => ?_⟩, ⟨rfl, rfl⟩, rfl, rfl, rfl⟩
  · match k, hq with
    | 0, hq => cases hq; exact ha0
    | 1, hq => cases hq; exact ha1
    | 2, hq => cases hq; exact ha2
    | 3, hq => cases hq; exact ha3
    | 4, hq => cases hq; exact ha4
    | k + 5, hq => simp [tysF] at hq
  · match t, ht with
    | 0, _ => exact hT0
    | 1, _ => exact hTL
    | 2, _ => exact hTM
theorem room_ok : mF mL_law ≤ room_1.frames ∧ mW mL_law ≤ room_1.locals ∧ 616 ≤ room_1.cells ∧ 6877 ≤ room_1.slots := by
  refine ⟨?_, ?_, ?_, ?_⟩
  · show (12 : Nat) ≤ 14
    omega
  · show (272 : Nat) ≤ 544
    omega
  · show (616 : Nat) ≤ 600000
    omega
  · show (6877 : Nat) ≤ 7302250
    omega
theorem room_a {k : Nat} (h : k ≤ 616) : k ≤ 600000 := by omega
theorem room_b {k : Nat} (h : k ≤ 6877) : k ≤ 7302250 := by omega
theorem hx_none {g : Gh} {H : Heap} (h : H.size = g.2.2.1) : HX g 0 (fun _ _ => none) (fun _ _ => 0) H := ⟨fun k q hk => by simp [wl] at hk, h, Nat.zero_le _⟩
