/-- the first heap -/
theorem HPx_00 {a : A4} {i : Nat} (h : a.1 ≠ 0 ∧ a.1 ≠ 2) : HPx a i = 0 := by simp [HPx, h.1, h.2]
theorem HPx_WT : WT HPx := by
  intro a i
  obtain ⟨k, t, j, b⟩ := a
  have hz : HPx (k, t, j, b) i = 0 → okv k i (HPx (k, t, j, b) i) := fun h => ⟨fun _ => Or.inl h, fun _ => ⟨0, by decide, h⟩⟩
  by_cases h : k = 0 ∨ k = 2
  · rcases h with rfl | rfl
    · exact okv_free rfl rfl
    · exact okv_free rfl rfl
  · exact hz (HPx_00 ⟨fun e => h (Or.inl e), fun e => h (Or.inr e)⟩)
theorem HPx_LI : LI HPx 0 0 0 0 := by
  have a0 : ∀ i, i ≠ 4 → HPx (0, 0, 0, 0) i = 0 := fun i h => by simp [HPx, h]
  refine ⟨⟨by decide, by decide, HPx_00 (by decide), HPx_00 (by decide)⟩, HPx_WT, fun _ => 0, fun _ => 0, fun _ => 0, ⟨⟨by decide, a0 3 (by decide)⟩, ⟨1, by decide, rfl⟩, ⟨0, by decide, a0 5 (by decide)⟩, ⟨1, by decide, by decide, rfl⟩, ⟨0, by decide, rfl⟩, ⟨2, by decide, rfl⟩, ⟨0, 0, a0 6 (by decide), a0 7 (by decide), rfl⟩, a0 8 (by decide)⟩, fun j hj => absurd hj (Nat.not_lt_zero _), fun j _ _ => ⟨fun i _ _ => HPx_00 (by simp), fun b _ => ⟨HPx_00 (by simp), HPx_00 (by simp), HPx_00 (by simp)⟩⟩⟩
theorem arrV_cg {cA : ClassId} {k : Nat} {f h : Nat → Value} (e : ∀ j, j < k → f j = h j) : arrV cA k f = arrV cA k h := by
  unfold arrV
  have e2 : (fun j : Fin k => f j.val) = fun j : Fin k => h j.val := by
    funext j
    exact e j.val j.isLt
  rw [e2]
theorem cn_at {g : Gh} {hp : HPt} {a : A4} {ad : Nat} {H : Heap} (h : va_at (g.1.1, g.1.2) vwCl (ad, cn g RPx hp a) H) : va_at (g.1.1, g.1.2) vwCl (ad, cn g RP hp a) H := by
  by_cases hk : a.1 = 1 ∨ a.1 = 9 ∨ a.1 = 10
  · have key : ∀ (t len : Nat), rkd a.1 = some (t, len) → (∀ j, j < len → RPx a j = RP a j) → va_at (g.1.1, g.1.2) vwCl (ad, cn g RP hp a) H := by
      intro t len ho hj
      rw [cn_rr ho] at h ⊢
      have h2 : H[ad]? = some (arrV (g.2.1 t) len (fun j => va_rf ((RPx a j).map (al g)))) := h
      have h3 : arrV (g.2.1 t) len (fun j => va_rf ((RPx a j).map (al g))) = arrV (g.2.1 t) len (fun j => va_rf ((RP a j).map (al g))) := arrV_cg (fun j hl => by rw [hj j hl])
      rw [h3] at h2
      exact h2
    rcases hk with e | e | e
    · exact key 4 8 (by rw [e]; rfl) (fun j hj => by simp [RPx, e]; omega)
    · exact key 3 7 (by rw [e]; rfl) (fun j hj => by simp [RPx, e]; omega)
    · exact key 3 2 (by rw [e]; rfl) (fun j hj => by simp [RPx, e]; omega)
  · have h1 : a.1 ≠ 1 := fun e => hk (Or.inl e)
    have h9 : a.1 ≠ 9 := fun e => hk (Or.inr (Or.inl e))
    have h10 : a.1 ≠ 10 := fun e => hk (Or.inr (Or.inr e))
    rw [cn_cong (rp' := RPx) (hp' := hp) (by funext i; simp [RPx, h1, h9, h10]) rfl]
    exact h
theorem HX_fin {g : Gh} {rp : RPt} {hp hq : HPt} {H : Heap} (hH : HX g 609 rp hp H) (h : ∀ i, i < 609 → rp (nm i) = RPx (nm i) ∧ hp (nm i) = hq (nm i)) : HX g 609 RP hq H := by
  refine ⟨fun k q hk => ?_, hH.2⟩
  have hk6 : k < 609 := by
    rcases Nat.lt_or_ge k 609 with z | z
    · exact z
    · unfold wl at hk
      rw [List.getElem?_eq_none (by rw [List.length_map, List.length_range]; exact z)] at hk
      cases hk
  have h2 : (wl g 609 rp hp)[k]? = some (g.2.2.1 + k, cn g RPx hq (nm k)) := by
    unfold wl
    rw [List.getElem?_map, List.getElem?_range hk6, Option.map_some, cn_cong (h k hk6).1 (h k hk6).2]
  have h3 : (wl g 609 RP hq)[k]? = some (g.2.2.1 + k, cn g RP hq (nm k)) := by
    unfold wl
    rw [List.getElem?_map, List.getElem?_range hk6, Option.map_some]
  rw [h3] at hk
  cases hk
  exact cn_at (hH.1 k _ h2)
section LS
variable {g : Gh} {M : Md} {mc ms cu su n pc : Nat} {L : List (Option Vv)} {st : List Vv} {rp : RPt} {hp : HPt} {P : Pst}
theorem V.fin {hq : HPt} (h : ∀ i, i < 609 → rp (nm i) = RPx (nm i) ∧ hp (nm i) = hq (nm i)) (k : V g M mc ms cu su 609 pc L st RP hq P) : V g M mc ms cu su 609 pc L st rp hp P := by
  intro p l e R s m args below meth c Q C RT H locs LS hH hS hl
  exact k p l e R s m args below meth c Q C RT H locs LS (HX_fin hH h) hS hl
end LS
/-- the law from its first instruction -/
theorem law_V {g : Gh} {N : Nat} {xs : Nat → Int32} (hX : GX g) (hx0 : g.2.2.2.2 0 = (N, xs)) (hN : N ≤ 260) : V g mL_law 609 3867 0 0 0 0 (inL [vR (24, 0, 0, 0)] 12) [] (fun _ _ => none) (fun _ _ => 0) PL := by
  have hf0 : fr 0 (fun _ _ => none) (fun _ _ => 0) := fun m _ _ => ⟨rfl, rfl⟩
  refine r_new dL_law_0 (ci := 6) (Cn := RX6) (T := TX6) (N := 6) rfl wd_61 wd_62 wd_53 (by decide) (by rw [nm_0]; rfl) rfl rfl (by decide) (by decide) ?_
  rw [nm_0]
  refine r_dup dL_law_3 rfl ?_
  refine r_callI dL_law_4 (coX6_init (by decide) (by decide)) (as := []) (b := (15, 0, 0, 0)) wd_63 wd_64 rfl rfl rfl rfl (Nat.le_of_ble_eq_true rfl) (by decide) (by decide) (Nat.le_of_ble_eq_true rfl) (cX6 hf0) ?_
  rintro v n' rp1 hp1 ⟨rfl, rfl, hD⟩
  have hf1 := hD.free hf0 (by decide)
  refine r_astore_n dL_law_7 (i := 1) rfl (Nat.le_of_ble_eq_true rfl) rfl rfl ?_
  refine r_bipush dL_law_8 (v := 8) rfl ?_
  refine r_newa dL_law_10 (ty := .int) (t := 0) (len := 8) wd_118 rfl rfl (fun _ h => by cases h) rfl rfl (by decide) (by decide) (by rw [nm_608]; rfl) (by decide) (hf1 608 (by decide) (by decide)).2 (by decide) (by decide) ?_
  rw [nm_608]
  refine r_astore_n dL_law_12 (i := 2) rfl (Nat.le_of_ble_eq_true rfl) rfl rfl ?_
  refine V.fin (hq := HPx) (fun i hi => ?_) ?_
  · by_cases h : i < 608
    · exact hD.1 i (Nat.zero_le _) h
    · obtain rfl : i = 608 := by omega
      have z := hf1 608 (by decide) (by decide)
      rw [z.1, z.2, nm_608]
      exact ⟨(RPx_0 rfl).symm, (HPx_0 (by decide)).symm⟩
  · refine V.eqC (cu2 := 609) (su2 := 3867) (n2 := 609) rfl rfl rfl ?_
    have L := HPx_LI
    have hh := tL_holds (g := g) L (by decide)
    have L2 := L.dft (o2 := 0) (z2 := 0)
    have e3 : nI N / 3 = nI (N / 3) := pk_div (by omega) (by decide) (by decide)
    by_cases hT : N / 3 ≤ 30
    · have lp := law_loop (T := N / 3) hX hx0 hN (by omega) hT (N / 3) 0 (by omega) _ 0 0 0 none none none none none none L2
      refine r_aload_n dL_law_13 (i := 1) rfl rfl ?_
      refine sL_law_14 (Nat.le_refl _) (Nat.le_refl _) rfl lv15 (Nat.le_of_ble_eq_true rfl) (tX6_undo_e L.1) ?_
      refine r_bipush dL_law_17 (v := (-5)) rfl ?_
      refine r_icmp_ne dL_law_19 (tgt := 34) rfl (fun h19 => absurd (rfl) h19) (fun _ => ?_)
      refine r_aload_n dL_law_22 (i := 1) rfl rfl ?_
      refine r_aload_n dL_law_23 (i := 2) rfl rfl ?_
      refine sL_law_24 (Nat.le_refl _) (Nat.le_refl _) (Nat.le_of_ble_eq_true rfl) (hh) ?_
      refine r_if_eq dL_law_27 (tgt := 34) rfl (fun h27 => absurd h27 ((by decide))) (fun _ => ?_)
      refine r_iconst dL_law_30 (v := 1) rfl ?_
      refine r_goto dL_law_31 (tgt := 35) rfl ?_
      refine r_istore_n dL_law_35 (i := 3) rfl (Nat.le_of_ble_eq_true rfl) rfl rfl ?_
      refine r_aload_n dL_law_36 (i := 0) rfl rfl ?_
      refine r_xlen dL_law_37 (by decide) ?_
      refine r_iconst dL_law_38 (v := 3) rfl ?_
      refine r_idiv dL_law_39 (by decide) ?_
      refine r_bipush dL_law_40 (v := 30) rfl ?_
      refine r_icmp_le dL_law_42 (tgt := 50) rfl (fun _ => ?_) (fun h42 => absurd ((by rw [hx0, e3]; exact nI_le (b := 30) hT (by decide))) h42)
      refine r_aload_n dL_law_50 (i := 0) rfl rfl ?_
      refine r_xlen dL_law_51 (by decide) ?_
      refine r_iconst dL_law_52 (v := 3) rfl ?_
      refine r_idiv dL_law_53 (by decide) ?_
      refine r_istore dL_law_54 (Nat.le_of_ble_eq_true rfl) rfl rfl ?_
      refine r_iconst dL_law_56 (v := 0) rfl ?_
      refine r_istore dL_law_57 (Nat.le_of_ble_eq_true rfl) rfl rfl ?_
      rw [hx0, e3]
      exact lp
    · have lp := law_loop (T := 30) hX hx0 hN (by omega) (by decide) 30 0 (by omega) _ 0 0 0 none none none none none none L2
      refine r_aload_n dL_law_13 (i := 1) rfl rfl ?_
      refine sL_law_14 (Nat.le_refl _) (Nat.le_refl _) rfl lv15 (Nat.le_of_ble_eq_true rfl) (tX6_undo_e L.1) ?_
      refine r_bipush dL_law_17 (v := (-5)) rfl ?_
      refine r_icmp_ne dL_law_19 (tgt := 34) rfl (fun h19 => absurd (rfl) h19) (fun _ => ?_)
      refine r_aload_n dL_law_22 (i := 1) rfl rfl ?_
      refine r_aload_n dL_law_23 (i := 2) rfl rfl ?_
      refine sL_law_24 (Nat.le_refl _) (Nat.le_refl _) (Nat.le_of_ble_eq_true rfl) (hh) ?_
      refine r_if_eq dL_law_27 (tgt := 34) rfl (fun h27 => absurd h27 ((by decide))) (fun _ => ?_)
      refine r_iconst dL_law_30 (v := 1) rfl ?_
      refine r_goto dL_law_31 (tgt := 35) rfl ?_
      refine r_istore_n dL_law_35 (i := 3) rfl (Nat.le_of_ble_eq_true rfl) rfl rfl ?_
      refine r_aload_n dL_law_36 (i := 0) rfl rfl ?_
      refine r_xlen dL_law_37 (by decide) ?_
      refine r_iconst dL_law_38 (v := 3) rfl ?_
      refine r_idiv dL_law_39 (by decide) ?_
      refine r_bipush dL_law_40 (v := 30) rfl ?_
      refine r_icmp_le dL_law_42 (tgt := 50) rfl (fun h42 => absurd h42 ((by rw [hx0, e3]; exact nI_ge (a := 30) (by omega) (by omega)))) (fun _ => ?_)
      refine r_bipush dL_law_45 (v := 30) rfl ?_
      refine r_goto dL_law_47 (tgt := 54) rfl ?_
      refine r_istore dL_law_54 (Nat.le_of_ble_eq_true rfl) rfl rfl ?_
      refine r_iconst dL_law_56 (v := 0) rfl ?_
      refine r_istore dL_law_57 (Nat.le_of_ble_eq_true rfl) rfl rfl ?_
      exact lp
theorem V.begin {g : Gh} {M : Md} {mc ms n : Nat} {as : List Vv} {rp : RPt} {hp : HPt} {P : Pst} {p : Program} {l : Launch} {e : Env} {R : Room} {s : State} {m : MethodId} {args : Array Value} {below : List Frame} {meth : Method} {c : Code} {Q : State → Prop} (hV : V g M mc ms 0 0 n 0 (inL as (mL M)) [] rp hp P) (hw : wdL as ≤ mL M) (C : CX g M mc ms p R s m args meth c)
    (RT : ∀ (v : Option Vv) (n' cu' su' : Nat) (rp' : RPt) (hp' : HPt) (H' : Heap) (locs' : List Loc) (LS' : Array Slot) (pc' : Nat), P v n' rp' hp' → cu' ≤ mc → su' ≤ ms → HX g n' rp' hp' H' → va_S (Af g) s.heap H' locs' → RTt M v pc' → W p l e R s m args below meth c H' locs' cu' su' Q (F0 m pc' LS' (v.toList.map (trv g)))) (hH : HX g n rp hp s.heap) :
    W p l e R s m args below meth c s.heap [] 0 0 Q (entryFrame m (as.map (trv g)).toArray (mL M)) := by
  have hl := lv_entry (as.map (trv g)) (n := mL M) (by rw [wdL_sl]; exact hw)
  rw [lg_entry_eq]
  refine hV p l e R s m args below meth c Q C RT s.heap [] _ hH va_S.rf ⟨hl.1, hl.2.1, fun q hq => ?_⟩
  obtain ⟨v, h1, h2⟩ := cvL_mem.mp hq
  have h3 := inL_mem (g := g) as (mL M) 0 q.1 v h1
  rw [Nat.zero_add, ← h2] at h3
  exact hl.2.2 q h3
theorem ar_P {args : Array Value} {s : State} {ty : FieldType} (h : (Cond.arrayClass ty).before args s = true) (hno : ∀ Cn, ty ≠ .object Cn) : ∃ cA : ClassId, ArrOfT s cA ty ∧ va_RA s cA ty := by
  obtain ⟨cA, kA, comp, h1, h2, h3⟩ := Cond.arrayClass_spec h
  refine ⟨cA, fun N z => ⟨(fun k h => by cases h), kA, h2, comp, h3⟩, ?_⟩
  cases ty with
  | object C => exact absurd rfl (hno C)
  | _ => exact h1
theorem ar_R {args : Array Value} {s : State} {C : String} (h : (Cond.arrayOver (.object C)).before args s = true) : ∃ cA : ClassId, ArrOfT s cA (.object C) ∧ va_RA s cA (.object C) := by
  obtain ⟨comp, cA, kA, h1, h2, h3, h4, h5⟩ := Cond.arrayOver_spec h
  exact ⟨cA, fun N z => ⟨(fun k h => by cases h), kA, h3, comp, h4⟩, kA, comp, h3, h4, h1, h5⟩
theorem nest_on {w : Cond} (hw : w ∈ lw_nest) : w.onTables = true := by
  have hn := (List.mem_filter.mp hw).2
  cases w <;> first | rfl | (exact absurd hn (by decide)) | (simp [isNest] at hn)
abbrev tmL : Term := .static "SplitSecrets" "LEAST_OF_SETTING" "[I"
abbrev tmM : Term := .static "SplitSecrets" "MOST_OF_SETTING" "[I"
theorem sx_mk {s : State} {b N : Nat} {xs : Nat → Int32} (hts : ∀ w ∈ lw_tbl, w.before #[Value.ref b] s = true) (hX : va_X b N xs s s.heap) (hbl : b < s.heap.size) (hgv : (Jvm.Cond.and given_1 narrow_1).before #[Value.ref b] s = true) : ∃ g : Gh, SX g s ∧ GX g ∧ g.2.2.2.2 0 = (N, xs) ∧ g.2.2.2.1 0 = b ∧ g.2.2.1 = s.heap.size := by
  have hg : ∀ w ∈ lw_good, w.before #[Value.ref b] s = true := fun w h => hts w (List.mem_filter.mp h).1
  have hA : ∀ a : Nat, a < s.heap.size → ¬ s.heap.size ≤ a := fun a h => Nat.not_le.mpr h
  have hs := flat_of_before _ hgv
  -- the classes
  have hcl : ∀ k : Nat, ∃ x : ClassId × (Nat → Nat), ∀ q, vwCl[k]? = some q → u_Kn s q.1 q.2.1 q.2.2 x.1 x.2 := by
    have key : ∀ (C : String) (T : u_T) (n : Nat), (∀ w ∈ u_ws C T n, w ∈ lw_good) → Cond.instantiable C n ∈ lw_good → ∃ x : ClassId × (Nat → Nat), u_Kn s C T n x.1 x.2 := by
      intro C T n h1 h2
      obtain ⟨cC, iS, h⟩ := u_known (C := C) (T := T) (N := n) (n := n) hg h1 (hg _ h2)
      exact ⟨(cC, iS), h⟩
    intro k
    match k with
    | 0 => exact (key RX0 TX0 7 clf_0.1 wd_83).imp (fun x h q hq => by cases hq; exact h)
    | 1 => exact (key RX1 TX1 3 clf_1.1 wd_193).imp (fun x h q hq => by cases hq; exact h)
    | 2 => exact (key RX2 TX2 2 clf_2.1 wd_213).imp (fun x h q hq => by cases hq; exact h)
    | 3 => exact (key RX3 TX3 7 clf_3.1 wd_227).imp (fun x h q hq => by cases hq; exact h)
    | 4 => exact (key RX4 TX4 10 clf_4.1 wd_77).imp (fun x h q hq => by cases hq; exact h)
    | 5 => exact (key RX5 TX5 10 clf_5.1 wd_70).imp (fun x h q hq => by cases hq; exact h)
    | 6 => exact (key RX6 TX6 6 clf_6.1 wd_62).imp (fun x h q hq => by cases hq; exact h)
    | k + 7 => exact ⟨(0, fun _ => 0), fun q hq => by simp [vwCl] at hq⟩
  obtain ⟨F, hF⟩ := Classical.axiomOfChoice hcl
  obtain ⟨a0, ha0⟩ := ar_P (hg _ wd_118) (fun Cn h => by cases h)
  obtain ⟨a1, ha1⟩ := ar_P (hg _ wd_119) (fun Cn h => by cases h)
  obtain ⟨a2, ha2⟩ := ar_P (hg _ wd_225) (fun Cn h => by cases h)
  have o5 : (Cond.arrayOver (.object RX5)).before #[Value.ref b] s = true := hts _ (List.mem_of_getElem? (i := 199) (by decide +kernel))
  have o4 : (Cond.arrayOver (.object RX4)).before #[Value.ref b] s = true := hts _ (List.mem_of_getElem? (i := 76) (by decide +kernel))
  obtain ⟨a3, ha3⟩ := ar_R o5
  obtain ⟨a4, ha4⟩ := ar_R o4
  -- the arrays that nobody writes
  have e1 : (Cond.arrayOf tmL .int).before #[Value.ref b] s = true := hs _ (by decide +kernel)
  have e2 : (Cond.eq (.length tmL) (.int 3)).before #[Value.ref b] s = true := hs _ (by decide +kernel)
  have e3 : (Cond.eq (.elem tmL (.int 0)) (.int 1)).before #[Value.ref b] s = true := hs _ (by decide +kernel)
  have e4 : (Cond.eq (.elem tmL (.int 1)) (.int 0)).before #[Value.ref b] s = true := hs _ (by decide +kernel)
  have e5 : (Cond.eq (.elem tmL (.int 2)) (.int 0)).before #[Value.ref b] s = true := hs _ (by decide +kernel)
  have m1 : (Cond.arrayOf tmM .int).before #[Value.ref b] s = true := hs _ (by decide +kernel)
  have m2 : (Cond.eq (.length tmM) (.int 3)).before #[Value.ref b] s = true := hs _ (by decide +kernel)
  have m3 : (Cond.eq (.elem tmM (.int 0)) (.int 20)).before #[Value.ref b] s = true := hs _ (by decide +kernel)
  have m4 : (Cond.eq (.elem tmM (.int 1)) (.int 99)).before #[Value.ref b] s = true := hs _ (by decide +kernel)
  have m5 : (Cond.eq (.elem tmM (.int 2)) (.int 4)).before #[Value.ref b] s = true := hs _ (by decide +kernel)
  obtain ⟨tL, hvL, hTL⟩ := va_Tof (N := 3) (f := fun j => .int (fL j)) (A := fun q => s.heap.size ≤ q) (by decide) e1 (va_eqt e2) (fun j hj => by
    match j, hj with
    | 0, _ => exact va_eqt e3
    | 1, _ => exact va_eqt e4
    | 2, _ => exact va_eqt e5) hA
  obtain ⟨tM, hvM, hTM⟩ := va_Tof (N := 3) (f := fun j => .int (fM j)) (A := fun q => s.heap.size ≤ q) (by decide) m1 (va_eqt m2) (fun j hj => by
    match j, hj with
    | 0, _ => exact va_eqt m3
    | 1, _ => exact va_eqt m4
    | 2, _ => exact va_eqt m5) hA
  have hini : (Cond.initialized "SplitSecrets").before #[Value.ref b] s = true := hg _ wd_53
  have zL := va_Zof (A := fun q => s.heap.size ≤ q) (hts (Cond.laysStatic "SplitSecrets" "LEAST_OF_SETTING" "[I") (List.mem_of_getElem? (i := 535) (by decide +kernel))) hini hvL hA
  have zM := va_Zof (A := fun q => s.heap.size ≤ q) (hts (Cond.laysStatic "SplitSecrets" "MOST_OF_SETTING" "[I") (List.mem_of_getElem? (i := 537) (by decide +kernel))) hini hvM hA
  have hT0 : va_T .int b N (fun j => .int (xs j)) (fun q => s.heap.size ≤ q) s s.heap := by
    obtain ⟨scr, h1, h2, h3, h4, h5⟩ := hX
    exact ⟨scr, h1, h2, h3, Nat.le_of_eq h4.symm, by rw [h4], h5, hA b hbl⟩
  refine ⟨((fun k => (F k).1, fun k => (F k).2), fun t => match t with | 0 => a0 | 1 => a1 | 2 => a2 | 3 => a3 | _ => a4, s.heap.size, fun t => match t with | 0 => b | 1 => tL | _ => tM, fun t => match t with | 0 => (N, xs) | 1 => (3, fL) | _ => (3, fM)), ⟨⟨fun c q hq => hF c q hq, fun k q hq => ?_⟩, fun w hw => va_Nw.of (nest_on hw) (hts w (List.mem_filter.mp hw).1), ⟨va_AO.of o5, va_AO.of o4⟩, zL, zM, fun t ht => ?_⟩, ⟨rfl, rfl⟩, rfl, rfl, rfl⟩
  · match k, hq with
    | 0, hq => cases hq; exact ha0
    | 1, hq => cases hq; exact ha1
    | 2, hq => cases hq; exact ha2
    | 3, hq => cases hq; exact ha3
    | 4, hq => cases hq; exact ha4
    | k + 5, hq => simp [tysF] at hq
  · match t, ht with
    | 0, _ => exact hT0
    | 1, _ => exact hTL
    | 2, _ => exact hTM
theorem room_ok : mF mL_law ≤ room_1.frames ∧ mW mL_law ≤ room_1.locals ∧ 609 ≤ room_1.cells ∧ 3867 ≤ room_1.slots := by
  refine ⟨?_, ?_, ?_, ?_⟩
  · show (8 : Nat) ≤ 10
    omega
  · show (179 : Nat) ≤ 358
    omega
  · show (609 : Nat) ≤ 701857
    omega
  · show (3867 : Nat) ≤ 6996677
    omega
theorem room_a {k : Nat} (h : k ≤ 609) : k ≤ 701857 := by omega
theorem room_b {k : Nat} (h : k ≤ 3867) : k ≤ 6996677 := by omega
theorem hx_none {g : Gh} {H : Heap} (h : H.size = g.2.2.1) : HX g 0 (fun _ _ => none) (fun _ _ => 0) H := ⟨fun k q hk => by simp [wl] at hk, h, Nat.zero_le _⟩

