abbrev PL : Pst := fun v _ _ _ => v = some (vI 1)
/-- the law's locals in its loop -/
abbrev LC (T e : Nat) (x3 : Int32) (x6 x7 x8 x9 x10 x11 : Option Vv) : List (Option Vv) := [some (vR (24, 0, 0, 0)), some (vR (15, 0, 0, 0)), some (vR (16, 0, 0, 0)), some (vI x3), some (vI (nI T)), some (vI (nI e)), x6, x7, x8, x9, x10, x11]
/-- the next turn goes -/
def KN (g : Gh) (T e : Nat) : Prop := ∀ hp o z n x6 x7 x8 x9 x10 x11, LI hp o z n (2 * (e + 1)) → V g mL_law 609 3867 609 3867 609 59 (LC T (e + 1) 1 x6 x7 x8 x9 x10 x11) [] RP hp PL
section LAW
variable {g : Gh} {T e N : Nat} {xs : Nat → Int32} {hp : HPt} {o z n K : Nat}
theorem kD {x6 x7 x8 x9 x10 x11 : Option Vv} (kk : KN g T e) (L : LI hp o z n (2 * (e + 1))) : V g mL_law 609 3867 609 3867 609 357 (LC T e 1 x6 x7 x8 x9 x10 x11) [] RP hp PL := by
  refine r_inc1 dL_law_357 rfl (Nat.le_of_ble_eq_true rfl) rfl ?_
  refine r_goto dL_law_360 (tgt := 59) rfl ?_
  refine V.eqL ?_ (kk hp o z n x6 x7 x8 x9 x10 x11 L)
  rw [nI_1]
  all_goals rfl
theorem LI.mono {E E2 : Nat} (L : LI hp o z n E) (h : E ≤ E2) : LI hp o z n E2 := ⟨L.1, L.2.1, L.2.2.mono h⟩
/-- behind the first change of a turn, and what is told then: done once more, perhaps -/
theorem kC {x8 x10 x11 : Option Vv} (hX : GX g) (hX0 : g.2.2.2.2 0 = (N, xs)) (hN : N ≤ 260) (he : 3 * e + 3 ≤ N) (he30 : e < 30) (hK : K < 17) (kk : KN g T e) (L : LI hp o z n (2 * e)) : V g mL_law 609 3867 609 3867 609 236 (LC T e 1 (some (vI (nI K))) (some (vI (nI z))) x8 (some (vI (chR hp o z n K (xs (3 * e + 1)) (xs (3 * e + 2))))) x10 x11) [] RP (hdr (chH hp o z n K (xs (3 * e + 1)) (xs (3 * e + 2))) (nO o z (chR hp o z n K (xs (3 * e + 1)) (xs (3 * e + 2)))) (nZ z (chR hp o z n K (xs (3 * e + 1)) (xs (3 * e + 2))))) PL := by
  have e3 : (3 : Int32) * nI e = nI (3 * e) := pk_mul 3 e
  have e31 : nI (3 * e) + 1 = nI (3 * e + 1) := nI_1 _
  have e32 : nI (3 * e) + 2 = nI (3 * e + 2) := nI_add _ 2
  obtain ⟨n2, L2, hn2, -⟩ := ch_LI (a := xs (3 * e + 1)) (b := xs (3 * e + 2)) L hK
  have L3 := L2.dft (o2 := nO o z (chR hp o z n K (xs (3 * e + 1)) (xs (3 * e + 2)))) (z2 := nZ z (chR hp o z n K (xs (3 * e + 1)) (xs (3 * e + 2))))
  by_cases hr : chR hp o z n K (xs (3 * e + 1)) (xs (3 * e + 2)) < 0
  · refine r_iload_n dL_law_236 (i := 3) rfl rfl ?_
    refine r_if_eq dL_law_237 (tgt := 357) rfl (fun h237 => absurd h237 ((by decide))) (fun _ => ?_)
    refine r_iload dL_law_240 rfl ?_
    refine r_if_lt dL_law_242 (tgt := 357) rfl (fun _ => ?_) (fun h242 => absurd (hr) h242)
    exact kD kk (L3.mono (by omega))
  · have e5 : jrem (nI e) 5 = nI (e % 5) := jrem_nI (by omega) (by decide) (by decide)
    by_cases h54 : e % 5 = 4
    · obtain ⟨y, o4, ey, cU, L4, ag⟩ := un_LI (g := g) (a := xs (3 * e + 1)) (b := xs (3 * e + 2)) L hK hr
      have hh := tL_holds (g := g) L4 (by omega)
      have L5 := L4.dft (o2 := o4) (z2 := y)
      have a5 : AG hp (hdr (CPS (hset (hdr (chH hp o z n K (xs (3 * e + 1)) (xs (3 * e + 2))) (nO o z (chR hp o z n K (xs (3 * e + 1)) (xs (3 * e + 2)))) (nZ z (chR hp o z n K (xs (3 * e + 1)) (xs (3 * e + 2))))) (8, 0, 0, 0) 2 (nI y)) 0 (hrow o z + 1)) o4 y) := ag.sy.tr hdr_AG.sy
      have cC := tL_change (g := g) (a := xs (3 * e + 1)) (b := xs (3 * e + 2)) hX L5 hK
      obtain ⟨r2, a6⟩ := ch_AG (a := xs (3 * e + 1)) (b := xs (3 * e + 2)) L L5 a5 hK
      obtain ⟨n6, L6, -, -⟩ := ch_LI (a := xs (3 * e + 1)) (b := xs (3 * e + 2)) L5 hK
      have cx := c_count (g := g) (k := 10) L3.2.2 (by decide)
      have cm := c_count (g := g) (k := 6) L3.2.2 (by decide)
      have dx := c_count (g := g) (k := 10) L6.2.2 (by decide)
      have dm := c_count (g := g) (k := 6) L6.2.2 (by decide)
      have a7 := (hdr_AG (o := nO o z (chR hp o z n K (xs (3 * e + 1)) (xs (3 * e + 2)))) (z := nZ z (chR hp o z n K (xs (3 * e + 1)) (xs (3 * e + 2))))).tr a6
      have qx := a7.c0 (i := 4) (by decide) (by decide)
      have qm := a7.c0 (i := 6) (by decide) (by decide)
      have L7 := L6.mono (show 2 * e + 1 ≤ 2 * (e + 1) by omega)
      rw [← r2] at cC
      revert cU hh cC cx cm dx dm qx qm L7
      generalize hdr (CPS (hset (hdr (chH hp o z n K (xs (3 * e + 1)) (xs (3 * e + 2))) (nO o z (chR hp o z n K (xs (3 * e + 1)) (xs (3 * e + 2)))) (nZ z (chR hp o z n K (xs (3 * e + 1)) (xs (3 * e + 2))))) (8, 0, 0, 0) 2 (nI y)) 0 (hrow o z + 1)) o4 y = h5
      generalize CPS (hset (hdr (chH hp o z n K (xs (3 * e + 1)) (xs (3 * e + 2))) (nO o z (chR hp o z n K (xs (3 * e + 1)) (xs (3 * e + 2)))) (nZ z (chR hp o z n K (xs (3 * e + 1)) (xs (3 * e + 2))))) (8, 0, 0, 0) 2 (nI y)) 0 (hrow o z + 1) = h4
      generalize hdr (chH hp o z n K (xs (3 * e + 1)) (xs (3 * e + 2))) (nO o z (chR hp o z n K (xs (3 * e + 1)) (xs (3 * e + 2)))) (nZ z (chR hp o z n K (xs (3 * e + 1)) (xs (3 * e + 2)))) = h3
      generalize chH h5 o4 y n K (xs (3 * e + 1)) (xs (3 * e + 2)) = h6
      intro cU hh cC cx cm dx dm qx qm L7
      have hz6 := L.1.2.1
      by_cases hz : z = 6
      · refine r_iload_n dL_law_236 (i := 3) rfl rfl ?_
        refine r_if_eq dL_law_237 (tgt := 357) rfl (fun h237 => absurd h237 ((by decide))) (fun _ => ?_)
        refine r_iload dL_law_240 rfl ?_
        refine r_if_lt dL_law_242 (tgt := 357) rfl (fun h242 => absurd h242 (hr)) (fun _ => ?_)
        refine r_iload dL_law_245 rfl ?_
        refine r_iconst dL_law_247 (v := 5) rfl ?_
        refine r_irem dL_law_248 (by decide) ?_
        refine r_iconst dL_law_249 (v := 4) rfl ?_
        refine r_icmp_ne dL_law_250 (tgt := 357) rfl (fun h250 => absurd ((by rw [e5, h54]; rfl)) h250) (fun _ => ?_)
        refine r_aload_n dL_law_253 (i := 1) rfl rfl ?_
        refine r_bipush dL_law_254 (v := 10) rfl ?_
        refine sL_law_256 (Nat.le_refl _) (Nat.le_refl _) rfl lv15 (Nat.le_of_ble_eq_true rfl) (cx) ?_
        refine r_istore dL_law_259 (Nat.le_of_ble_eq_true rfl) rfl rfl ?_
        refine r_aload_n dL_law_261 (i := 1) rfl rfl ?_
        refine r_bipush dL_law_262 (v := 6) rfl ?_
        refine sL_law_264 (Nat.le_refl _) (Nat.le_refl _) rfl lv15 (Nat.le_of_ble_eq_true rfl) (cm) ?_
        refine r_istore dL_law_267 (Nat.le_of_ble_eq_true rfl) rfl rfl ?_
        refine r_aload_n dL_law_269 (i := 1) rfl rfl ?_
        refine sL_law_270 (Nat.le_refl _) (Nat.le_refl _) rfl lv15 (Nat.le_of_ble_eq_true rfl) (cU) ?_
        refine r_iload dL_law_273 rfl ?_
        refine r_bipush dL_law_275 (v := 6) rfl ?_
        refine r_icmp_ne dL_law_277 (tgt := 284) rfl (fun h277 => absurd ((by rw [hz]; rfl)) h277) (fun _ => ?_)
        refine r_iconst dL_law_280 (v := 5) rfl ?_
        refine r_goto dL_law_281 (tgt := 286) rfl ?_
        refine r_icmp_ne dL_law_286 (tgt := 355) rfl (fun h286 => absurd ((by rw [ey, if_pos hz]; rfl)) h286) (fun _ => ?_)
        refine r_aload_n dL_law_289 (i := 1) rfl rfl ?_
        refine r_aload_n dL_law_290 (i := 2) rfl rfl ?_
        refine sL_law_291 (Nat.le_refl _) (Nat.le_refl _) (Nat.le_of_ble_eq_true rfl) (hh) ?_
        refine r_if_eq dL_law_294 (tgt := 355) rfl (fun h294 => absurd h294 ((by decide))) (fun _ => ?_)
        refine r_aload_n dL_law_297 (i := 1) rfl rfl ?_
        refine r_aload_n dL_law_298 (i := 2) rfl rfl ?_
        refine r_iload dL_law_299 rfl ?_
        refine r_aload_n dL_law_301 (i := 0) rfl rfl ?_
        refine r_iconst dL_law_302 (v := 3) rfl ?_
        refine r_iload dL_law_303 rfl ?_
        refine r_imul dL_law_305 ?_
        refine r_iconst dL_law_306 (v := 1) rfl ?_
        refine r_iadd dL_law_307 ?_
        rw [e3, e31]
        refine sL_law_308 (Nat.le_refl _) (Nat.le_refl _) (Nat.le_of_ble_eq_true rfl) (tL_cell hX0 (by omega) (by omega)) ?_
        refine r_aload_n dL_law_311 (i := 0) rfl rfl ?_
        refine r_iconst dL_law_312 (v := 3) rfl ?_
        refine r_iload dL_law_313 rfl ?_
        refine r_imul dL_law_315 ?_
        refine r_iconst dL_law_316 (v := 2) rfl ?_
        refine r_iadd dL_law_317 ?_
        rw [e3, e32]
        refine sL_law_318 (Nat.le_refl _) (Nat.le_refl _) (Nat.le_of_ble_eq_true rfl) (tL_cell hX0 (by omega) (by omega)) ?_
        refine sL_law_321 (Nat.le_refl _) (Nat.le_refl _) (Nat.le_of_ble_eq_true rfl) (cC) ?_
        refine r_iload dL_law_324 rfl ?_
        refine r_icmp_ne dL_law_326 (tgt := 355) rfl (fun h326 => absurd (rfl) h326) (fun _ => ?_)
        refine r_aload_n dL_law_329 (i := 1) rfl rfl ?_
        refine r_bipush dL_law_330 (v := 10) rfl ?_
        refine sL_law_332 (Nat.le_refl _) (Nat.le_refl _) rfl lv15 (Nat.le_of_ble_eq_true rfl) (dx) ?_
        refine r_iload dL_law_335 rfl ?_
        refine r_icmp_ne dL_law_337 (tgt := 355) rfl (fun h337 => absurd (qx.symm) h337) (fun _ => ?_)
        refine r_aload_n dL_law_340 (i := 1) rfl rfl ?_
        refine r_bipush dL_law_341 (v := 6) rfl ?_
        refine sL_law_343 (Nat.le_refl _) (Nat.le_refl _) rfl lv15 (Nat.le_of_ble_eq_true rfl) (dm) ?_
        refine r_iload dL_law_346 rfl ?_
        refine r_icmp_ne dL_law_348 (tgt := 355) rfl (fun h348 => absurd (qm.symm) h348) (fun _ => ?_)
        refine r_iconst dL_law_351 (v := 1) rfl ?_
        refine r_goto dL_law_352 (tgt := 356) rfl ?_
        refine r_istore_n dL_law_356 (i := 3) rfl (Nat.le_of_ble_eq_true rfl) rfl rfl ?_
        exact kD kk L7
      · refine r_iload_n dL_law_236 (i := 3) rfl rfl ?_
        refine r_if_eq dL_law_237 (tgt := 357) rfl (fun h237 => absurd h237 ((by decide))) (fun _ => ?_)
        refine r_iload dL_law_240 rfl ?_
        refine r_if_lt dL_law_242 (tgt := 357) rfl (fun h242 => absurd h242 (hr)) (fun _ => ?_)
        refine r_iload dL_law_245 rfl ?_
        refine r_iconst dL_law_247 (v := 5) rfl ?_
        refine r_irem dL_law_248 (by decide) ?_
        refine r_iconst dL_law_249 (v := 4) rfl ?_
        refine r_icmp_ne dL_law_250 (tgt := 357) rfl (fun h250 => absurd ((by rw [e5, h54]; rfl)) h250) (fun _ => ?_)
        refine r_aload_n dL_law_253 (i := 1) rfl rfl ?_
        refine r_bipush dL_law_254 (v := 10) rfl ?_
        refine sL_law_256 (Nat.le_refl _) (Nat.le_refl _) rfl lv15 (Nat.le_of_ble_eq_true rfl) (cx) ?_
        refine r_istore dL_law_259 (Nat.le_of_ble_eq_true rfl) rfl rfl ?_
        refine r_aload_n dL_law_261 (i := 1) rfl rfl ?_
        refine r_bipush dL_law_262 (v := 6) rfl ?_
        refine sL_law_264 (Nat.le_refl _) (Nat.le_refl _) rfl lv15 (Nat.le_of_ble_eq_true rfl) (cm) ?_
        refine r_istore dL_law_267 (Nat.le_of_ble_eq_true rfl) rfl rfl ?_
        refine r_aload_n dL_law_269 (i := 1) rfl rfl ?_
        refine sL_law_270 (Nat.le_refl _) (Nat.le_refl _) rfl lv15 (Nat.le_of_ble_eq_true rfl) (cU) ?_
        refine r_iload dL_law_273 rfl ?_
        refine r_bipush dL_law_275 (v := 6) rfl ?_
        refine r_icmp_ne dL_law_277 (tgt := 284) rfl (fun _ => ?_) (fun h277 => absurd h277 ((by rw [show (6 : Int32) = nI 6 from rfl, nI_eq (by omega) (by decide)]; exact hz)))
        refine r_iload dL_law_284 rfl ?_
        refine r_icmp_ne dL_law_286 (tgt := 355) rfl (fun h286 => absurd ((by rw [ey, if_neg hz])) h286) (fun _ => ?_)
        refine r_aload_n dL_law_289 (i := 1) rfl rfl ?_
        refine r_aload_n dL_law_290 (i := 2) rfl rfl ?_
        refine sL_law_291 (Nat.le_refl _) (Nat.le_refl _) (Nat.le_of_ble_eq_true rfl) (hh) ?_
        refine r_if_eq dL_law_294 (tgt := 355) rfl (fun h294 => absurd h294 ((by decide))) (fun _ => ?_)
        refine r_aload_n dL_law_297 (i := 1) rfl rfl ?_
        refine r_aload_n dL_law_298 (i := 2) rfl rfl ?_
        refine r_iload dL_law_299 rfl ?_
        refine r_aload_n dL_law_301 (i := 0) rfl rfl ?_
        refine r_iconst dL_law_302 (v := 3) rfl ?_
        refine r_iload dL_law_303 rfl ?_
        refine r_imul dL_law_305 ?_
        refine r_iconst dL_law_306 (v := 1) rfl ?_
        refine r_iadd dL_law_307 ?_
        rw [e3, e31]
        refine sL_law_308 (Nat.le_refl _) (Nat.le_refl _) (Nat.le_of_ble_eq_true rfl) (tL_cell hX0 (by omega) (by omega)) ?_
        refine r_aload_n dL_law_311 (i := 0) rfl rfl ?_
        refine r_iconst dL_law_312 (v := 3) rfl ?_
        refine r_iload dL_law_313 rfl ?_
        refine r_imul dL_law_315 ?_
        refine r_iconst dL_law_316 (v := 2) rfl ?_
        refine r_iadd dL_law_317 ?_
        rw [e3, e32]
        refine sL_law_318 (Nat.le_refl _) (Nat.le_refl _) (Nat.le_of_ble_eq_true rfl) (tL_cell hX0 (by omega) (by omega)) ?_
        refine sL_law_321 (Nat.le_refl _) (Nat.le_refl _) (Nat.le_of_ble_eq_true rfl) (cC) ?_
        refine r_iload dL_law_324 rfl ?_
        refine r_icmp_ne dL_law_326 (tgt := 355) rfl (fun h326 => absurd (rfl) h326) (fun _ => ?_)
        refine r_aload_n dL_law_329 (i := 1) rfl rfl ?_
        refine r_bipush dL_law_330 (v := 10) rfl ?_
        refine sL_law_332 (Nat.le_refl _) (Nat.le_refl _) rfl lv15 (Nat.le_of_ble_eq_true rfl) (dx) ?_
        refine r_iload dL_law_335 rfl ?_
        refine r_icmp_ne dL_law_337 (tgt := 355) rfl (fun h337 => absurd (qx.symm) h337) (fun _ => ?_)
        refine r_aload_n dL_law_340 (i := 1) rfl rfl ?_
        refine r_bipush dL_law_341 (v := 6) rfl ?_
        refine sL_law_343 (Nat.le_refl _) (Nat.le_refl _) rfl lv15 (Nat.le_of_ble_eq_true rfl) (dm) ?_
        refine r_iload dL_law_346 rfl ?_
        refine r_icmp_ne dL_law_348 (tgt := 355) rfl (fun h348 => absurd (qm.symm) h348) (fun _ => ?_)
        refine r_iconst dL_law_351 (v := 1) rfl ?_
        refine r_goto dL_law_352 (tgt := 356) rfl ?_
        refine r_istore_n dL_law_356 (i := 3) rfl (Nat.le_of_ble_eq_true rfl) rfl rfl ?_
        exact kD kk L7
    · refine r_iload_n dL_law_236 (i := 3) rfl rfl ?_
      refine r_if_eq dL_law_237 (tgt := 357) rfl (fun h237 => absurd h237 ((by decide))) (fun _ => ?_)
      refine r_iload dL_law_240 rfl ?_
      refine r_if_lt dL_law_242 (tgt := 357) rfl (fun h242 => absurd h242 (hr)) (fun _ => ?_)
      refine r_iload dL_law_245 rfl ?_
      refine r_iconst dL_law_247 (v := 5) rfl ?_
      refine r_irem dL_law_248 (by decide) ?_
      refine r_iconst dL_law_249 (v := 4) rfl ?_
      refine r_icmp_ne dL_law_250 (tgt := 357) rfl (fun _ => ?_) (fun h250 => absurd h250 ((by rw [e5, show (4 : Int32) = nI 4 from rfl, nI_eq (by omega) (by decide)]; exact h54)))
      exact kD kk (L3.mono (by omega))
/-- behind the first change: the history's count, the answer that was foretold, what is told -/
theorem kB {w8 : Int32} {x10 x11 : Option Vv} (hX : GX g) (hX0 : g.2.2.2.2 0 = (N, xs)) (hN : N ≤ 260) (he : 3 * e + 3 ≤ N) (he30 : e < 30) (hK : K < 17) (kk : KN g T e) (L : LI hp o z n (2 * e)) (hw : K = 10 ∨ K = 11 → w8 = chR hp o z n K (xs (3 * e + 1)) (xs (3 * e + 2))) : V g mL_law 609 3867 609 3867 609 166 (LC T e 1 (some (vI (nI K))) (some (vI (nI z))) (some (vI w8)) (some (vI (chR hp o z n K (xs (3 * e + 1)) (xs (3 * e + 2))))) x10 x11) [] RP (chH hp o z n K (xs (3 * e + 1)) (xs (3 * e + 2))) PL := by
  obtain ⟨n2, L2, hn2, -⟩ := ch_LI (a := xs (3 * e + 1)) (b := xs (3 * e + 2)) L hK
  have hz6 := L.1.2.1
  have ec := L2.1.2.2.2
  have hh := tL_holds (g := g) L2 (by omega)
  have kc := kC (g := g) (x8 := some (vI w8)) (x10 := x10) (x11 := x11) hX hX0 hN he he30 hK kk L
  have k2 : V g mL_law 609 3867 609 3867 609 201 (LC T e 1 (some (vI (nI K))) (some (vI (nI z))) (some (vI w8)) (some (vI (chR hp o z n K (xs (3 * e + 1)) (xs (3 * e + 2))))) x10 x11) [] RP (chH hp o z n K (xs (3 * e + 1)) (xs (3 * e + 2))) PL := by
    by_cases h10 : K = 10
    · have hw2 := hw (Or.inl h10)
      refine r_iload dL_law_201 rfl ?_
      refine r_bipush dL_law_203 (v := 10) rfl ?_
      refine r_icmp_eq dL_law_205 (tgt := 215) rfl (fun _ => ?_) (fun h205 => absurd ((by rw [h10]; rfl)) h205)
      refine r_iload dL_law_215 rfl ?_
      refine r_iload dL_law_217 rfl ?_
      refine r_icmp_ne dL_law_219 (tgt := 234) rfl (fun h219 => absurd (hw2.symm) h219) (fun _ => ?_)
      refine r_aload_n dL_law_222 (i := 1) rfl rfl ?_
      refine r_aload_n dL_law_223 (i := 2) rfl rfl ?_
      refine sL_law_224 (Nat.le_refl _) (Nat.le_refl _) (Nat.le_of_ble_eq_true rfl) (hh) ?_
      refine r_if_eq dL_law_227 (tgt := 234) rfl (fun h227 => absurd h227 ((by decide))) (fun _ => ?_)
      refine r_iconst dL_law_230 (v := 1) rfl ?_
      refine r_goto dL_law_231 (tgt := 235) rfl ?_
      refine r_istore_n dL_law_235 (i := 3) rfl (Nat.le_of_ble_eq_true rfl) rfl rfl ?_
      exact kc
    · have n10 : ¬ nI K = 10 := by rw [show (10 : Int32) = nI 10 from rfl, nI_eq (by omega) (by decide)]; exact h10
      by_cases h11 : K = 11
      · have hw2 := hw (Or.inr h11)
        refine r_iload dL_law_201 rfl ?_
        refine r_bipush dL_law_203 (v := 10) rfl ?_
        refine r_icmp_eq dL_law_205 (tgt := 215) rfl (fun h205 => absurd h205 (n10)) (fun _ => ?_)
        refine r_iload dL_law_208 rfl ?_
        refine r_bipush dL_law_210 (v := 11) rfl ?_
        refine r_icmp_ne dL_law_212 (tgt := 222) rfl (fun h212 => absurd ((by rw [h11]; rfl)) h212) (fun _ => ?_)
        refine r_iload dL_law_215 rfl ?_
        refine r_iload dL_law_217 rfl ?_
        refine r_icmp_ne dL_law_219 (tgt := 234) rfl (fun h219 => absurd (hw2.symm) h219) (fun _ => ?_)
        refine r_aload_n dL_law_222 (i := 1) rfl rfl ?_
        refine r_aload_n dL_law_223 (i := 2) rfl rfl ?_
        refine sL_law_224 (Nat.le_refl _) (Nat.le_refl _) (Nat.le_of_ble_eq_true rfl) (hh) ?_
        refine r_if_eq dL_law_227 (tgt := 234) rfl (fun h227 => absurd h227 ((by decide))) (fun _ => ?_)
        refine r_iconst dL_law_230 (v := 1) rfl ?_
        refine r_goto dL_law_231 (tgt := 235) rfl ?_
        refine r_istore_n dL_law_235 (i := 3) rfl (Nat.le_of_ble_eq_true rfl) rfl rfl ?_
        exact kc
      · have n11 : ¬ nI K = 11 := by rw [show (11 : Int32) = nI 11 from rfl, nI_eq (by omega) (by decide)]; exact h11
        refine r_iload dL_law_201 rfl ?_
        refine r_bipush dL_law_203 (v := 10) rfl ?_
        refine r_icmp_eq dL_law_205 (tgt := 215) rfl (fun h205 => absurd h205 (n10)) (fun _ => ?_)
        refine r_iload dL_law_208 rfl ?_
        refine r_bipush dL_law_210 (v := 11) rfl ?_
        refine r_icmp_ne dL_law_212 (tgt := 222) rfl (fun _ => ?_) (fun h212 => absurd h212 (n11))
        refine r_aload_n dL_law_222 (i := 1) rfl rfl ?_
        refine r_aload_n dL_law_223 (i := 2) rfl rfl ?_
        refine sL_law_224 (Nat.le_refl _) (Nat.le_refl _) (Nat.le_of_ble_eq_true rfl) (hh) ?_
        refine r_if_eq dL_law_227 (tgt := 234) rfl (fun h227 => absurd h227 ((by decide))) (fun _ => ?_)
        refine r_iconst dL_law_230 (v := 1) rfl ?_
        refine r_goto dL_law_231 (tgt := 235) rfl ?_
        refine r_istore_n dL_law_235 (i := 3) rfl (Nat.le_of_ble_eq_true rfl) rfl rfl ?_
        exact kc
  by_cases hr : chR hp o z n K (xs (3 * e + 1)) (xs (3 * e + 2)) < 0
  · have eZ : nZ z (chR hp o z n K (xs (3 * e + 1)) (xs (3 * e + 2))) = z := if_pos hr
    refine r_aload_n dL_law_166 (i := 1) rfl rfl ?_
    refine r_bipush dL_law_167 (v := 15) rfl ?_
    refine sL_law_169 (Nat.le_refl _) (Nat.le_refl _) rfl lv15 (Nat.le_of_ble_eq_true rfl) ((tX6_count_u rfl).eq ec rfl) ?_
    refine r_iload dL_law_172 rfl ?_
    refine r_if_ge dL_law_174 (tgt := 182) rfl (fun h174 => absurd h174 ((fun h => absurd hr (Int32.not_lt.mpr h)))) (fun _ => ?_)
    refine r_iload dL_law_177 rfl ?_
    refine r_goto dL_law_179 (tgt := 198) rfl ?_
    refine r_icmp_ne dL_law_198 (tgt := 234) rfl (fun h198 => absurd ((by rw [eZ])) h198) (fun _ => ?_)
    exact k2
  · have eZ : nZ z (chR hp o z n K (xs (3 * e + 1)) (xs (3 * e + 2))) = if z < 6 then z + 1 else 6 := if_neg hr
    by_cases hz : z = 6
    · refine r_aload_n dL_law_166 (i := 1) rfl rfl ?_
      refine r_bipush dL_law_167 (v := 15) rfl ?_
      refine sL_law_169 (Nat.le_refl _) (Nat.le_refl _) rfl lv15 (Nat.le_of_ble_eq_true rfl) ((tX6_count_u rfl).eq ec rfl) ?_
      refine r_iload dL_law_172 rfl ?_
      refine r_if_ge dL_law_174 (tgt := 182) rfl (fun _ => ?_) (fun h174 => absurd (Int32.not_lt.mp hr) h174)
      refine r_iload dL_law_182 rfl ?_
      refine r_bipush dL_law_184 (v := 6) rfl ?_
      refine r_icmp_ne dL_law_186 (tgt := 194) rfl (fun h186 => absurd ((by rw [hz]; rfl)) h186) (fun _ => ?_)
      refine r_bipush dL_law_189 (v := 6) rfl ?_
      refine r_goto dL_law_191 (tgt := 198) rfl ?_
      refine r_icmp_ne dL_law_198 (tgt := 234) rfl (fun h198 => absurd ((by rw [eZ, if_neg (by omega)]; rfl)) h198) (fun _ => ?_)
      exact k2
    · refine r_aload_n dL_law_166 (i := 1) rfl rfl ?_
      refine r_bipush dL_law_167 (v := 15) rfl ?_
      refine sL_law_169 (Nat.le_refl _) (Nat.le_refl _) rfl lv15 (Nat.le_of_ble_eq_true rfl) ((tX6_count_u rfl).eq ec rfl) ?_
      refine r_iload dL_law_172 rfl ?_
      refine r_if_ge dL_law_174 (tgt := 182) rfl (fun _ => ?_) (fun h174 => absurd (Int32.not_lt.mp hr) h174)
      refine r_iload dL_law_182 rfl ?_
      refine r_bipush dL_law_184 (v := 6) rfl ?_
      refine r_icmp_ne dL_law_186 (tgt := 194) rfl (fun _ => ?_) (fun h186 => absurd h186 ((by rw [show (6 : Int32) = nI 6 from rfl, nI_eq (by omega) (by decide)]; exact hz)))
      refine r_iload dL_law_194 rfl ?_
      refine r_iconst dL_law_196 (v := 1) rfl ?_
      refine r_iadd dL_law_197 ?_
      refine r_icmp_ne dL_law_198 (tgt := 234) rfl (fun h198 => absurd ((by rw [eZ, if_pos (by omega), nI_1])) h198) (fun _ => ?_)
      exact k2
theorem kA {w8 : Int32} {x9 x10 x11 : Option Vv} (hX : GX g) (hX0 : g.2.2.2.2 0 = (N, xs)) (hN : N ≤ 260) (he : 3 * e + 3 ≤ N) (he30 : e < 30) (hK : K < 17) (kk : KN g T e) (L : LI hp o z n (2 * e)) (hw : K = 10 ∨ K = 11 → w8 = chR hp o z n K (xs (3 * e + 1)) (xs (3 * e + 2))) : V g mL_law 609 3867 609 3867 609 137 (LC T e 1 (some (vI (nI K))) (some (vI (nI z))) (some (vI w8)) x9 x10 x11) [] RP hp PL := by
  have e3 : (3 : Int32) * nI e = nI (3 * e) := pk_mul 3 e
  have e31 : nI (3 * e) + 1 = nI (3 * e + 1) := nI_1 _
  have e32 : nI (3 * e) + 2 = nI (3 * e + 2) := nI_add _ 2
  have cC := tL_change (g := g) (a := xs (3 * e + 1)) (b := xs (3 * e + 2)) hX L hK
  have kb := kB (g := g) (x10 := x10) (x11 := x11) hX hX0 hN he he30 hK kk L hw
  refine r_aload_n dL_law_137 (i := 1) rfl rfl ?_
  refine r_aload_n dL_law_138 (i := 2) rfl rfl ?_
  refine r_iload dL_law_139 rfl ?_
  refine r_aload_n dL_law_141 (i := 0) rfl rfl ?_
  refine r_iconst dL_law_142 (v := 3) rfl ?_
  refine r_iload dL_law_143 rfl ?_
  refine r_imul dL_law_145 ?_
  refine r_iconst dL_law_146 (v := 1) rfl ?_
  refine r_iadd dL_law_147 ?_
  rw [e3, e31]
  refine sL_law_148 (Nat.le_refl _) (Nat.le_refl _) (Nat.le_of_ble_eq_true rfl) (tL_cell hX0 (by omega) (by omega)) ?_
  refine r_aload_n dL_law_151 (i := 0) rfl rfl ?_
  refine r_iconst dL_law_152 (v := 3) rfl ?_
  refine r_iload dL_law_153 rfl ?_
  refine r_imul dL_law_155 ?_
  refine r_iconst dL_law_156 (v := 2) rfl ?_
  refine r_iadd dL_law_157 ?_
  rw [e3, e32]
  refine sL_law_158 (Nat.le_refl _) (Nat.le_refl _) (Nat.le_of_ble_eq_true rfl) (tL_cell hX0 (by omega) (by omega)) ?_
  refine sL_law_161 (Nat.le_refl _) (Nat.le_refl _) (Nat.le_of_ble_eq_true rfl) (cC) ?_
  refine r_istore dL_law_164 (Nat.le_of_ble_eq_true rfl) rfl rfl ?_
  exact kb
/-- a turn -/
theorem kT {x6 x7 x8 x9 x10 x11 : Option Vv} (hX : GX g) (hX0 : g.2.2.2.2 0 = (N, xs)) (hN : N ≤ 260) (he : 3 * e + 3 ≤ N) (he30 : e < 30) (heT : e < T) (hT : T ≤ 30) (kk : KN g T e) (L : LI hp o z n (2 * e)) : V g mL_law 609 3867 609 3867 609 59 (LC T e 1 x6 x7 x8 x9 x10 x11) [] RP hp PL := by
  have h8 := L.n8
  have e3 : (3 : Int32) * nI e = nI (3 * e) := pk_mul 3 e
  have e31 : nI (3 * e) + 1 = nI (3 * e + 1) := nI_1 _
  have hK : lowN (xs (3 * e)) 17 < 17 := lowN_lt (by decide)
  have hmg : ∀ k, k ≤ n → Ci g mX6_ifMerged [vR (15, 0, 0, 0), vI (nI k)] hp (if k < n then (if fSlp hp 0 = true then -5 else fMerge hp 0 k) else -1) hp := fun k hk => by
    by_cases hkn : k < n
    · rw [if_pos hkn]
      exact c_ifm L.2.2 hkn
    · obtain rfl : k = n := by omega
      rw [if_neg hkn]
      exact tX6_ifMerged (tX5_answerOfMerger_e (by decide) L.2.2.hasn)
  have hmr := ch_mg (a := xs (3 * e + 1)) (b := xs (3 * e + 2)) (K := lowN (xs (3 * e)) 17) L
  have hm2 := hmg (lowN (xs (3 * e + 1)) (n + 1)) (Nat.le_of_lt_succ (lowN_lt (Nat.succ_pos _)))
  have ka := @kA g T e N xs hp o z n (lowN (xs (3 * e)) 17)
  have cl := tL_low (g := g) (hp := hp) (v := xs (3 * e)) (m := 17) (by decide) (by decide)
  revert hmr cl hK
  generalize lowN (xs (3 * e)) 17 = K at *
  intro hK hmr cl
  by_cases h10 : K = 10
  · refine r_iload dL_law_59 rfl ?_
    refine r_iload dL_law_61 rfl ?_
    refine r_icmp_ge dL_law_63 (tgt := 363) rfl (fun h63 => absurd h63 (nI_ge heT (by omega))) (fun _ => ?_)
    refine r_iload_n dL_law_66 (i := 3) rfl rfl ?_
    refine r_if_eq dL_law_67 (tgt := 363) rfl (fun h67 => absurd h67 ((by decide))) (fun _ => ?_)
    refine r_aload_n dL_law_70 (i := 0) rfl rfl ?_
    refine r_iconst dL_law_71 (v := 3) rfl ?_
    refine r_iload dL_law_72 rfl ?_
    refine r_imul dL_law_74 ?_
    rw [e3]
    refine sL_law_75 (Nat.le_refl _) (Nat.le_refl _) (Nat.le_of_ble_eq_true rfl) (tL_cell hX0 (by omega) (by omega)) ?_
    refine r_bipush dL_law_78 (v := 17) rfl ?_
    refine sL_law_80 (Nat.le_refl _) (Nat.le_refl _) (Nat.le_of_ble_eq_true rfl) (cl) ?_
    refine r_istore dL_law_83 (Nat.le_of_ble_eq_true rfl) rfl rfl ?_
    refine r_aload_n dL_law_85 (i := 1) rfl rfl ?_
    refine r_bipush dL_law_86 (v := 15) rfl ?_
    refine sL_law_88 (Nat.le_refl _) (Nat.le_refl _) rfl lv15 (Nat.le_of_ble_eq_true rfl) ((tX6_count_u rfl).eq L.1.2.2.2 rfl) ?_
    refine r_istore dL_law_91 (Nat.le_of_ble_eq_true rfl) rfl rfl ?_
    refine r_iload dL_law_93 rfl ?_
    refine r_bipush dL_law_95 (v := 10) rfl ?_
    refine r_icmp_eq dL_law_97 (tgt := 107) rfl (fun _ => ?_) (fun h97 => absurd ((by rw [h10]; rfl)) h97)
    refine r_aload_n dL_law_107 (i := 1) rfl rfl ?_
    refine r_aload_n dL_law_108 (i := 0) rfl rfl ?_
    refine r_iconst dL_law_109 (v := 3) rfl ?_
    refine r_iload dL_law_110 rfl ?_
    refine r_imul dL_law_112 ?_
    refine r_iconst dL_law_113 (v := 1) rfl ?_
    refine r_iadd dL_law_114 ?_
    rw [e3, e31]
    refine sL_law_115 (Nat.le_refl _) (Nat.le_refl _) (Nat.le_of_ble_eq_true rfl) (tL_cell hX0 (by omega) (by omega)) ?_
    refine r_aload_n dL_law_118 (i := 1) rfl rfl ?_
    refine r_iconst dL_law_119 (v := 1) rfl ?_
    refine sL_law_120 (Nat.le_refl _) (Nat.le_refl _) rfl lv15 (Nat.le_of_ble_eq_true rfl) (c_count1 L.2.2) ?_
    refine r_iconst dL_law_123 (v := 1) rfl ?_
    refine r_iadd dL_law_124 ?_
    rw [nI_1 n]
    refine sL_law_125 (Nat.le_refl _) (Nat.le_refl _) (Nat.le_of_ble_eq_true rfl) (tL_low (m := n + 1) (Nat.succ_pos _) (by omega)) ?_
    refine sL_law_128 (Nat.le_refl _) (Nat.le_refl _) rfl lv15 (Nat.le_of_ble_eq_true rfl) (hm2) ?_
    refine r_goto dL_law_131 (tgt := 135) rfl ?_
    refine r_istore dL_law_135 (Nat.le_of_ble_eq_true rfl) rfl rfl ?_
    exact ka hX hX0 hN he he30 hK kk L (fun h => (hmr h).symm)
  · have n10 : ¬ nI K = 10 := by rw [show (10 : Int32) = nI 10 from rfl, nI_eq (by omega) (by decide)]; exact h10
    by_cases h11 : K = 11
    · refine r_iload dL_law_59 rfl ?_
      refine r_iload dL_law_61 rfl ?_
      refine r_icmp_ge dL_law_63 (tgt := 363) rfl (fun h63 => absurd h63 (nI_ge heT (by omega))) (fun _ => ?_)
      refine r_iload_n dL_law_66 (i := 3) rfl rfl ?_
      refine r_if_eq dL_law_67 (tgt := 363) rfl (fun h67 => absurd h67 ((by decide))) (fun _ => ?_)
      refine r_aload_n dL_law_70 (i := 0) rfl rfl ?_
      refine r_iconst dL_law_71 (v := 3) rfl ?_
      refine r_iload dL_law_72 rfl ?_
      refine r_imul dL_law_74 ?_
      rw [e3]
      refine sL_law_75 (Nat.le_refl _) (Nat.le_refl _) (Nat.le_of_ble_eq_true rfl) (tL_cell hX0 (by omega) (by omega)) ?_
      refine r_bipush dL_law_78 (v := 17) rfl ?_
      refine sL_law_80 (Nat.le_refl _) (Nat.le_refl _) (Nat.le_of_ble_eq_true rfl) (cl) ?_
      refine r_istore dL_law_83 (Nat.le_of_ble_eq_true rfl) rfl rfl ?_
      refine r_aload_n dL_law_85 (i := 1) rfl rfl ?_
      refine r_bipush dL_law_86 (v := 15) rfl ?_
      refine sL_law_88 (Nat.le_refl _) (Nat.le_refl _) rfl lv15 (Nat.le_of_ble_eq_true rfl) ((tX6_count_u rfl).eq L.1.2.2.2 rfl) ?_
      refine r_istore dL_law_91 (Nat.le_of_ble_eq_true rfl) rfl rfl ?_
      refine r_iload dL_law_93 rfl ?_
      refine r_bipush dL_law_95 (v := 10) rfl ?_
      refine r_icmp_eq dL_law_97 (tgt := 107) rfl (fun h97 => absurd h97 (n10)) (fun _ => ?_)
      refine r_iload dL_law_100 rfl ?_
      refine r_bipush dL_law_102 (v := 11) rfl ?_
      refine r_icmp_ne dL_law_104 (tgt := 134) rfl (fun h104 => absurd ((by rw [h11]; rfl)) h104) (fun _ => ?_)
      refine r_aload_n dL_law_107 (i := 1) rfl rfl ?_
      refine r_aload_n dL_law_108 (i := 0) rfl rfl ?_
      refine r_iconst dL_law_109 (v := 3) rfl ?_
      refine r_iload dL_law_110 rfl ?_
      refine r_imul dL_law_112 ?_
      refine r_iconst dL_law_113 (v := 1) rfl ?_
      refine r_iadd dL_law_114 ?_
      rw [e3, e31]
      refine sL_law_115 (Nat.le_refl _) (Nat.le_refl _) (Nat.le_of_ble_eq_true rfl) (tL_cell hX0 (by omega) (by omega)) ?_
      refine r_aload_n dL_law_118 (i := 1) rfl rfl ?_
      refine r_iconst dL_law_119 (v := 1) rfl ?_
      refine sL_law_120 (Nat.le_refl _) (Nat.le_refl _) rfl lv15 (Nat.le_of_ble_eq_true rfl) (c_count1 L.2.2) ?_
      refine r_iconst dL_law_123 (v := 1) rfl ?_
      refine r_iadd dL_law_124 ?_
      rw [nI_1 n]
      refine sL_law_125 (Nat.le_refl _) (Nat.le_refl _) (Nat.le_of_ble_eq_true rfl) (tL_low (m := n + 1) (Nat.succ_pos _) (by omega)) ?_
      refine sL_law_128 (Nat.le_refl _) (Nat.le_refl _) rfl lv15 (Nat.le_of_ble_eq_true rfl) (hm2) ?_
      refine r_goto dL_law_131 (tgt := 135) rfl ?_
      refine r_istore dL_law_135 (Nat.le_of_ble_eq_true rfl) rfl rfl ?_
      exact ka hX hX0 hN he he30 hK kk L (fun h => (hmr h).symm)
    · have n11 : ¬ nI K = 11 := by rw [show (11 : Int32) = nI 11 from rfl, nI_eq (by omega) (by decide)]; exact h11
      refine r_iload dL_law_59 rfl ?_
      refine r_iload dL_law_61 rfl ?_
      refine r_icmp_ge dL_law_63 (tgt := 363) rfl (fun h63 => absurd h63 (nI_ge heT (by omega))) (fun _ => ?_)
      refine r_iload_n dL_law_66 (i := 3) rfl rfl ?_
      refine r_if_eq dL_law_67 (tgt := 363) rfl (fun h67 => absurd h67 ((by decide))) (fun _ => ?_)
      refine r_aload_n dL_law_70 (i := 0) rfl rfl ?_
      refine r_iconst dL_law_71 (v := 3) rfl ?_
      refine r_iload dL_law_72 rfl ?_
      refine r_imul dL_law_74 ?_
      rw [e3]
      refine sL_law_75 (Nat.le_refl _) (Nat.le_refl _) (Nat.le_of_ble_eq_true rfl) (tL_cell hX0 (by omega) (by omega)) ?_
      refine r_bipush dL_law_78 (v := 17) rfl ?_
      refine sL_law_80 (Nat.le_refl _) (Nat.le_refl _) (Nat.le_of_ble_eq_true rfl) (cl) ?_
      refine r_istore dL_law_83 (Nat.le_of_ble_eq_true rfl) rfl rfl ?_
      refine r_aload_n dL_law_85 (i := 1) rfl rfl ?_
      refine r_bipush dL_law_86 (v := 15) rfl ?_
      refine sL_law_88 (Nat.le_refl _) (Nat.le_refl _) rfl lv15 (Nat.le_of_ble_eq_true rfl) ((tX6_count_u rfl).eq L.1.2.2.2 rfl) ?_
      refine r_istore dL_law_91 (Nat.le_of_ble_eq_true rfl) rfl rfl ?_
      refine r_iload dL_law_93 rfl ?_
      refine r_bipush dL_law_95 (v := 10) rfl ?_
      refine r_icmp_eq dL_law_97 (tgt := 107) rfl (fun h97 => absurd h97 (n10)) (fun _ => ?_)
      refine r_iload dL_law_100 rfl ?_
      refine r_bipush dL_law_102 (v := 11) rfl ?_
      refine r_icmp_ne dL_law_104 (tgt := 134) rfl (fun _ => ?_) (fun h104 => absurd h104 (n11))
      refine r_iconst dL_law_134 (v := 0) rfl ?_
      refine r_istore dL_law_135 (Nat.le_of_ble_eq_true rfl) rfl rfl ?_
      exact ka hX hX0 hN he he30 hK kk L (fun h => absurd h (by omega))
/-- the law's loop -/
theorem law_loop (hX : GX g) (hX0 : g.2.2.2.2 0 = (N, xs)) (hN : N ≤ 260) (hT3 : 3 * T ≤ N) (hT : T ≤ 30) : ∀ k e, e + k = T → ∀ hp o z n x6 x7 x8 x9 x10 x11, LI hp o z n (2 * e) → V g mL_law 609 3867 609 3867 609 59 (LC T e 1 x6 x7 x8 x9 x10 x11) [] RP hp PL := by
  intro k
  induction k with
  | zero =>
    intro e he hp o z n x6 x7 x8 x9 x10 x11 L
    obtain rfl : e = T := by omega
    refine r_iload dL_law_59 rfl ?_
    refine r_iload dL_law_61 rfl ?_
    refine r_icmp_ge dL_law_63 (tgt := 363) rfl (fun _ => ?_) (fun h63 => absurd (Int32.le_refl _) h63)
    refine r_iload_n dL_law_363 (i := 3) rfl rfl ?_
    exact r_retI dL_law_364 rfl rfl (Nat.le_refl _) (Nat.le_refl _) rfl
  | succ k ih =>
    intro e he hp o z n x6 x7 x8 x9 x10 x11 L
    exact kT hX hX0 hN (by omega) (by omega) (by omega) hT (fun hp o z n x6 x7 x8 x9 x10 x11 L => ih (e + 1) (by omega) hp o z n x6 x7 x8 x9 x10 x11 L) L
end LAW
