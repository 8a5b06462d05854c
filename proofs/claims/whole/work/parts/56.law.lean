abbrev PL : Pst := fun v _ _ _ => v = some (vI 1)
section LW
variable {g : Gh} {N i o z len n : Nat} {xs : Nat → Int32} {hp : HPt}
abbrev LL (i : Nat) : List (Option Vv) := [some (vR (24, 0, 0, 0)), some (vR (15, 0, 0, 0)), some (vR (16, 0, 0, 0)), some (vI (nI i))]
/-- behind a case -/
def KN (g : Gh) (i : Nat) : Prop := ∀ h2, INV h2 → V g mL_law 616 6877 616 6877 616 937 (LL i) [] RP h2 PL
theorem wl_0 (hX : GX g) (hx0 : g.2.2.2.2 0 = (N, xs)) (hN : N ≤ 2560) (hi : i + 5 ≤ N) (hI : INVp hp o z len n) (kk : KN g i) : V g mL_law 616 6877 616 6877 616 156 (LL i) [] RP hp PL := by
  obtain ⟨r, h1, h2, C, D, hI2⟩ : FCE g mX6_set mX7_set [vI (xs (i + 1)), vI (xs (i + 2))] hp := LK_set hX hI
  refine r_aload_n dL_law_156 (i := 1) rfl rfl ?_
  refine r_aload_n dL_law_157 (i := 0) rfl rfl ?_
  refine r_iload_n dL_law_158 (i := 3) rfl rfl ?_
  refine r_iconst dL_law_159 (v := 1) rfl ?_
  refine r_iadd dL_law_160 ?_
  refine m_xald dL_law_161 (by decide) hx0 (by omega) (nI_add i 1) (by omega) ?_
  refine r_aload_n dL_law_162 (i := 0) rfl rfl ?_
  refine r_iload_n dL_law_163 (i := 3) rfl rfl ?_
  refine r_iconst dL_law_164 (v := 2) rfl ?_
  refine r_iadd dL_law_165 ?_
  refine m_xald dL_law_166 (by decide) hx0 (by omega) (nI_add i 2) (by omega) ?_
  refine sL_law_167 (Nat.le_refl _) (Nat.le_refl _) rfl lv15 (Nat.le_of_ble_eq_true rfl) (C) ?_
  refine r_aload_n dL_law_170 (i := 2) rfl rfl ?_
  refine r_aload_n dL_law_171 (i := 0) rfl rfl ?_
  refine r_iload_n dL_law_172 (i := 3) rfl rfl ?_
  refine r_iconst dL_law_173 (v := 1) rfl ?_
  refine r_iadd dL_law_174 ?_
  refine m_xald dL_law_175 (by decide) hx0 (by omega) (nI_add i 1) (by omega) ?_
  refine r_aload_n dL_law_176 (i := 0) rfl rfl ?_
  refine r_iload_n dL_law_177 (i := 3) rfl rfl ?_
  refine r_iconst dL_law_178 (v := 2) rfl ?_
  refine r_iadd dL_law_179 ?_
  refine m_xald dL_law_180 (by decide) hx0 (by omega) (nI_add i 2) (by omega) ?_
  refine sL_law_181 (Nat.le_refl _) (Nat.le_refl _) rfl lv16 (Nat.le_of_ble_eq_true rfl) (D) ?_
  refine r_icmp_eq dL_law_184 (tgt := 937) rfl (fun _ => ?_) (fun h184 => absurd (rfl) h184)
  exact kk h2 hI2
theorem wl_1 (hx0 : g.2.2.2.2 0 = (N, xs)) (hN : N ≤ 2560) (hi : i + 5 ≤ N) (hI : INVp hp o z len n) (kk : KN g i) : V g mL_law 616 6877 616 6877 616 189 (LL i) [] RP hp PL := by
  obtain ⟨r, h1, h2, C, D, hI2⟩ : FCE g mX6_seed mX7_seed [vI (xs (i + 1))] hp := LK_seed hI
  refine r_aload_n dL_law_189 (i := 1) rfl rfl ?_
  refine r_aload_n dL_law_190 (i := 0) rfl rfl ?_
  refine r_iload_n dL_law_191 (i := 3) rfl rfl ?_
  refine r_iconst dL_law_192 (v := 1) rfl ?_
  refine r_iadd dL_law_193 ?_
  refine m_xald dL_law_194 (by decide) hx0 (by omega) (nI_add i 1) (by omega) ?_
  refine sL_law_195 (Nat.le_refl _) (Nat.le_refl _) rfl lv15 (Nat.le_of_ble_eq_true rfl) (C) ?_
  refine r_aload_n dL_law_198 (i := 2) rfl rfl ?_
  refine r_aload_n dL_law_199 (i := 0) rfl rfl ?_
  refine r_iload_n dL_law_200 (i := 3) rfl rfl ?_
  refine r_iconst dL_law_201 (v := 1) rfl ?_
  refine r_iadd dL_law_202 ?_
  refine m_xald dL_law_203 (by decide) hx0 (by omega) (nI_add i 1) (by omega) ?_
  refine sL_law_204 (Nat.le_refl _) (Nat.le_refl _) rfl lv16 (Nat.le_of_ble_eq_true rfl) (D) ?_
  refine r_icmp_eq dL_law_207 (tgt := 937) rfl (fun _ => ?_) (fun h207 => absurd (rfl) h207)
  exact kk h2 hI2
theorem wl_2 (hx0 : g.2.2.2.2 0 = (N, xs)) (hN : N ≤ 2560) (hi : i + 5 ≤ N) (hI : INVp hp o z len n) (kk : KN g i) : V g mL_law 616 6877 616 6877 616 212 (LL i) [] RP hp PL := by
  obtain ⟨r, h1, h2, C, D, hI2⟩ : FCE g mX6_keep mX7_keep [vI (xs (i + 1))] hp := LK_keep hI
  refine r_aload_n dL_law_212 (i := 1) rfl rfl ?_
  refine r_aload_n dL_law_213 (i := 0) rfl rfl ?_
  refine r_iload_n dL_law_214 (i := 3) rfl rfl ?_
  refine r_iconst dL_law_215 (v := 1) rfl ?_
  refine r_iadd dL_law_216 ?_
  refine m_xald dL_law_217 (by decide) hx0 (by omega) (nI_add i 1) (by omega) ?_
  refine sL_law_218 (Nat.le_refl _) (Nat.le_refl _) rfl lv15 (Nat.le_of_ble_eq_true rfl) (C) ?_
  refine r_aload_n dL_law_221 (i := 2) rfl rfl ?_
  refine r_aload_n dL_law_222 (i := 0) rfl rfl ?_
  refine r_iload_n dL_law_223 (i := 3) rfl rfl ?_
  refine r_iconst dL_law_224 (v := 1) rfl ?_
  refine r_iadd dL_law_225 ?_
  refine m_xald dL_law_226 (by decide) hx0 (by omega) (nI_add i 1) (by omega) ?_
  refine sL_law_227 (Nat.le_refl _) (Nat.le_refl _) rfl lv16 (Nat.le_of_ble_eq_true rfl) (D) ?_
  refine r_icmp_eq dL_law_230 (tgt := 937) rfl (fun _ => ?_) (fun h230 => absurd (rfl) h230)
  exact kk h2 hI2
theorem wl_3 (hx0 : g.2.2.2.2 0 = (N, xs)) (hN : N ≤ 2560) (hi : i + 5 ≤ N) (hI : INVp hp o z len n) (kk : KN g i) : V g mL_law 616 6877 616 6877 616 235 (LL i) [] RP hp PL := by
  obtain ⟨r, h1, h2, C, D, hI2⟩ : FCE g mX6_refresh mX7_refresh [vI (xs (i + 1))] hp := LK_refresh hI
  refine r_aload_n dL_law_235 (i := 1) rfl rfl ?_
  refine r_aload_n dL_law_236 (i := 0) rfl rfl ?_
  refine r_iload_n dL_law_237 (i := 3) rfl rfl ?_
  refine r_iconst dL_law_238 (v := 1) rfl ?_
  refine r_iadd dL_law_239 ?_
  refine m_xald dL_law_240 (by decide) hx0 (by omega) (nI_add i 1) (by omega) ?_
  refine sL_law_241 (Nat.le_refl _) (Nat.le_refl _) rfl lv15 (Nat.le_of_ble_eq_true rfl) (C) ?_
  refine r_aload_n dL_law_244 (i := 2) rfl rfl ?_
  refine r_aload_n dL_law_245 (i := 0) rfl rfl ?_
  refine r_iload_n dL_law_246 (i := 3) rfl rfl ?_
  refine r_iconst dL_law_247 (v := 1) rfl ?_
  refine r_iadd dL_law_248 ?_
  refine m_xald dL_law_249 (by decide) hx0 (by omega) (nI_add i 1) (by omega) ?_
  refine sL_law_250 (Nat.le_refl _) (Nat.le_refl _) rfl lv16 (Nat.le_of_ble_eq_true rfl) (D) ?_
  refine r_icmp_eq dL_law_253 (tgt := 937) rfl (fun _ => ?_) (fun h253 => absurd (rfl) h253)
  exact kk h2 hI2
theorem wl_4 (hx0 : g.2.2.2.2 0 = (N, xs)) (hN : N ≤ 2560) (hi : i + 5 ≤ N) (hI : INVp hp o z len n) (kk : KN g i) : V g mL_law 616 6877 616 6877 616 258 (LL i) [] RP hp PL := by
  obtain ⟨r, h1, h2, C, D, hI2⟩ : FCE g mX6_burn mX7_burn [vI (xs (i + 1))] hp := LK_burn hI
  refine r_aload_n dL_law_258 (i := 1) rfl rfl ?_
  refine r_aload_n dL_law_259 (i := 0) rfl rfl ?_
  refine r_iload_n dL_law_260 (i := 3) rfl rfl ?_
  refine r_iconst dL_law_261 (v := 1) rfl ?_
  refine r_iadd dL_law_262 ?_
  refine m_xald dL_law_263 (by decide) hx0 (by omega) (nI_add i 1) (by omega) ?_
  refine sL_law_264 (Nat.le_refl _) (Nat.le_refl _) rfl lv15 (Nat.le_of_ble_eq_true rfl) (C) ?_
  refine r_aload_n dL_law_267 (i := 2) rfl rfl ?_
  refine r_aload_n dL_law_268 (i := 0) rfl rfl ?_
  refine r_iload_n dL_law_269 (i := 3) rfl rfl ?_
  refine r_iconst dL_law_270 (v := 1) rfl ?_
  refine r_iadd dL_law_271 ?_
  refine m_xald dL_law_272 (by decide) hx0 (by omega) (nI_add i 1) (by omega) ?_
  refine sL_law_273 (Nat.le_refl _) (Nat.le_refl _) rfl lv16 (Nat.le_of_ble_eq_true rfl) (D) ?_
  refine r_icmp_eq dL_law_276 (tgt := 937) rfl (fun _ => ?_) (fun h276 => absurd (rfl) h276)
  exact kk h2 hI2
theorem wl_5 (hx0 : g.2.2.2.2 0 = (N, xs)) (hN : N ≤ 2560) (hi : i + 5 ≤ N) (hI : INVp hp o z len n) (kk : KN g i) : V g mL_law 616 6877 616 6877 616 281 (LL i) [] RP hp PL := by
  obtain ⟨r, h1, h2, C, D, hI2⟩ : FCE g mX6_sleep mX7_sleep [vI (xs (i + 1))] hp := LK_sleep hI
  refine r_aload_n dL_law_281 (i := 1) rfl rfl ?_
  refine r_aload_n dL_law_282 (i := 0) rfl rfl ?_
  refine r_iload_n dL_law_283 (i := 3) rfl rfl ?_
  refine r_iconst dL_law_284 (v := 1) rfl ?_
  refine r_iadd dL_law_285 ?_
  refine m_xald dL_law_286 (by decide) hx0 (by omega) (nI_add i 1) (by omega) ?_
  refine sL_law_287 (Nat.le_refl _) (Nat.le_refl _) rfl lv15 (Nat.le_of_ble_eq_true rfl) (C) ?_
  refine r_aload_n dL_law_290 (i := 2) rfl rfl ?_
  refine r_aload_n dL_law_291 (i := 0) rfl rfl ?_
  refine r_iload_n dL_law_292 (i := 3) rfl rfl ?_
  refine r_iconst dL_law_293 (v := 1) rfl ?_
  refine r_iadd dL_law_294 ?_
  refine m_xald dL_law_295 (by decide) hx0 (by omega) (nI_add i 1) (by omega) ?_
  refine sL_law_296 (Nat.le_refl _) (Nat.le_refl _) rfl lv16 (Nat.le_of_ble_eq_true rfl) (D) ?_
  refine r_icmp_eq dL_law_299 (tgt := 937) rfl (fun _ => ?_) (fun h299 => absurd (rfl) h299)
  exact kk h2 hI2
theorem wl_6 (hx0 : g.2.2.2.2 0 = (N, xs)) (hN : N ≤ 2560) (hi : i + 5 ≤ N) (hI : INVp hp o z len n) (kk : KN g i) : V g mL_law 616 6877 616 6877 616 304 (LL i) [] RP hp PL := by
  obtain ⟨r, h1, h2, C, D, hI2⟩ : FCE g mX6_lie mX7_lie [vI (xs (i + 1)), vI (xs (i + 2)), vI (xs (i + 3)), vI (xs (i + 4))] hp := LK_lie hI
  refine r_aload_n dL_law_304 (i := 1) rfl rfl ?_
  refine r_aload_n dL_law_305 (i := 0) rfl rfl ?_
  refine r_iload_n dL_law_306 (i := 3) rfl rfl ?_
  refine r_iconst dL_law_307 (v := 1) rfl ?_
  refine r_iadd dL_law_308 ?_
  refine m_xald dL_law_309 (by decide) hx0 (by omega) (nI_add i 1) (by omega) ?_
  refine r_aload_n dL_law_310 (i := 0) rfl rfl ?_
  refine r_iload_n dL_law_311 (i := 3) rfl rfl ?_
  refine r_iconst dL_law_312 (v := 2) rfl ?_
  refine r_iadd dL_law_313 ?_
  refine m_xald dL_law_314 (by decide) hx0 (by omega) (nI_add i 2) (by omega) ?_
  refine r_aload_n dL_law_315 (i := 0) rfl rfl ?_
  refine r_iload_n dL_law_316 (i := 3) rfl rfl ?_
  refine r_iconst dL_law_317 (v := 3) rfl ?_
  refine r_iadd dL_law_318 ?_
  refine m_xald dL_law_319 (by decide) hx0 (by omega) (nI_add i 3) (by omega) ?_
  refine r_aload_n dL_law_320 (i := 0) rfl rfl ?_
  refine r_iload_n dL_law_321 (i := 3) rfl rfl ?_
  refine r_iconst dL_law_322 (v := 4) rfl ?_
  refine r_iadd dL_law_323 ?_
  refine m_xald dL_law_324 (by decide) hx0 (by omega) (nI_add i 4) (by omega) ?_
  refine sL_law_325 (Nat.le_refl _) (Nat.le_refl _) rfl lv15 (Nat.le_of_ble_eq_true rfl) (C) ?_
  refine r_aload_n dL_law_328 (i := 2) rfl rfl ?_
  refine r_aload_n dL_law_329 (i := 0) rfl rfl ?_
  refine r_iload_n dL_law_330 (i := 3) rfl rfl ?_
  refine r_iconst dL_law_331 (v := 1) rfl ?_
  refine r_iadd dL_law_332 ?_
  refine m_xald dL_law_333 (by decide) hx0 (by omega) (nI_add i 1) (by omega) ?_
  refine r_aload_n dL_law_334 (i := 0) rfl rfl ?_
  refine r_iload_n dL_law_335 (i := 3) rfl rfl ?_
  refine r_iconst dL_law_336 (v := 2) rfl ?_
  refine r_iadd dL_law_337 ?_
  refine m_xald dL_law_338 (by decide) hx0 (by omega) (nI_add i 2) (by omega) ?_
  refine r_aload_n dL_law_339 (i := 0) rfl rfl ?_
  refine r_iload_n dL_law_340 (i := 3) rfl rfl ?_
  refine r_iconst dL_law_341 (v := 3) rfl ?_
  refine r_iadd dL_law_342 ?_
  refine m_xald dL_law_343 (by decide) hx0 (by omega) (nI_add i 3) (by omega) ?_
  refine r_aload_n dL_law_344 (i := 0) rfl rfl ?_
  refine r_iload_n dL_law_345 (i := 3) rfl rfl ?_
  refine r_iconst dL_law_346 (v := 4) rfl ?_
  refine r_iadd dL_law_347 ?_
  refine m_xald dL_law_348 (by decide) hx0 (by omega) (nI_add i 4) (by omega) ?_
  refine sL_law_349 (Nat.le_refl _) (Nat.le_refl _) rfl lv16 (Nat.le_of_ble_eq_true rfl) (D) ?_
  refine r_icmp_eq dL_law_352 (tgt := 937) rfl (fun _ => ?_) (fun h352 => absurd (rfl) h352)
  exact kk h2 hI2
theorem wl_7 (hx0 : g.2.2.2.2 0 = (N, xs)) (hN : N ≤ 2560) (hi : i + 5 ≤ N) (hI : INVp hp o z len n) (kk : KN g i) : V g mL_law 616 6877 616 6877 616 357 (LL i) [] RP hp PL := by
  obtain ⟨r, h1, h2, C, D, hI2⟩ : FCE g mX6_merge mX7_merge [vI (xs (i + 1))] hp := LK_merge hI
  refine r_aload_n dL_law_357 (i := 1) rfl rfl ?_
  refine r_aload_n dL_law_358 (i := 0) rfl rfl ?_
  refine r_iload_n dL_law_359 (i := 3) rfl rfl ?_
  refine r_iconst dL_law_360 (v := 1) rfl ?_
  refine r_iadd dL_law_361 ?_
  refine m_xald dL_law_362 (by decide) hx0 (by omega) (nI_add i 1) (by omega) ?_
  refine sL_law_363 (Nat.le_refl _) (Nat.le_refl _) rfl lv15 (Nat.le_of_ble_eq_true rfl) (C) ?_
  refine r_aload_n dL_law_366 (i := 2) rfl rfl ?_
  refine r_aload_n dL_law_367 (i := 0) rfl rfl ?_
  refine r_iload_n dL_law_368 (i := 3) rfl rfl ?_
  refine r_iconst dL_law_369 (v := 1) rfl ?_
  refine r_iadd dL_law_370 ?_
  refine m_xald dL_law_371 (by decide) hx0 (by omega) (nI_add i 1) (by omega) ?_
  refine sL_law_372 (Nat.le_refl _) (Nat.le_refl _) rfl lv16 (Nat.le_of_ble_eq_true rfl) (D) ?_
  refine r_icmp_eq dL_law_375 (tgt := 937) rfl (fun _ => ?_) (fun h375 => absurd (rfl) h375)
  exact kk h2 hI2
theorem wl_8 (hx0 : g.2.2.2.2 0 = (N, xs)) (hN : N ≤ 2560) (hi : i + 5 ≤ N) (hI : INVp hp o z len n) (kk : KN g i) : V g mL_law 616 6877 616 6877 616 380 (LL i) [] RP hp PL := by
  obtain ⟨r, h1, h2, C, D, hI2⟩ : FCE g mX6_steal mX7_steal [vI (xs (i + 1)), vI (xs (i + 2)), vI (xs (i + 3))] hp := LK_steal hI
  refine r_aload_n dL_law_380 (i := 1) rfl rfl ?_
  refine r_aload_n dL_law_381 (i := 0) rfl rfl ?_
  refine r_iload_n dL_law_382 (i := 3) rfl rfl ?_
  refine r_iconst dL_law_383 (v := 1) rfl ?_
  refine r_iadd dL_law_384 ?_
  refine m_xald dL_law_385 (by decide) hx0 (by omega) (nI_add i 1) (by omega) ?_
  refine r_aload_n dL_law_386 (i := 0) rfl rfl ?_
  refine r_iload_n dL_law_387 (i := 3) rfl rfl ?_
  refine r_iconst dL_law_388 (v := 2) rfl ?_
  refine r_iadd dL_law_389 ?_
  refine m_xald dL_law_390 (by decide) hx0 (by omega) (nI_add i 2) (by omega) ?_
  refine r_aload_n dL_law_391 (i := 0) rfl rfl ?_
  refine r_iload_n dL_law_392 (i := 3) rfl rfl ?_
  refine r_iconst dL_law_393 (v := 3) rfl ?_
  refine r_iadd dL_law_394 ?_
  refine m_xald dL_law_395 (by decide) hx0 (by omega) (nI_add i 3) (by omega) ?_
  refine sL_law_396 (Nat.le_refl _) (Nat.le_refl _) rfl lv15 (Nat.le_of_ble_eq_true rfl) (C) ?_
  refine r_aload_n dL_law_399 (i := 2) rfl rfl ?_
  refine r_aload_n dL_law_400 (i := 0) rfl rfl ?_
  refine r_iload_n dL_law_401 (i := 3) rfl rfl ?_
  refine r_iconst dL_law_402 (v := 1) rfl ?_
  refine r_iadd dL_law_403 ?_
  refine m_xald dL_law_404 (by decide) hx0 (by omega) (nI_add i 1) (by omega) ?_
  refine r_aload_n dL_law_405 (i := 0) rfl rfl ?_
  refine r_iload_n dL_law_406 (i := 3) rfl rfl ?_
  refine r_iconst dL_law_407 (v := 2) rfl ?_
  refine r_iadd dL_law_408 ?_
  refine m_xald dL_law_409 (by decide) hx0 (by omega) (nI_add i 2) (by omega) ?_
  refine r_aload_n dL_law_410 (i := 0) rfl rfl ?_
  refine r_iload_n dL_law_411 (i := 3) rfl rfl ?_
  refine r_iconst dL_law_412 (v := 3) rfl ?_
  refine r_iadd dL_law_413 ?_
  refine m_xald dL_law_414 (by decide) hx0 (by omega) (nI_add i 3) (by omega) ?_
  refine sL_law_415 (Nat.le_refl _) (Nat.le_refl _) rfl lv16 (Nat.le_of_ble_eq_true rfl) (D) ?_
  refine r_icmp_eq dL_law_418 (tgt := 937) rfl (fun _ => ?_) (fun h418 => absurd (rfl) h418)
  exact kk h2 hI2
theorem wl_9 (hx0 : g.2.2.2.2 0 = (N, xs)) (hN : N ≤ 2560) (hi : i + 5 ≤ N) (hI : INVp hp o z len n) (kk : KN g i) : V g mL_law 616 6877 616 6877 616 423 (LL i) [] RP hp PL := by
  obtain ⟨r, h1, h2, C, D, hI2⟩ : FCE g mX6_pass mX7_pass [vI (xs (i + 1))] hp := LK_pass hI
  refine r_aload_n dL_law_423 (i := 1) rfl rfl ?_
  refine r_aload_n dL_law_424 (i := 0) rfl rfl ?_
  refine r_iload_n dL_law_425 (i := 3) rfl rfl ?_
  refine r_iconst dL_law_426 (v := 1) rfl ?_
  refine r_iadd dL_law_427 ?_
  refine m_xald dL_law_428 (by decide) hx0 (by omega) (nI_add i 1) (by omega) ?_
  refine sL_law_429 (Nat.le_refl _) (Nat.le_refl _) rfl lv15 (Nat.le_of_ble_eq_true rfl) (C) ?_
  refine r_aload_n dL_law_432 (i := 2) rfl rfl ?_
  refine r_aload_n dL_law_433 (i := 0) rfl rfl ?_
  refine r_iload_n dL_law_434 (i := 3) rfl rfl ?_
  refine r_iconst dL_law_435 (v := 1) rfl ?_
  refine r_iadd dL_law_436 ?_
  refine m_xald dL_law_437 (by decide) hx0 (by omega) (nI_add i 1) (by omega) ?_
  refine sL_law_438 (Nat.le_refl _) (Nat.le_refl _) rfl lv16 (Nat.le_of_ble_eq_true rfl) (D) ?_
  refine r_icmp_eq dL_law_441 (tgt := 937) rfl (fun _ => ?_) (fun h441 => absurd (rfl) h441)
  exact kk h2 hI2
theorem wl_10 (hx0 : g.2.2.2.2 0 = (N, xs)) (hN : N ≤ 2560) (hi : i + 5 ≤ N) (hI : INVp hp o z len n) (kk : KN g i) : V g mL_law 616 6877 616 6877 616 446 (LL i) [] RP hp PL := by
  obtain ⟨r, h1, h2, C, D, hI2⟩ : FCE g mX6_of mX7_of [vI (xs (i + 1)), vI (xs (i + 2)), vI (xs (i + 3))] hp := LK_of hI
  refine r_aload_n dL_law_446 (i := 1) rfl rfl ?_
  refine r_aload_n dL_law_447 (i := 0) rfl rfl ?_
  refine r_iload_n dL_law_448 (i := 3) rfl rfl ?_
  refine r_iconst dL_law_449 (v := 1) rfl ?_
  refine r_iadd dL_law_450 ?_
  refine m_xald dL_law_451 (by decide) hx0 (by omega) (nI_add i 1) (by omega) ?_
  refine r_aload_n dL_law_452 (i := 0) rfl rfl ?_
  refine r_iload_n dL_law_453 (i := 3) rfl rfl ?_
  refine r_iconst dL_law_454 (v := 2) rfl ?_
  refine r_iadd dL_law_455 ?_
  refine m_xald dL_law_456 (by decide) hx0 (by omega) (nI_add i 2) (by omega) ?_
  refine r_aload_n dL_law_457 (i := 0) rfl rfl ?_
  refine r_iload_n dL_law_458 (i := 3) rfl rfl ?_
  refine r_iconst dL_law_459 (v := 3) rfl ?_
  refine r_iadd dL_law_460 ?_
  refine m_xald dL_law_461 (by decide) hx0 (by omega) (nI_add i 3) (by omega) ?_
  refine sL_law_462 (Nat.le_refl _) (Nat.le_refl _) rfl lv15 (Nat.le_of_ble_eq_true rfl) (C) ?_
  refine r_aload_n dL_law_465 (i := 2) rfl rfl ?_
  refine r_aload_n dL_law_466 (i := 0) rfl rfl ?_
  refine r_iload_n dL_law_467 (i := 3) rfl rfl ?_
  refine r_iconst dL_law_468 (v := 1) rfl ?_
  refine r_iadd dL_law_469 ?_
  refine m_xald dL_law_470 (by decide) hx0 (by omega) (nI_add i 1) (by omega) ?_
  refine r_aload_n dL_law_471 (i := 0) rfl rfl ?_
  refine r_iload_n dL_law_472 (i := 3) rfl rfl ?_
  refine r_iconst dL_law_473 (v := 2) rfl ?_
  refine r_iadd dL_law_474 ?_
  refine m_xald dL_law_475 (by decide) hx0 (by omega) (nI_add i 2) (by omega) ?_
  refine r_aload_n dL_law_476 (i := 0) rfl rfl ?_
  refine r_iload_n dL_law_477 (i := 3) rfl rfl ?_
  refine r_iconst dL_law_478 (v := 3) rfl ?_
  refine r_iadd dL_law_479 ?_
  refine m_xald dL_law_480 (by decide) hx0 (by omega) (nI_add i 3) (by omega) ?_
  refine sL_law_481 (Nat.le_refl _) (Nat.le_refl _) rfl lv16 (Nat.le_of_ble_eq_true rfl) (D) ?_
  refine r_icmp_eq dL_law_484 (tgt := 937) rfl (fun _ => ?_) (fun h484 => absurd (rfl) h484)
  exact kk h2 hI2
theorem wl_11 (hx0 : g.2.2.2.2 0 = (N, xs)) (hN : N ≤ 2560) (hi : i + 5 ≤ N) (hI : INVp hp o z len n) (kk : KN g i) : V g mL_law 616 6877 616 6877 616 489 (LL i) [] RP hp PL := by
  obtain ⟨r, h1, h2, C, D, hI2⟩ : FCE g mX6_ofSecret mX7_ofSecret [vI (xs (i + 1)), vI (xs (i + 2))] hp := LK_ofSecret hI
  refine r_aload_n dL_law_489 (i := 1) rfl rfl ?_
  refine r_aload_n dL_law_490 (i := 0) rfl rfl ?_
  refine r_iload_n dL_law_491 (i := 3) rfl rfl ?_
  refine r_iconst dL_law_492 (v := 1) rfl ?_
  refine r_iadd dL_law_493 ?_
  refine m_xald dL_law_494 (by decide) hx0 (by omega) (nI_add i 1) (by omega) ?_
  refine r_aload_n dL_law_495 (i := 0) rfl rfl ?_
  refine r_iload_n dL_law_496 (i := 3) rfl rfl ?_
  refine r_iconst dL_law_497 (v := 2) rfl ?_
  refine r_iadd dL_law_498 ?_
  refine m_xald dL_law_499 (by decide) hx0 (by omega) (nI_add i 2) (by omega) ?_
  refine sL_law_500 (Nat.le_refl _) (Nat.le_refl _) rfl lv15 (Nat.le_of_ble_eq_true rfl) (C) ?_
  refine r_aload_n dL_law_503 (i := 2) rfl rfl ?_
  refine r_aload_n dL_law_504 (i := 0) rfl rfl ?_
  refine r_iload_n dL_law_505 (i := 3) rfl rfl ?_
  refine r_iconst dL_law_506 (v := 1) rfl ?_
  refine r_iadd dL_law_507 ?_
  refine m_xald dL_law_508 (by decide) hx0 (by omega) (nI_add i 1) (by omega) ?_
  refine r_aload_n dL_law_509 (i := 0) rfl rfl ?_
  refine r_iload_n dL_law_510 (i := 3) rfl rfl ?_
  refine r_iconst dL_law_511 (v := 2) rfl ?_
  refine r_iadd dL_law_512 ?_
  refine m_xald dL_law_513 (by decide) hx0 (by omega) (nI_add i 2) (by omega) ?_
  refine sL_law_514 (Nat.le_refl _) (Nat.le_refl _) rfl lv16 (Nat.le_of_ble_eq_true rfl) (D) ?_
  refine r_icmp_eq dL_law_517 (tgt := 937) rfl (fun _ => ?_) (fun h517 => absurd (rfl) h517)
  exact kk h2 hI2
theorem wl_12 (hx0 : g.2.2.2.2 0 = (N, xs)) (hN : N ≤ 2560) (hi : i + 5 ≤ N) (hI : INVp hp o z len n) (kk : KN g i) : V g mL_law 616 6877 616 6877 616 522 (LL i) [] RP hp PL := by
  obtain ⟨r, h1, h2, C, D, hI2⟩ : FCE g mX6_old mX7_old [vI (xs (i + 1)), vI (xs (i + 2)), vI (xs (i + 3))] hp := LK_old hI
  refine r_aload_n dL_law_522 (i := 1) rfl rfl ?_
  refine r_aload_n dL_law_523 (i := 0) rfl rfl ?_
  refine r_iload_n dL_law_524 (i := 3) rfl rfl ?_
  refine r_iconst dL_law_525 (v := 1) rfl ?_
  refine r_iadd dL_law_526 ?_
  refine m_xald dL_law_527 (by decide) hx0 (by omega) (nI_add i 1) (by omega) ?_
  refine r_aload_n dL_law_528 (i := 0) rfl rfl ?_
  refine r_iload_n dL_law_529 (i := 3) rfl rfl ?_
  refine r_iconst dL_law_530 (v := 2) rfl ?_
  refine r_iadd dL_law_531 ?_
  refine m_xald dL_law_532 (by decide) hx0 (by omega) (nI_add i 2) (by omega) ?_
  refine r_aload_n dL_law_533 (i := 0) rfl rfl ?_
  refine r_iload_n dL_law_534 (i := 3) rfl rfl ?_
  refine r_iconst dL_law_535 (v := 3) rfl ?_
  refine r_iadd dL_law_536 ?_
  refine m_xald dL_law_537 (by decide) hx0 (by omega) (nI_add i 3) (by omega) ?_
  refine sL_law_538 (Nat.le_refl _) (Nat.le_refl _) rfl lv15 (Nat.le_of_ble_eq_true rfl) (C) ?_
  refine r_aload_n dL_law_541 (i := 2) rfl rfl ?_
  refine r_aload_n dL_law_542 (i := 0) rfl rfl ?_
  refine r_iload_n dL_law_543 (i := 3) rfl rfl ?_
  refine r_iconst dL_law_544 (v := 1) rfl ?_
  refine r_iadd dL_law_545 ?_
  refine m_xald dL_law_546 (by decide) hx0 (by omega) (nI_add i 1) (by omega) ?_
  refine r_aload_n dL_law_547 (i := 0) rfl rfl ?_
  refine r_iload_n dL_law_548 (i := 3) rfl rfl ?_
  refine r_iconst dL_law_549 (v := 2) rfl ?_
  refine r_iadd dL_law_550 ?_
  refine m_xald dL_law_551 (by decide) hx0 (by omega) (nI_add i 2) (by omega) ?_
  refine r_aload_n dL_law_552 (i := 0) rfl rfl ?_
  refine r_iload_n dL_law_553 (i := 3) rfl rfl ?_
  refine r_iconst dL_law_554 (v := 3) rfl ?_
  refine r_iadd dL_law_555 ?_
  refine m_xald dL_law_556 (by decide) hx0 (by omega) (nI_add i 3) (by omega) ?_
  refine sL_law_557 (Nat.le_refl _) (Nat.le_refl _) rfl lv16 (Nat.le_of_ble_eq_true rfl) (D) ?_
  refine r_icmp_eq dL_law_560 (tgt := 937) rfl (fun _ => ?_) (fun h560 => absurd (rfl) h560)
  exact kk h2 hI2
theorem wl_13 (hx0 : g.2.2.2.2 0 = (N, xs)) (hN : N ≤ 2560) (hi : i + 5 ≤ N) (hI : INVp hp o z len n) (kk : KN g i) : V g mL_law 616 6877 616 6877 616 565 (LL i) [] RP hp PL := by
  obtain ⟨r, h1, h2, C, D, hI2⟩ : FCE g mX6_count mX7_count [vI (xs (i + 1))] hp := LK_count hI
  refine r_aload_n dL_law_565 (i := 1) rfl rfl ?_
  refine r_aload_n dL_law_566 (i := 0) rfl rfl ?_
  refine r_iload_n dL_law_567 (i := 3) rfl rfl ?_
  refine r_iconst dL_law_568 (v := 1) rfl ?_
  refine r_iadd dL_law_569 ?_
  refine m_xald dL_law_570 (by decide) hx0 (by omega) (nI_add i 1) (by omega) ?_
  refine sL_law_571 (Nat.le_refl _) (Nat.le_refl _) rfl lv15 (Nat.le_of_ble_eq_true rfl) (C) ?_
  refine r_aload_n dL_law_574 (i := 2) rfl rfl ?_
  refine r_aload_n dL_law_575 (i := 0) rfl rfl ?_
  refine r_iload_n dL_law_576 (i := 3) rfl rfl ?_
  refine r_iconst dL_law_577 (v := 1) rfl ?_
  refine r_iadd dL_law_578 ?_
  refine m_xald dL_law_579 (by decide) hx0 (by omega) (nI_add i 1) (by omega) ?_
  refine sL_law_580 (Nat.le_refl _) (Nat.le_refl _) rfl lv16 (Nat.le_of_ble_eq_true rfl) (D) ?_
  refine r_icmp_eq dL_law_583 (tgt := 937) rfl (fun _ => ?_) (fun h583 => absurd (rfl) h583)
  exact kk h2 hI2
theorem wl_14 (hx0 : g.2.2.2.2 0 = (N, xs)) (hN : N ≤ 2560) (hi : i + 5 ≤ N) (hI : INVp hp o z len n) (kk : KN g i) : V g mL_law 616 6877 616 6877 616 588 (LL i) [] RP hp PL := by
  obtain ⟨r, h1, h2, C, D, hI2⟩ : FCE g mX6_otherwise mX7_otherwise [vI (xs (i + 1)), vI (xs (i + 2)), vI (xs (i + 3))] hp := LK_otherwise hI
  refine r_aload_n dL_law_588 (i := 1) rfl rfl ?_
  refine r_aload_n dL_law_589 (i := 0) rfl rfl ?_
  refine r_iload_n dL_law_590 (i := 3) rfl rfl ?_
  refine r_iconst dL_law_591 (v := 1) rfl ?_
  refine r_iadd dL_law_592 ?_
  refine m_xald dL_law_593 (by decide) hx0 (by omega) (nI_add i 1) (by omega) ?_
  refine r_aload_n dL_law_594 (i := 0) rfl rfl ?_
  refine r_iload_n dL_law_595 (i := 3) rfl rfl ?_
  refine r_iconst dL_law_596 (v := 2) rfl ?_
  refine r_iadd dL_law_597 ?_
  refine m_xald dL_law_598 (by decide) hx0 (by omega) (nI_add i 2) (by omega) ?_
  refine r_aload_n dL_law_599 (i := 0) rfl rfl ?_
  refine r_iload_n dL_law_600 (i := 3) rfl rfl ?_
  refine r_iconst dL_law_601 (v := 3) rfl ?_
  refine r_iadd dL_law_602 ?_
  refine m_xald dL_law_603 (by decide) hx0 (by omega) (nI_add i 3) (by omega) ?_
  refine sL_law_604 (Nat.le_refl _) (Nat.le_refl _) rfl lv15 (Nat.le_of_ble_eq_true rfl) (C) ?_
  refine r_aload_n dL_law_607 (i := 2) rfl rfl ?_
  refine r_aload_n dL_law_608 (i := 0) rfl rfl ?_
  refine r_iload_n dL_law_609 (i := 3) rfl rfl ?_
  refine r_iconst dL_law_610 (v := 1) rfl ?_
  refine r_iadd dL_law_611 ?_
  refine m_xald dL_law_612 (by decide) hx0 (by omega) (nI_add i 1) (by omega) ?_
  refine r_aload_n dL_law_613 (i := 0) rfl rfl ?_
  refine r_iload_n dL_law_614 (i := 3) rfl rfl ?_
  refine r_iconst dL_law_615 (v := 2) rfl ?_
  refine r_iadd dL_law_616 ?_
  refine m_xald dL_law_617 (by decide) hx0 (by omega) (nI_add i 2) (by omega) ?_
  refine r_aload_n dL_law_618 (i := 0) rfl rfl ?_
  refine r_iload_n dL_law_619 (i := 3) rfl rfl ?_
  refine r_iconst dL_law_620 (v := 3) rfl ?_
  refine r_iadd dL_law_621 ?_
  refine m_xald dL_law_622 (by decide) hx0 (by omega) (nI_add i 3) (by omega) ?_
  refine sL_law_623 (Nat.le_refl _) (Nat.le_refl _) rfl lv16 (Nat.le_of_ble_eq_true rfl) (D) ?_
  refine r_icmp_eq dL_law_626 (tgt := 937) rfl (fun _ => ?_) (fun h626 => absurd (rfl) h626)
  exact kk h2 hI2
theorem wl_15 (hx0 : g.2.2.2.2 0 = (N, xs)) (hN : N ≤ 2560) (hi : i + 5 ≤ N) (hI : INVp hp o z len n) (kk : KN g i) : V g mL_law 616 6877 616 6877 616 631 (LL i) [] RP hp PL := by
  obtain ⟨r, h1, h2, C, D, hI2⟩ : FCE g mX6_passing mX7_passing [vI (xs (i + 1)), vI (xs (i + 2)), vI (xs (i + 3))] hp := LK_passing hI
  refine r_aload_n dL_law_631 (i := 1) rfl rfl ?_
  refine r_aload_n dL_law_632 (i := 0) rfl rfl ?_
  refine r_iload_n dL_law_633 (i := 3) rfl rfl ?_
  refine r_iconst dL_law_634 (v := 1) rfl ?_
  refine r_iadd dL_law_635 ?_
  refine m_xald dL_law_636 (by decide) hx0 (by omega) (nI_add i 1) (by omega) ?_
  refine r_aload_n dL_law_637 (i := 0) rfl rfl ?_
  refine r_iload_n dL_law_638 (i := 3) rfl rfl ?_
  refine r_iconst dL_law_639 (v := 2) rfl ?_
  refine r_iadd dL_law_640 ?_
  refine m_xald dL_law_641 (by decide) hx0 (by omega) (nI_add i 2) (by omega) ?_
  refine r_aload_n dL_law_642 (i := 0) rfl rfl ?_
  refine r_iload_n dL_law_643 (i := 3) rfl rfl ?_
  refine r_iconst dL_law_644 (v := 3) rfl ?_
  refine r_iadd dL_law_645 ?_
  refine m_xald dL_law_646 (by decide) hx0 (by omega) (nI_add i 3) (by omega) ?_
  refine sL_law_647 (Nat.le_refl _) (Nat.le_refl _) rfl lv15 (Nat.le_of_ble_eq_true rfl) (C) ?_
  refine r_aload_n dL_law_650 (i := 2) rfl rfl ?_
  refine r_aload_n dL_law_651 (i := 0) rfl rfl ?_
  refine r_iload_n dL_law_652 (i := 3) rfl rfl ?_
  refine r_iconst dL_law_653 (v := 1) rfl ?_
  refine r_iadd dL_law_654 ?_
  refine m_xald dL_law_655 (by decide) hx0 (by omega) (nI_add i 1) (by omega) ?_
  refine r_aload_n dL_law_656 (i := 0) rfl rfl ?_
  refine r_iload_n dL_law_657 (i := 3) rfl rfl ?_
  refine r_iconst dL_law_658 (v := 2) rfl ?_
  refine r_iadd dL_law_659 ?_
  refine m_xald dL_law_660 (by decide) hx0 (by omega) (nI_add i 2) (by omega) ?_
  refine r_aload_n dL_law_661 (i := 0) rfl rfl ?_
  refine r_iload_n dL_law_662 (i := 3) rfl rfl ?_
  refine r_iconst dL_law_663 (v := 3) rfl ?_
  refine r_iadd dL_law_664 ?_
  refine m_xald dL_law_665 (by decide) hx0 (by omega) (nI_add i 3) (by omega) ?_
  refine sL_law_666 (Nat.le_refl _) (Nat.le_refl _) rfl lv16 (Nat.le_of_ble_eq_true rfl) (D) ?_
  refine r_icmp_eq dL_law_669 (tgt := 937) rfl (fun _ => ?_) (fun h669 => absurd (rfl) h669)
  exact kk h2 hI2
theorem wl_16 (hx0 : g.2.2.2.2 0 = (N, xs)) (hN : N ≤ 2560) (hi : i + 5 ≤ N) (hI : INVp hp o z len n) (kk : KN g i) : V g mL_law 616 6877 616 6877 616 674 (LL i) [] RP hp PL := by
  obtain ⟨r, h1, h2, C, D, hI2⟩ : FCE g mX6_passes mX7_passes_ [vI (xs (i + 1)), vI (xs (i + 2)), vI (xs (i + 3))] hp := LK_passes hI
  refine r_aload_n dL_law_674 (i := 1) rfl rfl ?_
  refine r_aload_n dL_law_675 (i := 0) rfl rfl ?_
  refine r_iload_n dL_law_676 (i := 3) rfl rfl ?_
  refine r_iconst dL_law_677 (v := 1) rfl ?_
  refine r_iadd dL_law_678 ?_
  refine m_xald dL_law_679 (by decide) hx0 (by omega) (nI_add i 1) (by omega) ?_
  refine r_aload_n dL_law_680 (i := 0) rfl rfl ?_
  refine r_iload_n dL_law_681 (i := 3) rfl rfl ?_
  refine r_iconst dL_law_682 (v := 2) rfl ?_
  refine r_iadd dL_law_683 ?_
  refine m_xald dL_law_684 (by decide) hx0 (by omega) (nI_add i 2) (by omega) ?_
  refine r_aload_n dL_law_685 (i := 0) rfl rfl ?_
  refine r_iload_n dL_law_686 (i := 3) rfl rfl ?_
  refine r_iconst dL_law_687 (v := 3) rfl ?_
  refine r_iadd dL_law_688 ?_
  refine m_xald dL_law_689 (by decide) hx0 (by omega) (nI_add i 3) (by omega) ?_
  refine sL_law_690 (Nat.le_refl _) (Nat.le_refl _) rfl lv15 (Nat.le_of_ble_eq_true rfl) (C) ?_
  refine r_aload_n dL_law_693 (i := 2) rfl rfl ?_
  refine r_aload_n dL_law_694 (i := 0) rfl rfl ?_
  refine r_iload_n dL_law_695 (i := 3) rfl rfl ?_
  refine r_iconst dL_law_696 (v := 1) rfl ?_
  refine r_iadd dL_law_697 ?_
  refine m_xald dL_law_698 (by decide) hx0 (by omega) (nI_add i 1) (by omega) ?_
  refine r_aload_n dL_law_699 (i := 0) rfl rfl ?_
  refine r_iload_n dL_law_700 (i := 3) rfl rfl ?_
  refine r_iconst dL_law_701 (v := 2) rfl ?_
  refine r_iadd dL_law_702 ?_
  refine m_xald dL_law_703 (by decide) hx0 (by omega) (nI_add i 2) (by omega) ?_
  refine r_aload_n dL_law_704 (i := 0) rfl rfl ?_
  refine r_iload_n dL_law_705 (i := 3) rfl rfl ?_
  refine r_iconst dL_law_706 (v := 3) rfl ?_
  refine r_iadd dL_law_707 ?_
  refine m_xald dL_law_708 (by decide) hx0 (by omega) (nI_add i 3) (by omega) ?_
  refine sL_law_709 (Nat.le_refl _) (Nat.le_refl _) rfl lv16 (Nat.le_of_ble_eq_true rfl) (D) ?_
  refine r_icmp_eq dL_law_712 (tgt := 937) rfl (fun _ => ?_) (fun h712 => absurd (rfl) h712)
  exact kk h2 hI2
theorem wl_17 (hx0 : g.2.2.2.2 0 = (N, xs)) (hN : N ≤ 2560) (hi : i + 5 ≤ N) (hI : INVp hp o z len n) (kk : KN g i) : V g mL_law 616 6877 616 6877 616 717 (LL i) [] RP hp PL := by
  obtain ⟨r, h1, h2, C, D, hI2⟩ : FCE g mX6_needed mX7_needed [vI (xs (i + 1))] hp := LK_needed hI
  refine r_aload_n dL_law_717 (i := 1) rfl rfl ?_
  refine r_aload_n dL_law_718 (i := 0) rfl rfl ?_
  refine r_iload_n dL_law_719 (i := 3) rfl rfl ?_
  refine r_iconst dL_law_720 (v := 1) rfl ?_
  refine r_iadd dL_law_721 ?_
  refine m_xald dL_law_722 (by decide) hx0 (by omega) (nI_add i 1) (by omega) ?_
  refine sL_law_723 (Nat.le_refl _) (Nat.le_refl _) rfl lv15 (Nat.le_of_ble_eq_true rfl) (C) ?_
  refine r_aload_n dL_law_726 (i := 2) rfl rfl ?_
  refine r_aload_n dL_law_727 (i := 0) rfl rfl ?_
  refine r_iload_n dL_law_728 (i := 3) rfl rfl ?_
  refine r_iconst dL_law_729 (v := 1) rfl ?_
  refine r_iadd dL_law_730 ?_
  refine m_xald dL_law_731 (by decide) hx0 (by omega) (nI_add i 1) (by omega) ?_
  refine sL_law_732 (Nat.le_refl _) (Nat.le_refl _) rfl lv16 (Nat.le_of_ble_eq_true rfl) (D) ?_
  refine r_icmp_eq dL_law_735 (tgt := 937) rfl (fun _ => ?_) (fun h735 => absurd (rfl) h735)
  exact kk h2 hI2
theorem wl_18 (hx0 : g.2.2.2.2 0 = (N, xs)) (hN : N ≤ 2560) (hi : i + 5 ≤ N) (hI : INVp hp o z len n) (kk : KN g i) : V g mL_law 616 6877 616 6877 616 740 (LL i) [] RP hp PL := by
  obtain ⟨r, h1, h2, C, D, hI2⟩ : FCE g mX6_atRisk mX7_atRisk [vI (xs (i + 1))] hp := LK_atRisk hI
  refine r_aload_n dL_law_740 (i := 1) rfl rfl ?_
  refine r_aload_n dL_law_741 (i := 0) rfl rfl ?_
  refine r_iload_n dL_law_742 (i := 3) rfl rfl ?_
  refine r_iconst dL_law_743 (v := 1) rfl ?_
  refine r_iadd dL_law_744 ?_
  refine m_xald dL_law_745 (by decide) hx0 (by omega) (nI_add i 1) (by omega) ?_
  refine sL_law_746 (Nat.le_refl _) (Nat.le_refl _) rfl lv15 (Nat.le_of_ble_eq_true rfl) (C) ?_
  refine r_aload_n dL_law_749 (i := 2) rfl rfl ?_
  refine r_aload_n dL_law_750 (i := 0) rfl rfl ?_
  refine r_iload_n dL_law_751 (i := 3) rfl rfl ?_
  refine r_iconst dL_law_752 (v := 1) rfl ?_
  refine r_iadd dL_law_753 ?_
  refine m_xald dL_law_754 (by decide) hx0 (by omega) (nI_add i 1) (by omega) ?_
  refine sL_law_755 (Nat.le_refl _) (Nat.le_refl _) rfl lv16 (Nat.le_of_ble_eq_true rfl) (D) ?_
  refine r_icmp_eq dL_law_758 (tgt := 937) rfl (fun _ => ?_) (fun h758 => absurd (rfl) h758)
  exact kk h2 hI2
theorem wl_19 (hx0 : g.2.2.2.2 0 = (N, xs)) (hN : N ≤ 2560) (hi : i + 5 ≤ N) (hI : INVp hp o z len n) (kk : KN g i) : V g mL_law 616 6877 616 6877 616 763 (LL i) [] RP hp PL := by
  obtain ⟨r, h1, h2, C, D, hI2⟩ : FCE g mX6_ifMerged mX7_ifMerged [vI (xs (i + 1))] hp := LK_ifMerged hI
  refine r_aload_n dL_law_763 (i := 1) rfl rfl ?_
  refine r_aload_n dL_law_764 (i := 0) rfl rfl ?_
  refine r_iload_n dL_law_765 (i := 3) rfl rfl ?_
  refine r_iconst dL_law_766 (v := 1) rfl ?_
  refine r_iadd dL_law_767 ?_
  refine m_xald dL_law_768 (by decide) hx0 (by omega) (nI_add i 1) (by omega) ?_
  refine sL_law_769 (Nat.le_refl _) (Nat.le_refl _) rfl lv15 (Nat.le_of_ble_eq_true rfl) (C) ?_
  refine r_aload_n dL_law_772 (i := 2) rfl rfl ?_
  refine r_aload_n dL_law_773 (i := 0) rfl rfl ?_
  refine r_iload_n dL_law_774 (i := 3) rfl rfl ?_
  refine r_iconst dL_law_775 (v := 1) rfl ?_
  refine r_iadd dL_law_776 ?_
  refine m_xald dL_law_777 (by decide) hx0 (by omega) (nI_add i 1) (by omega) ?_
  refine sL_law_778 (Nat.le_refl _) (Nat.le_refl _) rfl lv16 (Nat.le_of_ble_eq_true rfl) (D) ?_
  refine r_icmp_eq dL_law_781 (tgt := 937) rfl (fun _ => ?_) (fun h781 => absurd (rfl) h781)
  exact kk h2 hI2
theorem wl_20 (hx0 : g.2.2.2.2 0 = (N, xs)) (hN : N ≤ 2560) (hi : i + 5 ≤ N) (hI : INVp hp o z len n) (kk : KN g i) : V g mL_law 616 6877 616 6877 616 786 (LL i) [] RP hp PL := by
  obtain ⟨r, h1, h2, C, D, hI2⟩ : FCE g mX6_put mX7_put [vJ (((xs (i + 1)).toInt64 <<< ((32 : Int32).toInt64 &&& 63)) ||| ((xs (i + 2)).toInt64 &&& 4294967295))] hp := LK_put hI
  refine r_aload_n dL_law_786 (i := 1) rfl rfl ?_
  refine r_aload_n dL_law_787 (i := 0) rfl rfl ?_
  refine r_iload_n dL_law_788 (i := 3) rfl rfl ?_
  refine r_iconst dL_law_789 (v := 1) rfl ?_
  refine r_iadd dL_law_790 ?_
  refine m_xald dL_law_791 (by decide) hx0 (by omega) (nI_add i 1) (by omega) ?_
  refine r_i2l dL_law_792 ?_
  refine r_bipush dL_law_793 (v := 32) rfl ?_
  refine r_lshl dL_law_795 ?_
  refine r_aload_n dL_law_796 (i := 0) rfl rfl ?_
  refine r_iload_n dL_law_797 (i := 3) rfl rfl ?_
  refine r_iconst dL_law_798 (v := 2) rfl ?_
  refine r_iadd dL_law_799 ?_
  refine m_xald dL_law_800 (by decide) hx0 (by omega) (nI_add i 2) (by omega) ?_
  refine r_i2l dL_law_801 ?_
  refine r_ldc2 dL_law_802 wd_1079 ?_
  refine r_land dL_law_805 ?_
  refine r_lor dL_law_806 ?_
  refine sL_law_807 (Nat.le_refl _) (Nat.le_refl _) rfl lv15 (Nat.le_of_ble_eq_true rfl) (C) ?_
  refine r_aload_n dL_law_810 (i := 2) rfl rfl ?_
  refine r_aload_n dL_law_811 (i := 0) rfl rfl ?_
  refine r_iload_n dL_law_812 (i := 3) rfl rfl ?_
  refine r_iconst dL_law_813 (v := 1) rfl ?_
  refine r_iadd dL_law_814 ?_
  refine m_xald dL_law_815 (by decide) hx0 (by omega) (nI_add i 1) (by omega) ?_
  refine r_i2l dL_law_816 ?_
  refine r_bipush dL_law_817 (v := 32) rfl ?_
  refine r_lshl dL_law_819 ?_
  refine r_aload_n dL_law_820 (i := 0) rfl rfl ?_
  refine r_iload_n dL_law_821 (i := 3) rfl rfl ?_
  refine r_iconst dL_law_822 (v := 2) rfl ?_
  refine r_iadd dL_law_823 ?_
  refine m_xald dL_law_824 (by decide) hx0 (by omega) (nI_add i 2) (by omega) ?_
  refine r_i2l dL_law_825 ?_
  refine r_ldc2 dL_law_826 wd_1079 ?_
  refine r_land dL_law_829 ?_
  refine r_lor dL_law_830 ?_
  refine sL_law_831 (Nat.le_refl _) (Nat.le_refl _) rfl lv16 (Nat.le_of_ble_eq_true rfl) (D) ?_
  refine r_icmp_eq dL_law_834 (tgt := 937) rfl (fun _ => ?_) (fun h834 => absurd (rfl) h834)
  exact kk h2 hI2
theorem wl_21 (hx0 : g.2.2.2.2 0 = (N, xs)) (hN : N ≤ 2560) (hi : i + 5 ≤ N) (hI : INVp hp o z len n) (kk : KN g i) : V g mL_law 616 6877 616 6877 616 839 (LL i) [] RP hp PL := by
  obtain ⟨r, h1, h2, C, D, hI2⟩ : FCE g mX6_wipe mX7_wipe [] hp := LK_wipe hI
  refine r_aload_n dL_law_839 (i := 1) rfl rfl ?_
  refine sL_law_840 (Nat.le_refl _) (Nat.le_refl _) rfl lv15 (Nat.le_of_ble_eq_true rfl) (C) ?_
  refine r_aload_n dL_law_843 (i := 2) rfl rfl ?_
  refine sL_law_844 (Nat.le_refl _) (Nat.le_refl _) rfl lv16 (Nat.le_of_ble_eq_true rfl) (D) ?_
  refine r_icmp_eq dL_law_847 (tgt := 937) rfl (fun _ => ?_) (fun h847 => absurd (rfl) h847)
  exact kk h2 hI2
theorem wl_22 (hx0 : g.2.2.2.2 0 = (N, xs)) (hN : N ≤ 2560) (hi : i + 5 ≤ N) (hI : INVp hp o z len n) (kk : KN g i) : V g mL_law 616 6877 616 6877 616 852 (LL i) [] RP hp PL := by
  obtain ⟨r, h1, h2, C, D, hI2⟩ : FCE g mX6_fault mX7_fault [] hp := LK_fault hI
  refine r_aload_n dL_law_852 (i := 1) rfl rfl ?_
  refine sL_law_853 (Nat.le_refl _) (Nat.le_refl _) rfl lv15 (Nat.le_of_ble_eq_true rfl) (C) ?_
  refine r_aload_n dL_law_856 (i := 2) rfl rfl ?_
  refine sL_law_857 (Nat.le_refl _) (Nat.le_refl _) rfl lv16 (Nat.le_of_ble_eq_true rfl) (D) ?_
  refine r_icmp_eq dL_law_860 (tgt := 937) rfl (fun _ => ?_) (fun h860 => absurd (rfl) h860)
  exact kk h2 hI2
theorem wl_23 (hx0 : g.2.2.2.2 0 = (N, xs)) (hN : N ≤ 2560) (hi : i + 5 ≤ N) (hI : INVp hp o z len n) (kk : KN g i) : V g mL_law 616 6877 616 6877 616 865 (LL i) [] RP hp PL := by
  obtain ⟨r, h1, h2, C, D, hI2⟩ : FCE g mX6_carryOut mX7_carryOut [] hp := LK_carry hI
  refine r_aload_n dL_law_865 (i := 1) rfl rfl ?_
  refine sL_law_866 (Nat.le_refl _) (Nat.le_refl _) rfl lv15 (Nat.le_of_ble_eq_true rfl) (C) ?_
  refine r_aload_n dL_law_869 (i := 2) rfl rfl ?_
  refine sL_law_870 (Nat.le_refl _) (Nat.le_refl _) rfl lv16 (Nat.le_of_ble_eq_true rfl) (D) ?_
  refine r_icmp_eq dL_law_873 (tgt := 937) rfl (fun _ => ?_) (fun h873 => absurd (rfl) h873)
  exact kk h2 hI2
theorem wl_24 (hx0 : g.2.2.2.2 0 = (N, xs)) (hN : N ≤ 2560) (hi : i + 5 ≤ N) (hI : INVp hp o z len n) (kk : KN g i) : V g mL_law 616 6877 616 6877 616 878 (LL i) [] RP hp PL := by
  obtain ⟨r, h1, h2, C, D, hI2⟩ : FCE g mX6_undo mX7_undo [] hp := LK_undo hI
  refine r_aload_n dL_law_878 (i := 1) rfl rfl ?_
  refine sL_law_879 (Nat.le_refl _) (Nat.le_refl _) rfl lv15 (Nat.le_of_ble_eq_true rfl) (C) ?_
  refine r_aload_n dL_law_882 (i := 2) rfl rfl ?_
  refine sL_law_883 (Nat.le_refl _) (Nat.le_refl _) rfl lv16 (Nat.le_of_ble_eq_true rfl) (D) ?_
  refine r_icmp_eq dL_law_886 (tgt := 937) rfl (fun _ => ?_) (fun h886 => absurd (rfl) h886)
  exact kk h2 hI2
theorem wl_25 (hx0 : g.2.2.2.2 0 = (N, xs)) (hN : N ≤ 2560) (hi : i + 5 ≤ N) (hI : INVp hp o z len n) (kk : KN g i) : V g mL_law 616 6877 616 6877 616 891 (LL i) [] RP hp PL := by
  obtain ⟨r, h1, h2, C, D, hI2⟩ : FCE g mX6_save mX7_save [vI (xs (i + 1))] hp := LK_save hI
  refine r_aload_n dL_law_891 (i := 1) rfl rfl ?_
  refine r_aload_n dL_law_892 (i := 0) rfl rfl ?_
  refine r_iload_n dL_law_893 (i := 3) rfl rfl ?_
  refine r_iconst dL_law_894 (v := 1) rfl ?_
  refine r_iadd dL_law_895 ?_
  refine m_xald dL_law_896 (by decide) hx0 (by omega) (nI_add i 1) (by omega) ?_
  refine sL_law_897 (Nat.le_refl _) (Nat.le_refl _) rfl lv15 (Nat.le_of_ble_eq_true rfl) (C) ?_
  refine r_aload_n dL_law_900 (i := 2) rfl rfl ?_
  refine r_aload_n dL_law_901 (i := 0) rfl rfl ?_
  refine r_iload_n dL_law_902 (i := 3) rfl rfl ?_
  refine r_iconst dL_law_903 (v := 1) rfl ?_
  refine r_iadd dL_law_904 ?_
  refine m_xald dL_law_905 (by decide) hx0 (by omega) (nI_add i 1) (by omega) ?_
  refine sL_law_906 (Nat.le_refl _) (Nat.le_refl _) rfl lv16 (Nat.le_of_ble_eq_true rfl) (D) ?_
  refine r_icmp_eq dL_law_909 (tgt := 937) rfl (fun _ => ?_) (fun h909 => absurd (rfl) h909)
  exact kk h2 hI2
theorem wl_26 (hx0 : g.2.2.2.2 0 = (N, xs)) (hN : N ≤ 2560) (hi : i + 5 ≤ N) (hI : INVp hp o z len n) (kk : KN g i) : V g mL_law 616 6877 616 6877 616 914 (LL i) [] RP hp PL := by
  obtain ⟨r, h1, h2, C, D, hI2⟩ : FCE g mX6_restore mX7_restore [vI (xs (i + 1))] hp := LK_restore hI
  refine r_aload_n dL_law_914 (i := 1) rfl rfl ?_
  refine r_aload_n dL_law_915 (i := 0) rfl rfl ?_
  refine r_iload_n dL_law_916 (i := 3) rfl rfl ?_
  refine r_iconst dL_law_917 (v := 1) rfl ?_
  refine r_iadd dL_law_918 ?_
  refine m_xald dL_law_919 (by decide) hx0 (by omega) (nI_add i 1) (by omega) ?_
  refine sL_law_920 (Nat.le_refl _) (Nat.le_refl _) rfl lv15 (Nat.le_of_ble_eq_true rfl) (C) ?_
  refine r_aload_n dL_law_923 (i := 2) rfl rfl ?_
  refine r_aload_n dL_law_924 (i := 0) rfl rfl ?_
  refine r_iload_n dL_law_925 (i := 3) rfl rfl ?_
  refine r_iconst dL_law_926 (v := 1) rfl ?_
  refine r_iadd dL_law_927 ?_
  refine m_xald dL_law_928 (by decide) hx0 (by omega) (nI_add i 1) (by omega) ?_
  refine sL_law_929 (Nat.le_refl _) (Nat.le_refl _) rfl lv16 (Nat.le_of_ble_eq_true rfl) (D) ?_
  refine r_icmp_eq dL_law_932 (tgt := 937) rfl (fun _ => ?_) (fun h932 => absurd (rfl) h932)
  exact kk h2 hI2
theorem ll_1 : ∀ N, N < 5 → nI N - 5 < 0 := by decide
theorem ll_go (hN : N ≤ 2560) (hi : i ≤ N) (h : ¬ nI N - 5 < nI i) : i + 5 ≤ N := by
  by_cases h5 : N < 5
  · exfalso
    have h1 := ll_1 N h5
    have h2 := nI_pos' (n := i) (by omega)
    rw [Int32.lt_iff_toInt_lt] at h1 h
    rw [Int32.le_iff_toInt_le] at h2
    omega
  · rw [show (5 : Int32) = nI 5 from rfl, pk_sub (by omega), nI_ltI (by omega) (by omega)] at h
    omega
theorem law_loop (hX : GX g) (hx0 : g.2.2.2.2 0 = (N, xs)) (hN : N ≤ 2560) : ∀ k i, i ≤ N → N - i ≤ k → ∀ hp, INV hp → V g mL_law 616 6877 616 6877 616 18 (LL i) [] RP hp PL := by
  intro k
  induction k with
  | zero =>
    intro i hi hk hp hI
    refine r_iload_n dL_law_18 (i := 3) rfl rfl ?_
    refine r_aload_n dL_law_19 (i := 0) rfl rfl ?_
    refine r_xlen dL_law_20 (by decide) ?_
    rw [show (g.2.2.2.2 0).1 = N by rw [hx0]]
    refine r_iconst dL_law_21 (v := 5) rfl ?_
    refine r_isub dL_law_22 ?_
    refine r_icmp_gt dL_law_23 (tgt := 943) rfl (fun _ => ?_) (fun h => ?_)
    · refine r_iconst dL_law_943 (v := 1) rfl ?_
      exact r_retI dL_law_944 rfl rfl (Nat.le_refl _) (Nat.le_refl _) rfl
    · exfalso
      have := ll_go hN hi h
      omega
  | succ k ih =>
    intro i hi hk hp hI
    refine r_iload_n dL_law_18 (i := 3) rfl rfl ?_
    refine r_aload_n dL_law_19 (i := 0) rfl rfl ?_
    refine r_xlen dL_law_20 (by decide) ?_
    rw [show (g.2.2.2.2 0).1 = N by rw [hx0]]
    refine r_iconst dL_law_21 (v := 5) rfl ?_
    refine r_isub dL_law_22 ?_
    refine r_icmp_gt dL_law_23 (tgt := 943) rfl (fun _ => ?_) (fun h => ?_)
    · refine r_iconst dL_law_943 (v := 1) rfl ?_
      exact r_retI dL_law_944 rfl rfl (Nat.le_refl _) (Nat.le_refl _) rfl
    have hi5 := ll_go hN hi h
    have kk : KN g i := by
      intro h2 hI2
      refine r_iinc dL_law_937 (v := nI (i + 5)) (L2 := LL (i + 5)) rfl (nI_add i 5) (Nat.le_of_ble_eq_true rfl) rfl rfl ?_
      refine r_goto dL_law_940 (tgt := 18) rfl ?_
      exact ih (i + 5) hi5 (by omega) h2 hI2
    obtain ⟨o, z, len, n, hIp⟩ := id hI
    refine r_aload_n dL_law_26 (i := 0) rfl rfl ?_
    refine r_iload_n dL_law_27 (i := 3) rfl rfl ?_
    refine m_xald dL_law_28 (by decide) hx0 (by omega) (k := i) rfl (by omega) ?_
    refine r_bipush dL_law_29 (v := 31) rfl ?_
    refine r_iand dL_law_31 ?_
    obtain ⟨q, hq, e⟩ := pk_andE (xs i) (m := 31) 5 rfl
    rw [e]
    have hq : q < 32 := hq
    match q, hq with
    | 0, _ => exact r_tabIn dL_law_32 (off := 124) (tgt := 156) (by decide) (by decide) (by decide) rfl (wl_0 hX hx0 hN hi5 hIp kk)
    | 1, _ => exact r_tabIn dL_law_32 (off := 157) (tgt := 189) (by decide) (by decide) (by decide) rfl (wl_1 hx0 hN hi5 hIp kk)
    | 2, _ => exact r_tabIn dL_law_32 (off := 180) (tgt := 212) (by decide) (by decide) (by decide) rfl (wl_2 hx0 hN hi5 hIp kk)
    | 3, _ => exact r_tabIn dL_law_32 (off := 203) (tgt := 235) (by decide) (by decide) (by decide) rfl (wl_3 hx0 hN hi5 hIp kk)
    | 4, _ => exact r_tabIn dL_law_32 (off := 226) (tgt := 258) (by decide) (by decide) (by decide) rfl (wl_4 hx0 hN hi5 hIp kk)
    | 5, _ => exact r_tabIn dL_law_32 (off := 249) (tgt := 281) (by decide) (by decide) (by decide) rfl (wl_5 hx0 hN hi5 hIp kk)
    | 6, _ => exact r_tabIn dL_law_32 (off := 272) (tgt := 304) (by decide) (by decide) (by decide) rfl (wl_6 hx0 hN hi5 hIp kk)
    | 7, _ => exact r_tabIn dL_law_32 (off := 325) (tgt := 357) (by decide) (by decide) (by decide) rfl (wl_7 hx0 hN hi5 hIp kk)
    | 8, _ => exact r_tabIn dL_law_32 (off := 348) (tgt := 380) (by decide) (by decide) (by decide) rfl (wl_8 hx0 hN hi5 hIp kk)
    | 9, _ => exact r_tabIn dL_law_32 (off := 391) (tgt := 423) (by decide) (by decide) (by decide) rfl (wl_9 hx0 hN hi5 hIp kk)
    | 10, _ => exact r_tabIn dL_law_32 (off := 414) (tgt := 446) (by decide) (by decide) (by decide) rfl (wl_10 hx0 hN hi5 hIp kk)
    | 11, _ => exact r_tabIn dL_law_32 (off := 457) (tgt := 489) (by decide) (by decide) (by decide) rfl (wl_11 hx0 hN hi5 hIp kk)
    | 12, _ => exact r_tabIn dL_law_32 (off := 490) (tgt := 522) (by decide) (by decide) (by decide) rfl (wl_12 hx0 hN hi5 hIp kk)
    | 13, _ => exact r_tabIn dL_law_32 (off := 533) (tgt := 565) (by decide) (by decide) (by decide) rfl (wl_13 hx0 hN hi5 hIp kk)
    | 14, _ => exact r_tabIn dL_law_32 (off := 556) (tgt := 588) (by decide) (by decide) (by decide) rfl (wl_14 hx0 hN hi5 hIp kk)
    | 15, _ => exact r_tabIn dL_law_32 (off := 599) (tgt := 631) (by decide) (by decide) (by decide) rfl (wl_15 hx0 hN hi5 hIp kk)
    | 16, _ => exact r_tabIn dL_law_32 (off := 642) (tgt := 674) (by decide) (by decide) (by decide) rfl (wl_16 hx0 hN hi5 hIp kk)
    | 17, _ => exact r_tabIn dL_law_32 (off := 685) (tgt := 717) (by decide) (by decide) (by decide) rfl (wl_17 hx0 hN hi5 hIp kk)
    | 18, _ => exact r_tabIn dL_law_32 (off := 708) (tgt := 740) (by decide) (by decide) (by decide) rfl (wl_18 hx0 hN hi5 hIp kk)
    | 19, _ => exact r_tabIn dL_law_32 (off := 731) (tgt := 763) (by decide) (by decide) (by decide) rfl (wl_19 hx0 hN hi5 hIp kk)
    | 20, _ => exact r_tabIn dL_law_32 (off := 754) (tgt := 786) (by decide) (by decide) (by decide) rfl (wl_20 hx0 hN hi5 hIp kk)
    | 21, _ => exact r_tabIn dL_law_32 (off := 807) (tgt := 839) (by decide) (by decide) (by decide) rfl (wl_21 hx0 hN hi5 hIp kk)
    | 22, _ => exact r_tabIn dL_law_32 (off := 820) (tgt := 852) (by decide) (by decide) (by decide) rfl (wl_22 hx0 hN hi5 hIp kk)
    | 23, _ => exact r_tabIn dL_law_32 (off := 833) (tgt := 865) (by decide) (by decide) (by decide) rfl (wl_23 hx0 hN hi5 hIp kk)
    | 24, _ => exact r_tabIn dL_law_32 (off := 846) (tgt := 878) (by decide) (by decide) (by decide) rfl (wl_24 hx0 hN hi5 hIp kk)
    | 25, _ => exact r_tabIn dL_law_32 (off := 859) (tgt := 891) (by decide) (by decide) (by decide) rfl (wl_25 hx0 hN hi5 hIp kk)
    | 26, _ => exact r_tabIn dL_law_32 (off := 882) (tgt := 914) (by decide) (by decide) (by decide) rfl (wl_26 hx0 hN hi5 hIp kk)
    | 27, _ => exact r_tabOut dL_law_32 (tgt := 937) (by decide) rfl (kk hp hI)
    | 28, _ => exact r_tabOut dL_law_32 (tgt := 937) (by decide) rfl (kk hp hI)
    | 29, _ => exact r_tabOut dL_law_32 (tgt := 937) (by decide) rfl (kk hp hI)
    | 30, _ => exact r_tabOut dL_law_32 (tgt := 937) (by decide) rfl (kk hp hI)
    | 31, _ => exact r_tabOut dL_law_32 (tgt := 937) (by decide) rfl (kk hp hI)
    | q + 32, hq => exact absurd hq (by omega)
end LW
