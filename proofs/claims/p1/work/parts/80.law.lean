theorem z_scr {w : zE} {g : zG} {own : String} {cc : ByteArray} {nL D pc : Nat} {lv : List (Option Value)} {st : List Value} {M : zM} {b L : Nat} {xs : Nat → Int32} {i : Int32} (F : zF w g own cc nL D) (hX : va_X b L xs g.2.1.1 g.2.1.1.heap) (hbl : b < g.2.1.1.heap.size) (hbA : ¬ g.2.2.2.1 b) (hin : vp_in i L) (hd : decode cc pc = .ok (.iaload, 1)) (k : ZW w g nL (pc + 1) lv (.int (xs i.toNatClampNeg) :: st) M) : ZW w g nL pc lv (.int i :: .ref b :: st) M := fun H locs ls hl hP hS => va_sld F.1 F.2.1 hX hbl hbA hS hin hd (k H locs ls hl hP hS)
theorem z_scl {w : zE} {g : zG} {own : String} {cc : ByteArray} {nL D pc : Nat} {lv : List (Option Value)} {st : List Value} {M : zM} {b L : Nat} {xs : Nat → Int32} (F : zF w g own cc nL D) (hX : va_X b L xs g.2.1.1 g.2.1.1.heap) (hbl : b < g.2.1.1.heap.size) (hbA : ¬ g.2.2.2.1 b) (hd : decode cc pc = .ok (.arraylength, 1)) (k : ZW w g nL (pc + 1) lv (.int (nI L) :: st) M) : ZW w g nL pc lv (.ref b :: st) M := fun H locs ls hl hP hS => va_slen F.1 F.2.1 hX hbl hbA hS hd (k H locs ls hl hP hS)
theorem lc_thing {w : zE} {g : zG} {b : Nat} {xs : Nat → Int32} (F : zF w g RL cL_law 4 1000) (J : zJ w) (hX : va_X b 6 xs g.2.1.1 g.2.1.1.heap) (hbl : b < g.2.1.1.heap.size) (hbA : ¬ g.2.2.2.1 b) (K : ∀ M, ZW w g 4 1236 [some (.ref b), some (.ref (w.2.2 0)), some (.ref (w.2.2 138)), some (.int 0)] [] M) : ZW w g 4 184 [some (.ref b), some (.ref (w.2.2 0)), some (.ref (w.2.2 138)), some (.int 0)] [] M1 := by
  refine z_aload_n F dL_law_184 rfl ?_
  refine z_aload_n F dL_law_185 rfl ?_
  refine z_iload_n F dL_law_186 rfl ?_
  refine z_iconst (v := 1) F dL_law_187 (by decide) ?_
  refine z_iadd F dL_law_188 ?_
  refine z_scr F hX hbl hbA (vpl 6 (by decide) (by decide)) dL_law_189 ?_
  refine z_aload_n F dL_law_190 rfl ?_
  refine z_iload_n F dL_law_191 rfl ?_
  refine z_iconst (v := 2) F dL_law_192 (by decide) ?_
  refine z_iadd F dL_law_193 ?_
  refine z_scr F hX hbl hbA (vpl 6 (by decide) (by decide)) dL_law_194 ?_
  refine z_aload_n F dL_law_195 rfl ?_
  refine z_iload_n F dL_law_196 rfl ?_
  refine z_iconst (v := 3) F dL_law_197 (by decide) ?_
  refine z_iadd F dL_law_198 ?_
  refine z_scr F hX hbl hbA (vpl 6 (by decide) (by decide)) dL_law_199 ?_
  refine z_aload_n F dL_law_200 rfl ?_
  refine z_iload_n F dL_law_201 rfl ?_
  refine z_iconst (v := 4) F dL_law_202 (by decide) ?_
  refine z_iadd F dL_law_203 ?_
  refine z_scr F hX hbl hbA (vpl 6 (by decide) (by decide)) dL_law_204 ?_
  refine z_callVi F (f7_thing J) zm_X7_thing zv_X7_thing ml_L_13 m7 (by decide) rfl rfl rfl (Nat.le_of_ble_eq_true rfl) dL_law_205 (by omega) (fun r1 M2 h1 => ?_)
  obtain ⟨k2, rfl⟩ := h1
  refine z_aload_n F dL_law_208 rfl ?_
  refine z_aload_n F dL_law_209 rfl ?_
  refine z_iload_n F dL_law_210 rfl ?_
  refine z_iconst (v := 1) F dL_law_211 (by decide) ?_
  refine z_iadd F dL_law_212 ?_
  refine z_scr F hX hbl hbA (vpl 6 (by decide) (by decide)) dL_law_213 ?_
  refine z_aload_n F dL_law_214 rfl ?_
  refine z_iload_n F dL_law_215 rfl ?_
  refine z_iconst (v := 2) F dL_law_216 (by decide) ?_
  refine z_iadd F dL_law_217 ?_
  refine z_scr F hX hbl hbA (vpl 6 (by decide) (by decide)) dL_law_218 ?_
  refine z_aload_n F dL_law_219 rfl ?_
  refine z_iload_n F dL_law_220 rfl ?_
  refine z_iconst (v := 3) F dL_law_221 (by decide) ?_
  refine z_iadd F dL_law_222 ?_
  refine z_scr F hX hbl hbA (vpl 6 (by decide) (by decide)) dL_law_223 ?_
  refine z_aload_n F dL_law_224 rfl ?_
  refine z_iload_n F dL_law_225 rfl ?_
  refine z_iconst (v := 4) F dL_law_226 (by decide) ?_
  refine z_iadd F dL_law_227 ?_
  refine z_scr F hX hbl hbA (vpl 6 (by decide) (by decide)) dL_law_228 ?_
  refine z_callVi F (f8_thing J k2) zm_X8_thing zv_X8_thing ml_L_17 r8 (by decide) rfl rfl rfl (Nat.le_of_ble_eq_true rfl) dL_law_229 (by omega) (fun r2 M3 h2 => ?_)
  subst h2
  exact z_ic_eq (tgt := 1236) F dL_law_232 (by decide) (fun _ => K _) (fun h => absurd rfl h)
theorem lc_of {w : zE} {g : zG} {b : Nat} {xs : Nat → Int32} (F : zF w g RL cL_law 4 1000) (J : zJ w) (hX : va_X b 6 xs g.2.1.1 g.2.1.1.heap) (hbl : b < g.2.1.1.heap.size) (hbA : ¬ g.2.2.2.1 b) (K : ∀ M, ZW w g 4 1236 [some (.ref b), some (.ref (w.2.2 0)), some (.ref (w.2.2 138)), some (.int 0)] [] M) : ZW w g 4 237 [some (.ref b), some (.ref (w.2.2 0)), some (.ref (w.2.2 138)), some (.int 0)] [] M1 := by
  refine z_aload_n F dL_law_237 rfl ?_
  refine z_aload_n F dL_law_238 rfl ?_
  refine z_iload_n F dL_law_239 rfl ?_
  refine z_iconst (v := 1) F dL_law_240 (by decide) ?_
  refine z_iadd F dL_law_241 ?_
  refine z_scr F hX hbl hbA (vpl 6 (by decide) (by decide)) dL_law_242 ?_
  refine z_aload_n F dL_law_243 rfl ?_
  refine z_iload_n F dL_law_244 rfl ?_
  refine z_iconst (v := 2) F dL_law_245 (by decide) ?_
  refine z_iadd F dL_law_246 ?_
  refine z_scr F hX hbl hbA (vpl 6 (by decide) (by decide)) dL_law_247 ?_
  refine z_callVi F (f7_of J) zm_X7_of zv_X7_of ml_L_18 m7 (by decide) rfl rfl rfl (Nat.le_of_ble_eq_true rfl) dL_law_248 (by omega) (fun r1 M2 h1 => ?_)
  obtain ⟨k2, rfl⟩ := h1
  refine z_aload_n F dL_law_251 rfl ?_
  refine z_aload_n F dL_law_252 rfl ?_
  refine z_iload_n F dL_law_253 rfl ?_
  refine z_iconst (v := 1) F dL_law_254 (by decide) ?_
  refine z_iadd F dL_law_255 ?_
  refine z_scr F hX hbl hbA (vpl 6 (by decide) (by decide)) dL_law_256 ?_
  refine z_aload_n F dL_law_257 rfl ?_
  refine z_iload_n F dL_law_258 rfl ?_
  refine z_iconst (v := 2) F dL_law_259 (by decide) ?_
  refine z_iadd F dL_law_260 ?_
  refine z_scr F hX hbl hbA (vpl 6 (by decide) (by decide)) dL_law_261 ?_
  refine z_callVi F (f8_of J k2) zm_X8_of zv_X8_of ml_L_22 r8 (by decide) rfl rfl rfl (Nat.le_of_ble_eq_true rfl) dL_law_262 (by omega) (fun r2 M3 h2 => ?_)
  subst h2
  exact z_ic_eq (tgt := 1236) F dL_law_265 (by decide) (fun _ => K _) (fun h => absurd rfl h)
theorem lc_felt {w : zE} {g : zG} {b : Nat} {xs : Nat → Int32} (F : zF w g RL cL_law 4 1000) (J : zJ w) (hX : va_X b 6 xs g.2.1.1 g.2.1.1.heap) (hbl : b < g.2.1.1.heap.size) (hbA : ¬ g.2.2.2.1 b) (K : ∀ M, ZW w g 4 1236 [some (.ref b), some (.ref (w.2.2 0)), some (.ref (w.2.2 138)), some (.int 0)] [] M) : ZW w g 4 270 [some (.ref b), some (.ref (w.2.2 0)), some (.ref (w.2.2 138)), some (.int 0)] [] M1 := by
  refine z_aload_n F dL_law_270 rfl ?_
  refine z_aload_n F dL_law_271 rfl ?_
  refine z_iload_n F dL_law_272 rfl ?_
  refine z_iconst (v := 1) F dL_law_273 (by decide) ?_
  refine z_iadd F dL_law_274 ?_
  refine z_scr F hX hbl hbA (vpl 6 (by decide) (by decide)) dL_law_275 ?_
  refine z_aload_n F dL_law_276 rfl ?_
  refine z_iload_n F dL_law_277 rfl ?_
  refine z_iconst (v := 2) F dL_law_278 (by decide) ?_
  refine z_iadd F dL_law_279 ?_
  refine z_scr F hX hbl hbA (vpl 6 (by decide) (by decide)) dL_law_280 ?_
  refine z_aload_n F dL_law_281 rfl ?_
  refine z_iload_n F dL_law_282 rfl ?_
  refine z_iconst (v := 3) F dL_law_283 (by decide) ?_
  refine z_iadd F dL_law_284 ?_
  refine z_scr F hX hbl hbA (vpl 6 (by decide) (by decide)) dL_law_285 ?_
  refine z_callVi F (f7_felt J) zm_X7_felt zv_X7_felt ml_L_23 m7 (by decide) rfl rfl rfl (Nat.le_of_ble_eq_true rfl) dL_law_286 (by omega) (fun r1 M2 h1 => ?_)
  obtain ⟨k2, rfl⟩ := h1
  refine z_aload_n F dL_law_289 rfl ?_
  refine z_aload_n F dL_law_290 rfl ?_
  refine z_iload_n F dL_law_291 rfl ?_
  refine z_iconst (v := 1) F dL_law_292 (by decide) ?_
  refine z_iadd F dL_law_293 ?_
  refine z_scr F hX hbl hbA (vpl 6 (by decide) (by decide)) dL_law_294 ?_
  refine z_aload_n F dL_law_295 rfl ?_
  refine z_iload_n F dL_law_296 rfl ?_
  refine z_iconst (v := 2) F dL_law_297 (by decide) ?_
  refine z_iadd F dL_law_298 ?_
  refine z_scr F hX hbl hbA (vpl 6 (by decide) (by decide)) dL_law_299 ?_
  refine z_aload_n F dL_law_300 rfl ?_
  refine z_iload_n F dL_law_301 rfl ?_
  refine z_iconst (v := 3) F dL_law_302 (by decide) ?_
  refine z_iadd F dL_law_303 ?_
  refine z_scr F hX hbl hbA (vpl 6 (by decide) (by decide)) dL_law_304 ?_
  refine z_callVi F (f8_felt J k2) zm_X8_felt zv_X8_felt ml_L_27 r8 (by decide) rfl rfl rfl (Nat.le_of_ble_eq_true rfl) dL_law_305 (by omega) (fun r2 M3 h2 => ?_)
  subst h2
  exact z_ic_eq (tgt := 1236) F dL_law_308 (by decide) (fun _ => K _) (fun h => absurd rfl h)
theorem lc_person {w : zE} {g : zG} {b : Nat} {xs : Nat → Int32} (F : zF w g RL cL_law 4 1000) (J : zJ w) (hX : va_X b 6 xs g.2.1.1 g.2.1.1.heap) (hbl : b < g.2.1.1.heap.size) (hbA : ¬ g.2.2.2.1 b) (K : ∀ M, ZW w g 4 1236 [some (.ref b), some (.ref (w.2.2 0)), some (.ref (w.2.2 138)), some (.int 0)] [] M) : ZW w g 4 313 [some (.ref b), some (.ref (w.2.2 0)), some (.ref (w.2.2 138)), some (.int 0)] [] M1 := by
  refine z_aload_n F dL_law_313 rfl ?_
  refine z_aload_n F dL_law_314 rfl ?_
  refine z_iload_n F dL_law_315 rfl ?_
  refine z_iconst (v := 1) F dL_law_316 (by decide) ?_
  refine z_iadd F dL_law_317 ?_
  refine z_scr F hX hbl hbA (vpl 6 (by decide) (by decide)) dL_law_318 ?_
  refine z_aload_n F dL_law_319 rfl ?_
  refine z_iload_n F dL_law_320 rfl ?_
  refine z_iconst (v := 2) F dL_law_321 (by decide) ?_
  refine z_iadd F dL_law_322 ?_
  refine z_scr F hX hbl hbA (vpl 6 (by decide) (by decide)) dL_law_323 ?_
  refine z_aload_n F dL_law_324 rfl ?_
  refine z_iload_n F dL_law_325 rfl ?_
  refine z_iconst (v := 3) F dL_law_326 (by decide) ?_
  refine z_iadd F dL_law_327 ?_
  refine z_scr F hX hbl hbA (vpl 6 (by decide) (by decide)) dL_law_328 ?_
  refine z_callVi F (f7_person J) zm_X7_person zv_X7_person ml_L_28 m7 (by decide) rfl rfl rfl (Nat.le_of_ble_eq_true rfl) dL_law_329 (by omega) (fun r1 M2 h1 => ?_)
  obtain ⟨k2, rfl⟩ := h1
  refine z_aload_n F dL_law_332 rfl ?_
  refine z_aload_n F dL_law_333 rfl ?_
  refine z_iload_n F dL_law_334 rfl ?_
  refine z_iconst (v := 1) F dL_law_335 (by decide) ?_
  refine z_iadd F dL_law_336 ?_
  refine z_scr F hX hbl hbA (vpl 6 (by decide) (by decide)) dL_law_337 ?_
  refine z_aload_n F dL_law_338 rfl ?_
  refine z_iload_n F dL_law_339 rfl ?_
  refine z_iconst (v := 2) F dL_law_340 (by decide) ?_
  refine z_iadd F dL_law_341 ?_
  refine z_scr F hX hbl hbA (vpl 6 (by decide) (by decide)) dL_law_342 ?_
  refine z_aload_n F dL_law_343 rfl ?_
  refine z_iload_n F dL_law_344 rfl ?_
  refine z_iconst (v := 3) F dL_law_345 (by decide) ?_
  refine z_iadd F dL_law_346 ?_
  refine z_scr F hX hbl hbA (vpl 6 (by decide) (by decide)) dL_law_347 ?_
  refine z_callVi F (f8_person J k2) zm_X8_person zv_X8_person ml_L_31 r8 (by decide) rfl rfl rfl (Nat.le_of_ble_eq_true rfl) dL_law_348 (by omega) (fun r2 M3 h2 => ?_)
  subst h2
  exact z_ic_eq (tgt := 1236) F dL_law_351 (by decide) (fun _ => K _) (fun h => absurd rfl h)
theorem lc_told {w : zE} {g : zG} {b : Nat} {xs : Nat → Int32} (F : zF w g RL cL_law 4 1000) (J : zJ w) (hX : va_X b 6 xs g.2.1.1 g.2.1.1.heap) (hbl : b < g.2.1.1.heap.size) (hbA : ¬ g.2.2.2.1 b) (K : ∀ M, ZW w g 4 1236 [some (.ref b), some (.ref (w.2.2 0)), some (.ref (w.2.2 138)), some (.int 0)] [] M) : ZW w g 4 356 [some (.ref b), some (.ref (w.2.2 0)), some (.ref (w.2.2 138)), some (.int 0)] [] M1 := by
  refine z_aload_n F dL_law_356 rfl ?_
  refine z_aload_n F dL_law_357 rfl ?_
  refine z_iload_n F dL_law_358 rfl ?_
  refine z_iconst (v := 1) F dL_law_359 (by decide) ?_
  refine z_iadd F dL_law_360 ?_
  refine z_scr F hX hbl hbA (vpl 6 (by decide) (by decide)) dL_law_361 ?_
  refine z_aload_n F dL_law_362 rfl ?_
  refine z_iload_n F dL_law_363 rfl ?_
  refine z_iconst (v := 2) F dL_law_364 (by decide) ?_
  refine z_iadd F dL_law_365 ?_
  refine z_scr F hX hbl hbA (vpl 6 (by decide) (by decide)) dL_law_366 ?_
  refine z_callVi F (f7_told J) zm_X7_told zv_X7_told ml_L_32 m7 (by decide) rfl rfl rfl (Nat.le_of_ble_eq_true rfl) dL_law_367 (by omega) (fun r1 M2 h1 => ?_)
  obtain ⟨k2, rfl⟩ := h1
  refine z_aload_n F dL_law_370 rfl ?_
  refine z_aload_n F dL_law_371 rfl ?_
  refine z_iload_n F dL_law_372 rfl ?_
  refine z_iconst (v := 1) F dL_law_373 (by decide) ?_
  refine z_iadd F dL_law_374 ?_
  refine z_scr F hX hbl hbA (vpl 6 (by decide) (by decide)) dL_law_375 ?_
  refine z_aload_n F dL_law_376 rfl ?_
  refine z_iload_n F dL_law_377 rfl ?_
  refine z_iconst (v := 2) F dL_law_378 (by decide) ?_
  refine z_iadd F dL_law_379 ?_
  refine z_scr F hX hbl hbA (vpl 6 (by decide) (by decide)) dL_law_380 ?_
  refine z_callVi F (f8_told J k2) zm_X8_told zv_X8_told ml_L_35 r8 (by decide) rfl rfl rfl (Nat.le_of_ble_eq_true rfl) dL_law_381 (by omega) (fun r2 M3 h2 => ?_)
  subst h2
  exact z_ic_eq (tgt := 1236) F dL_law_384 (by decide) (fun _ => K _) (fun h => absurd rfl h)
theorem lc_move {w : zE} {g : zG} {b : Nat} {xs : Nat → Int32} (F : zF w g RL cL_law 4 1000) (J : zJ w) (hX : va_X b 6 xs g.2.1.1 g.2.1.1.heap) (hbl : b < g.2.1.1.heap.size) (hbA : ¬ g.2.2.2.1 b) (K : ∀ M, ZW w g 4 1236 [some (.ref b), some (.ref (w.2.2 0)), some (.ref (w.2.2 138)), some (.int 0)] [] M) : ZW w g 4 389 [some (.ref b), some (.ref (w.2.2 0)), some (.ref (w.2.2 138)), some (.int 0)] [] M1 := by
  refine z_aload_n F dL_law_389 rfl ?_
  refine z_aload_n F dL_law_390 rfl ?_
  refine z_iload_n F dL_law_391 rfl ?_
  refine z_iconst (v := 1) F dL_law_392 (by decide) ?_
  refine z_iadd F dL_law_393 ?_
  refine z_scr F hX hbl hbA (vpl 6 (by decide) (by decide)) dL_law_394 ?_
  refine z_aload_n F dL_law_395 rfl ?_
  refine z_iload_n F dL_law_396 rfl ?_
  refine z_iconst (v := 2) F dL_law_397 (by decide) ?_
  refine z_iadd F dL_law_398 ?_
  refine z_scr F hX hbl hbA (vpl 6 (by decide) (by decide)) dL_law_399 ?_
  refine z_callVi F (f7_move J) zm_X7_move zv_X7_move ml_L_36 m7 (by decide) rfl rfl rfl (Nat.le_of_ble_eq_true rfl) dL_law_400 (by omega) (fun r1 M2 h1 => ?_)
  obtain ⟨k2, rfl⟩ := h1
  refine z_aload_n F dL_law_403 rfl ?_
  refine z_aload_n F dL_law_404 rfl ?_
  refine z_iload_n F dL_law_405 rfl ?_
  refine z_iconst (v := 1) F dL_law_406 (by decide) ?_
  refine z_iadd F dL_law_407 ?_
  refine z_scr F hX hbl hbA (vpl 6 (by decide) (by decide)) dL_law_408 ?_
  refine z_aload_n F dL_law_409 rfl ?_
  refine z_iload_n F dL_law_410 rfl ?_
  refine z_iconst (v := 2) F dL_law_411 (by decide) ?_
  refine z_iadd F dL_law_412 ?_
  refine z_scr F hX hbl hbA (vpl 6 (by decide) (by decide)) dL_law_413 ?_
  refine z_callVi F (f8_move J k2) zm_X8_move zv_X8_move ml_L_39 r8 (by decide) rfl rfl rfl (Nat.le_of_ble_eq_true rfl) dL_law_414 (by omega) (fun r2 M3 h2 => ?_)
  subst h2
  exact z_ic_eq (tgt := 1236) F dL_law_417 (by decide) (fun _ => K _) (fun h => absurd rfl h)
theorem lc_take {w : zE} {g : zG} {b : Nat} {xs : Nat → Int32} (F : zF w g RL cL_law 4 1000) (J : zJ w) (hX : va_X b 6 xs g.2.1.1 g.2.1.1.heap) (hbl : b < g.2.1.1.heap.size) (hbA : ¬ g.2.2.2.1 b) (K : ∀ M, ZW w g 4 1236 [some (.ref b), some (.ref (w.2.2 0)), some (.ref (w.2.2 138)), some (.int 0)] [] M) : ZW w g 4 422 [some (.ref b), some (.ref (w.2.2 0)), some (.ref (w.2.2 138)), some (.int 0)] [] M1 := by
  refine z_aload_n F dL_law_422 rfl ?_
  refine z_aload_n F dL_law_423 rfl ?_
  refine z_iload_n F dL_law_424 rfl ?_
  refine z_iconst (v := 1) F dL_law_425 (by decide) ?_
  refine z_iadd F dL_law_426 ?_
  refine z_scr F hX hbl hbA (vpl 6 (by decide) (by decide)) dL_law_427 ?_
  refine z_callVi F (f7_take J) zm_X7_take zv_X7_take ml_L_40 m7 (by decide) rfl rfl rfl (Nat.le_of_ble_eq_true rfl) dL_law_428 (by omega) (fun r1 M2 h1 => ?_)
  obtain ⟨k2, rfl⟩ := h1
  refine z_aload_n F dL_law_431 rfl ?_
  refine z_aload_n F dL_law_432 rfl ?_
  refine z_iload_n F dL_law_433 rfl ?_
  refine z_iconst (v := 1) F dL_law_434 (by decide) ?_
  refine z_iadd F dL_law_435 ?_
  refine z_scr F hX hbl hbA (vpl 6 (by decide) (by decide)) dL_law_436 ?_
  refine z_callVi F (f8_take J k2) zm_X8_take zv_X8_take ml_L_44 r8 (by decide) rfl rfl rfl (Nat.le_of_ble_eq_true rfl) dL_law_437 (by omega) (fun r2 M3 h2 => ?_)
  subst h2
  exact z_ic_eq (tgt := 1236) F dL_law_440 (by decide) (fun _ => K _) (fun h => absurd rfl h)
theorem lc_count {w : zE} {g : zG} {b : Nat} {xs : Nat → Int32} (F : zF w g RL cL_law 4 1000) (J : zJ w) (hX : va_X b 6 xs g.2.1.1 g.2.1.1.heap) (hbl : b < g.2.1.1.heap.size) (hbA : ¬ g.2.2.2.1 b) (K : ∀ M, ZW w g 4 1236 [some (.ref b), some (.ref (w.2.2 0)), some (.ref (w.2.2 138)), some (.int 0)] [] M) : ZW w g 4 445 [some (.ref b), some (.ref (w.2.2 0)), some (.ref (w.2.2 138)), some (.int 0)] [] M1 := by
  refine z_aload_n F dL_law_445 rfl ?_
  refine z_aload_n F dL_law_446 rfl ?_
  refine z_iload_n F dL_law_447 rfl ?_
  refine z_iconst (v := 1) F dL_law_448 (by decide) ?_
  refine z_iadd F dL_law_449 ?_
  refine z_scr F hX hbl hbA (vpl 6 (by decide) (by decide)) dL_law_450 ?_
  refine z_callVi F (f7_count J) zm_X7_count zv_X7_count ml_L_45 m7 (by decide) rfl rfl rfl (Nat.le_of_ble_eq_true rfl) dL_law_451 (by omega) (fun r1 M2 h1 => ?_)
  obtain ⟨k2, rfl⟩ := h1
  refine z_aload_n F dL_law_454 rfl ?_
  refine z_aload_n F dL_law_455 rfl ?_
  refine z_iload_n F dL_law_456 rfl ?_
  refine z_iconst (v := 1) F dL_law_457 (by decide) ?_
  refine z_iadd F dL_law_458 ?_
  refine z_scr F hX hbl hbA (vpl 6 (by decide) (by decide)) dL_law_459 ?_
  refine z_callVi F (f8_count J k2) zm_X8_count zv_X8_count ml_L_48 r8 (by decide) rfl rfl rfl (Nat.le_of_ble_eq_true rfl) dL_law_460 (by omega) (fun r2 M3 h2 => ?_)
  subst h2
  exact z_ic_eq (tgt := 1236) F dL_law_463 (by decide) (fun _ => K _) (fun h => absurd rfl h)
theorem lc_heed {w : zE} {g : zG} {b : Nat} {xs : Nat → Int32} (F : zF w g RL cL_law 4 1000) (J : zJ w) (hX : va_X b 6 xs g.2.1.1 g.2.1.1.heap) (hbl : b < g.2.1.1.heap.size) (hbA : ¬ g.2.2.2.1 b) (K : ∀ M, ZW w g 4 1236 [some (.ref b), some (.ref (w.2.2 0)), some (.ref (w.2.2 138)), some (.int 0)] [] M) : ZW w g 4 468 [some (.ref b), some (.ref (w.2.2 0)), some (.ref (w.2.2 138)), some (.int 0)] [] M1 := by
  refine z_aload_n F dL_law_468 rfl ?_
  refine z_aload_n F dL_law_469 rfl ?_
  refine z_iload_n F dL_law_470 rfl ?_
  refine z_iconst (v := 1) F dL_law_471 (by decide) ?_
  refine z_iadd F dL_law_472 ?_
  refine z_scr F hX hbl hbA (vpl 6 (by decide) (by decide)) dL_law_473 ?_
  refine z_callVi F (f7_heed J) zm_X7_heed zv_X7_heed ml_L_49 m7 (by decide) rfl rfl rfl (Nat.le_of_ble_eq_true rfl) dL_law_474 (by omega) (fun r1 M2 h1 => ?_)
  obtain ⟨k2, rfl⟩ := h1
  refine z_aload_n F dL_law_477 rfl ?_
  refine z_aload_n F dL_law_478 rfl ?_
  refine z_iload_n F dL_law_479 rfl ?_
  refine z_iconst (v := 1) F dL_law_480 (by decide) ?_
  refine z_iadd F dL_law_481 ?_
  refine z_scr F hX hbl hbA (vpl 6 (by decide) (by decide)) dL_law_482 ?_
  refine z_callVi F (f8_heed J k2) zm_X8_heed zv_X8_heed ml_L_52 r8 (by decide) rfl rfl rfl (Nat.le_of_ble_eq_true rfl) dL_law_483 (by omega) (fun r2 M3 h2 => ?_)
  subst h2
  exact z_ic_eq (tgt := 1236) F dL_law_486 (by decide) (fun _ => K _) (fun h => absurd rfl h)
theorem lc_well {w : zE} {g : zG} {b : Nat} {xs : Nat → Int32} (F : zF w g RL cL_law 4 1000) (J : zJ w) (hX : va_X b 6 xs g.2.1.1 g.2.1.1.heap) (hbl : b < g.2.1.1.heap.size) (hbA : ¬ g.2.2.2.1 b) (K : ∀ M, ZW w g 4 1236 [some (.ref b), some (.ref (w.2.2 0)), some (.ref (w.2.2 138)), some (.int 0)] [] M) : ZW w g 4 491 [some (.ref b), some (.ref (w.2.2 0)), some (.ref (w.2.2 138)), some (.int 0)] [] M1 := by
  refine z_aload_n F dL_law_491 rfl ?_
  refine z_aload_n F dL_law_492 rfl ?_
  refine z_iload_n F dL_law_493 rfl ?_
  refine z_iconst (v := 1) F dL_law_494 (by decide) ?_
  refine z_iadd F dL_law_495 ?_
  refine z_scr F hX hbl hbA (vpl 6 (by decide) (by decide)) dL_law_496 ?_
  refine z_callVi F (f7_well J) zm_X7_well zv_X7_well ml_L_53 m7 (by decide) rfl rfl rfl (Nat.le_of_ble_eq_true rfl) dL_law_497 (by omega) (fun r1 M2 h1 => ?_)
  obtain ⟨k2, rfl⟩ := h1
  refine z_aload_n F dL_law_500 rfl ?_
  refine z_aload_n F dL_law_501 rfl ?_
  refine z_iload_n F dL_law_502 rfl ?_
  refine z_iconst (v := 1) F dL_law_503 (by decide) ?_
  refine z_iadd F dL_law_504 ?_
  refine z_scr F hX hbl hbA (vpl 6 (by decide) (by decide)) dL_law_505 ?_
  refine z_callVi F (f8_well J k2) zm_X8_well zv_X8_well ml_L_56 r8 (by decide) rfl rfl rfl (Nat.le_of_ble_eq_true rfl) dL_law_506 (by omega) (fun r2 M3 h2 => ?_)
  subst h2
  exact z_ic_eq (tgt := 1236) F dL_law_509 (by decide) (fun _ => K _) (fun h => absurd rfl h)
theorem lc_type {w : zE} {g : zG} {b : Nat} {xs : Nat → Int32} (F : zF w g RL cL_law 4 1000) (J : zJ w) (hX : va_X b 6 xs g.2.1.1 g.2.1.1.heap) (hbl : b < g.2.1.1.heap.size) (hbA : ¬ g.2.2.2.1 b) (K : ∀ M, ZW w g 4 1236 [some (.ref b), some (.ref (w.2.2 0)), some (.ref (w.2.2 138)), some (.int 0)] [] M) : ZW w g 4 514 [some (.ref b), some (.ref (w.2.2 0)), some (.ref (w.2.2 138)), some (.int 0)] [] M1 := by
  refine z_aload_n F dL_law_514 rfl ?_
  refine z_aload_n F dL_law_515 rfl ?_
  refine z_iload_n F dL_law_516 rfl ?_
  refine z_iconst (v := 1) F dL_law_517 (by decide) ?_
  refine z_iadd F dL_law_518 ?_
  refine z_scr F hX hbl hbA (vpl 6 (by decide) (by decide)) dL_law_519 ?_
  refine z_callVi F (f7_type J) zm_X7_type zv_X7_type ml_L_57 m7 (by decide) rfl rfl rfl (Nat.le_of_ble_eq_true rfl) dL_law_520 (by omega) (fun r1 M2 h1 => ?_)
  obtain ⟨k2, rfl⟩ := h1
  refine z_aload_n F dL_law_523 rfl ?_
  refine z_aload_n F dL_law_524 rfl ?_
  refine z_iload_n F dL_law_525 rfl ?_
  refine z_iconst (v := 1) F dL_law_526 (by decide) ?_
  refine z_iadd F dL_law_527 ?_
  refine z_scr F hX hbl hbA (vpl 6 (by decide) (by decide)) dL_law_528 ?_
  refine z_callVi F (f8_type J k2) zm_X8_type zv_X8_type ml_L_60 r8 (by decide) rfl rfl rfl (Nat.le_of_ble_eq_true rfl) dL_law_529 (by omega) (fun r2 M3 h2 => ?_)
  subst h2
  exact z_ic_eq (tgt := 1236) F dL_law_532 (by decide) (fun _ => K _) (fun h => absurd rfl h)
theorem lc_road {w : zE} {g : zG} {b : Nat} {xs : Nat → Int32} (F : zF w g RL cL_law 4 1000) (J : zJ w) (hX : va_X b 6 xs g.2.1.1 g.2.1.1.heap) (hbl : b < g.2.1.1.heap.size) (hbA : ¬ g.2.2.2.1 b) (K : ∀ M, ZW w g 4 1236 [some (.ref b), some (.ref (w.2.2 0)), some (.ref (w.2.2 138)), some (.int 0)] [] M) : ZW w g 4 537 [some (.ref b), some (.ref (w.2.2 0)), some (.ref (w.2.2 138)), some (.int 0)] [] M1 := by
  refine z_aload_n F dL_law_537 rfl ?_
  refine z_callVi F (f7_road J) zm_X7_road zv_X7_road ml_L_61 m7 (by decide) rfl rfl rfl (Nat.le_of_ble_eq_true rfl) dL_law_538 (by omega) (fun r1 M2 h1 => ?_)
  obtain ⟨k2, rfl⟩ := h1
  refine z_aload_n F dL_law_541 rfl ?_
  refine z_callVi F (f8_road J k2) zm_X8_road zv_X8_road ml_L_65 r8 (by decide) rfl rfl rfl (Nat.le_of_ble_eq_true rfl) dL_law_542 (by omega) (fun r2 M3 h2 => ?_)
  subst h2
  exact z_ic_eq (tgt := 1236) F dL_law_545 (by decide) (fun _ => K _) (fun h => absurd rfl h)
theorem lc_go {w : zE} {g : zG} {b : Nat} {xs : Nat → Int32} (F : zF w g RL cL_law 4 1000) (J : zJ w) (hX : va_X b 6 xs g.2.1.1 g.2.1.1.heap) (hbl : b < g.2.1.1.heap.size) (hbA : ¬ g.2.2.2.1 b) (K : ∀ M, ZW w g 4 1236 [some (.ref b), some (.ref (w.2.2 0)), some (.ref (w.2.2 138)), some (.int 0)] [] M) : ZW w g 4 550 [some (.ref b), some (.ref (w.2.2 0)), some (.ref (w.2.2 138)), some (.int 0)] [] M1 := by
  refine z_aload_n F dL_law_550 rfl ?_
  refine z_callVi F (f7_go J) zm_X7_go zv_X7_go ml_L_66 m7 (by decide) rfl rfl rfl (Nat.le_of_ble_eq_true rfl) dL_law_551 (by omega) (fun r1 M2 h1 => ?_)
  obtain ⟨k2, rfl⟩ := h1
  refine z_aload_n F dL_law_554 rfl ?_
  refine z_callVi F (f8_go J k2) zm_X8_go zv_X8_go ml_L_69 r8 (by decide) rfl rfl rfl (Nat.le_of_ble_eq_true rfl) dL_law_555 (by omega) (fun r2 M3 h2 => ?_)
  subst h2
  exact z_ic_eq (tgt := 1236) F dL_law_558 (by decide) (fun _ => K _) (fun h => absurd rfl h)
theorem lc_undo {w : zE} {g : zG} {b : Nat} {xs : Nat → Int32} (F : zF w g RL cL_law 4 1000) (J : zJ w) (hX : va_X b 6 xs g.2.1.1 g.2.1.1.heap) (hbl : b < g.2.1.1.heap.size) (hbA : ¬ g.2.2.2.1 b) (K : ∀ M, ZW w g 4 1236 [some (.ref b), some (.ref (w.2.2 0)), some (.ref (w.2.2 138)), some (.int 0)] [] M) : ZW w g 4 563 [some (.ref b), some (.ref (w.2.2 0)), some (.ref (w.2.2 138)), some (.int 0)] [] M1 := by
  refine z_aload_n F dL_law_563 rfl ?_
  refine z_callVi F (f7_undo J) zm_X7_undo zv_X7_undo ml_L_70 m7 (by decide) rfl rfl rfl (Nat.le_of_ble_eq_true rfl) dL_law_564 (by omega) (fun r1 M2 h1 => ?_)
  obtain ⟨k2, rfl⟩ := h1
  refine z_aload_n F dL_law_567 rfl ?_
  refine z_callVi F (f8_undo J k2) zm_X8_undo zv_X8_undo ml_L_73 r8 (by decide) rfl rfl rfl (Nat.le_of_ble_eq_true rfl) dL_law_568 (by omega) (fun r2 M3 h2 => ?_)
  subst h2
  exact z_ic_eq (tgt := 1236) F dL_law_571 (by decide) (fun _ => K _) (fun h => absurd rfl h)
theorem lc_again {w : zE} {g : zG} {b : Nat} {xs : Nat → Int32} (F : zF w g RL cL_law 4 1000) (J : zJ w) (hX : va_X b 6 xs g.2.1.1 g.2.1.1.heap) (hbl : b < g.2.1.1.heap.size) (hbA : ¬ g.2.2.2.1 b) (K : ∀ M, ZW w g 4 1236 [some (.ref b), some (.ref (w.2.2 0)), some (.ref (w.2.2 138)), some (.int 0)] [] M) : ZW w g 4 576 [some (.ref b), some (.ref (w.2.2 0)), some (.ref (w.2.2 138)), some (.int 0)] [] M1 := by
  refine z_aload_n F dL_law_576 rfl ?_
  refine z_callVi F (f7_again J) zm_X7_again zv_X7_again ml_L_74 m7 (by decide) rfl rfl rfl (Nat.le_of_ble_eq_true rfl) dL_law_577 (by omega) (fun r1 M2 h1 => ?_)
  obtain ⟨k2, rfl⟩ := h1
  refine z_aload_n F dL_law_580 rfl ?_
  refine z_callVi F (f8_again J k2) zm_X8_again zv_X8_again ml_L_77 r8 (by decide) rfl rfl rfl (Nat.le_of_ble_eq_true rfl) dL_law_581 (by omega) (fun r2 M3 h2 => ?_)
  subst h2
  exact z_ic_eq (tgt := 1236) F dL_law_584 (by decide) (fun _ => K _) (fun h => absurd rfl h)
theorem lc_glad {w : zE} {g : zG} {b : Nat} {xs : Nat → Int32} (F : zF w g RL cL_law 4 1000) (J : zJ w) (hX : va_X b 6 xs g.2.1.1 g.2.1.1.heap) (hbl : b < g.2.1.1.heap.size) (hbA : ¬ g.2.2.2.1 b) (K : ∀ M, ZW w g 4 1236 [some (.ref b), some (.ref (w.2.2 0)), some (.ref (w.2.2 138)), some (.int 0)] [] M) : ZW w g 4 589 [some (.ref b), some (.ref (w.2.2 0)), some (.ref (w.2.2 138)), some (.int 0)] [] M1 := by
  refine z_aload_n F dL_law_589 rfl ?_
  refine z_aload_n F dL_law_590 rfl ?_
  refine z_iload_n F dL_law_591 rfl ?_
  refine z_iconst (v := 1) F dL_law_592 (by decide) ?_
  refine z_iadd F dL_law_593 ?_
  refine z_scr F hX hbl hbA (vpl 6 (by decide) (by decide)) dL_law_594 ?_
  refine z_callVi F (f7_glad J) zm_X7_glad zv_X7_glad ml_L_78 m7 (by decide) rfl rfl rfl (Nat.le_of_ble_eq_true rfl) dL_law_595 (by omega) (fun r1 M2 h1 => ?_)
  obtain ⟨k2, rfl⟩ := h1
  refine z_aload_n F dL_law_598 rfl ?_
  refine z_aload_n F dL_law_599 rfl ?_
  refine z_iload_n F dL_law_600 rfl ?_
  refine z_iconst (v := 1) F dL_law_601 (by decide) ?_
  refine z_iadd F dL_law_602 ?_
  refine z_scr F hX hbl hbA (vpl 6 (by decide) (by decide)) dL_law_603 ?_
  refine z_callVi F (f8_glad J k2) zm_X8_glad zv_X8_glad ml_L_81 r8 (by decide) rfl rfl rfl (Nat.le_of_ble_eq_true rfl) dL_law_604 (by omega) (fun r2 M3 h2 => ?_)
  subst h2
  exact z_ic_eq (tgt := 1236) F dL_law_607 (by decide) (fun _ => K _) (fun h => absurd rfl h)
theorem lc_home {w : zE} {g : zG} {b : Nat} {xs : Nat → Int32} (F : zF w g RL cL_law 4 1000) (J : zJ w) (hX : va_X b 6 xs g.2.1.1 g.2.1.1.heap) (hbl : b < g.2.1.1.heap.size) (hbA : ¬ g.2.2.2.1 b) (K : ∀ M, ZW w g 4 1236 [some (.ref b), some (.ref (w.2.2 0)), some (.ref (w.2.2 138)), some (.int 0)] [] M) : ZW w g 4 612 [some (.ref b), some (.ref (w.2.2 0)), some (.ref (w.2.2 138)), some (.int 0)] [] M1 := by
  refine z_aload_n F dL_law_612 rfl ?_
  refine z_aload_n F dL_law_613 rfl ?_
  refine z_iload_n F dL_law_614 rfl ?_
  refine z_iconst (v := 1) F dL_law_615 (by decide) ?_
  refine z_iadd F dL_law_616 ?_
  refine z_scr F hX hbl hbA (vpl 6 (by decide) (by decide)) dL_law_617 ?_
  refine z_callVi F (f7_home J) zm_X7_home zv_X7_home ml_L_82 m7 (by decide) rfl rfl rfl (Nat.le_of_ble_eq_true rfl) dL_law_618 (by omega) (fun r1 M2 h1 => ?_)
  obtain ⟨k2, rfl⟩ := h1
  refine z_aload_n F dL_law_621 rfl ?_
  refine z_aload_n F dL_law_622 rfl ?_
  refine z_iload_n F dL_law_623 rfl ?_
  refine z_iconst (v := 1) F dL_law_624 (by decide) ?_
  refine z_iadd F dL_law_625 ?_
  refine z_scr F hX hbl hbA (vpl 6 (by decide) (by decide)) dL_law_626 ?_
  refine z_callVi F (f8_home J k2) zm_X8_home zv_X8_home ml_L_85 r8 (by decide) rfl rfl rfl (Nat.le_of_ble_eq_true rfl) dL_law_627 (by omega) (fun r2 M3 h2 => ?_)
  subst h2
  exact z_ic_eq (tgt := 1236) F dL_law_630 (by decide) (fun _ => K _) (fun h => absurd rfl h)
theorem lc_lost {w : zE} {g : zG} {b : Nat} {xs : Nat → Int32} (F : zF w g RL cL_law 4 1000) (J : zJ w) (hX : va_X b 6 xs g.2.1.1 g.2.1.1.heap) (hbl : b < g.2.1.1.heap.size) (hbA : ¬ g.2.2.2.1 b) (K : ∀ M, ZW w g 4 1236 [some (.ref b), some (.ref (w.2.2 0)), some (.ref (w.2.2 138)), some (.int 0)] [] M) : ZW w g 4 635 [some (.ref b), some (.ref (w.2.2 0)), some (.ref (w.2.2 138)), some (.int 0)] [] M1 := by
  refine z_aload_n F dL_law_635 rfl ?_
  refine z_callVi F (f7_lost J) zm_X7_lost zv_X7_lost ml_L_86 m7 (by decide) rfl rfl rfl (Nat.le_of_ble_eq_true rfl) dL_law_636 (by omega) (fun r1 M2 h1 => ?_)
  obtain ⟨k2, rfl⟩ := h1
  refine z_aload_n F dL_law_639 rfl ?_
  refine z_callVi F (f8_lost J k2) zm_X8_lost zv_X8_lost ml_L_89 r8 (by decide) rfl rfl rfl (Nat.le_of_ble_eq_true rfl) dL_law_640 (by omega) (fun r2 M3 h2 => ?_)
  subst h2
  exact z_ic_eq (tgt := 1236) F dL_law_643 (by decide) (fun _ => K _) (fun h => absurd rfl h)
theorem lc_lurk {w : zE} {g : zG} {b : Nat} {xs : Nat → Int32} (F : zF w g RL cL_law 4 1000) (J : zJ w) (hX : va_X b 6 xs g.2.1.1 g.2.1.1.heap) (hbl : b < g.2.1.1.heap.size) (hbA : ¬ g.2.2.2.1 b) (K : ∀ M, ZW w g 4 1236 [some (.ref b), some (.ref (w.2.2 0)), some (.ref (w.2.2 138)), some (.int 0)] [] M) : ZW w g 4 648 [some (.ref b), some (.ref (w.2.2 0)), some (.ref (w.2.2 138)), some (.int 0)] [] M1 := by
  refine z_aload_n F dL_law_648 rfl ?_
  refine z_aload_n F dL_law_649 rfl ?_
  refine z_iload_n F dL_law_650 rfl ?_
  refine z_iconst (v := 1) F dL_law_651 (by decide) ?_
  refine z_iadd F dL_law_652 ?_
  refine z_scr F hX hbl hbA (vpl 6 (by decide) (by decide)) dL_law_653 ?_
  refine z_aload_n F dL_law_654 rfl ?_
  refine z_iload_n F dL_law_655 rfl ?_
  refine z_iconst (v := 2) F dL_law_656 (by decide) ?_
  refine z_iadd F dL_law_657 ?_
  refine z_scr F hX hbl hbA (vpl 6 (by decide) (by decide)) dL_law_658 ?_
  refine z_callVi F (f7_lurk J) zm_X7_lurk zv_X7_lurk ml_L_90 m7 (by decide) rfl rfl rfl (Nat.le_of_ble_eq_true rfl) dL_law_659 (by omega) (fun r1 M2 h1 => ?_)
  obtain ⟨k2, rfl⟩ := h1
  refine z_aload_n F dL_law_662 rfl ?_
  refine z_aload_n F dL_law_663 rfl ?_
  refine z_iload_n F dL_law_664 rfl ?_
  refine z_iconst (v := 1) F dL_law_665 (by decide) ?_
  refine z_iadd F dL_law_666 ?_
  refine z_scr F hX hbl hbA (vpl 6 (by decide) (by decide)) dL_law_667 ?_
  refine z_aload_n F dL_law_668 rfl ?_
  refine z_iload_n F dL_law_669 rfl ?_
  refine z_iconst (v := 2) F dL_law_670 (by decide) ?_
  refine z_iadd F dL_law_671 ?_
  refine z_scr F hX hbl hbA (vpl 6 (by decide) (by decide)) dL_law_672 ?_
  refine z_callVi F (f8_lurk J k2) zm_X8_lurk zv_X8_lurk ml_L_93 r8 (by decide) rfl rfl rfl (Nat.le_of_ble_eq_true rfl) dL_law_673 (by omega) (fun r2 M3 h2 => ?_)
  subst h2
  exact z_ic_eq (tgt := 1236) F dL_law_676 (by decide) (fun _ => K _) (fun h => absurd rfl h)
theorem lc_stand {w : zE} {g : zG} {b : Nat} {xs : Nat → Int32} (F : zF w g RL cL_law 4 1000) (J : zJ w) (hX : va_X b 6 xs g.2.1.1 g.2.1.1.heap) (hbl : b < g.2.1.1.heap.size) (hbA : ¬ g.2.2.2.1 b) (K : ∀ M, ZW w g 4 1236 [some (.ref b), some (.ref (w.2.2 0)), some (.ref (w.2.2 138)), some (.int 0)] [] M) : ZW w g 4 681 [some (.ref b), some (.ref (w.2.2 0)), some (.ref (w.2.2 138)), some (.int 0)] [] M1 := by
  refine z_aload_n F dL_law_681 rfl ?_
  refine z_aload_n F dL_law_682 rfl ?_
  refine z_iload_n F dL_law_683 rfl ?_
  refine z_iconst (v := 1) F dL_law_684 (by decide) ?_
  refine z_iadd F dL_law_685 ?_
  refine z_scr F hX hbl hbA (vpl 6 (by decide) (by decide)) dL_law_686 ?_
  refine z_aload_n F dL_law_687 rfl ?_
  refine z_iload_n F dL_law_688 rfl ?_
  refine z_iconst (v := 2) F dL_law_689 (by decide) ?_
  refine z_iadd F dL_law_690 ?_
  refine z_scr F hX hbl hbA (vpl 6 (by decide) (by decide)) dL_law_691 ?_
  refine z_callVi F (f7_stand J) zm_X7_stand zv_X7_stand ml_L_94 m7 (by decide) rfl rfl rfl (Nat.le_of_ble_eq_true rfl) dL_law_692 (by omega) (fun r1 M2 h1 => ?_)
  obtain ⟨k2, rfl⟩ := h1
  refine z_aload_n F dL_law_695 rfl ?_
  refine z_aload_n F dL_law_696 rfl ?_
  refine z_iload_n F dL_law_697 rfl ?_
  refine z_iconst (v := 1) F dL_law_698 (by decide) ?_
  refine z_iadd F dL_law_699 ?_
  refine z_scr F hX hbl hbA (vpl 6 (by decide) (by decide)) dL_law_700 ?_
  refine z_aload_n F dL_law_701 rfl ?_
  refine z_iload_n F dL_law_702 rfl ?_
  refine z_iconst (v := 2) F dL_law_703 (by decide) ?_
  refine z_iadd F dL_law_704 ?_
  refine z_scr F hX hbl hbA (vpl 6 (by decide) (by decide)) dL_law_705 ?_
  refine z_callVi F (f8_stand J k2) zm_X8_stand zv_X8_stand ml_L_97 r8 (by decide) rfl rfl rfl (Nat.le_of_ble_eq_true rfl) dL_law_706 (by omega) (fun r2 M3 h2 => ?_)
  subst h2
  exact z_ic_eq (tgt := 1236) F dL_law_709 (by decide) (fun _ => K _) (fun h => absurd rfl h)
theorem lc_sister {w : zE} {g : zG} {b : Nat} {xs : Nat → Int32} (F : zF w g RL cL_law 4 1000) (J : zJ w) (hX : va_X b 6 xs g.2.1.1 g.2.1.1.heap) (hbl : b < g.2.1.1.heap.size) (hbA : ¬ g.2.2.2.1 b) (K : ∀ M, ZW w g 4 1236 [some (.ref b), some (.ref (w.2.2 0)), some (.ref (w.2.2 138)), some (.int 0)] [] M) : ZW w g 4 714 [some (.ref b), some (.ref (w.2.2 0)), some (.ref (w.2.2 138)), some (.int 0)] [] M1 := by
  refine z_aload_n F dL_law_714 rfl ?_
  refine z_aload_n F dL_law_715 rfl ?_
  refine z_iload_n F dL_law_716 rfl ?_
  refine z_iconst (v := 1) F dL_law_717 (by decide) ?_
  refine z_iadd F dL_law_718 ?_
  refine z_scr F hX hbl hbA (vpl 6 (by decide) (by decide)) dL_law_719 ?_
  refine z_aload_n F dL_law_720 rfl ?_
  refine z_iload_n F dL_law_721 rfl ?_
  refine z_iconst (v := 2) F dL_law_722 (by decide) ?_
  refine z_iadd F dL_law_723 ?_
  refine z_scr F hX hbl hbA (vpl 6 (by decide) (by decide)) dL_law_724 ?_
  refine z_callVi F (f7_sister J) zm_X7_sister zv_X7_sister ml_L_98 m7 (by decide) rfl rfl rfl (Nat.le_of_ble_eq_true rfl) dL_law_725 (by omega) (fun r1 M2 h1 => ?_)
  obtain ⟨k2, rfl⟩ := h1
  refine z_aload_n F dL_law_728 rfl ?_
  refine z_aload_n F dL_law_729 rfl ?_
  refine z_iload_n F dL_law_730 rfl ?_
  refine z_iconst (v := 1) F dL_law_731 (by decide) ?_
  refine z_iadd F dL_law_732 ?_
  refine z_scr F hX hbl hbA (vpl 6 (by decide) (by decide)) dL_law_733 ?_
  refine z_aload_n F dL_law_734 rfl ?_
  refine z_iload_n F dL_law_735 rfl ?_
  refine z_iconst (v := 2) F dL_law_736 (by decide) ?_
  refine z_iadd F dL_law_737 ?_
  refine z_scr F hX hbl hbA (vpl 6 (by decide) (by decide)) dL_law_738 ?_
  refine z_callVi F (f8_sister J k2) zm_X8_sister zv_X8_sister ml_L_101 r8 (by decide) rfl rfl rfl (Nat.le_of_ble_eq_true rfl) dL_law_739 (by omega) (fun r2 M3 h2 => ?_)
  subst h2
  exact z_ic_eq (tgt := 1236) F dL_law_742 (by decide) (fun _ => K _) (fun h => absurd rfl h)
theorem lc_meet {w : zE} {g : zG} {b : Nat} {xs : Nat → Int32} (F : zF w g RL cL_law 4 1000) (J : zJ w) (hX : va_X b 6 xs g.2.1.1 g.2.1.1.heap) (hbl : b < g.2.1.1.heap.size) (hbA : ¬ g.2.2.2.1 b) (K : ∀ M, ZW w g 4 1236 [some (.ref b), some (.ref (w.2.2 0)), some (.ref (w.2.2 138)), some (.int 0)] [] M) : ZW w g 4 747 [some (.ref b), some (.ref (w.2.2 0)), some (.ref (w.2.2 138)), some (.int 0)] [] M1 := by
  refine z_aload_n F dL_law_747 rfl ?_
  refine z_aload_n F dL_law_748 rfl ?_
  refine z_iload_n F dL_law_749 rfl ?_
  refine z_iconst (v := 1) F dL_law_750 (by decide) ?_
  refine z_iadd F dL_law_751 ?_
  refine z_scr F hX hbl hbA (vpl 6 (by decide) (by decide)) dL_law_752 ?_
  refine z_aload_n F dL_law_753 rfl ?_
  refine z_iload_n F dL_law_754 rfl ?_
  refine z_iconst (v := 2) F dL_law_755 (by decide) ?_
  refine z_iadd F dL_law_756 ?_
  refine z_scr F hX hbl hbA (vpl 6 (by decide) (by decide)) dL_law_757 ?_
  refine z_callVi F (f7_meet J) zm_X7_meet zv_X7_meet ml_L_102 m7 (by decide) rfl rfl rfl (Nat.le_of_ble_eq_true rfl) dL_law_758 (by omega) (fun r1 M2 h1 => ?_)
  obtain ⟨k2, rfl⟩ := h1
  refine z_aload_n F dL_law_761 rfl ?_
  refine z_aload_n F dL_law_762 rfl ?_
  refine z_iload_n F dL_law_763 rfl ?_
  refine z_iconst (v := 1) F dL_law_764 (by decide) ?_
  refine z_iadd F dL_law_765 ?_
  refine z_scr F hX hbl hbA (vpl 6 (by decide) (by decide)) dL_law_766 ?_
  refine z_aload_n F dL_law_767 rfl ?_
  refine z_iload_n F dL_law_768 rfl ?_
  refine z_iconst (v := 2) F dL_law_769 (by decide) ?_
  refine z_iadd F dL_law_770 ?_
  refine z_scr F hX hbl hbA (vpl 6 (by decide) (by decide)) dL_law_771 ?_
  refine z_callVi F (f8_meet J k2) zm_X8_meet zv_X8_meet ml_L_105 r8 (by decide) rfl rfl rfl (Nat.le_of_ble_eq_true rfl) dL_law_772 (by omega) (fun r2 M3 h2 => ?_)
  subst h2
  exact z_ic_eq (tgt := 1236) F dL_law_775 (by decide) (fun _ => K _) (fun h => absurd rfl h)
theorem lc_first {w : zE} {g : zG} {b : Nat} {xs : Nat → Int32} (F : zF w g RL cL_law 4 1000) (J : zJ w) (hX : va_X b 6 xs g.2.1.1 g.2.1.1.heap) (hbl : b < g.2.1.1.heap.size) (hbA : ¬ g.2.2.2.1 b) (K : ∀ M, ZW w g 4 1236 [some (.ref b), some (.ref (w.2.2 0)), some (.ref (w.2.2 138)), some (.int 0)] [] M) : ZW w g 4 780 [some (.ref b), some (.ref (w.2.2 0)), some (.ref (w.2.2 138)), some (.int 0)] [] M1 := by
  refine z_aload_n F dL_law_780 rfl ?_
  refine z_aload_n F dL_law_781 rfl ?_
  refine z_iload_n F dL_law_782 rfl ?_
  refine z_iconst (v := 1) F dL_law_783 (by decide) ?_
  refine z_iadd F dL_law_784 ?_
  refine z_scr F hX hbl hbA (vpl 6 (by decide) (by decide)) dL_law_785 ?_
  refine z_callVi F (f7_first J) zm_X7_first zv_X7_first ml_L_106 m7 (by decide) rfl rfl rfl (Nat.le_of_ble_eq_true rfl) dL_law_786 (by omega) (fun r1 M2 h1 => ?_)
  obtain ⟨k2, rfl⟩ := h1
  refine z_aload_n F dL_law_789 rfl ?_
  refine z_aload_n F dL_law_790 rfl ?_
  refine z_iload_n F dL_law_791 rfl ?_
  refine z_iconst (v := 1) F dL_law_792 (by decide) ?_
  refine z_iadd F dL_law_793 ?_
  refine z_scr F hX hbl hbA (vpl 6 (by decide) (by decide)) dL_law_794 ?_
  refine z_callVi F (f8_first J k2) zm_X8_first zv_X8_first ml_L_109 r8 (by decide) rfl rfl rfl (Nat.le_of_ble_eq_true rfl) dL_law_795 (by omega) (fun r2 M3 h2 => ?_)
  subst h2
  exact z_ic_eq (tgt := 1236) F dL_law_798 (by decide) (fun _ => K _) (fun h => absurd rfl h)
theorem lc_cheated {w : zE} {g : zG} {b : Nat} {xs : Nat → Int32} (F : zF w g RL cL_law 4 1000) (J : zJ w) (hX : va_X b 6 xs g.2.1.1 g.2.1.1.heap) (hbl : b < g.2.1.1.heap.size) (hbA : ¬ g.2.2.2.1 b) (K : ∀ M, ZW w g 4 1236 [some (.ref b), some (.ref (w.2.2 0)), some (.ref (w.2.2 138)), some (.int 0)] [] M) : ZW w g 4 803 [some (.ref b), some (.ref (w.2.2 0)), some (.ref (w.2.2 138)), some (.int 0)] [] M1 := by
  refine z_aload_n F dL_law_803 rfl ?_
  refine z_aload_n F dL_law_804 rfl ?_
  refine z_iload_n F dL_law_805 rfl ?_
  refine z_iconst (v := 1) F dL_law_806 (by decide) ?_
  refine z_iadd F dL_law_807 ?_
  refine z_scr F hX hbl hbA (vpl 6 (by decide) (by decide)) dL_law_808 ?_
  refine z_callVi F (f7_cheated J) zm_X7_cheated zv_X7_cheated ml_L_110 m7 (by decide) rfl rfl rfl (Nat.le_of_ble_eq_true rfl) dL_law_809 (by omega) (fun r1 M2 h1 => ?_)
  obtain ⟨k2, rfl⟩ := h1
  refine z_aload_n F dL_law_812 rfl ?_
  refine z_aload_n F dL_law_813 rfl ?_
  refine z_iload_n F dL_law_814 rfl ?_
  refine z_iconst (v := 1) F dL_law_815 (by decide) ?_
  refine z_iadd F dL_law_816 ?_
  refine z_scr F hX hbl hbA (vpl 6 (by decide) (by decide)) dL_law_817 ?_
  refine z_callVi F (f8_cheated J k2) zm_X8_cheated zv_X8_cheated ml_L_113 r8 (by decide) rfl rfl rfl (Nat.le_of_ble_eq_true rfl) dL_law_818 (by omega) (fun r2 M3 h2 => ?_)
  subst h2
  exact z_ic_eq (tgt := 1236) F dL_law_821 (by decide) (fun _ => K _) (fun h => absurd rfl h)
theorem lc_chance {w : zE} {g : zG} {b : Nat} {xs : Nat → Int32} (F : zF w g RL cL_law 4 1000) (J : zJ w) (hX : va_X b 6 xs g.2.1.1 g.2.1.1.heap) (hbl : b < g.2.1.1.heap.size) (hbA : ¬ g.2.2.2.1 b) (K : ∀ M, ZW w g 4 1236 [some (.ref b), some (.ref (w.2.2 0)), some (.ref (w.2.2 138)), some (.int 0)] [] M) : ZW w g 4 826 [some (.ref b), some (.ref (w.2.2 0)), some (.ref (w.2.2 138)), some (.int 0)] [] M1 := by
  refine z_aload_n F dL_law_826 rfl ?_
  refine z_aload_n F dL_law_827 rfl ?_
  refine z_iload_n F dL_law_828 rfl ?_
  refine z_iconst (v := 1) F dL_law_829 (by decide) ?_
  refine z_iadd F dL_law_830 ?_
  refine z_scr F hX hbl hbA (vpl 6 (by decide) (by decide)) dL_law_831 ?_
  refine z_aload_n F dL_law_832 rfl ?_
  refine z_iload_n F dL_law_833 rfl ?_
  refine z_iconst (v := 2) F dL_law_834 (by decide) ?_
  refine z_iadd F dL_law_835 ?_
  refine z_scr F hX hbl hbA (vpl 6 (by decide) (by decide)) dL_law_836 ?_
  refine z_callVi F (f7_chance J) zm_X7_chance zv_X7_chance ml_L_114 m7 (by decide) rfl rfl rfl (Nat.le_of_ble_eq_true rfl) dL_law_837 (by omega) (fun r1 M2 h1 => ?_)
  obtain ⟨k2, rfl⟩ := h1
  refine z_aload_n F dL_law_840 rfl ?_
  refine z_aload_n F dL_law_841 rfl ?_
  refine z_iload_n F dL_law_842 rfl ?_
  refine z_iconst (v := 1) F dL_law_843 (by decide) ?_
  refine z_iadd F dL_law_844 ?_
  refine z_scr F hX hbl hbA (vpl 6 (by decide) (by decide)) dL_law_845 ?_
  refine z_aload_n F dL_law_846 rfl ?_
  refine z_iload_n F dL_law_847 rfl ?_
  refine z_iconst (v := 2) F dL_law_848 (by decide) ?_
  refine z_iadd F dL_law_849 ?_
  refine z_scr F hX hbl hbA (vpl 6 (by decide) (by decide)) dL_law_850 ?_
  refine z_callVi F (f8_chance J k2) zm_X8_chance zv_X8_chance ml_L_117 r8 (by decide) rfl rfl rfl (Nat.le_of_ble_eq_true rfl) dL_law_851 (by omega) (fun r2 M3 h2 => ?_)
  subst h2
  exact z_ic_eq (tgt := 1236) F dL_law_854 (by decide) (fun _ => K _) (fun h => absurd rfl h)
theorem lc_image {w : zE} {g : zG} {b : Nat} {xs : Nat → Int32} (F : zF w g RL cL_law 4 1000) (J : zJ w) (hX : va_X b 6 xs g.2.1.1 g.2.1.1.heap) (hbl : b < g.2.1.1.heap.size) (hbA : ¬ g.2.2.2.1 b) (K : ∀ M, ZW w g 4 1236 [some (.ref b), some (.ref (w.2.2 0)), some (.ref (w.2.2 138)), some (.int 0)] [] M) : ZW w g 4 859 [some (.ref b), some (.ref (w.2.2 0)), some (.ref (w.2.2 138)), some (.int 0)] [] M1 := by
  refine z_aload_n F dL_law_859 rfl ?_
  refine z_callVi F (f7_image J) zm_X7_image zv_X7_image ml_L_118 m7 (by decide) rfl rfl rfl (Nat.le_of_ble_eq_true rfl) dL_law_860 (by omega) (fun r1 M2 h1 => ?_)
  obtain ⟨k2, rfl⟩ := h1
  refine z_aload_n F dL_law_863 rfl ?_
  refine z_callVi F (f8_image J) zm_X8_image zv_X8_image ml_L_121 r8 (by decide) rfl rfl rfl (Nat.le_of_ble_eq_true rfl) dL_law_864 (by omega) (fun r2 M3 h2 => ?_)
  subst h2
  exact z_ic_eq (tgt := 1236) F dL_law_867 (by decide) (fun _ => K _) (fun h => absurd rfl h)
theorem lc_restore {w : zE} {g : zG} {b : Nat} {xs : Nat → Int32} (F : zF w g RL cL_law 4 1000) (J : zJ w) (hX : va_X b 6 xs g.2.1.1 g.2.1.1.heap) (hbl : b < g.2.1.1.heap.size) (hbA : ¬ g.2.2.2.1 b) (K : ∀ M, ZW w g 4 1236 [some (.ref b), some (.ref (w.2.2 0)), some (.ref (w.2.2 138)), some (.int 0)] [] M) : ZW w g 4 872 [some (.ref b), some (.ref (w.2.2 0)), some (.ref (w.2.2 138)), some (.int 0)] [] M1 := by
  refine z_aload_n F dL_law_872 rfl ?_
  refine z_callVi F (f7_restore J) zm_X7_restore zv_X7_restore ml_L_122 m7 (by decide) rfl rfl rfl (Nat.le_of_ble_eq_true rfl) dL_law_873 (by omega) (fun r1 M2 h1 => ?_)
  obtain ⟨k2, rfl⟩ := h1
  refine z_aload_n F dL_law_876 rfl ?_
  refine z_callVi F (f8_restore J k2) zm_X8_restore zv_X8_restore ml_L_125 r8 (by decide) rfl rfl rfl (Nat.le_of_ble_eq_true rfl) dL_law_877 (by omega) (fun r2 M3 h2 => ?_)
  subst h2
  exact z_ic_eq (tgt := 1236) F dL_law_880 (by decide) (fun _ => K _) (fun h => absurd rfl h)
theorem lc_seen {w : zE} {g : zG} {b : Nat} {xs : Nat → Int32} (F : zF w g RL cL_law 4 1000) (J : zJ w) (hX : va_X b 6 xs g.2.1.1 g.2.1.1.heap) (hbl : b < g.2.1.1.heap.size) (hbA : ¬ g.2.2.2.1 b) (K : ∀ M, ZW w g 4 1236 [some (.ref b), some (.ref (w.2.2 0)), some (.ref (w.2.2 138)), some (.int 0)] [] M) : ZW w g 4 885 [some (.ref b), some (.ref (w.2.2 0)), some (.ref (w.2.2 138)), some (.int 0)] [] M1 := by
  refine z_aload_n F dL_law_885 rfl ?_
  refine z_aload_n F dL_law_886 rfl ?_
  refine z_iload_n F dL_law_887 rfl ?_
  refine z_iconst (v := 1) F dL_law_888 (by decide) ?_
  refine z_iadd F dL_law_889 ?_
  refine z_scr F hX hbl hbA (vpl 6 (by decide) (by decide)) dL_law_890 ?_
  refine z_aload_n F dL_law_891 rfl ?_
  refine z_iload_n F dL_law_892 rfl ?_
  refine z_iconst (v := 2) F dL_law_893 (by decide) ?_
  refine z_iadd F dL_law_894 ?_
  refine z_scr F hX hbl hbA (vpl 6 (by decide) (by decide)) dL_law_895 ?_
  refine z_aload_n F dL_law_896 rfl ?_
  refine z_iload_n F dL_law_897 rfl ?_
  refine z_iconst (v := 3) F dL_law_898 (by decide) ?_
  refine z_iadd F dL_law_899 ?_
  refine z_scr F hX hbl hbA (vpl 6 (by decide) (by decide)) dL_law_900 ?_
  refine z_aload_n F dL_law_901 rfl ?_
  refine z_iload_n F dL_law_902 rfl ?_
  refine z_iconst (v := 4) F dL_law_903 (by decide) ?_
  refine z_iadd F dL_law_904 ?_
  refine z_scr F hX hbl hbA (vpl 6 (by decide) (by decide)) dL_law_905 ?_
  refine z_callVi F (f7_seen J) zm_X7_seen zv_X7_seen ml_L_126 m7 (by decide) rfl rfl rfl (Nat.le_of_ble_eq_true rfl) dL_law_906 (by omega) (fun r1 M2 h1 => ?_)
  obtain ⟨k2, rfl⟩ := h1
  refine z_aload_n F dL_law_909 rfl ?_
  refine z_aload_n F dL_law_910 rfl ?_
  refine z_iload_n F dL_law_911 rfl ?_
  refine z_iconst (v := 1) F dL_law_912 (by decide) ?_
  refine z_iadd F dL_law_913 ?_
  refine z_scr F hX hbl hbA (vpl 6 (by decide) (by decide)) dL_law_914 ?_
  refine z_aload_n F dL_law_915 rfl ?_
  refine z_iload_n F dL_law_916 rfl ?_
  refine z_iconst (v := 2) F dL_law_917 (by decide) ?_
  refine z_iadd F dL_law_918 ?_
  refine z_scr F hX hbl hbA (vpl 6 (by decide) (by decide)) dL_law_919 ?_
  refine z_aload_n F dL_law_920 rfl ?_
  refine z_iload_n F dL_law_921 rfl ?_
  refine z_iconst (v := 3) F dL_law_922 (by decide) ?_
  refine z_iadd F dL_law_923 ?_
  refine z_scr F hX hbl hbA (vpl 6 (by decide) (by decide)) dL_law_924 ?_
  refine z_aload_n F dL_law_925 rfl ?_
  refine z_iload_n F dL_law_926 rfl ?_
  refine z_iconst (v := 4) F dL_law_927 (by decide) ?_
  refine z_iadd F dL_law_928 ?_
  refine z_scr F hX hbl hbA (vpl 6 (by decide) (by decide)) dL_law_929 ?_
  refine z_callVi F (f8_seen J k2) zm_X8_seen zv_X8_seen ml_L_129 r8 (by decide) rfl rfl rfl (Nat.le_of_ble_eq_true rfl) dL_law_930 (by omega) (fun r2 M3 h2 => ?_)
  subst h2
  exact z_ic_eq (tgt := 1236) F dL_law_933 (by decide) (fun _ => K _) (fun h => absurd rfl h)
theorem lc_film {w : zE} {g : zG} {b : Nat} {xs : Nat → Int32} (F : zF w g RL cL_law 4 1000) (J : zJ w) (hX : va_X b 6 xs g.2.1.1 g.2.1.1.heap) (hbl : b < g.2.1.1.heap.size) (hbA : ¬ g.2.2.2.1 b) (K : ∀ M, ZW w g 4 1236 [some (.ref b), some (.ref (w.2.2 0)), some (.ref (w.2.2 138)), some (.int 0)] [] M) : ZW w g 4 938 [some (.ref b), some (.ref (w.2.2 0)), some (.ref (w.2.2 138)), some (.int 0)] [] M1 := by
  refine z_aload_n F dL_law_938 rfl ?_
  refine z_aload_n F dL_law_939 rfl ?_
  refine z_iload_n F dL_law_940 rfl ?_
  refine z_iconst (v := 1) F dL_law_941 (by decide) ?_
  refine z_iadd F dL_law_942 ?_
  refine z_scr F hX hbl hbA (vpl 6 (by decide) (by decide)) dL_law_943 ?_
  refine z_aload_n F dL_law_944 rfl ?_
  refine z_iload_n F dL_law_945 rfl ?_
  refine z_iconst (v := 2) F dL_law_946 (by decide) ?_
  refine z_iadd F dL_law_947 ?_
  refine z_scr F hX hbl hbA (vpl 6 (by decide) (by decide)) dL_law_948 ?_
  refine z_aload_n F dL_law_949 rfl ?_
  refine z_iload_n F dL_law_950 rfl ?_
  refine z_iconst (v := 3) F dL_law_951 (by decide) ?_
  refine z_iadd F dL_law_952 ?_
  refine z_scr F hX hbl hbA (vpl 6 (by decide) (by decide)) dL_law_953 ?_
  refine z_callVi F (f7_film J) zm_X7_film zv_X7_film ml_L_130 m7 (by decide) rfl rfl rfl (Nat.le_of_ble_eq_true rfl) dL_law_954 (by omega) (fun r1 M2 h1 => ?_)
  obtain ⟨k2, rfl⟩ := h1
  refine z_aload_n F dL_law_957 rfl ?_
  refine z_aload_n F dL_law_958 rfl ?_
  refine z_iload_n F dL_law_959 rfl ?_
  refine z_iconst (v := 1) F dL_law_960 (by decide) ?_
  refine z_iadd F dL_law_961 ?_
  refine z_scr F hX hbl hbA (vpl 6 (by decide) (by decide)) dL_law_962 ?_
  refine z_aload_n F dL_law_963 rfl ?_
  refine z_iload_n F dL_law_964 rfl ?_
  refine z_iconst (v := 2) F dL_law_965 (by decide) ?_
  refine z_iadd F dL_law_966 ?_
  refine z_scr F hX hbl hbA (vpl 6 (by decide) (by decide)) dL_law_967 ?_
  refine z_aload_n F dL_law_968 rfl ?_
  refine z_iload_n F dL_law_969 rfl ?_
  refine z_iconst (v := 3) F dL_law_970 (by decide) ?_
  refine z_iadd F dL_law_971 ?_
  refine z_scr F hX hbl hbA (vpl 6 (by decide) (by decide)) dL_law_972 ?_
  refine z_callVi F (f8_film J k2) zm_X8_film zv_X8_film ml_L_133 r8 (by decide) rfl rfl rfl (Nat.le_of_ble_eq_true rfl) dL_law_973 (by omega) (fun r2 M3 h2 => ?_)
  subst h2
  exact z_ic_eq (tgt := 1236) F dL_law_976 (by decide) (fun _ => K _) (fun h => absurd rfl h)
theorem lc_deal {w : zE} {g : zG} {b : Nat} {xs : Nat → Int32} (F : zF w g RL cL_law 4 1000) (J : zJ w) (hX : va_X b 6 xs g.2.1.1 g.2.1.1.heap) (hbl : b < g.2.1.1.heap.size) (hbA : ¬ g.2.2.2.1 b) (K : ∀ M, ZW w g 4 1236 [some (.ref b), some (.ref (w.2.2 0)), some (.ref (w.2.2 138)), some (.int 0)] [] M) : ZW w g 4 981 [some (.ref b), some (.ref (w.2.2 0)), some (.ref (w.2.2 138)), some (.int 0)] [] M1 := by
  refine z_aload_n F dL_law_981 rfl ?_
  refine z_aload_n F dL_law_982 rfl ?_
  refine z_iload_n F dL_law_983 rfl ?_
  refine z_iconst (v := 1) F dL_law_984 (by decide) ?_
  refine z_iadd F dL_law_985 ?_
  refine z_scr F hX hbl hbA (vpl 6 (by decide) (by decide)) dL_law_986 ?_
  refine z_aload_n F dL_law_987 rfl ?_
  refine z_iload_n F dL_law_988 rfl ?_
  refine z_iconst (v := 2) F dL_law_989 (by decide) ?_
  refine z_iadd F dL_law_990 ?_
  refine z_scr F hX hbl hbA (vpl 6 (by decide) (by decide)) dL_law_991 ?_
  refine z_aload_n F dL_law_992 rfl ?_
  refine z_iload_n F dL_law_993 rfl ?_
  refine z_iconst (v := 3) F dL_law_994 (by decide) ?_
  refine z_iadd F dL_law_995 ?_
  refine z_scr F hX hbl hbA (vpl 6 (by decide) (by decide)) dL_law_996 ?_
  refine z_callVi F (f7_deal J) zm_X7_deal zv_X7_deal ml_L_134 m7 (by decide) rfl rfl rfl (Nat.le_of_ble_eq_true rfl) dL_law_997 (by omega) (fun r1 M2 h1 => ?_)
  obtain ⟨k2, rfl⟩ := h1
  refine z_aload_n F dL_law_1000 rfl ?_
  refine z_aload_n F dL_law_1001 rfl ?_
  refine z_iload_n F dL_law_1002 rfl ?_
  refine z_iconst (v := 1) F dL_law_1003 (by decide) ?_
  refine z_iadd F dL_law_1004 ?_
  refine z_scr F hX hbl hbA (vpl 6 (by decide) (by decide)) dL_law_1005 ?_
  refine z_aload_n F dL_law_1006 rfl ?_
  refine z_iload_n F dL_law_1007 rfl ?_
  refine z_iconst (v := 2) F dL_law_1008 (by decide) ?_
  refine z_iadd F dL_law_1009 ?_
  refine z_scr F hX hbl hbA (vpl 6 (by decide) (by decide)) dL_law_1010 ?_
  refine z_aload_n F dL_law_1011 rfl ?_
  refine z_iload_n F dL_law_1012 rfl ?_
  refine z_iconst (v := 3) F dL_law_1013 (by decide) ?_
  refine z_iadd F dL_law_1014 ?_
  refine z_scr F hX hbl hbA (vpl 6 (by decide) (by decide)) dL_law_1015 ?_
  refine z_callVi F (f8_deal J k2) zm_X8_deal zv_X8_deal ml_L_137 r8 (by decide) rfl rfl rfl (Nat.le_of_ble_eq_true rfl) dL_law_1016 (by omega) (fun r2 M3 h2 => ?_)
  subst h2
  exact z_ic_eq (tgt := 1236) F dL_law_1019 (by decide) (fun _ => K _) (fun h => absurd rfl h)
theorem lc_sheet {w : zE} {g : zG} {b : Nat} {xs : Nat → Int32} (F : zF w g RL cL_law 4 1000) (J : zJ w) (hX : va_X b 6 xs g.2.1.1 g.2.1.1.heap) (hbl : b < g.2.1.1.heap.size) (hbA : ¬ g.2.2.2.1 b) (K : ∀ M, ZW w g 4 1236 [some (.ref b), some (.ref (w.2.2 0)), some (.ref (w.2.2 138)), some (.int 0)] [] M) : ZW w g 4 1024 [some (.ref b), some (.ref (w.2.2 0)), some (.ref (w.2.2 138)), some (.int 0)] [] M1 := by
  refine z_aload_n F dL_law_1024 rfl ?_
  refine z_aload_n F dL_law_1025 rfl ?_
  refine z_iload_n F dL_law_1026 rfl ?_
  refine z_iconst (v := 1) F dL_law_1027 (by decide) ?_
  refine z_iadd F dL_law_1028 ?_
  refine z_scr F hX hbl hbA (vpl 6 (by decide) (by decide)) dL_law_1029 ?_
  refine z_aload_n F dL_law_1030 rfl ?_
  refine z_iload_n F dL_law_1031 rfl ?_
  refine z_iconst (v := 2) F dL_law_1032 (by decide) ?_
  refine z_iadd F dL_law_1033 ?_
  refine z_scr F hX hbl hbA (vpl 6 (by decide) (by decide)) dL_law_1034 ?_
  refine z_aload_n F dL_law_1035 rfl ?_
  refine z_iload_n F dL_law_1036 rfl ?_
  refine z_iconst (v := 3) F dL_law_1037 (by decide) ?_
  refine z_iadd F dL_law_1038 ?_
  refine z_scr F hX hbl hbA (vpl 6 (by decide) (by decide)) dL_law_1039 ?_
  refine z_callVi F (f7_sheet J) zm_X7_sheet zv_X7_sheet ml_L_138 m7 (by decide) rfl rfl rfl (Nat.le_of_ble_eq_true rfl) dL_law_1040 (by omega) (fun r1 M2 h1 => ?_)
  obtain ⟨k2, rfl⟩ := h1
  refine z_aload_n F dL_law_1043 rfl ?_
  refine z_aload_n F dL_law_1044 rfl ?_
  refine z_iload_n F dL_law_1045 rfl ?_
  refine z_iconst (v := 1) F dL_law_1046 (by decide) ?_
  refine z_iadd F dL_law_1047 ?_
  refine z_scr F hX hbl hbA (vpl 6 (by decide) (by decide)) dL_law_1048 ?_
  refine z_aload_n F dL_law_1049 rfl ?_
  refine z_iload_n F dL_law_1050 rfl ?_
  refine z_iconst (v := 2) F dL_law_1051 (by decide) ?_
  refine z_iadd F dL_law_1052 ?_
  refine z_scr F hX hbl hbA (vpl 6 (by decide) (by decide)) dL_law_1053 ?_
  refine z_aload_n F dL_law_1054 rfl ?_
  refine z_iload_n F dL_law_1055 rfl ?_
  refine z_iconst (v := 3) F dL_law_1056 (by decide) ?_
  refine z_iadd F dL_law_1057 ?_
  refine z_scr F hX hbl hbA (vpl 6 (by decide) (by decide)) dL_law_1058 ?_
  refine z_callVi F (f8_sheet J) zm_X8_sheet zv_X8_sheet ml_L_141 r8 (by decide) rfl rfl rfl (Nat.le_of_ble_eq_true rfl) dL_law_1059 (by omega) (fun r2 M3 h2 => ?_)
  subst h2
  exact z_ic_eq (tgt := 1236) F dL_law_1062 (by decide) (fun _ => K _) (fun h => absurd rfl h)
theorem lc_drop {w : zE} {g : zG} {b : Nat} {xs : Nat → Int32} (F : zF w g RL cL_law 4 1000) (J : zJ w) (hX : va_X b 6 xs g.2.1.1 g.2.1.1.heap) (hbl : b < g.2.1.1.heap.size) (hbA : ¬ g.2.2.2.1 b) (K : ∀ M, ZW w g 4 1236 [some (.ref b), some (.ref (w.2.2 0)), some (.ref (w.2.2 138)), some (.int 0)] [] M) : ZW w g 4 1067 [some (.ref b), some (.ref (w.2.2 0)), some (.ref (w.2.2 138)), some (.int 0)] [] M1 := by
  refine z_aload_n F dL_law_1067 rfl ?_
  refine z_aload_n F dL_law_1068 rfl ?_
  refine z_iload_n F dL_law_1069 rfl ?_
  refine z_iconst (v := 1) F dL_law_1070 (by decide) ?_
  refine z_iadd F dL_law_1071 ?_
  refine z_scr F hX hbl hbA (vpl 6 (by decide) (by decide)) dL_law_1072 ?_
  refine z_callVi F (f7_drop J) zm_X7_drop zv_X7_drop ml_L_142 m7 (by decide) rfl rfl rfl (Nat.le_of_ble_eq_true rfl) dL_law_1073 (by omega) (fun r1 M2 h1 => ?_)
  obtain ⟨k2, rfl⟩ := h1
  refine z_aload_n F dL_law_1076 rfl ?_
  refine z_aload_n F dL_law_1077 rfl ?_
  refine z_iload_n F dL_law_1078 rfl ?_
  refine z_iconst (v := 1) F dL_law_1079 (by decide) ?_
  refine z_iadd F dL_law_1080 ?_
  refine z_scr F hX hbl hbA (vpl 6 (by decide) (by decide)) dL_law_1081 ?_
  refine z_callVi F (f8_drop J k2) zm_X8_drop zv_X8_drop ml_L_145 r8 (by decide) rfl rfl rfl (Nat.le_of_ble_eq_true rfl) dL_law_1082 (by omega) (fun r2 M3 h2 => ?_)
  subst h2
  exact z_ic_eq (tgt := 1236) F dL_law_1085 (by decide) (fun _ => K _) (fun h => absurd rfl h)
theorem lc_item {w : zE} {g : zG} {b : Nat} {xs : Nat → Int32} (F : zF w g RL cL_law 4 1000) (J : zJ w) (hX : va_X b 6 xs g.2.1.1 g.2.1.1.heap) (hbl : b < g.2.1.1.heap.size) (hbA : ¬ g.2.2.2.1 b) (K : ∀ M, ZW w g 4 1236 [some (.ref b), some (.ref (w.2.2 0)), some (.ref (w.2.2 138)), some (.int 0)] [] M) : ZW w g 4 1090 [some (.ref b), some (.ref (w.2.2 0)), some (.ref (w.2.2 138)), some (.int 0)] [] M1 := by
  refine z_aload_n F dL_law_1090 rfl ?_
  refine z_aload_n F dL_law_1091 rfl ?_
  refine z_iload_n F dL_law_1092 rfl ?_
  refine z_iconst (v := 1) F dL_law_1093 (by decide) ?_
  refine z_iadd F dL_law_1094 ?_
  refine z_scr F hX hbl hbA (vpl 6 (by decide) (by decide)) dL_law_1095 ?_
  refine z_aload_n F dL_law_1096 rfl ?_
  refine z_iload_n F dL_law_1097 rfl ?_
  refine z_iconst (v := 2) F dL_law_1098 (by decide) ?_
  refine z_iadd F dL_law_1099 ?_
  refine z_scr F hX hbl hbA (vpl 6 (by decide) (by decide)) dL_law_1100 ?_
  refine z_aload_n F dL_law_1101 rfl ?_
  refine z_iload_n F dL_law_1102 rfl ?_
  refine z_iconst (v := 3) F dL_law_1103 (by decide) ?_
  refine z_iadd F dL_law_1104 ?_
  refine z_scr F hX hbl hbA (vpl 6 (by decide) (by decide)) dL_law_1105 ?_
  refine z_aload_n F dL_law_1106 rfl ?_
  refine z_iload_n F dL_law_1107 rfl ?_
  refine z_iconst (v := 4) F dL_law_1108 (by decide) ?_
  refine z_iadd F dL_law_1109 ?_
  refine z_scr F hX hbl hbA (vpl 6 (by decide) (by decide)) dL_law_1110 ?_
  refine z_i2l F dL_law_1111 ?_
  refine z_bipush (v := 32) F dL_law_1112 (by decide) ?_
  refine z_lshl F dL_law_1114 ?_
  refine z_aload_n F dL_law_1115 rfl ?_
  refine z_iload_n F dL_law_1116 rfl ?_
  refine z_iconst (v := 5) F dL_law_1117 (by decide) ?_
  refine z_iadd F dL_law_1118 ?_
  refine z_scr F hX hbl hbA (vpl 6 (by decide) (by decide)) dL_law_1119 ?_
  refine z_i2l F dL_law_1120 ?_
  refine z_ldc2 F dL_law_1121 cl_L_146 ?_
  refine z_land F dL_law_1124 ?_
  refine z_lor F dL_law_1125 ?_
  refine z_callVi F (f7_item J) zm_X7_item zv_X7_item ml_L_148 m7 (by decide) rfl rfl rfl (Nat.le_of_ble_eq_true rfl) dL_law_1126 (by omega) (fun r1 M2 h1 => ?_)
  obtain ⟨k2, rfl⟩ := h1
  refine z_aload_n F dL_law_1129 rfl ?_
  refine z_aload_n F dL_law_1130 rfl ?_
  refine z_iload_n F dL_law_1131 rfl ?_
  refine z_iconst (v := 1) F dL_law_1132 (by decide) ?_
  refine z_iadd F dL_law_1133 ?_
  refine z_scr F hX hbl hbA (vpl 6 (by decide) (by decide)) dL_law_1134 ?_
  refine z_aload_n F dL_law_1135 rfl ?_
  refine z_iload_n F dL_law_1136 rfl ?_
  refine z_iconst (v := 2) F dL_law_1137 (by decide) ?_
  refine z_iadd F dL_law_1138 ?_
  refine z_scr F hX hbl hbA (vpl 6 (by decide) (by decide)) dL_law_1139 ?_
  refine z_aload_n F dL_law_1140 rfl ?_
  refine z_iload_n F dL_law_1141 rfl ?_
  refine z_iconst (v := 3) F dL_law_1142 (by decide) ?_
  refine z_iadd F dL_law_1143 ?_
  refine z_scr F hX hbl hbA (vpl 6 (by decide) (by decide)) dL_law_1144 ?_
  refine z_aload_n F dL_law_1145 rfl ?_
  refine z_iload_n F dL_law_1146 rfl ?_
  refine z_iconst (v := 4) F dL_law_1147 (by decide) ?_
  refine z_iadd F dL_law_1148 ?_
  refine z_scr F hX hbl hbA (vpl 6 (by decide) (by decide)) dL_law_1149 ?_
  refine z_i2l F dL_law_1150 ?_
  refine z_bipush (v := 32) F dL_law_1151 (by decide) ?_
  refine z_lshl F dL_law_1153 ?_
  refine z_aload_n F dL_law_1154 rfl ?_
  refine z_iload_n F dL_law_1155 rfl ?_
  refine z_iconst (v := 5) F dL_law_1156 (by decide) ?_
  refine z_iadd F dL_law_1157 ?_
  refine z_scr F hX hbl hbA (vpl 6 (by decide) (by decide)) dL_law_1158 ?_
  refine z_i2l F dL_law_1159 ?_
  refine z_ldc2 F dL_law_1160 cl_L_146 ?_
  refine z_land F dL_law_1163 ?_
  refine z_lor F dL_law_1164 ?_
  refine z_callVi F (f8_item J k2) zm_X8_item zv_X8_item ml_L_152 r8 (by decide) rfl rfl rfl (Nat.le_of_ble_eq_true rfl) dL_law_1165 (by omega) (fun r2 M3 h2 => ?_)
  subst h2
  exact z_ic_eq (tgt := 1236) F dL_law_1168 (by decide) (fun _ => K _) (fun h => absurd rfl h)
theorem lc_copy {w : zE} {g : zG} {b : Nat} {xs : Nat → Int32} (F : zF w g RL cL_law 4 1000) (J : zJ w) (hX : va_X b 6 xs g.2.1.1 g.2.1.1.heap) (hbl : b < g.2.1.1.heap.size) (hbA : ¬ g.2.2.2.1 b) (K : ∀ M, ZW w g 4 1236 [some (.ref b), some (.ref (w.2.2 0)), some (.ref (w.2.2 138)), some (.int 0)] [] M) : ZW w g 4 1173 [some (.ref b), some (.ref (w.2.2 0)), some (.ref (w.2.2 138)), some (.int 0)] [] M1 := by
  refine z_aload_n F dL_law_1173 rfl ?_
  refine z_aload_n F dL_law_1174 rfl ?_
  refine z_iload_n F dL_law_1175 rfl ?_
  refine z_iconst (v := 1) F dL_law_1176 (by decide) ?_
  refine z_iadd F dL_law_1177 ?_
  refine z_scr F hX hbl hbA (vpl 6 (by decide) (by decide)) dL_law_1178 ?_
  refine z_aload_n F dL_law_1179 rfl ?_
  refine z_iload_n F dL_law_1180 rfl ?_
  refine z_iconst (v := 2) F dL_law_1181 (by decide) ?_
  refine z_iadd F dL_law_1182 ?_
  refine z_scr F hX hbl hbA (vpl 6 (by decide) (by decide)) dL_law_1183 ?_
  refine z_aload_n F dL_law_1184 rfl ?_
  refine z_iload_n F dL_law_1185 rfl ?_
  refine z_iconst (v := 3) F dL_law_1186 (by decide) ?_
  refine z_iadd F dL_law_1187 ?_
  refine z_scr F hX hbl hbA (vpl 6 (by decide) (by decide)) dL_law_1188 ?_
  refine z_aload_n F dL_law_1189 rfl ?_
  refine z_iload_n F dL_law_1190 rfl ?_
  refine z_iconst (v := 4) F dL_law_1191 (by decide) ?_
  refine z_iadd F dL_law_1192 ?_
  refine z_scr F hX hbl hbA (vpl 6 (by decide) (by decide)) dL_law_1193 ?_
  refine z_aload_n F dL_law_1194 rfl ?_
  refine z_iload_n F dL_law_1195 rfl ?_
  refine z_iconst (v := 5) F dL_law_1196 (by decide) ?_
  refine z_iadd F dL_law_1197 ?_
  refine z_scr F hX hbl hbA (vpl 6 (by decide) (by decide)) dL_law_1198 ?_
  refine z_callVi F (f7_copy J) zm_X7_copy zv_X7_copy ml_L_153 m7 (by decide) rfl rfl rfl (Nat.le_of_ble_eq_true rfl) dL_law_1199 (by omega) (fun r1 M2 h1 => ?_)
  obtain ⟨k2, rfl⟩ := h1
  refine z_aload_n F dL_law_1202 rfl ?_
  refine z_aload_n F dL_law_1203 rfl ?_
  refine z_iload_n F dL_law_1204 rfl ?_
  refine z_iconst (v := 1) F dL_law_1205 (by decide) ?_
  refine z_iadd F dL_law_1206 ?_
  refine z_scr F hX hbl hbA (vpl 6 (by decide) (by decide)) dL_law_1207 ?_
  refine z_aload_n F dL_law_1208 rfl ?_
  refine z_iload_n F dL_law_1209 rfl ?_
  refine z_iconst (v := 2) F dL_law_1210 (by decide) ?_
  refine z_iadd F dL_law_1211 ?_
  refine z_scr F hX hbl hbA (vpl 6 (by decide) (by decide)) dL_law_1212 ?_
  refine z_aload_n F dL_law_1213 rfl ?_
  refine z_iload_n F dL_law_1214 rfl ?_
  refine z_iconst (v := 3) F dL_law_1215 (by decide) ?_
  refine z_iadd F dL_law_1216 ?_
  refine z_scr F hX hbl hbA (vpl 6 (by decide) (by decide)) dL_law_1217 ?_
  refine z_aload_n F dL_law_1218 rfl ?_
  refine z_iload_n F dL_law_1219 rfl ?_
  refine z_iconst (v := 4) F dL_law_1220 (by decide) ?_
  refine z_iadd F dL_law_1221 ?_
  refine z_scr F hX hbl hbA (vpl 6 (by decide) (by decide)) dL_law_1222 ?_
  refine z_aload_n F dL_law_1223 rfl ?_
  refine z_iload_n F dL_law_1224 rfl ?_
  refine z_iconst (v := 5) F dL_law_1225 (by decide) ?_
  refine z_iadd F dL_law_1226 ?_
  refine z_scr F hX hbl hbA (vpl 6 (by decide) (by decide)) dL_law_1227 ?_
  refine z_callVi F (f8_copy J k2) zm_X8_copy zv_X8_copy ml_L_157 r8 (by decide) rfl rfl rfl (Nat.le_of_ble_eq_true rfl) dL_law_1228 (by omega) (fun r2 M3 h2 => ?_)
  subst h2
  exact z_ic_eq (tgt := 1236) F dL_law_1231 (by decide) (fun _ => K _) (fun h => absurd rfl h)
