theorem z_scr {w : zE} {g : zG} {own : String} {cc : ByteArray} {nL D pc : Nat} {lv : List (Option Value)} {st : List Value} {M : zM} {b L : Nat} {xs : Nat → Int32} {i : Int32} (F : zF w g own cc nL D) (hX : va_X b L xs g.2.1.1 g.2.1.1.heap) (hbl : b < g.2.1.1.heap.size) (hbA : ¬ g.2.2.2.1 b) (hin : vp_in i L) (hd : decode cc pc = .ok (.iaload, 1)) (k : ZW w g nL (pc + 1) lv (.int (xs i.toNatClampNeg) :: st) M) : ZW w g nL pc lv (.int i :: .ref b :: st) M := fun H locs ls hl hP hS => va_sld F.1 F.2.1 hX hbl hbA hS hin hd (k H locs ls hl hP hS)
theorem z_scl {w : zE} {g : zG} {own : String} {cc : ByteArray} {nL D pc : Nat} {lv : List (Option Value)} {st : List Value} {M : zM} {b L : Nat} {xs : Nat → Int32} (F : zF w g own cc nL D) (hX : va_X b L xs g.2.1.1 g.2.1.1.heap) (hbl : b < g.2.1.1.heap.size) (hbA : ¬ g.2.2.2.1 b) (hd : decode cc pc = .ok (.arraylength, 1)) (k : ZW w g nL (pc + 1) lv (.int (nI L) :: st) M) : ZW w g nL pc lv (.ref b :: st) M := fun H locs ls hl hP hS => va_slen F.1 F.2.1 hX hbl hbA hS hd (k H locs ls hl hP hS)
theorem l_in6 {i L c : Nat} {x : Int32} (hx : x = nI c) (hc : c < 6) (hi : i + 6 ≤ L) (hL : L ≤ 3072) : vp_in (nI i + x) L := by
  rw [hx, nI_add]
  exact vp_in_nI (by omega) (by omega)
theorem lc_thing {w : zE} {g : zG} {b L i : Nat} {xs : Nat → Int32} {M : zM} (F : zF w g RL cL_law 4 1000) (J : zJ w) (hX : va_X b L xs g.2.1.1 g.2.1.1.heap) (hbl : b < g.2.1.1.heap.size) (hbA : ¬ g.2.2.2.1 b) (hi : i + 6 ≤ L) (hL : L ≤ 3072) (S : Sim M) (K : ∀ M, Sim M → ZW w g 4 1236 [some (.ref b), some (.ref (w.2.2 0)), some (.ref (w.2.2 138)), some (.int (nI i))] [] M) : ZW w g 4 184 [some (.ref b), some (.ref (w.2.2 0)), some (.ref (w.2.2 138)), some (.int (nI i))] [] M := by
  refine z_aload_n F dL_law_184 rfl ?_
  refine z_aload_n F dL_law_185 rfl ?_
  refine z_iload_n F dL_law_186 rfl ?_
  refine z_iconst (v := 1) F dL_law_187 (by decide) ?_
  refine z_iadd F dL_law_188 ?_
  refine z_scr F hX hbl hbA (l_in6 (c := 1) rfl (by decide) hi hL) dL_law_189 ?_
  refine z_aload_n F dL_law_190 rfl ?_
  refine z_iload_n F dL_law_191 rfl ?_
  refine z_iconst (v := 2) F dL_law_192 (by decide) ?_
  refine z_iadd F dL_law_193 ?_
  refine z_scr F hX hbl hbA (l_in6 (c := 2) rfl (by decide) hi hL) dL_law_194 ?_
  refine z_aload_n F dL_law_195 rfl ?_
  refine z_iload_n F dL_law_196 rfl ?_
  refine z_iconst (v := 3) F dL_law_197 (by decide) ?_
  refine z_iadd F dL_law_198 ?_
  refine z_scr F hX hbl hbA (l_in6 (c := 3) rfl (by decide) hi hL) dL_law_199 ?_
  refine z_aload_n F dL_law_200 rfl ?_
  refine z_iload_n F dL_law_201 rfl ?_
  refine z_iconst (v := 4) F dL_law_202 (by decide) ?_
  refine z_iadd F dL_law_203 ?_
  refine z_scr F hX hbl hbA (l_in6 (c := 4) rfl (by decide) hi hL) dL_law_204 ?_
  refine z_callVi F (q7_thing J S) zm_X7_thing zv_X7_thing ml_L_13 (show zk 0 = 7 by decide) (by decide) rfl rfl rfl (Nat.le_of_ble_eq_true rfl) dL_law_205 (by omega) (fun r1 M2 h1 => ?_)
  refine z_pop F dL_law_208 rfl ?_
  refine z_aload_n F dL_law_209 rfl ?_
  refine z_aload_n F dL_law_210 rfl ?_
  refine z_iload_n F dL_law_211 rfl ?_
  refine z_iconst (v := 1) F dL_law_212 (by decide) ?_
  refine z_iadd F dL_law_213 ?_
  refine z_scr F hX hbl hbA (l_in6 (c := 1) rfl (by decide) hi hL) dL_law_214 ?_
  refine z_aload_n F dL_law_215 rfl ?_
  refine z_iload_n F dL_law_216 rfl ?_
  refine z_iconst (v := 2) F dL_law_217 (by decide) ?_
  refine z_iadd F dL_law_218 ?_
  refine z_scr F hX hbl hbA (l_in6 (c := 2) rfl (by decide) hi hL) dL_law_219 ?_
  refine z_aload_n F dL_law_220 rfl ?_
  refine z_iload_n F dL_law_221 rfl ?_
  refine z_iconst (v := 3) F dL_law_222 (by decide) ?_
  refine z_iadd F dL_law_223 ?_
  refine z_scr F hX hbl hbA (l_in6 (c := 3) rfl (by decide) hi hL) dL_law_224 ?_
  refine z_aload_n F dL_law_225 rfl ?_
  refine z_iload_n F dL_law_226 rfl ?_
  refine z_iconst (v := 4) F dL_law_227 (by decide) ?_
  refine z_iadd F dL_law_228 ?_
  refine z_scr F hX hbl hbA (l_in6 (c := 4) rfl (by decide) hi hL) dL_law_229 ?_
  refine z_callVi F (q8_thing J h1) zm_X8_thing zv_X8_thing ml_L_17 (show zk 138 = 8 by decide) (by decide) rfl rfl rfl (Nat.le_of_ble_eq_true rfl) dL_law_230 (by omega) (fun r2 M3 h2 => ?_)
  obtain ⟨S3, e⟩ := h2
  refine z_pop F dL_law_233 rfl ?_
  exact z_goto (tgt := 1236) F dL_law_234 (by decide) (K _ S3)
theorem lc_of {w : zE} {g : zG} {b L i : Nat} {xs : Nat → Int32} {M : zM} (F : zF w g RL cL_law 4 1000) (J : zJ w) (hX : va_X b L xs g.2.1.1 g.2.1.1.heap) (hbl : b < g.2.1.1.heap.size) (hbA : ¬ g.2.2.2.1 b) (hi : i + 6 ≤ L) (hL : L ≤ 3072) (S : Sim M) (K : ∀ M, Sim M → ZW w g 4 1236 [some (.ref b), some (.ref (w.2.2 0)), some (.ref (w.2.2 138)), some (.int (nI i))] [] M) : ZW w g 4 237 [some (.ref b), some (.ref (w.2.2 0)), some (.ref (w.2.2 138)), some (.int (nI i))] [] M := by
  refine z_aload_n F dL_law_237 rfl ?_
  refine z_aload_n F dL_law_238 rfl ?_
  refine z_iload_n F dL_law_239 rfl ?_
  refine z_iconst (v := 1) F dL_law_240 (by decide) ?_
  refine z_iadd F dL_law_241 ?_
  refine z_scr F hX hbl hbA (l_in6 (c := 1) rfl (by decide) hi hL) dL_law_242 ?_
  refine z_aload_n F dL_law_243 rfl ?_
  refine z_iload_n F dL_law_244 rfl ?_
  refine z_iconst (v := 2) F dL_law_245 (by decide) ?_
  refine z_iadd F dL_law_246 ?_
  refine z_scr F hX hbl hbA (l_in6 (c := 2) rfl (by decide) hi hL) dL_law_247 ?_
  refine z_callVi F (q7_of J S) zm_X7_of zv_X7_of ml_L_18 (show zk 0 = 7 by decide) (by decide) rfl rfl rfl (Nat.le_of_ble_eq_true rfl) dL_law_248 (by omega) (fun r1 M2 h1 => ?_)
  refine z_pop F dL_law_251 rfl ?_
  refine z_aload_n F dL_law_252 rfl ?_
  refine z_aload_n F dL_law_253 rfl ?_
  refine z_iload_n F dL_law_254 rfl ?_
  refine z_iconst (v := 1) F dL_law_255 (by decide) ?_
  refine z_iadd F dL_law_256 ?_
  refine z_scr F hX hbl hbA (l_in6 (c := 1) rfl (by decide) hi hL) dL_law_257 ?_
  refine z_aload_n F dL_law_258 rfl ?_
  refine z_iload_n F dL_law_259 rfl ?_
  refine z_iconst (v := 2) F dL_law_260 (by decide) ?_
  refine z_iadd F dL_law_261 ?_
  refine z_scr F hX hbl hbA (l_in6 (c := 2) rfl (by decide) hi hL) dL_law_262 ?_
  refine z_callVi F (q8_of J h1) zm_X8_of zv_X8_of ml_L_22 (show zk 138 = 8 by decide) (by decide) rfl rfl rfl (Nat.le_of_ble_eq_true rfl) dL_law_263 (by omega) (fun r2 M3 h2 => ?_)
  obtain ⟨S3, e⟩ := h2
  refine z_pop F dL_law_266 rfl ?_
  exact z_goto (tgt := 1236) F dL_law_267 (by decide) (K _ S3)
theorem lc_felt {w : zE} {g : zG} {b L i : Nat} {xs : Nat → Int32} {M : zM} (F : zF w g RL cL_law 4 1000) (J : zJ w) (hX : va_X b L xs g.2.1.1 g.2.1.1.heap) (hbl : b < g.2.1.1.heap.size) (hbA : ¬ g.2.2.2.1 b) (hi : i + 6 ≤ L) (hL : L ≤ 3072) (S : Sim M) (K : ∀ M, Sim M → ZW w g 4 1236 [some (.ref b), some (.ref (w.2.2 0)), some (.ref (w.2.2 138)), some (.int (nI i))] [] M) : ZW w g 4 270 [some (.ref b), some (.ref (w.2.2 0)), some (.ref (w.2.2 138)), some (.int (nI i))] [] M := by
  refine z_aload_n F dL_law_270 rfl ?_
  refine z_aload_n F dL_law_271 rfl ?_
  refine z_iload_n F dL_law_272 rfl ?_
  refine z_iconst (v := 1) F dL_law_273 (by decide) ?_
  refine z_iadd F dL_law_274 ?_
  refine z_scr F hX hbl hbA (l_in6 (c := 1) rfl (by decide) hi hL) dL_law_275 ?_
  refine z_aload_n F dL_law_276 rfl ?_
  refine z_iload_n F dL_law_277 rfl ?_
  refine z_iconst (v := 2) F dL_law_278 (by decide) ?_
  refine z_iadd F dL_law_279 ?_
  refine z_scr F hX hbl hbA (l_in6 (c := 2) rfl (by decide) hi hL) dL_law_280 ?_
  refine z_aload_n F dL_law_281 rfl ?_
  refine z_iload_n F dL_law_282 rfl ?_
  refine z_iconst (v := 3) F dL_law_283 (by decide) ?_
  refine z_iadd F dL_law_284 ?_
  refine z_scr F hX hbl hbA (l_in6 (c := 3) rfl (by decide) hi hL) dL_law_285 ?_
  refine z_callVi F (q7_felt J S) zm_X7_felt zv_X7_felt ml_L_23 (show zk 0 = 7 by decide) (by decide) rfl rfl rfl (Nat.le_of_ble_eq_true rfl) dL_law_286 (by omega) (fun r1 M2 h1 => ?_)
  refine z_pop F dL_law_289 rfl ?_
  refine z_aload_n F dL_law_290 rfl ?_
  refine z_aload_n F dL_law_291 rfl ?_
  refine z_iload_n F dL_law_292 rfl ?_
  refine z_iconst (v := 1) F dL_law_293 (by decide) ?_
  refine z_iadd F dL_law_294 ?_
  refine z_scr F hX hbl hbA (l_in6 (c := 1) rfl (by decide) hi hL) dL_law_295 ?_
  refine z_aload_n F dL_law_296 rfl ?_
  refine z_iload_n F dL_law_297 rfl ?_
  refine z_iconst (v := 2) F dL_law_298 (by decide) ?_
  refine z_iadd F dL_law_299 ?_
  refine z_scr F hX hbl hbA (l_in6 (c := 2) rfl (by decide) hi hL) dL_law_300 ?_
  refine z_aload_n F dL_law_301 rfl ?_
  refine z_iload_n F dL_law_302 rfl ?_
  refine z_iconst (v := 3) F dL_law_303 (by decide) ?_
  refine z_iadd F dL_law_304 ?_
  refine z_scr F hX hbl hbA (l_in6 (c := 3) rfl (by decide) hi hL) dL_law_305 ?_
  refine z_callVi F (q8_felt J h1) zm_X8_felt zv_X8_felt ml_L_27 (show zk 138 = 8 by decide) (by decide) rfl rfl rfl (Nat.le_of_ble_eq_true rfl) dL_law_306 (by omega) (fun r2 M3 h2 => ?_)
  obtain ⟨S3, e⟩ := h2
  refine z_pop F dL_law_309 rfl ?_
  exact z_goto (tgt := 1236) F dL_law_310 (by decide) (K _ S3)
theorem lc_person {w : zE} {g : zG} {b L i : Nat} {xs : Nat → Int32} {M : zM} (F : zF w g RL cL_law 4 1000) (J : zJ w) (hX : va_X b L xs g.2.1.1 g.2.1.1.heap) (hbl : b < g.2.1.1.heap.size) (hbA : ¬ g.2.2.2.1 b) (hi : i + 6 ≤ L) (hL : L ≤ 3072) (S : Sim M) (K : ∀ M, Sim M → ZW w g 4 1236 [some (.ref b), some (.ref (w.2.2 0)), some (.ref (w.2.2 138)), some (.int (nI i))] [] M) : ZW w g 4 313 [some (.ref b), some (.ref (w.2.2 0)), some (.ref (w.2.2 138)), some (.int (nI i))] [] M := by
  refine z_aload_n F dL_law_313 rfl ?_
  refine z_aload_n F dL_law_314 rfl ?_
  refine z_iload_n F dL_law_315 rfl ?_
  refine z_iconst (v := 1) F dL_law_316 (by decide) ?_
  refine z_iadd F dL_law_317 ?_
  refine z_scr F hX hbl hbA (l_in6 (c := 1) rfl (by decide) hi hL) dL_law_318 ?_
  refine z_aload_n F dL_law_319 rfl ?_
  refine z_iload_n F dL_law_320 rfl ?_
  refine z_iconst (v := 2) F dL_law_321 (by decide) ?_
  refine z_iadd F dL_law_322 ?_
  refine z_scr F hX hbl hbA (l_in6 (c := 2) rfl (by decide) hi hL) dL_law_323 ?_
  refine z_aload_n F dL_law_324 rfl ?_
  refine z_iload_n F dL_law_325 rfl ?_
  refine z_iconst (v := 3) F dL_law_326 (by decide) ?_
  refine z_iadd F dL_law_327 ?_
  refine z_scr F hX hbl hbA (l_in6 (c := 3) rfl (by decide) hi hL) dL_law_328 ?_
  refine z_callVi F (q7_person J S) zm_X7_person zv_X7_person ml_L_28 (show zk 0 = 7 by decide) (by decide) rfl rfl rfl (Nat.le_of_ble_eq_true rfl) dL_law_329 (by omega) (fun r1 M2 h1 => ?_)
  refine z_pop F dL_law_332 rfl ?_
  refine z_aload_n F dL_law_333 rfl ?_
  refine z_aload_n F dL_law_334 rfl ?_
  refine z_iload_n F dL_law_335 rfl ?_
  refine z_iconst (v := 1) F dL_law_336 (by decide) ?_
  refine z_iadd F dL_law_337 ?_
  refine z_scr F hX hbl hbA (l_in6 (c := 1) rfl (by decide) hi hL) dL_law_338 ?_
  refine z_aload_n F dL_law_339 rfl ?_
  refine z_iload_n F dL_law_340 rfl ?_
  refine z_iconst (v := 2) F dL_law_341 (by decide) ?_
  refine z_iadd F dL_law_342 ?_
  refine z_scr F hX hbl hbA (l_in6 (c := 2) rfl (by decide) hi hL) dL_law_343 ?_
  refine z_aload_n F dL_law_344 rfl ?_
  refine z_iload_n F dL_law_345 rfl ?_
  refine z_iconst (v := 3) F dL_law_346 (by decide) ?_
  refine z_iadd F dL_law_347 ?_
  refine z_scr F hX hbl hbA (l_in6 (c := 3) rfl (by decide) hi hL) dL_law_348 ?_
  refine z_callVi F (q8_person J h1) zm_X8_person zv_X8_person ml_L_31 (show zk 138 = 8 by decide) (by decide) rfl rfl rfl (Nat.le_of_ble_eq_true rfl) dL_law_349 (by omega) (fun r2 M3 h2 => ?_)
  obtain ⟨S3, e⟩ := h2
  refine z_pop F dL_law_352 rfl ?_
  exact z_goto (tgt := 1236) F dL_law_353 (by decide) (K _ S3)
theorem lc_told {w : zE} {g : zG} {b L i : Nat} {xs : Nat → Int32} {M : zM} (F : zF w g RL cL_law 4 1000) (J : zJ w) (hX : va_X b L xs g.2.1.1 g.2.1.1.heap) (hbl : b < g.2.1.1.heap.size) (hbA : ¬ g.2.2.2.1 b) (hi : i + 6 ≤ L) (hL : L ≤ 3072) (S : Sim M) (K : ∀ M, Sim M → ZW w g 4 1236 [some (.ref b), some (.ref (w.2.2 0)), some (.ref (w.2.2 138)), some (.int (nI i))] [] M) : ZW w g 4 356 [some (.ref b), some (.ref (w.2.2 0)), some (.ref (w.2.2 138)), some (.int (nI i))] [] M := by
  refine z_aload_n F dL_law_356 rfl ?_
  refine z_aload_n F dL_law_357 rfl ?_
  refine z_iload_n F dL_law_358 rfl ?_
  refine z_iconst (v := 1) F dL_law_359 (by decide) ?_
  refine z_iadd F dL_law_360 ?_
  refine z_scr F hX hbl hbA (l_in6 (c := 1) rfl (by decide) hi hL) dL_law_361 ?_
  refine z_aload_n F dL_law_362 rfl ?_
  refine z_iload_n F dL_law_363 rfl ?_
  refine z_iconst (v := 2) F dL_law_364 (by decide) ?_
  refine z_iadd F dL_law_365 ?_
  refine z_scr F hX hbl hbA (l_in6 (c := 2) rfl (by decide) hi hL) dL_law_366 ?_
  refine z_callVi F (q7_told J S) zm_X7_told zv_X7_told ml_L_32 (show zk 0 = 7 by decide) (by decide) rfl rfl rfl (Nat.le_of_ble_eq_true rfl) dL_law_367 (by omega) (fun r1 M2 h1 => ?_)
  refine z_pop F dL_law_370 rfl ?_
  refine z_aload_n F dL_law_371 rfl ?_
  refine z_aload_n F dL_law_372 rfl ?_
  refine z_iload_n F dL_law_373 rfl ?_
  refine z_iconst (v := 1) F dL_law_374 (by decide) ?_
  refine z_iadd F dL_law_375 ?_
  refine z_scr F hX hbl hbA (l_in6 (c := 1) rfl (by decide) hi hL) dL_law_376 ?_
  refine z_aload_n F dL_law_377 rfl ?_
  refine z_iload_n F dL_law_378 rfl ?_
  refine z_iconst (v := 2) F dL_law_379 (by decide) ?_
  refine z_iadd F dL_law_380 ?_
  refine z_scr F hX hbl hbA (l_in6 (c := 2) rfl (by decide) hi hL) dL_law_381 ?_
  refine z_callVi F (q8_told J h1) zm_X8_told zv_X8_told ml_L_35 (show zk 138 = 8 by decide) (by decide) rfl rfl rfl (Nat.le_of_ble_eq_true rfl) dL_law_382 (by omega) (fun r2 M3 h2 => ?_)
  obtain ⟨S3, e⟩ := h2
  refine z_pop F dL_law_385 rfl ?_
  exact z_goto (tgt := 1236) F dL_law_386 (by decide) (K _ S3)
theorem lc_move {w : zE} {g : zG} {b L i : Nat} {xs : Nat → Int32} {M : zM} (F : zF w g RL cL_law 4 1000) (J : zJ w) (hX : va_X b L xs g.2.1.1 g.2.1.1.heap) (hbl : b < g.2.1.1.heap.size) (hbA : ¬ g.2.2.2.1 b) (hi : i + 6 ≤ L) (hL : L ≤ 3072) (S : Sim M) (K : ∀ M, Sim M → ZW w g 4 1236 [some (.ref b), some (.ref (w.2.2 0)), some (.ref (w.2.2 138)), some (.int (nI i))] [] M) : ZW w g 4 389 [some (.ref b), some (.ref (w.2.2 0)), some (.ref (w.2.2 138)), some (.int (nI i))] [] M := by
  refine z_aload_n F dL_law_389 rfl ?_
  refine z_aload_n F dL_law_390 rfl ?_
  refine z_iload_n F dL_law_391 rfl ?_
  refine z_iconst (v := 1) F dL_law_392 (by decide) ?_
  refine z_iadd F dL_law_393 ?_
  refine z_scr F hX hbl hbA (l_in6 (c := 1) rfl (by decide) hi hL) dL_law_394 ?_
  refine z_aload_n F dL_law_395 rfl ?_
  refine z_iload_n F dL_law_396 rfl ?_
  refine z_iconst (v := 2) F dL_law_397 (by decide) ?_
  refine z_iadd F dL_law_398 ?_
  refine z_scr F hX hbl hbA (l_in6 (c := 2) rfl (by decide) hi hL) dL_law_399 ?_
  refine z_callVi F (q7_move J S) zm_X7_move zv_X7_move ml_L_36 (show zk 0 = 7 by decide) (by decide) rfl rfl rfl (Nat.le_of_ble_eq_true rfl) dL_law_400 (by omega) (fun r1 M2 h1 => ?_)
  refine z_pop F dL_law_403 rfl ?_
  refine z_aload_n F dL_law_404 rfl ?_
  refine z_aload_n F dL_law_405 rfl ?_
  refine z_iload_n F dL_law_406 rfl ?_
  refine z_iconst (v := 1) F dL_law_407 (by decide) ?_
  refine z_iadd F dL_law_408 ?_
  refine z_scr F hX hbl hbA (l_in6 (c := 1) rfl (by decide) hi hL) dL_law_409 ?_
  refine z_aload_n F dL_law_410 rfl ?_
  refine z_iload_n F dL_law_411 rfl ?_
  refine z_iconst (v := 2) F dL_law_412 (by decide) ?_
  refine z_iadd F dL_law_413 ?_
  refine z_scr F hX hbl hbA (l_in6 (c := 2) rfl (by decide) hi hL) dL_law_414 ?_
  refine z_callVi F (q8_move J h1) zm_X8_move zv_X8_move ml_L_39 (show zk 138 = 8 by decide) (by decide) rfl rfl rfl (Nat.le_of_ble_eq_true rfl) dL_law_415 (by omega) (fun r2 M3 h2 => ?_)
  obtain ⟨S3, e⟩ := h2
  refine z_pop F dL_law_418 rfl ?_
  exact z_goto (tgt := 1236) F dL_law_419 (by decide) (K _ S3)
theorem lc_take {w : zE} {g : zG} {b L i : Nat} {xs : Nat → Int32} {M : zM} (F : zF w g RL cL_law 4 1000) (J : zJ w) (hX : va_X b L xs g.2.1.1 g.2.1.1.heap) (hbl : b < g.2.1.1.heap.size) (hbA : ¬ g.2.2.2.1 b) (hi : i + 6 ≤ L) (hL : L ≤ 3072) (S : Sim M) (K : ∀ M, Sim M → ZW w g 4 1236 [some (.ref b), some (.ref (w.2.2 0)), some (.ref (w.2.2 138)), some (.int (nI i))] [] M) : ZW w g 4 422 [some (.ref b), some (.ref (w.2.2 0)), some (.ref (w.2.2 138)), some (.int (nI i))] [] M := by
  refine z_aload_n F dL_law_422 rfl ?_
  refine z_aload_n F dL_law_423 rfl ?_
  refine z_iload_n F dL_law_424 rfl ?_
  refine z_iconst (v := 1) F dL_law_425 (by decide) ?_
  refine z_iadd F dL_law_426 ?_
  refine z_scr F hX hbl hbA (l_in6 (c := 1) rfl (by decide) hi hL) dL_law_427 ?_
  refine z_callVi F (q7_take J S) zm_X7_take zv_X7_take ml_L_40 (show zk 0 = 7 by decide) (by decide) rfl rfl rfl (Nat.le_of_ble_eq_true rfl) dL_law_428 (by omega) (fun r1 M2 h1 => ?_)
  refine z_pop F dL_law_431 rfl ?_
  refine z_aload_n F dL_law_432 rfl ?_
  refine z_aload_n F dL_law_433 rfl ?_
  refine z_iload_n F dL_law_434 rfl ?_
  refine z_iconst (v := 1) F dL_law_435 (by decide) ?_
  refine z_iadd F dL_law_436 ?_
  refine z_scr F hX hbl hbA (l_in6 (c := 1) rfl (by decide) hi hL) dL_law_437 ?_
  refine z_callVi F (q8_take J h1) zm_X8_take zv_X8_take ml_L_44 (show zk 138 = 8 by decide) (by decide) rfl rfl rfl (Nat.le_of_ble_eq_true rfl) dL_law_438 (by omega) (fun r2 M3 h2 => ?_)
  obtain ⟨S3, e⟩ := h2
  refine z_pop F dL_law_441 rfl ?_
  exact z_goto (tgt := 1236) F dL_law_442 (by decide) (K _ S3)
theorem lc_count {w : zE} {g : zG} {b L i : Nat} {xs : Nat → Int32} {M : zM} (F : zF w g RL cL_law 4 1000) (J : zJ w) (hX : va_X b L xs g.2.1.1 g.2.1.1.heap) (hbl : b < g.2.1.1.heap.size) (hbA : ¬ g.2.2.2.1 b) (hi : i + 6 ≤ L) (hL : L ≤ 3072) (S : Sim M) (K : ∀ M, Sim M → ZW w g 4 1236 [some (.ref b), some (.ref (w.2.2 0)), some (.ref (w.2.2 138)), some (.int (nI i))] [] M) : ZW w g 4 445 [some (.ref b), some (.ref (w.2.2 0)), some (.ref (w.2.2 138)), some (.int (nI i))] [] M := by
  refine z_aload_n F dL_law_445 rfl ?_
  refine z_aload_n F dL_law_446 rfl ?_
  refine z_iload_n F dL_law_447 rfl ?_
  refine z_iconst (v := 1) F dL_law_448 (by decide) ?_
  refine z_iadd F dL_law_449 ?_
  refine z_scr F hX hbl hbA (l_in6 (c := 1) rfl (by decide) hi hL) dL_law_450 ?_
  refine z_callVi F (q7_count J S) zm_X7_count zv_X7_count ml_L_45 (show zk 0 = 7 by decide) (by decide) rfl rfl rfl (Nat.le_of_ble_eq_true rfl) dL_law_451 (by omega) (fun r1 M2 h1 => ?_)
  refine z_pop F dL_law_454 rfl ?_
  refine z_aload_n F dL_law_455 rfl ?_
  refine z_aload_n F dL_law_456 rfl ?_
  refine z_iload_n F dL_law_457 rfl ?_
  refine z_iconst (v := 1) F dL_law_458 (by decide) ?_
  refine z_iadd F dL_law_459 ?_
  refine z_scr F hX hbl hbA (l_in6 (c := 1) rfl (by decide) hi hL) dL_law_460 ?_
  refine z_callVi F (q8_count J h1) zm_X8_count zv_X8_count ml_L_48 (show zk 138 = 8 by decide) (by decide) rfl rfl rfl (Nat.le_of_ble_eq_true rfl) dL_law_461 (by omega) (fun r2 M3 h2 => ?_)
  obtain ⟨S3, e⟩ := h2
  refine z_pop F dL_law_464 rfl ?_
  exact z_goto (tgt := 1236) F dL_law_465 (by decide) (K _ S3)
theorem lc_heed {w : zE} {g : zG} {b L i : Nat} {xs : Nat → Int32} {M : zM} (F : zF w g RL cL_law 4 1000) (J : zJ w) (hX : va_X b L xs g.2.1.1 g.2.1.1.heap) (hbl : b < g.2.1.1.heap.size) (hbA : ¬ g.2.2.2.1 b) (hi : i + 6 ≤ L) (hL : L ≤ 3072) (S : Sim M) (K : ∀ M, Sim M → ZW w g 4 1236 [some (.ref b), some (.ref (w.2.2 0)), some (.ref (w.2.2 138)), some (.int (nI i))] [] M) : ZW w g 4 468 [some (.ref b), some (.ref (w.2.2 0)), some (.ref (w.2.2 138)), some (.int (nI i))] [] M := by
  refine z_aload_n F dL_law_468 rfl ?_
  refine z_aload_n F dL_law_469 rfl ?_
  refine z_iload_n F dL_law_470 rfl ?_
  refine z_iconst (v := 1) F dL_law_471 (by decide) ?_
  refine z_iadd F dL_law_472 ?_
  refine z_scr F hX hbl hbA (l_in6 (c := 1) rfl (by decide) hi hL) dL_law_473 ?_
  refine z_callVi F (q7_heed J S) zm_X7_heed zv_X7_heed ml_L_49 (show zk 0 = 7 by decide) (by decide) rfl rfl rfl (Nat.le_of_ble_eq_true rfl) dL_law_474 (by omega) (fun r1 M2 h1 => ?_)
  refine z_pop F dL_law_477 rfl ?_
  refine z_aload_n F dL_law_478 rfl ?_
  refine z_aload_n F dL_law_479 rfl ?_
  refine z_iload_n F dL_law_480 rfl ?_
  refine z_iconst (v := 1) F dL_law_481 (by decide) ?_
  refine z_iadd F dL_law_482 ?_
  refine z_scr F hX hbl hbA (l_in6 (c := 1) rfl (by decide) hi hL) dL_law_483 ?_
  refine z_callVi F (q8_heed J h1) zm_X8_heed zv_X8_heed ml_L_52 (show zk 138 = 8 by decide) (by decide) rfl rfl rfl (Nat.le_of_ble_eq_true rfl) dL_law_484 (by omega) (fun r2 M3 h2 => ?_)
  obtain ⟨S3, e⟩ := h2
  refine z_pop F dL_law_487 rfl ?_
  exact z_goto (tgt := 1236) F dL_law_488 (by decide) (K _ S3)
theorem lc_well {w : zE} {g : zG} {b L i : Nat} {xs : Nat → Int32} {M : zM} (F : zF w g RL cL_law 4 1000) (J : zJ w) (hX : va_X b L xs g.2.1.1 g.2.1.1.heap) (hbl : b < g.2.1.1.heap.size) (hbA : ¬ g.2.2.2.1 b) (hi : i + 6 ≤ L) (hL : L ≤ 3072) (S : Sim M) (K : ∀ M, Sim M → ZW w g 4 1236 [some (.ref b), some (.ref (w.2.2 0)), some (.ref (w.2.2 138)), some (.int (nI i))] [] M) : ZW w g 4 491 [some (.ref b), some (.ref (w.2.2 0)), some (.ref (w.2.2 138)), some (.int (nI i))] [] M := by
  refine z_aload_n F dL_law_491 rfl ?_
  refine z_aload_n F dL_law_492 rfl ?_
  refine z_iload_n F dL_law_493 rfl ?_
  refine z_iconst (v := 1) F dL_law_494 (by decide) ?_
  refine z_iadd F dL_law_495 ?_
  refine z_scr F hX hbl hbA (l_in6 (c := 1) rfl (by decide) hi hL) dL_law_496 ?_
  refine z_callVi F (q7_well J S) zm_X7_well zv_X7_well ml_L_53 (show zk 0 = 7 by decide) (by decide) rfl rfl rfl (Nat.le_of_ble_eq_true rfl) dL_law_497 (by omega) (fun r1 M2 h1 => ?_)
  refine z_aload_n F dL_law_500 rfl ?_
  refine z_aload_n F dL_law_501 rfl ?_
  refine z_iload_n F dL_law_502 rfl ?_
  refine z_iconst (v := 1) F dL_law_503 (by decide) ?_
  refine z_iadd F dL_law_504 ?_
  refine z_scr F hX hbl hbA (l_in6 (c := 1) rfl (by decide) hi hL) dL_law_505 ?_
  refine z_callVi F (q8_well J h1) zm_X8_well zv_X8_well ml_L_56 (show zk 138 = 8 by decide) (by decide) rfl rfl rfl (Nat.le_of_ble_eq_true rfl) dL_law_506 (by omega) (fun r2 M3 h2 => ?_)
  obtain ⟨S3, e⟩ := h2
  exact z_ic_eq (tgt := 1236) F dL_law_509 (by decide) (fun _ => K _ S3) (fun h => absurd e.symm h)
theorem lc_type {w : zE} {g : zG} {b L i : Nat} {xs : Nat → Int32} {M : zM} (F : zF w g RL cL_law 4 1000) (J : zJ w) (hX : va_X b L xs g.2.1.1 g.2.1.1.heap) (hbl : b < g.2.1.1.heap.size) (hbA : ¬ g.2.2.2.1 b) (hi : i + 6 ≤ L) (hL : L ≤ 3072) (S : Sim M) (K : ∀ M, Sim M → ZW w g 4 1236 [some (.ref b), some (.ref (w.2.2 0)), some (.ref (w.2.2 138)), some (.int (nI i))] [] M) : ZW w g 4 514 [some (.ref b), some (.ref (w.2.2 0)), some (.ref (w.2.2 138)), some (.int (nI i))] [] M := by
  refine z_aload_n F dL_law_514 rfl ?_
  refine z_aload_n F dL_law_515 rfl ?_
  refine z_iload_n F dL_law_516 rfl ?_
  refine z_iconst (v := 1) F dL_law_517 (by decide) ?_
  refine z_iadd F dL_law_518 ?_
  refine z_scr F hX hbl hbA (l_in6 (c := 1) rfl (by decide) hi hL) dL_law_519 ?_
  refine z_callVi F (q7_type J S) zm_X7_type zv_X7_type ml_L_57 (show zk 0 = 7 by decide) (by decide) rfl rfl rfl (Nat.le_of_ble_eq_true rfl) dL_law_520 (by omega) (fun r1 M2 h1 => ?_)
  refine z_pop F dL_law_523 rfl ?_
  refine z_aload_n F dL_law_524 rfl ?_
  refine z_aload_n F dL_law_525 rfl ?_
  refine z_iload_n F dL_law_526 rfl ?_
  refine z_iconst (v := 1) F dL_law_527 (by decide) ?_
  refine z_iadd F dL_law_528 ?_
  refine z_scr F hX hbl hbA (l_in6 (c := 1) rfl (by decide) hi hL) dL_law_529 ?_
  refine z_callVi F (q8_type J h1) zm_X8_type zv_X8_type ml_L_60 (show zk 138 = 8 by decide) (by decide) rfl rfl rfl (Nat.le_of_ble_eq_true rfl) dL_law_530 (by omega) (fun r2 M3 h2 => ?_)
  obtain ⟨S3, e⟩ := h2
  refine z_pop F dL_law_533 rfl ?_
  exact z_goto (tgt := 1236) F dL_law_534 (by decide) (K _ S3)
theorem lc_road {w : zE} {g : zG} {b L i : Nat} {xs : Nat → Int32} {M : zM} (F : zF w g RL cL_law 4 1000) (J : zJ w) (hX : va_X b L xs g.2.1.1 g.2.1.1.heap) (hbl : b < g.2.1.1.heap.size) (hbA : ¬ g.2.2.2.1 b) (hi : i + 6 ≤ L) (hL : L ≤ 3072) (S : Sim M) (K : ∀ M, Sim M → ZW w g 4 1236 [some (.ref b), some (.ref (w.2.2 0)), some (.ref (w.2.2 138)), some (.int (nI i))] [] M) : ZW w g 4 537 [some (.ref b), some (.ref (w.2.2 0)), some (.ref (w.2.2 138)), some (.int (nI i))] [] M := by
  refine z_aload_n F dL_law_537 rfl ?_
  refine z_callVi F (q7_road J S) zm_X7_road zv_X7_road ml_L_61 (show zk 0 = 7 by decide) (by decide) rfl rfl rfl (Nat.le_of_ble_eq_true rfl) dL_law_538 (by omega) (fun r1 M2 h1 => ?_)
  refine z_pop F dL_law_541 rfl ?_
  refine z_aload_n F dL_law_542 rfl ?_
  refine z_callVi F (q8_road J h1) zm_X8_road zv_X8_road ml_L_65 (show zk 138 = 8 by decide) (by decide) rfl rfl rfl (Nat.le_of_ble_eq_true rfl) dL_law_543 (by omega) (fun r2 M3 h2 => ?_)
  obtain ⟨S3, e⟩ := h2
  refine z_pop F dL_law_546 rfl ?_
  exact z_goto (tgt := 1236) F dL_law_547 (by decide) (K _ S3)
theorem lc_go {w : zE} {g : zG} {b L i : Nat} {xs : Nat → Int32} {M : zM} (F : zF w g RL cL_law 4 1000) (J : zJ w) (hX : va_X b L xs g.2.1.1 g.2.1.1.heap) (hbl : b < g.2.1.1.heap.size) (hbA : ¬ g.2.2.2.1 b) (hi : i + 6 ≤ L) (hL : L ≤ 3072) (S : Sim M) (K : ∀ M, Sim M → ZW w g 4 1236 [some (.ref b), some (.ref (w.2.2 0)), some (.ref (w.2.2 138)), some (.int (nI i))] [] M) : ZW w g 4 550 [some (.ref b), some (.ref (w.2.2 0)), some (.ref (w.2.2 138)), some (.int (nI i))] [] M := by
  refine z_aload_n F dL_law_550 rfl ?_
  refine z_callVi F (q7_go J S) zm_X7_go zv_X7_go ml_L_66 (show zk 0 = 7 by decide) (by decide) rfl rfl rfl (Nat.le_of_ble_eq_true rfl) dL_law_551 (by omega) (fun r1 M2 h1 => ?_)
  refine z_pop F dL_law_554 rfl ?_
  refine z_aload_n F dL_law_555 rfl ?_
  refine z_callVi F (q8_go J h1) zm_X8_go zv_X8_go ml_L_69 (show zk 138 = 8 by decide) (by decide) rfl rfl rfl (Nat.le_of_ble_eq_true rfl) dL_law_556 (by omega) (fun r2 M3 h2 => ?_)
  obtain ⟨S3, e⟩ := h2
  refine z_pop F dL_law_559 rfl ?_
  exact z_goto (tgt := 1236) F dL_law_560 (by decide) (K _ S3)
theorem lc_undo {w : zE} {g : zG} {b L i : Nat} {xs : Nat → Int32} {M : zM} (F : zF w g RL cL_law 4 1000) (J : zJ w) (hX : va_X b L xs g.2.1.1 g.2.1.1.heap) (hbl : b < g.2.1.1.heap.size) (hbA : ¬ g.2.2.2.1 b) (hi : i + 6 ≤ L) (hL : L ≤ 3072) (S : Sim M) (K : ∀ M, Sim M → ZW w g 4 1236 [some (.ref b), some (.ref (w.2.2 0)), some (.ref (w.2.2 138)), some (.int (nI i))] [] M) : ZW w g 4 563 [some (.ref b), some (.ref (w.2.2 0)), some (.ref (w.2.2 138)), some (.int (nI i))] [] M := by
  refine z_aload_n F dL_law_563 rfl ?_
  refine z_callVi F (q7_undo J S) zm_X7_undo zv_X7_undo ml_L_70 (show zk 0 = 7 by decide) (by decide) rfl rfl rfl (Nat.le_of_ble_eq_true rfl) dL_law_564 (by omega) (fun r1 M2 h1 => ?_)
  refine z_pop F dL_law_567 rfl ?_
  refine z_aload_n F dL_law_568 rfl ?_
  refine z_callVi F (q8_undo J h1) zm_X8_undo zv_X8_undo ml_L_73 (show zk 138 = 8 by decide) (by decide) rfl rfl rfl (Nat.le_of_ble_eq_true rfl) dL_law_569 (by omega) (fun r2 M3 h2 => ?_)
  obtain ⟨S3, e⟩ := h2
  refine z_pop F dL_law_572 rfl ?_
  exact z_goto (tgt := 1236) F dL_law_573 (by decide) (K _ S3)
theorem lc_again {w : zE} {g : zG} {b L i : Nat} {xs : Nat → Int32} {M : zM} (F : zF w g RL cL_law 4 1000) (J : zJ w) (hX : va_X b L xs g.2.1.1 g.2.1.1.heap) (hbl : b < g.2.1.1.heap.size) (hbA : ¬ g.2.2.2.1 b) (hi : i + 6 ≤ L) (hL : L ≤ 3072) (S : Sim M) (K : ∀ M, Sim M → ZW w g 4 1236 [some (.ref b), some (.ref (w.2.2 0)), some (.ref (w.2.2 138)), some (.int (nI i))] [] M) : ZW w g 4 576 [some (.ref b), some (.ref (w.2.2 0)), some (.ref (w.2.2 138)), some (.int (nI i))] [] M := by
  refine z_aload_n F dL_law_576 rfl ?_
  refine z_callVi F (q7_again J S) zm_X7_again zv_X7_again ml_L_74 (show zk 0 = 7 by decide) (by decide) rfl rfl rfl (Nat.le_of_ble_eq_true rfl) dL_law_577 (by omega) (fun r1 M2 h1 => ?_)
  refine z_pop F dL_law_580 rfl ?_
  refine z_aload_n F dL_law_581 rfl ?_
  refine z_callVi F (q8_again J h1) zm_X8_again zv_X8_again ml_L_77 (show zk 138 = 8 by decide) (by decide) rfl rfl rfl (Nat.le_of_ble_eq_true rfl) dL_law_582 (by omega) (fun r2 M3 h2 => ?_)
  obtain ⟨S3, e⟩ := h2
  refine z_pop F dL_law_585 rfl ?_
  exact z_goto (tgt := 1236) F dL_law_586 (by decide) (K _ S3)
theorem lc_glad {w : zE} {g : zG} {b L i : Nat} {xs : Nat → Int32} {M : zM} (F : zF w g RL cL_law 4 1000) (J : zJ w) (hX : va_X b L xs g.2.1.1 g.2.1.1.heap) (hbl : b < g.2.1.1.heap.size) (hbA : ¬ g.2.2.2.1 b) (hi : i + 6 ≤ L) (hL : L ≤ 3072) (S : Sim M) (K : ∀ M, Sim M → ZW w g 4 1236 [some (.ref b), some (.ref (w.2.2 0)), some (.ref (w.2.2 138)), some (.int (nI i))] [] M) : ZW w g 4 589 [some (.ref b), some (.ref (w.2.2 0)), some (.ref (w.2.2 138)), some (.int (nI i))] [] M := by
  refine z_aload_n F dL_law_589 rfl ?_
  refine z_aload_n F dL_law_590 rfl ?_
  refine z_iload_n F dL_law_591 rfl ?_
  refine z_iconst (v := 1) F dL_law_592 (by decide) ?_
  refine z_iadd F dL_law_593 ?_
  refine z_scr F hX hbl hbA (l_in6 (c := 1) rfl (by decide) hi hL) dL_law_594 ?_
  refine z_callVi F (q7_glad J S) zm_X7_glad zv_X7_glad ml_L_78 (show zk 0 = 7 by decide) (by decide) rfl rfl rfl (Nat.le_of_ble_eq_true rfl) dL_law_595 (by omega) (fun r1 M2 h1 => ?_)
  refine z_pop F dL_law_598 rfl ?_
  refine z_aload_n F dL_law_599 rfl ?_
  refine z_aload_n F dL_law_600 rfl ?_
  refine z_iload_n F dL_law_601 rfl ?_
  refine z_iconst (v := 1) F dL_law_602 (by decide) ?_
  refine z_iadd F dL_law_603 ?_
  refine z_scr F hX hbl hbA (l_in6 (c := 1) rfl (by decide) hi hL) dL_law_604 ?_
  refine z_callVi F (q8_glad J h1) zm_X8_glad zv_X8_glad ml_L_81 (show zk 138 = 8 by decide) (by decide) rfl rfl rfl (Nat.le_of_ble_eq_true rfl) dL_law_605 (by omega) (fun r2 M3 h2 => ?_)
  obtain ⟨S3, e⟩ := h2
  refine z_pop F dL_law_608 rfl ?_
  exact z_goto (tgt := 1236) F dL_law_609 (by decide) (K _ S3)
theorem lc_home {w : zE} {g : zG} {b L i : Nat} {xs : Nat → Int32} {M : zM} (F : zF w g RL cL_law 4 1000) (J : zJ w) (hX : va_X b L xs g.2.1.1 g.2.1.1.heap) (hbl : b < g.2.1.1.heap.size) (hbA : ¬ g.2.2.2.1 b) (hi : i + 6 ≤ L) (hL : L ≤ 3072) (S : Sim M) (K : ∀ M, Sim M → ZW w g 4 1236 [some (.ref b), some (.ref (w.2.2 0)), some (.ref (w.2.2 138)), some (.int (nI i))] [] M) : ZW w g 4 612 [some (.ref b), some (.ref (w.2.2 0)), some (.ref (w.2.2 138)), some (.int (nI i))] [] M := by
  refine z_aload_n F dL_law_612 rfl ?_
  refine z_aload_n F dL_law_613 rfl ?_
  refine z_iload_n F dL_law_614 rfl ?_
  refine z_iconst (v := 1) F dL_law_615 (by decide) ?_
  refine z_iadd F dL_law_616 ?_
  refine z_scr F hX hbl hbA (l_in6 (c := 1) rfl (by decide) hi hL) dL_law_617 ?_
  refine z_callVi F (q7_home J S) zm_X7_home zv_X7_home ml_L_82 (show zk 0 = 7 by decide) (by decide) rfl rfl rfl (Nat.le_of_ble_eq_true rfl) dL_law_618 (by omega) (fun r1 M2 h1 => ?_)
  refine z_pop F dL_law_621 rfl ?_
  refine z_aload_n F dL_law_622 rfl ?_
  refine z_aload_n F dL_law_623 rfl ?_
  refine z_iload_n F dL_law_624 rfl ?_
  refine z_iconst (v := 1) F dL_law_625 (by decide) ?_
  refine z_iadd F dL_law_626 ?_
  refine z_scr F hX hbl hbA (l_in6 (c := 1) rfl (by decide) hi hL) dL_law_627 ?_
  refine z_callVi F (q8_home J h1) zm_X8_home zv_X8_home ml_L_85 (show zk 138 = 8 by decide) (by decide) rfl rfl rfl (Nat.le_of_ble_eq_true rfl) dL_law_628 (by omega) (fun r2 M3 h2 => ?_)
  obtain ⟨S3, e⟩ := h2
  refine z_pop F dL_law_631 rfl ?_
  exact z_goto (tgt := 1236) F dL_law_632 (by decide) (K _ S3)
theorem lc_lost {w : zE} {g : zG} {b L i : Nat} {xs : Nat → Int32} {M : zM} (F : zF w g RL cL_law 4 1000) (J : zJ w) (hX : va_X b L xs g.2.1.1 g.2.1.1.heap) (hbl : b < g.2.1.1.heap.size) (hbA : ¬ g.2.2.2.1 b) (hi : i + 6 ≤ L) (hL : L ≤ 3072) (S : Sim M) (K : ∀ M, Sim M → ZW w g 4 1236 [some (.ref b), some (.ref (w.2.2 0)), some (.ref (w.2.2 138)), some (.int (nI i))] [] M) : ZW w g 4 635 [some (.ref b), some (.ref (w.2.2 0)), some (.ref (w.2.2 138)), some (.int (nI i))] [] M := by
  refine z_aload_n F dL_law_635 rfl ?_
  refine z_callVi F (q7_lost J S) zm_X7_lost zv_X7_lost ml_L_86 (show zk 0 = 7 by decide) (by decide) rfl rfl rfl (Nat.le_of_ble_eq_true rfl) dL_law_636 (by omega) (fun r1 M2 h1 => ?_)
  refine z_pop F dL_law_639 rfl ?_
  refine z_aload_n F dL_law_640 rfl ?_
  refine z_callVi F (q8_lost J h1) zm_X8_lost zv_X8_lost ml_L_89 (show zk 138 = 8 by decide) (by decide) rfl rfl rfl (Nat.le_of_ble_eq_true rfl) dL_law_641 (by omega) (fun r2 M3 h2 => ?_)
  obtain ⟨S3, e⟩ := h2
  refine z_pop F dL_law_644 rfl ?_
  exact z_goto (tgt := 1236) F dL_law_645 (by decide) (K _ S3)
theorem lc_lurk {w : zE} {g : zG} {b L i : Nat} {xs : Nat → Int32} {M : zM} (F : zF w g RL cL_law 4 1000) (J : zJ w) (hX : va_X b L xs g.2.1.1 g.2.1.1.heap) (hbl : b < g.2.1.1.heap.size) (hbA : ¬ g.2.2.2.1 b) (hi : i + 6 ≤ L) (hL : L ≤ 3072) (S : Sim M) (K : ∀ M, Sim M → ZW w g 4 1236 [some (.ref b), some (.ref (w.2.2 0)), some (.ref (w.2.2 138)), some (.int (nI i))] [] M) : ZW w g 4 648 [some (.ref b), some (.ref (w.2.2 0)), some (.ref (w.2.2 138)), some (.int (nI i))] [] M := by
  refine z_aload_n F dL_law_648 rfl ?_
  refine z_aload_n F dL_law_649 rfl ?_
  refine z_iload_n F dL_law_650 rfl ?_
  refine z_iconst (v := 1) F dL_law_651 (by decide) ?_
  refine z_iadd F dL_law_652 ?_
  refine z_scr F hX hbl hbA (l_in6 (c := 1) rfl (by decide) hi hL) dL_law_653 ?_
  refine z_aload_n F dL_law_654 rfl ?_
  refine z_iload_n F dL_law_655 rfl ?_
  refine z_iconst (v := 2) F dL_law_656 (by decide) ?_
  refine z_iadd F dL_law_657 ?_
  refine z_scr F hX hbl hbA (l_in6 (c := 2) rfl (by decide) hi hL) dL_law_658 ?_
  refine z_callVi F (q7_lurk J S) zm_X7_lurk zv_X7_lurk ml_L_90 (show zk 0 = 7 by decide) (by decide) rfl rfl rfl (Nat.le_of_ble_eq_true rfl) dL_law_659 (by omega) (fun r1 M2 h1 => ?_)
  refine z_pop F dL_law_662 rfl ?_
  refine z_aload_n F dL_law_663 rfl ?_
  refine z_aload_n F dL_law_664 rfl ?_
  refine z_iload_n F dL_law_665 rfl ?_
  refine z_iconst (v := 1) F dL_law_666 (by decide) ?_
  refine z_iadd F dL_law_667 ?_
  refine z_scr F hX hbl hbA (l_in6 (c := 1) rfl (by decide) hi hL) dL_law_668 ?_
  refine z_aload_n F dL_law_669 rfl ?_
  refine z_iload_n F dL_law_670 rfl ?_
  refine z_iconst (v := 2) F dL_law_671 (by decide) ?_
  refine z_iadd F dL_law_672 ?_
  refine z_scr F hX hbl hbA (l_in6 (c := 2) rfl (by decide) hi hL) dL_law_673 ?_
  refine z_callVi F (q8_lurk J h1) zm_X8_lurk zv_X8_lurk ml_L_93 (show zk 138 = 8 by decide) (by decide) rfl rfl rfl (Nat.le_of_ble_eq_true rfl) dL_law_674 (by omega) (fun r2 M3 h2 => ?_)
  obtain ⟨S3, e⟩ := h2
  refine z_pop F dL_law_677 rfl ?_
  exact z_goto (tgt := 1236) F dL_law_678 (by decide) (K _ S3)
theorem lc_stand {w : zE} {g : zG} {b L i : Nat} {xs : Nat → Int32} {M : zM} (F : zF w g RL cL_law 4 1000) (J : zJ w) (hX : va_X b L xs g.2.1.1 g.2.1.1.heap) (hbl : b < g.2.1.1.heap.size) (hbA : ¬ g.2.2.2.1 b) (hi : i + 6 ≤ L) (hL : L ≤ 3072) (S : Sim M) (K : ∀ M, Sim M → ZW w g 4 1236 [some (.ref b), some (.ref (w.2.2 0)), some (.ref (w.2.2 138)), some (.int (nI i))] [] M) : ZW w g 4 681 [some (.ref b), some (.ref (w.2.2 0)), some (.ref (w.2.2 138)), some (.int (nI i))] [] M := by
  refine z_aload_n F dL_law_681 rfl ?_
  refine z_aload_n F dL_law_682 rfl ?_
  refine z_iload_n F dL_law_683 rfl ?_
  refine z_iconst (v := 1) F dL_law_684 (by decide) ?_
  refine z_iadd F dL_law_685 ?_
  refine z_scr F hX hbl hbA (l_in6 (c := 1) rfl (by decide) hi hL) dL_law_686 ?_
  refine z_aload_n F dL_law_687 rfl ?_
  refine z_iload_n F dL_law_688 rfl ?_
  refine z_iconst (v := 2) F dL_law_689 (by decide) ?_
  refine z_iadd F dL_law_690 ?_
  refine z_scr F hX hbl hbA (l_in6 (c := 2) rfl (by decide) hi hL) dL_law_691 ?_
  refine z_callVi F (q7_stand J S) zm_X7_stand zv_X7_stand ml_L_94 (show zk 0 = 7 by decide) (by decide) rfl rfl rfl (Nat.le_of_ble_eq_true rfl) dL_law_692 (by omega) (fun r1 M2 h1 => ?_)
  refine z_pop F dL_law_695 rfl ?_
  refine z_aload_n F dL_law_696 rfl ?_
  refine z_aload_n F dL_law_697 rfl ?_
  refine z_iload_n F dL_law_698 rfl ?_
  refine z_iconst (v := 1) F dL_law_699 (by decide) ?_
  refine z_iadd F dL_law_700 ?_
  refine z_scr F hX hbl hbA (l_in6 (c := 1) rfl (by decide) hi hL) dL_law_701 ?_
  refine z_aload_n F dL_law_702 rfl ?_
  refine z_iload_n F dL_law_703 rfl ?_
  refine z_iconst (v := 2) F dL_law_704 (by decide) ?_
  refine z_iadd F dL_law_705 ?_
  refine z_scr F hX hbl hbA (l_in6 (c := 2) rfl (by decide) hi hL) dL_law_706 ?_
  refine z_callVi F (q8_stand J h1) zm_X8_stand zv_X8_stand ml_L_97 (show zk 138 = 8 by decide) (by decide) rfl rfl rfl (Nat.le_of_ble_eq_true rfl) dL_law_707 (by omega) (fun r2 M3 h2 => ?_)
  obtain ⟨S3, e⟩ := h2
  refine z_pop F dL_law_710 rfl ?_
  exact z_goto (tgt := 1236) F dL_law_711 (by decide) (K _ S3)
theorem lc_sister {w : zE} {g : zG} {b L i : Nat} {xs : Nat → Int32} {M : zM} (F : zF w g RL cL_law 4 1000) (J : zJ w) (hX : va_X b L xs g.2.1.1 g.2.1.1.heap) (hbl : b < g.2.1.1.heap.size) (hbA : ¬ g.2.2.2.1 b) (hi : i + 6 ≤ L) (hL : L ≤ 3072) (S : Sim M) (K : ∀ M, Sim M → ZW w g 4 1236 [some (.ref b), some (.ref (w.2.2 0)), some (.ref (w.2.2 138)), some (.int (nI i))] [] M) : ZW w g 4 714 [some (.ref b), some (.ref (w.2.2 0)), some (.ref (w.2.2 138)), some (.int (nI i))] [] M := by
  refine z_aload_n F dL_law_714 rfl ?_
  refine z_aload_n F dL_law_715 rfl ?_
  refine z_iload_n F dL_law_716 rfl ?_
  refine z_iconst (v := 1) F dL_law_717 (by decide) ?_
  refine z_iadd F dL_law_718 ?_
  refine z_scr F hX hbl hbA (l_in6 (c := 1) rfl (by decide) hi hL) dL_law_719 ?_
  refine z_aload_n F dL_law_720 rfl ?_
  refine z_iload_n F dL_law_721 rfl ?_
  refine z_iconst (v := 2) F dL_law_722 (by decide) ?_
  refine z_iadd F dL_law_723 ?_
  refine z_scr F hX hbl hbA (l_in6 (c := 2) rfl (by decide) hi hL) dL_law_724 ?_
  refine z_callVi F (q7_sister J S) zm_X7_sister zv_X7_sister ml_L_98 (show zk 0 = 7 by decide) (by decide) rfl rfl rfl (Nat.le_of_ble_eq_true rfl) dL_law_725 (by omega) (fun r1 M2 h1 => ?_)
  refine z_pop F dL_law_728 rfl ?_
  refine z_aload_n F dL_law_729 rfl ?_
  refine z_aload_n F dL_law_730 rfl ?_
  refine z_iload_n F dL_law_731 rfl ?_
  refine z_iconst (v := 1) F dL_law_732 (by decide) ?_
  refine z_iadd F dL_law_733 ?_
  refine z_scr F hX hbl hbA (l_in6 (c := 1) rfl (by decide) hi hL) dL_law_734 ?_
  refine z_aload_n F dL_law_735 rfl ?_
  refine z_iload_n F dL_law_736 rfl ?_
  refine z_iconst (v := 2) F dL_law_737 (by decide) ?_
  refine z_iadd F dL_law_738 ?_
  refine z_scr F hX hbl hbA (l_in6 (c := 2) rfl (by decide) hi hL) dL_law_739 ?_
  refine z_callVi F (q8_sister J h1) zm_X8_sister zv_X8_sister ml_L_101 (show zk 138 = 8 by decide) (by decide) rfl rfl rfl (Nat.le_of_ble_eq_true rfl) dL_law_740 (by omega) (fun r2 M3 h2 => ?_)
  obtain ⟨S3, e⟩ := h2
  refine z_pop F dL_law_743 rfl ?_
  exact z_goto (tgt := 1236) F dL_law_744 (by decide) (K _ S3)
theorem lc_meet {w : zE} {g : zG} {b L i : Nat} {xs : Nat → Int32} {M : zM} (F : zF w g RL cL_law 4 1000) (J : zJ w) (hX : va_X b L xs g.2.1.1 g.2.1.1.heap) (hbl : b < g.2.1.1.heap.size) (hbA : ¬ g.2.2.2.1 b) (hi : i + 6 ≤ L) (hL : L ≤ 3072) (S : Sim M) (K : ∀ M, Sim M → ZW w g 4 1236 [some (.ref b), some (.ref (w.2.2 0)), some (.ref (w.2.2 138)), some (.int (nI i))] [] M) : ZW w g 4 747 [some (.ref b), some (.ref (w.2.2 0)), some (.ref (w.2.2 138)), some (.int (nI i))] [] M := by
  refine z_aload_n F dL_law_747 rfl ?_
  refine z_aload_n F dL_law_748 rfl ?_
  refine z_iload_n F dL_law_749 rfl ?_
  refine z_iconst (v := 1) F dL_law_750 (by decide) ?_
  refine z_iadd F dL_law_751 ?_
  refine z_scr F hX hbl hbA (l_in6 (c := 1) rfl (by decide) hi hL) dL_law_752 ?_
  refine z_aload_n F dL_law_753 rfl ?_
  refine z_iload_n F dL_law_754 rfl ?_
  refine z_iconst (v := 2) F dL_law_755 (by decide) ?_
  refine z_iadd F dL_law_756 ?_
  refine z_scr F hX hbl hbA (l_in6 (c := 2) rfl (by decide) hi hL) dL_law_757 ?_
  refine z_callVi F (q7_meet J S) zm_X7_meet zv_X7_meet ml_L_102 (show zk 0 = 7 by decide) (by decide) rfl rfl rfl (Nat.le_of_ble_eq_true rfl) dL_law_758 (by omega) (fun r1 M2 h1 => ?_)
  refine z_pop F dL_law_761 rfl ?_
  refine z_aload_n F dL_law_762 rfl ?_
  refine z_aload_n F dL_law_763 rfl ?_
  refine z_iload_n F dL_law_764 rfl ?_
  refine z_iconst (v := 1) F dL_law_765 (by decide) ?_
  refine z_iadd F dL_law_766 ?_
  refine z_scr F hX hbl hbA (l_in6 (c := 1) rfl (by decide) hi hL) dL_law_767 ?_
  refine z_aload_n F dL_law_768 rfl ?_
  refine z_iload_n F dL_law_769 rfl ?_
  refine z_iconst (v := 2) F dL_law_770 (by decide) ?_
  refine z_iadd F dL_law_771 ?_
  refine z_scr F hX hbl hbA (l_in6 (c := 2) rfl (by decide) hi hL) dL_law_772 ?_
  refine z_callVi F (q8_meet J h1) zm_X8_meet zv_X8_meet ml_L_105 (show zk 138 = 8 by decide) (by decide) rfl rfl rfl (Nat.le_of_ble_eq_true rfl) dL_law_773 (by omega) (fun r2 M3 h2 => ?_)
  obtain ⟨S3, e⟩ := h2
  refine z_pop F dL_law_776 rfl ?_
  exact z_goto (tgt := 1236) F dL_law_777 (by decide) (K _ S3)
theorem lc_first {w : zE} {g : zG} {b L i : Nat} {xs : Nat → Int32} {M : zM} (F : zF w g RL cL_law 4 1000) (J : zJ w) (hX : va_X b L xs g.2.1.1 g.2.1.1.heap) (hbl : b < g.2.1.1.heap.size) (hbA : ¬ g.2.2.2.1 b) (hi : i + 6 ≤ L) (hL : L ≤ 3072) (S : Sim M) (K : ∀ M, Sim M → ZW w g 4 1236 [some (.ref b), some (.ref (w.2.2 0)), some (.ref (w.2.2 138)), some (.int (nI i))] [] M) : ZW w g 4 780 [some (.ref b), some (.ref (w.2.2 0)), some (.ref (w.2.2 138)), some (.int (nI i))] [] M := by
  refine z_aload_n F dL_law_780 rfl ?_
  refine z_aload_n F dL_law_781 rfl ?_
  refine z_iload_n F dL_law_782 rfl ?_
  refine z_iconst (v := 1) F dL_law_783 (by decide) ?_
  refine z_iadd F dL_law_784 ?_
  refine z_scr F hX hbl hbA (l_in6 (c := 1) rfl (by decide) hi hL) dL_law_785 ?_
  refine z_callVi F (q7_first J S) zm_X7_first zv_X7_first ml_L_106 (show zk 0 = 7 by decide) (by decide) rfl rfl rfl (Nat.le_of_ble_eq_true rfl) dL_law_786 (by omega) (fun r1 M2 h1 => ?_)
  refine z_pop F dL_law_789 rfl ?_
  refine z_aload_n F dL_law_790 rfl ?_
  refine z_aload_n F dL_law_791 rfl ?_
  refine z_iload_n F dL_law_792 rfl ?_
  refine z_iconst (v := 1) F dL_law_793 (by decide) ?_
  refine z_iadd F dL_law_794 ?_
  refine z_scr F hX hbl hbA (l_in6 (c := 1) rfl (by decide) hi hL) dL_law_795 ?_
  refine z_callVi F (q8_first J h1) zm_X8_first zv_X8_first ml_L_109 (show zk 138 = 8 by decide) (by decide) rfl rfl rfl (Nat.le_of_ble_eq_true rfl) dL_law_796 (by omega) (fun r2 M3 h2 => ?_)
  obtain ⟨S3, e⟩ := h2
  refine z_pop F dL_law_799 rfl ?_
  exact z_goto (tgt := 1236) F dL_law_800 (by decide) (K _ S3)
theorem lc_cheated {w : zE} {g : zG} {b L i : Nat} {xs : Nat → Int32} {M : zM} (F : zF w g RL cL_law 4 1000) (J : zJ w) (hX : va_X b L xs g.2.1.1 g.2.1.1.heap) (hbl : b < g.2.1.1.heap.size) (hbA : ¬ g.2.2.2.1 b) (hi : i + 6 ≤ L) (hL : L ≤ 3072) (S : Sim M) (K : ∀ M, Sim M → ZW w g 4 1236 [some (.ref b), some (.ref (w.2.2 0)), some (.ref (w.2.2 138)), some (.int (nI i))] [] M) : ZW w g 4 803 [some (.ref b), some (.ref (w.2.2 0)), some (.ref (w.2.2 138)), some (.int (nI i))] [] M := by
  refine z_aload_n F dL_law_803 rfl ?_
  refine z_aload_n F dL_law_804 rfl ?_
  refine z_iload_n F dL_law_805 rfl ?_
  refine z_iconst (v := 1) F dL_law_806 (by decide) ?_
  refine z_iadd F dL_law_807 ?_
  refine z_scr F hX hbl hbA (l_in6 (c := 1) rfl (by decide) hi hL) dL_law_808 ?_
  refine z_callVi F (q7_cheated J S) zm_X7_cheated zv_X7_cheated ml_L_110 (show zk 0 = 7 by decide) (by decide) rfl rfl rfl (Nat.le_of_ble_eq_true rfl) dL_law_809 (by omega) (fun r1 M2 h1 => ?_)
  refine z_pop F dL_law_812 rfl ?_
  refine z_aload_n F dL_law_813 rfl ?_
  refine z_aload_n F dL_law_814 rfl ?_
  refine z_iload_n F dL_law_815 rfl ?_
  refine z_iconst (v := 1) F dL_law_816 (by decide) ?_
  refine z_iadd F dL_law_817 ?_
  refine z_scr F hX hbl hbA (l_in6 (c := 1) rfl (by decide) hi hL) dL_law_818 ?_
  refine z_callVi F (q8_cheated J h1) zm_X8_cheated zv_X8_cheated ml_L_113 (show zk 138 = 8 by decide) (by decide) rfl rfl rfl (Nat.le_of_ble_eq_true rfl) dL_law_819 (by omega) (fun r2 M3 h2 => ?_)
  obtain ⟨S3, e⟩ := h2
  refine z_pop F dL_law_822 rfl ?_
  exact z_goto (tgt := 1236) F dL_law_823 (by decide) (K _ S3)
theorem lc_chance {w : zE} {g : zG} {b L i : Nat} {xs : Nat → Int32} {M : zM} (F : zF w g RL cL_law 4 1000) (J : zJ w) (hX : va_X b L xs g.2.1.1 g.2.1.1.heap) (hbl : b < g.2.1.1.heap.size) (hbA : ¬ g.2.2.2.1 b) (hi : i + 6 ≤ L) (hL : L ≤ 3072) (S : Sim M) (K : ∀ M, Sim M → ZW w g 4 1236 [some (.ref b), some (.ref (w.2.2 0)), some (.ref (w.2.2 138)), some (.int (nI i))] [] M) : ZW w g 4 826 [some (.ref b), some (.ref (w.2.2 0)), some (.ref (w.2.2 138)), some (.int (nI i))] [] M := by
  refine z_aload_n F dL_law_826 rfl ?_
  refine z_aload_n F dL_law_827 rfl ?_
  refine z_iload_n F dL_law_828 rfl ?_
  refine z_iconst (v := 1) F dL_law_829 (by decide) ?_
  refine z_iadd F dL_law_830 ?_
  refine z_scr F hX hbl hbA (l_in6 (c := 1) rfl (by decide) hi hL) dL_law_831 ?_
  refine z_aload_n F dL_law_832 rfl ?_
  refine z_iload_n F dL_law_833 rfl ?_
  refine z_iconst (v := 2) F dL_law_834 (by decide) ?_
  refine z_iadd F dL_law_835 ?_
  refine z_scr F hX hbl hbA (l_in6 (c := 2) rfl (by decide) hi hL) dL_law_836 ?_
  refine z_callVi F (q7_chance J S) zm_X7_chance zv_X7_chance ml_L_114 (show zk 0 = 7 by decide) (by decide) rfl rfl rfl (Nat.le_of_ble_eq_true rfl) dL_law_837 (by omega) (fun r1 M2 h1 => ?_)
  refine z_pop F dL_law_840 rfl ?_
  refine z_aload_n F dL_law_841 rfl ?_
  refine z_aload_n F dL_law_842 rfl ?_
  refine z_iload_n F dL_law_843 rfl ?_
  refine z_iconst (v := 1) F dL_law_844 (by decide) ?_
  refine z_iadd F dL_law_845 ?_
  refine z_scr F hX hbl hbA (l_in6 (c := 1) rfl (by decide) hi hL) dL_law_846 ?_
  refine z_aload_n F dL_law_847 rfl ?_
  refine z_iload_n F dL_law_848 rfl ?_
  refine z_iconst (v := 2) F dL_law_849 (by decide) ?_
  refine z_iadd F dL_law_850 ?_
  refine z_scr F hX hbl hbA (l_in6 (c := 2) rfl (by decide) hi hL) dL_law_851 ?_
  refine z_callVi F (q8_chance J h1) zm_X8_chance zv_X8_chance ml_L_117 (show zk 138 = 8 by decide) (by decide) rfl rfl rfl (Nat.le_of_ble_eq_true rfl) dL_law_852 (by omega) (fun r2 M3 h2 => ?_)
  obtain ⟨S3, e⟩ := h2
  refine z_pop F dL_law_855 rfl ?_
  exact z_goto (tgt := 1236) F dL_law_856 (by decide) (K _ S3)
theorem lc_image {w : zE} {g : zG} {b L i : Nat} {xs : Nat → Int32} {M : zM} (F : zF w g RL cL_law 4 1000) (J : zJ w) (hX : va_X b L xs g.2.1.1 g.2.1.1.heap) (hbl : b < g.2.1.1.heap.size) (hbA : ¬ g.2.2.2.1 b) (hi : i + 6 ≤ L) (hL : L ≤ 3072) (S : Sim M) (K : ∀ M, Sim M → ZW w g 4 1236 [some (.ref b), some (.ref (w.2.2 0)), some (.ref (w.2.2 138)), some (.int (nI i))] [] M) : ZW w g 4 859 [some (.ref b), some (.ref (w.2.2 0)), some (.ref (w.2.2 138)), some (.int (nI i))] [] M := by
  refine z_aload_n F dL_law_859 rfl ?_
  refine z_callVi F (q7_image J S) zm_X7_image zv_X7_image ml_L_118 (show zk 0 = 7 by decide) (by decide) rfl rfl rfl (Nat.le_of_ble_eq_true rfl) dL_law_860 (by omega) (fun r1 M2 h1 => ?_)
  refine z_pop F dL_law_863 rfl ?_
  refine z_aload_n F dL_law_864 rfl ?_
  refine z_callVi F (q8_image J h1) zm_X8_image zv_X8_image ml_L_121 (show zk 138 = 8 by decide) (by decide) rfl rfl rfl (Nat.le_of_ble_eq_true rfl) dL_law_865 (by omega) (fun r2 M3 h2 => ?_)
  obtain ⟨S3, e⟩ := h2
  refine z_pop F dL_law_868 rfl ?_
  exact z_goto (tgt := 1236) F dL_law_869 (by decide) (K _ S3)
theorem lc_restore {w : zE} {g : zG} {b L i : Nat} {xs : Nat → Int32} {M : zM} (F : zF w g RL cL_law 4 1000) (J : zJ w) (hX : va_X b L xs g.2.1.1 g.2.1.1.heap) (hbl : b < g.2.1.1.heap.size) (hbA : ¬ g.2.2.2.1 b) (hi : i + 6 ≤ L) (hL : L ≤ 3072) (S : Sim M) (K : ∀ M, Sim M → ZW w g 4 1236 [some (.ref b), some (.ref (w.2.2 0)), some (.ref (w.2.2 138)), some (.int (nI i))] [] M) : ZW w g 4 872 [some (.ref b), some (.ref (w.2.2 0)), some (.ref (w.2.2 138)), some (.int (nI i))] [] M := by
  refine z_aload_n F dL_law_872 rfl ?_
  refine z_callVi F (q7_restore J S) zm_X7_restore zv_X7_restore ml_L_122 (show zk 0 = 7 by decide) (by decide) rfl rfl rfl (Nat.le_of_ble_eq_true rfl) dL_law_873 (by omega) (fun r1 M2 h1 => ?_)
  refine z_pop F dL_law_876 rfl ?_
  refine z_aload_n F dL_law_877 rfl ?_
  refine z_callVi F (q8_restore J h1) zm_X8_restore zv_X8_restore ml_L_125 (show zk 138 = 8 by decide) (by decide) rfl rfl rfl (Nat.le_of_ble_eq_true rfl) dL_law_878 (by omega) (fun r2 M3 h2 => ?_)
  obtain ⟨S3, e⟩ := h2
  refine z_pop F dL_law_881 rfl ?_
  exact z_goto (tgt := 1236) F dL_law_882 (by decide) (K _ S3)
theorem lc_seen {w : zE} {g : zG} {b L i : Nat} {xs : Nat → Int32} {M : zM} (F : zF w g RL cL_law 4 1000) (J : zJ w) (hX : va_X b L xs g.2.1.1 g.2.1.1.heap) (hbl : b < g.2.1.1.heap.size) (hbA : ¬ g.2.2.2.1 b) (hi : i + 6 ≤ L) (hL : L ≤ 3072) (S : Sim M) (K : ∀ M, Sim M → ZW w g 4 1236 [some (.ref b), some (.ref (w.2.2 0)), some (.ref (w.2.2 138)), some (.int (nI i))] [] M) : ZW w g 4 885 [some (.ref b), some (.ref (w.2.2 0)), some (.ref (w.2.2 138)), some (.int (nI i))] [] M := by
  refine z_aload_n F dL_law_885 rfl ?_
  refine z_aload_n F dL_law_886 rfl ?_
  refine z_iload_n F dL_law_887 rfl ?_
  refine z_iconst (v := 1) F dL_law_888 (by decide) ?_
  refine z_iadd F dL_law_889 ?_
  refine z_scr F hX hbl hbA (l_in6 (c := 1) rfl (by decide) hi hL) dL_law_890 ?_
  refine z_aload_n F dL_law_891 rfl ?_
  refine z_iload_n F dL_law_892 rfl ?_
  refine z_iconst (v := 2) F dL_law_893 (by decide) ?_
  refine z_iadd F dL_law_894 ?_
  refine z_scr F hX hbl hbA (l_in6 (c := 2) rfl (by decide) hi hL) dL_law_895 ?_
  refine z_aload_n F dL_law_896 rfl ?_
  refine z_iload_n F dL_law_897 rfl ?_
  refine z_iconst (v := 3) F dL_law_898 (by decide) ?_
  refine z_iadd F dL_law_899 ?_
  refine z_scr F hX hbl hbA (l_in6 (c := 3) rfl (by decide) hi hL) dL_law_900 ?_
  refine z_aload_n F dL_law_901 rfl ?_
  refine z_iload_n F dL_law_902 rfl ?_
  refine z_iconst (v := 4) F dL_law_903 (by decide) ?_
  refine z_iadd F dL_law_904 ?_
  refine z_scr F hX hbl hbA (l_in6 (c := 4) rfl (by decide) hi hL) dL_law_905 ?_
  refine z_callVi F (q7_seen J S) zm_X7_seen zv_X7_seen ml_L_126 (show zk 0 = 7 by decide) (by decide) rfl rfl rfl (Nat.le_of_ble_eq_true rfl) dL_law_906 (by omega) (fun r1 M2 h1 => ?_)
  refine z_pop F dL_law_909 rfl ?_
  refine z_aload_n F dL_law_910 rfl ?_
  refine z_aload_n F dL_law_911 rfl ?_
  refine z_iload_n F dL_law_912 rfl ?_
  refine z_iconst (v := 1) F dL_law_913 (by decide) ?_
  refine z_iadd F dL_law_914 ?_
  refine z_scr F hX hbl hbA (l_in6 (c := 1) rfl (by decide) hi hL) dL_law_915 ?_
  refine z_aload_n F dL_law_916 rfl ?_
  refine z_iload_n F dL_law_917 rfl ?_
  refine z_iconst (v := 2) F dL_law_918 (by decide) ?_
  refine z_iadd F dL_law_919 ?_
  refine z_scr F hX hbl hbA (l_in6 (c := 2) rfl (by decide) hi hL) dL_law_920 ?_
  refine z_aload_n F dL_law_921 rfl ?_
  refine z_iload_n F dL_law_922 rfl ?_
  refine z_iconst (v := 3) F dL_law_923 (by decide) ?_
  refine z_iadd F dL_law_924 ?_
  refine z_scr F hX hbl hbA (l_in6 (c := 3) rfl (by decide) hi hL) dL_law_925 ?_
  refine z_aload_n F dL_law_926 rfl ?_
  refine z_iload_n F dL_law_927 rfl ?_
  refine z_iconst (v := 4) F dL_law_928 (by decide) ?_
  refine z_iadd F dL_law_929 ?_
  refine z_scr F hX hbl hbA (l_in6 (c := 4) rfl (by decide) hi hL) dL_law_930 ?_
  refine z_callVi F (q8_seen J h1) zm_X8_seen zv_X8_seen ml_L_129 (show zk 138 = 8 by decide) (by decide) rfl rfl rfl (Nat.le_of_ble_eq_true rfl) dL_law_931 (by omega) (fun r2 M3 h2 => ?_)
  obtain ⟨S3, e⟩ := h2
  refine z_pop F dL_law_934 rfl ?_
  exact z_goto (tgt := 1236) F dL_law_935 (by decide) (K _ S3)
theorem lc_film {w : zE} {g : zG} {b L i : Nat} {xs : Nat → Int32} {M : zM} (F : zF w g RL cL_law 4 1000) (J : zJ w) (hX : va_X b L xs g.2.1.1 g.2.1.1.heap) (hbl : b < g.2.1.1.heap.size) (hbA : ¬ g.2.2.2.1 b) (hi : i + 6 ≤ L) (hL : L ≤ 3072) (S : Sim M) (K : ∀ M, Sim M → ZW w g 4 1236 [some (.ref b), some (.ref (w.2.2 0)), some (.ref (w.2.2 138)), some (.int (nI i))] [] M) : ZW w g 4 938 [some (.ref b), some (.ref (w.2.2 0)), some (.ref (w.2.2 138)), some (.int (nI i))] [] M := by
  refine z_aload_n F dL_law_938 rfl ?_
  refine z_aload_n F dL_law_939 rfl ?_
  refine z_iload_n F dL_law_940 rfl ?_
  refine z_iconst (v := 1) F dL_law_941 (by decide) ?_
  refine z_iadd F dL_law_942 ?_
  refine z_scr F hX hbl hbA (l_in6 (c := 1) rfl (by decide) hi hL) dL_law_943 ?_
  refine z_aload_n F dL_law_944 rfl ?_
  refine z_iload_n F dL_law_945 rfl ?_
  refine z_iconst (v := 2) F dL_law_946 (by decide) ?_
  refine z_iadd F dL_law_947 ?_
  refine z_scr F hX hbl hbA (l_in6 (c := 2) rfl (by decide) hi hL) dL_law_948 ?_
  refine z_aload_n F dL_law_949 rfl ?_
  refine z_iload_n F dL_law_950 rfl ?_
  refine z_iconst (v := 3) F dL_law_951 (by decide) ?_
  refine z_iadd F dL_law_952 ?_
  refine z_scr F hX hbl hbA (l_in6 (c := 3) rfl (by decide) hi hL) dL_law_953 ?_
  refine z_callVi F (q7_film J S) zm_X7_film zv_X7_film ml_L_130 (show zk 0 = 7 by decide) (by decide) rfl rfl rfl (Nat.le_of_ble_eq_true rfl) dL_law_954 (by omega) (fun r1 M2 h1 => ?_)
  refine z_pop F dL_law_957 rfl ?_
  refine z_aload_n F dL_law_958 rfl ?_
  refine z_aload_n F dL_law_959 rfl ?_
  refine z_iload_n F dL_law_960 rfl ?_
  refine z_iconst (v := 1) F dL_law_961 (by decide) ?_
  refine z_iadd F dL_law_962 ?_
  refine z_scr F hX hbl hbA (l_in6 (c := 1) rfl (by decide) hi hL) dL_law_963 ?_
  refine z_aload_n F dL_law_964 rfl ?_
  refine z_iload_n F dL_law_965 rfl ?_
  refine z_iconst (v := 2) F dL_law_966 (by decide) ?_
  refine z_iadd F dL_law_967 ?_
  refine z_scr F hX hbl hbA (l_in6 (c := 2) rfl (by decide) hi hL) dL_law_968 ?_
  refine z_aload_n F dL_law_969 rfl ?_
  refine z_iload_n F dL_law_970 rfl ?_
  refine z_iconst (v := 3) F dL_law_971 (by decide) ?_
  refine z_iadd F dL_law_972 ?_
  refine z_scr F hX hbl hbA (l_in6 (c := 3) rfl (by decide) hi hL) dL_law_973 ?_
  refine z_callVi F (q8_film J h1) zm_X8_film zv_X8_film ml_L_133 (show zk 138 = 8 by decide) (by decide) rfl rfl rfl (Nat.le_of_ble_eq_true rfl) dL_law_974 (by omega) (fun r2 M3 h2 => ?_)
  obtain ⟨S3, e⟩ := h2
  refine z_pop F dL_law_977 rfl ?_
  exact z_goto (tgt := 1236) F dL_law_978 (by decide) (K _ S3)
theorem lc_deal {w : zE} {g : zG} {b L i : Nat} {xs : Nat → Int32} {M : zM} (F : zF w g RL cL_law 4 1000) (J : zJ w) (hX : va_X b L xs g.2.1.1 g.2.1.1.heap) (hbl : b < g.2.1.1.heap.size) (hbA : ¬ g.2.2.2.1 b) (hi : i + 6 ≤ L) (hL : L ≤ 3072) (S : Sim M) (K : ∀ M, Sim M → ZW w g 4 1236 [some (.ref b), some (.ref (w.2.2 0)), some (.ref (w.2.2 138)), some (.int (nI i))] [] M) : ZW w g 4 981 [some (.ref b), some (.ref (w.2.2 0)), some (.ref (w.2.2 138)), some (.int (nI i))] [] M := by
  refine z_aload_n F dL_law_981 rfl ?_
  refine z_aload_n F dL_law_982 rfl ?_
  refine z_iload_n F dL_law_983 rfl ?_
  refine z_iconst (v := 1) F dL_law_984 (by decide) ?_
  refine z_iadd F dL_law_985 ?_
  refine z_scr F hX hbl hbA (l_in6 (c := 1) rfl (by decide) hi hL) dL_law_986 ?_
  refine z_aload_n F dL_law_987 rfl ?_
  refine z_iload_n F dL_law_988 rfl ?_
  refine z_iconst (v := 2) F dL_law_989 (by decide) ?_
  refine z_iadd F dL_law_990 ?_
  refine z_scr F hX hbl hbA (l_in6 (c := 2) rfl (by decide) hi hL) dL_law_991 ?_
  refine z_aload_n F dL_law_992 rfl ?_
  refine z_iload_n F dL_law_993 rfl ?_
  refine z_iconst (v := 3) F dL_law_994 (by decide) ?_
  refine z_iadd F dL_law_995 ?_
  refine z_scr F hX hbl hbA (l_in6 (c := 3) rfl (by decide) hi hL) dL_law_996 ?_
  refine z_callVi F (q7_deal J S) zm_X7_deal zv_X7_deal ml_L_134 (show zk 0 = 7 by decide) (by decide) rfl rfl rfl (Nat.le_of_ble_eq_true rfl) dL_law_997 (by omega) (fun r1 M2 h1 => ?_)
  refine z_pop F dL_law_1000 rfl ?_
  refine z_aload_n F dL_law_1001 rfl ?_
  refine z_aload_n F dL_law_1002 rfl ?_
  refine z_iload_n F dL_law_1003 rfl ?_
  refine z_iconst (v := 1) F dL_law_1004 (by decide) ?_
  refine z_iadd F dL_law_1005 ?_
  refine z_scr F hX hbl hbA (l_in6 (c := 1) rfl (by decide) hi hL) dL_law_1006 ?_
  refine z_aload_n F dL_law_1007 rfl ?_
  refine z_iload_n F dL_law_1008 rfl ?_
  refine z_iconst (v := 2) F dL_law_1009 (by decide) ?_
  refine z_iadd F dL_law_1010 ?_
  refine z_scr F hX hbl hbA (l_in6 (c := 2) rfl (by decide) hi hL) dL_law_1011 ?_
  refine z_aload_n F dL_law_1012 rfl ?_
  refine z_iload_n F dL_law_1013 rfl ?_
  refine z_iconst (v := 3) F dL_law_1014 (by decide) ?_
  refine z_iadd F dL_law_1015 ?_
  refine z_scr F hX hbl hbA (l_in6 (c := 3) rfl (by decide) hi hL) dL_law_1016 ?_
  refine z_callVi F (q8_deal J h1) zm_X8_deal zv_X8_deal ml_L_137 (show zk 138 = 8 by decide) (by decide) rfl rfl rfl (Nat.le_of_ble_eq_true rfl) dL_law_1017 (by omega) (fun r2 M3 h2 => ?_)
  obtain ⟨S3, e⟩ := h2
  refine z_pop F dL_law_1020 rfl ?_
  exact z_goto (tgt := 1236) F dL_law_1021 (by decide) (K _ S3)
theorem lc_sheet {w : zE} {g : zG} {b L i : Nat} {xs : Nat → Int32} {M : zM} (F : zF w g RL cL_law 4 1000) (J : zJ w) (hX : va_X b L xs g.2.1.1 g.2.1.1.heap) (hbl : b < g.2.1.1.heap.size) (hbA : ¬ g.2.2.2.1 b) (hi : i + 6 ≤ L) (hL : L ≤ 3072) (S : Sim M) (K : ∀ M, Sim M → ZW w g 4 1236 [some (.ref b), some (.ref (w.2.2 0)), some (.ref (w.2.2 138)), some (.int (nI i))] [] M) : ZW w g 4 1024 [some (.ref b), some (.ref (w.2.2 0)), some (.ref (w.2.2 138)), some (.int (nI i))] [] M := by
  refine z_aload_n F dL_law_1024 rfl ?_
  refine z_aload_n F dL_law_1025 rfl ?_
  refine z_iload_n F dL_law_1026 rfl ?_
  refine z_iconst (v := 1) F dL_law_1027 (by decide) ?_
  refine z_iadd F dL_law_1028 ?_
  refine z_scr F hX hbl hbA (l_in6 (c := 1) rfl (by decide) hi hL) dL_law_1029 ?_
  refine z_aload_n F dL_law_1030 rfl ?_
  refine z_iload_n F dL_law_1031 rfl ?_
  refine z_iconst (v := 2) F dL_law_1032 (by decide) ?_
  refine z_iadd F dL_law_1033 ?_
  refine z_scr F hX hbl hbA (l_in6 (c := 2) rfl (by decide) hi hL) dL_law_1034 ?_
  refine z_aload_n F dL_law_1035 rfl ?_
  refine z_iload_n F dL_law_1036 rfl ?_
  refine z_iconst (v := 3) F dL_law_1037 (by decide) ?_
  refine z_iadd F dL_law_1038 ?_
  refine z_scr F hX hbl hbA (l_in6 (c := 3) rfl (by decide) hi hL) dL_law_1039 ?_
  refine z_callVi F (q7_sheet J S) zm_X7_sheet zv_X7_sheet ml_L_138 (show zk 0 = 7 by decide) (by decide) rfl rfl rfl (Nat.le_of_ble_eq_true rfl) dL_law_1040 (by omega) (fun r1 M2 h1 => ?_)
  refine z_pop F dL_law_1043 rfl ?_
  refine z_aload_n F dL_law_1044 rfl ?_
  refine z_aload_n F dL_law_1045 rfl ?_
  refine z_iload_n F dL_law_1046 rfl ?_
  refine z_iconst (v := 1) F dL_law_1047 (by decide) ?_
  refine z_iadd F dL_law_1048 ?_
  refine z_scr F hX hbl hbA (l_in6 (c := 1) rfl (by decide) hi hL) dL_law_1049 ?_
  refine z_aload_n F dL_law_1050 rfl ?_
  refine z_iload_n F dL_law_1051 rfl ?_
  refine z_iconst (v := 2) F dL_law_1052 (by decide) ?_
  refine z_iadd F dL_law_1053 ?_
  refine z_scr F hX hbl hbA (l_in6 (c := 2) rfl (by decide) hi hL) dL_law_1054 ?_
  refine z_aload_n F dL_law_1055 rfl ?_
  refine z_iload_n F dL_law_1056 rfl ?_
  refine z_iconst (v := 3) F dL_law_1057 (by decide) ?_
  refine z_iadd F dL_law_1058 ?_
  refine z_scr F hX hbl hbA (l_in6 (c := 3) rfl (by decide) hi hL) dL_law_1059 ?_
  refine z_callVi F (q8_sheet J h1) zm_X8_sheet zv_X8_sheet ml_L_141 (show zk 138 = 8 by decide) (by decide) rfl rfl rfl (Nat.le_of_ble_eq_true rfl) dL_law_1060 (by omega) (fun r2 M3 h2 => ?_)
  obtain ⟨S3, e⟩ := h2
  refine z_pop F dL_law_1063 rfl ?_
  exact z_goto (tgt := 1236) F dL_law_1064 (by decide) (K _ S3)
theorem lc_drop {w : zE} {g : zG} {b L i : Nat} {xs : Nat → Int32} {M : zM} (F : zF w g RL cL_law 4 1000) (J : zJ w) (hX : va_X b L xs g.2.1.1 g.2.1.1.heap) (hbl : b < g.2.1.1.heap.size) (hbA : ¬ g.2.2.2.1 b) (hi : i + 6 ≤ L) (hL : L ≤ 3072) (S : Sim M) (K : ∀ M, Sim M → ZW w g 4 1236 [some (.ref b), some (.ref (w.2.2 0)), some (.ref (w.2.2 138)), some (.int (nI i))] [] M) : ZW w g 4 1067 [some (.ref b), some (.ref (w.2.2 0)), some (.ref (w.2.2 138)), some (.int (nI i))] [] M := by
  refine z_aload_n F dL_law_1067 rfl ?_
  refine z_aload_n F dL_law_1068 rfl ?_
  refine z_iload_n F dL_law_1069 rfl ?_
  refine z_iconst (v := 1) F dL_law_1070 (by decide) ?_
  refine z_iadd F dL_law_1071 ?_
  refine z_scr F hX hbl hbA (l_in6 (c := 1) rfl (by decide) hi hL) dL_law_1072 ?_
  refine z_callVi F (q7_drop J S) zm_X7_drop zv_X7_drop ml_L_142 (show zk 0 = 7 by decide) (by decide) rfl rfl rfl (Nat.le_of_ble_eq_true rfl) dL_law_1073 (by omega) (fun r1 M2 h1 => ?_)
  refine z_pop F dL_law_1076 rfl ?_
  refine z_aload_n F dL_law_1077 rfl ?_
  refine z_aload_n F dL_law_1078 rfl ?_
  refine z_iload_n F dL_law_1079 rfl ?_
  refine z_iconst (v := 1) F dL_law_1080 (by decide) ?_
  refine z_iadd F dL_law_1081 ?_
  refine z_scr F hX hbl hbA (l_in6 (c := 1) rfl (by decide) hi hL) dL_law_1082 ?_
  refine z_callVi F (q8_drop J h1) zm_X8_drop zv_X8_drop ml_L_145 (show zk 138 = 8 by decide) (by decide) rfl rfl rfl (Nat.le_of_ble_eq_true rfl) dL_law_1083 (by omega) (fun r2 M3 h2 => ?_)
  obtain ⟨S3, e⟩ := h2
  refine z_pop F dL_law_1086 rfl ?_
  exact z_goto (tgt := 1236) F dL_law_1087 (by decide) (K _ S3)
theorem lc_item {w : zE} {g : zG} {b L i : Nat} {xs : Nat → Int32} {M : zM} (F : zF w g RL cL_law 4 1000) (J : zJ w) (hX : va_X b L xs g.2.1.1 g.2.1.1.heap) (hbl : b < g.2.1.1.heap.size) (hbA : ¬ g.2.2.2.1 b) (hi : i + 6 ≤ L) (hL : L ≤ 3072) (S : Sim M) (K : ∀ M, Sim M → ZW w g 4 1236 [some (.ref b), some (.ref (w.2.2 0)), some (.ref (w.2.2 138)), some (.int (nI i))] [] M) : ZW w g 4 1090 [some (.ref b), some (.ref (w.2.2 0)), some (.ref (w.2.2 138)), some (.int (nI i))] [] M := by
  refine z_aload_n F dL_law_1090 rfl ?_
  refine z_aload_n F dL_law_1091 rfl ?_
  refine z_iload_n F dL_law_1092 rfl ?_
  refine z_iconst (v := 1) F dL_law_1093 (by decide) ?_
  refine z_iadd F dL_law_1094 ?_
  refine z_scr F hX hbl hbA (l_in6 (c := 1) rfl (by decide) hi hL) dL_law_1095 ?_
  refine z_aload_n F dL_law_1096 rfl ?_
  refine z_iload_n F dL_law_1097 rfl ?_
  refine z_iconst (v := 2) F dL_law_1098 (by decide) ?_
  refine z_iadd F dL_law_1099 ?_
  refine z_scr F hX hbl hbA (l_in6 (c := 2) rfl (by decide) hi hL) dL_law_1100 ?_
  refine z_aload_n F dL_law_1101 rfl ?_
  refine z_iload_n F dL_law_1102 rfl ?_
  refine z_iconst (v := 3) F dL_law_1103 (by decide) ?_
  refine z_iadd F dL_law_1104 ?_
  refine z_scr F hX hbl hbA (l_in6 (c := 3) rfl (by decide) hi hL) dL_law_1105 ?_
  refine z_aload_n F dL_law_1106 rfl ?_
  refine z_iload_n F dL_law_1107 rfl ?_
  refine z_iconst (v := 4) F dL_law_1108 (by decide) ?_
  refine z_iadd F dL_law_1109 ?_
  refine z_scr F hX hbl hbA (l_in6 (c := 4) rfl (by decide) hi hL) dL_law_1110 ?_
  refine z_i2l F dL_law_1111 ?_
  refine z_bipush (v := 32) F dL_law_1112 (by decide) ?_
  refine z_lshl F dL_law_1114 ?_
  refine z_aload_n F dL_law_1115 rfl ?_
  refine z_iload_n F dL_law_1116 rfl ?_
  refine z_iconst (v := 5) F dL_law_1117 (by decide) ?_
  refine z_iadd F dL_law_1118 ?_
  refine z_scr F hX hbl hbA (l_in6 (c := 5) rfl (by decide) hi hL) dL_law_1119 ?_
  refine z_i2l F dL_law_1120 ?_
  refine z_ldc2 F dL_law_1121 cl_L_146 ?_
  refine z_land F dL_law_1124 ?_
  refine z_lor F dL_law_1125 ?_
  refine z_callVi F (q7_item J S) zm_X7_item zv_X7_item ml_L_148 (show zk 0 = 7 by decide) (by decide) rfl rfl rfl (Nat.le_of_ble_eq_true rfl) dL_law_1126 (by omega) (fun r1 M2 h1 => ?_)
  refine z_pop F dL_law_1129 rfl ?_
  refine z_aload_n F dL_law_1130 rfl ?_
  refine z_aload_n F dL_law_1131 rfl ?_
  refine z_iload_n F dL_law_1132 rfl ?_
  refine z_iconst (v := 1) F dL_law_1133 (by decide) ?_
  refine z_iadd F dL_law_1134 ?_
  refine z_scr F hX hbl hbA (l_in6 (c := 1) rfl (by decide) hi hL) dL_law_1135 ?_
  refine z_aload_n F dL_law_1136 rfl ?_
  refine z_iload_n F dL_law_1137 rfl ?_
  refine z_iconst (v := 2) F dL_law_1138 (by decide) ?_
  refine z_iadd F dL_law_1139 ?_
  refine z_scr F hX hbl hbA (l_in6 (c := 2) rfl (by decide) hi hL) dL_law_1140 ?_
  refine z_aload_n F dL_law_1141 rfl ?_
  refine z_iload_n F dL_law_1142 rfl ?_
  refine z_iconst (v := 3) F dL_law_1143 (by decide) ?_
  refine z_iadd F dL_law_1144 ?_
  refine z_scr F hX hbl hbA (l_in6 (c := 3) rfl (by decide) hi hL) dL_law_1145 ?_
  refine z_aload_n F dL_law_1146 rfl ?_
  refine z_iload_n F dL_law_1147 rfl ?_
  refine z_iconst (v := 4) F dL_law_1148 (by decide) ?_
  refine z_iadd F dL_law_1149 ?_
  refine z_scr F hX hbl hbA (l_in6 (c := 4) rfl (by decide) hi hL) dL_law_1150 ?_
  refine z_i2l F dL_law_1151 ?_
  refine z_bipush (v := 32) F dL_law_1152 (by decide) ?_
  refine z_lshl F dL_law_1154 ?_
  refine z_aload_n F dL_law_1155 rfl ?_
  refine z_iload_n F dL_law_1156 rfl ?_
  refine z_iconst (v := 5) F dL_law_1157 (by decide) ?_
  refine z_iadd F dL_law_1158 ?_
  refine z_scr F hX hbl hbA (l_in6 (c := 5) rfl (by decide) hi hL) dL_law_1159 ?_
  refine z_i2l F dL_law_1160 ?_
  refine z_ldc2 F dL_law_1161 cl_L_146 ?_
  refine z_land F dL_law_1164 ?_
  refine z_lor F dL_law_1165 ?_
  refine z_callVi F (q8_item J h1) zm_X8_item zv_X8_item ml_L_152 (show zk 138 = 8 by decide) (by decide) rfl rfl rfl (Nat.le_of_ble_eq_true rfl) dL_law_1166 (by omega) (fun r2 M3 h2 => ?_)
  obtain ⟨S3, e⟩ := h2
  refine z_pop F dL_law_1169 rfl ?_
  exact z_goto (tgt := 1236) F dL_law_1170 (by decide) (K _ S3)
theorem lc_copy {w : zE} {g : zG} {b L i : Nat} {xs : Nat → Int32} {M : zM} (F : zF w g RL cL_law 4 1000) (J : zJ w) (hX : va_X b L xs g.2.1.1 g.2.1.1.heap) (hbl : b < g.2.1.1.heap.size) (hbA : ¬ g.2.2.2.1 b) (hi : i + 6 ≤ L) (hL : L ≤ 3072) (S : Sim M) (K : ∀ M, Sim M → ZW w g 4 1236 [some (.ref b), some (.ref (w.2.2 0)), some (.ref (w.2.2 138)), some (.int (nI i))] [] M) : ZW w g 4 1173 [some (.ref b), some (.ref (w.2.2 0)), some (.ref (w.2.2 138)), some (.int (nI i))] [] M := by
  refine z_aload_n F dL_law_1173 rfl ?_
  refine z_aload_n F dL_law_1174 rfl ?_
  refine z_iload_n F dL_law_1175 rfl ?_
  refine z_iconst (v := 1) F dL_law_1176 (by decide) ?_
  refine z_iadd F dL_law_1177 ?_
  refine z_scr F hX hbl hbA (l_in6 (c := 1) rfl (by decide) hi hL) dL_law_1178 ?_
  refine z_aload_n F dL_law_1179 rfl ?_
  refine z_iload_n F dL_law_1180 rfl ?_
  refine z_iconst (v := 2) F dL_law_1181 (by decide) ?_
  refine z_iadd F dL_law_1182 ?_
  refine z_scr F hX hbl hbA (l_in6 (c := 2) rfl (by decide) hi hL) dL_law_1183 ?_
  refine z_aload_n F dL_law_1184 rfl ?_
  refine z_iload_n F dL_law_1185 rfl ?_
  refine z_iconst (v := 3) F dL_law_1186 (by decide) ?_
  refine z_iadd F dL_law_1187 ?_
  refine z_scr F hX hbl hbA (l_in6 (c := 3) rfl (by decide) hi hL) dL_law_1188 ?_
  refine z_aload_n F dL_law_1189 rfl ?_
  refine z_iload_n F dL_law_1190 rfl ?_
  refine z_iconst (v := 4) F dL_law_1191 (by decide) ?_
  refine z_iadd F dL_law_1192 ?_
  refine z_scr F hX hbl hbA (l_in6 (c := 4) rfl (by decide) hi hL) dL_law_1193 ?_
  refine z_aload_n F dL_law_1194 rfl ?_
  refine z_iload_n F dL_law_1195 rfl ?_
  refine z_iconst (v := 5) F dL_law_1196 (by decide) ?_
  refine z_iadd F dL_law_1197 ?_
  refine z_scr F hX hbl hbA (l_in6 (c := 5) rfl (by decide) hi hL) dL_law_1198 ?_
  refine z_callVi F (q7_copy J S) zm_X7_copy zv_X7_copy ml_L_153 (show zk 0 = 7 by decide) (by decide) rfl rfl rfl (Nat.le_of_ble_eq_true rfl) dL_law_1199 (by omega) (fun r1 M2 h1 => ?_)
  refine z_pop F dL_law_1202 rfl ?_
  refine z_aload_n F dL_law_1203 rfl ?_
  refine z_aload_n F dL_law_1204 rfl ?_
  refine z_iload_n F dL_law_1205 rfl ?_
  refine z_iconst (v := 1) F dL_law_1206 (by decide) ?_
  refine z_iadd F dL_law_1207 ?_
  refine z_scr F hX hbl hbA (l_in6 (c := 1) rfl (by decide) hi hL) dL_law_1208 ?_
  refine z_aload_n F dL_law_1209 rfl ?_
  refine z_iload_n F dL_law_1210 rfl ?_
  refine z_iconst (v := 2) F dL_law_1211 (by decide) ?_
  refine z_iadd F dL_law_1212 ?_
  refine z_scr F hX hbl hbA (l_in6 (c := 2) rfl (by decide) hi hL) dL_law_1213 ?_
  refine z_aload_n F dL_law_1214 rfl ?_
  refine z_iload_n F dL_law_1215 rfl ?_
  refine z_iconst (v := 3) F dL_law_1216 (by decide) ?_
  refine z_iadd F dL_law_1217 ?_
  refine z_scr F hX hbl hbA (l_in6 (c := 3) rfl (by decide) hi hL) dL_law_1218 ?_
  refine z_aload_n F dL_law_1219 rfl ?_
  refine z_iload_n F dL_law_1220 rfl ?_
  refine z_iconst (v := 4) F dL_law_1221 (by decide) ?_
  refine z_iadd F dL_law_1222 ?_
  refine z_scr F hX hbl hbA (l_in6 (c := 4) rfl (by decide) hi hL) dL_law_1223 ?_
  refine z_aload_n F dL_law_1224 rfl ?_
  refine z_iload_n F dL_law_1225 rfl ?_
  refine z_iconst (v := 5) F dL_law_1226 (by decide) ?_
  refine z_iadd F dL_law_1227 ?_
  refine z_scr F hX hbl hbA (l_in6 (c := 5) rfl (by decide) hi hL) dL_law_1228 ?_
  refine z_callVi F (q8_copy J h1) zm_X8_copy zv_X8_copy ml_L_157 (show zk 138 = 8 by decide) (by decide) rfl rfl rfl (Nat.le_of_ble_eq_true rfl) dL_law_1229 (by omega) (fun r2 M3 h2 => ?_)
  obtain ⟨S3, e⟩ := h2
  refine z_pop F dL_law_1232 rfl ?_
  exact z_goto (tgt := 1236) F dL_law_1233 (by decide) (K _ S3)
