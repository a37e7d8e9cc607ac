theorem zlc_ingredient {X : zX} {l : Launch} {g : zG} {b L i : Nat} {xs : Nat → Int32} {B : Int} {mem : zM} (hG : zGood X l g RL cL_law 12 4) (hX : zLx X b L xs) (hi : i + 4 ≤ L) (hH : zHd B mem) (hB : B ≤ 11900000) (hK : ∀ m2, zHd (B + 22000) m2 → zU X b 920 i [] m2) : zU X b 152 i [] mem := by
  obtain ⟨ans, hM⟩ := zpr_ingredient l g (d := (xs (i + 1)).toInt) hH hB
  refine zu_a1 hG dL_law_152 ?_
  refine zu_s hG hX 1 rfl (by omega) dL_law_153 dL_law_154 dL_law_155 dL_law_156 dL_law_157 ?_
  refine zu_call hG hX dL_law_158 LV_L_13 hM (by decide) rfl rfl rfl (Nat.le_of_ble_eq_true rfl) (fun v m1 h1 => ?_)
  obtain ⟨rfl, hM2⟩ := h1
  refine zu_a2 hG dL_law_161 ?_
  refine zu_s hG hX 1 rfl (by omega) dL_law_162 dL_law_163 dL_law_164 dL_law_165 dL_law_166 ?_
  refine zu_call hG hX dL_law_167 LV_L_17 hM2 (by decide) rfl rfl rfl (Nat.le_of_ble_eq_true rfl) (fun v m2 h2 => ?_)
  obtain ⟨rfl, hH2⟩ := h2
  exact zu_eq hG dL_law_170 (tgt := 920) rfl (hK m2 hH2)
theorem zlc_tin {X : zX} {l : Launch} {g : zG} {b L i : Nat} {xs : Nat → Int32} {B : Int} {mem : zM} (hG : zGood X l g RL cL_law 12 4) (hX : zLx X b L xs) (hi : i + 4 ≤ L) (hH : zHd B mem) (hB : B ≤ 11900000) (hK : ∀ m2, zHd (B + 22000) m2 → zU X b 920 i [] m2) : zU X b 175 i [] mem := by
  obtain ⟨ans, hM⟩ := zpr_tin l g (i := (xs (i + 1)).toInt) (z := (xs (i + 2)).toInt) (p := (xs (i + 3)).toInt) hH hB
  refine zu_a1 hG dL_law_175 ?_
  refine zu_s hG hX 1 rfl (by omega) dL_law_176 dL_law_177 dL_law_178 dL_law_179 dL_law_180 ?_
  refine zu_s hG hX 2 rfl (by omega) dL_law_181 dL_law_182 dL_law_183 dL_law_184 dL_law_185 ?_
  refine zu_s hG hX 3 rfl (by omega) dL_law_186 dL_law_187 dL_law_188 dL_law_189 dL_law_190 ?_
  refine zu_call hG hX dL_law_191 LV_L_18 hM (by decide) rfl rfl rfl (Nat.le_of_ble_eq_true rfl) (fun v m1 h1 => ?_)
  obtain ⟨rfl, hM2⟩ := h1
  refine zu_a2 hG dL_law_194 ?_
  refine zu_s hG hX 1 rfl (by omega) dL_law_195 dL_law_196 dL_law_197 dL_law_198 dL_law_199 ?_
  refine zu_s hG hX 2 rfl (by omega) dL_law_200 dL_law_201 dL_law_202 dL_law_203 dL_law_204 ?_
  refine zu_s hG hX 3 rfl (by omega) dL_law_205 dL_law_206 dL_law_207 dL_law_208 dL_law_209 ?_
  refine zu_call hG hX dL_law_210 LV_L_22 hM2 (by decide) rfl rfl rfl (Nat.le_of_ble_eq_true rfl) (fun v m2 h2 => ?_)
  obtain ⟨rfl, hH2⟩ := h2
  exact zu_eq hG dL_law_213 (tgt := 920) rfl (hK m2 hH2)
theorem zlc_buyable {X : zX} {l : Launch} {g : zG} {b L i : Nat} {xs : Nat → Int32} {B : Int} {mem : zM} (hG : zGood X l g RL cL_law 12 4) (hX : zLx X b L xs) (hi : i + 4 ≤ L) (hH : zHd B mem) (hB : B ≤ 11900000) (hK : ∀ m2, zHd (B + 22000) m2 → zU X b 920 i [] m2) : zU X b 218 i [] mem := by
  obtain ⟨ans, hM⟩ := zpr_buyable l g (i := (xs (i + 1)).toInt) (x := (xs (i + 2)).toInt) hH hB
  refine zu_a1 hG dL_law_218 ?_
  refine zu_s hG hX 1 rfl (by omega) dL_law_219 dL_law_220 dL_law_221 dL_law_222 dL_law_223 ?_
  refine zu_s hG hX 2 rfl (by omega) dL_law_224 dL_law_225 dL_law_226 dL_law_227 dL_law_228 ?_
  refine zu_call hG hX dL_law_229 LV_L_23 hM (by decide) rfl rfl rfl (Nat.le_of_ble_eq_true rfl) (fun v m1 h1 => ?_)
  obtain ⟨rfl, hM2⟩ := h1
  refine zu_a2 hG dL_law_232 ?_
  refine zu_s hG hX 1 rfl (by omega) dL_law_233 dL_law_234 dL_law_235 dL_law_236 dL_law_237 ?_
  refine zu_s hG hX 2 rfl (by omega) dL_law_238 dL_law_239 dL_law_240 dL_law_241 dL_law_242 ?_
  refine zu_call hG hX dL_law_243 LV_L_27 hM2 (by decide) rfl rfl rfl (Nat.le_of_ble_eq_true rfl) (fun v m2 h2 => ?_)
  obtain ⟨rfl, hH2⟩ := h2
  exact zu_eq hG dL_law_246 (tgt := 920) rfl (hK m2 hH2)
theorem zlc_substitute {X : zX} {l : Launch} {g : zG} {b L i : Nat} {xs : Nat → Int32} {B : Int} {mem : zM} (hG : zGood X l g RL cL_law 12 4) (hX : zLx X b L xs) (hi : i + 4 ≤ L) (hH : zHd B mem) (hB : B ≤ 11900000) (hK : ∀ m2, zHd (B + 22000) m2 → zU X b 920 i [] m2) : zU X b 251 i [] mem := by
  obtain ⟨ans, hM⟩ := zpr_substitute l g (i := (xs (i + 1)).toInt) (o := (xs (i + 2)).toInt) (q := (xs (i + 3)).toInt) hH hB
  refine zu_a1 hG dL_law_251 ?_
  refine zu_s hG hX 1 rfl (by omega) dL_law_252 dL_law_253 dL_law_254 dL_law_255 dL_law_256 ?_
  refine zu_s hG hX 2 rfl (by omega) dL_law_257 dL_law_258 dL_law_259 dL_law_260 dL_law_261 ?_
  refine zu_s hG hX 3 rfl (by omega) dL_law_262 dL_law_263 dL_law_264 dL_law_265 dL_law_266 ?_
  refine zu_call hG hX dL_law_267 LV_L_28 hM (by decide) rfl rfl rfl (Nat.le_of_ble_eq_true rfl) (fun v m1 h1 => ?_)
  obtain ⟨rfl, hM2⟩ := h1
  refine zu_a2 hG dL_law_270 ?_
  refine zu_s hG hX 1 rfl (by omega) dL_law_271 dL_law_272 dL_law_273 dL_law_274 dL_law_275 ?_
  refine zu_s hG hX 2 rfl (by omega) dL_law_276 dL_law_277 dL_law_278 dL_law_279 dL_law_280 ?_
  refine zu_s hG hX 3 rfl (by omega) dL_law_281 dL_law_282 dL_law_283 dL_law_284 dL_law_285 ?_
  refine zu_call hG hX dL_law_286 LV_L_31 hM2 (by decide) rfl rfl rfl (Nat.le_of_ble_eq_true rfl) (fun v m2 h2 => ?_)
  obtain ⟨rfl, hH2⟩ := h2
  exact zu_eq hG dL_law_289 (tgt := 920) rfl (hK m2 hH2)
theorem zlc_stock {X : zX} {l : Launch} {g : zG} {b L i : Nat} {xs : Nat → Int32} {B : Int} {mem : zM} (hG : zGood X l g RL cL_law 12 4) (hX : zLx X b L xs) (hi : i + 4 ≤ L) (hH : zHd B mem) (hB : B ≤ 11900000) (hK : ∀ m2, zHd (B + 22000) m2 → zU X b 920 i [] m2) : zU X b 294 i [] mem := by
  obtain ⟨ans, hM⟩ := zpr_stock l g (i := (xs (i + 1)).toInt) (x := (xs (i + 2)).toInt) hH hB
  refine zu_a1 hG dL_law_294 ?_
  refine zu_s hG hX 1 rfl (by omega) dL_law_295 dL_law_296 dL_law_297 dL_law_298 dL_law_299 ?_
  refine zu_s hG hX 2 rfl (by omega) dL_law_300 dL_law_301 dL_law_302 dL_law_303 dL_law_304 ?_
  refine zu_call hG hX dL_law_305 LV_L_32 hM (by decide) rfl rfl rfl (Nat.le_of_ble_eq_true rfl) (fun v m1 h1 => ?_)
  obtain ⟨rfl, hM2⟩ := h1
  refine zu_a2 hG dL_law_308 ?_
  refine zu_s hG hX 1 rfl (by omega) dL_law_309 dL_law_310 dL_law_311 dL_law_312 dL_law_313 ?_
  refine zu_s hG hX 2 rfl (by omega) dL_law_314 dL_law_315 dL_law_316 dL_law_317 dL_law_318 ?_
  refine zu_call hG hX dL_law_319 LV_L_35 hM2 (by decide) rfl rfl rfl (Nat.le_of_ble_eq_true rfl) (fun v m2 h2 => ?_)
  obtain ⟨rfl, hH2⟩ := h2
  exact zu_eq hG dL_law_322 (tgt := 920) rfl (hK m2 hH2)
theorem zlc_recipe {X : zX} {l : Launch} {g : zG} {b L i : Nat} {xs : Nat → Int32} {B : Int} {mem : zM} (hG : zGood X l g RL cL_law 12 4) (hX : zLx X b L xs) (hi : i + 4 ≤ L) (hH : zHd B mem) (hB : B ≤ 11900000) (hK : ∀ m2, zHd (B + 22000) m2 → zU X b 920 i [] m2) : zU X b 327 i [] mem := by
  obtain ⟨ans, hM⟩ := zpr_recipe l g  hH hB
  refine zu_a1 hG dL_law_327 ?_
  refine zu_call hG hX dL_law_328 LV_L_36 hM (by decide) rfl rfl rfl (Nat.le_of_ble_eq_true rfl) (fun v m1 h1 => ?_)
  obtain ⟨rfl, hM2⟩ := h1
  refine zu_a2 hG dL_law_331 ?_
  refine zu_call hG hX dL_law_332 LV_L_40 hM2 (by decide) rfl rfl rfl (Nat.le_of_ble_eq_true rfl) (fun v m2 h2 => ?_)
  obtain ⟨rfl, hH2⟩ := h2
  exact zu_eq hG dL_law_335 (tgt := 920) rfl (hK m2 hH2)
theorem zlc_amount {X : zX} {l : Launch} {g : zG} {b L i : Nat} {xs : Nat → Int32} {B : Int} {mem : zM} (hG : zGood X l g RL cL_law 12 4) (hX : zLx X b L xs) (hi : i + 4 ≤ L) (hH : zHd B mem) (hB : B ≤ 11900000) (hK : ∀ m2, zHd (B + 22000) m2 → zU X b 920 i [] m2) : zU X b 340 i [] mem := by
  obtain ⟨ans, hM⟩ := zpr_amount l g (r := (xs (i + 1)).toInt) (i := (xs (i + 2)).toInt) (x := (xs (i + 3)).toInt) hH hB
  refine zu_a1 hG dL_law_340 ?_
  refine zu_s hG hX 1 rfl (by omega) dL_law_341 dL_law_342 dL_law_343 dL_law_344 dL_law_345 ?_
  refine zu_s hG hX 2 rfl (by omega) dL_law_346 dL_law_347 dL_law_348 dL_law_349 dL_law_350 ?_
  refine zu_s hG hX 3 rfl (by omega) dL_law_351 dL_law_352 dL_law_353 dL_law_354 dL_law_355 ?_
  refine zu_call hG hX dL_law_356 LV_L_41 hM (by decide) rfl rfl rfl (Nat.le_of_ble_eq_true rfl) (fun v m1 h1 => ?_)
  obtain ⟨rfl, hM2⟩ := h1
  refine zu_a2 hG dL_law_359 ?_
  refine zu_s hG hX 1 rfl (by omega) dL_law_360 dL_law_361 dL_law_362 dL_law_363 dL_law_364 ?_
  refine zu_s hG hX 2 rfl (by omega) dL_law_365 dL_law_366 dL_law_367 dL_law_368 dL_law_369 ?_
  refine zu_s hG hX 3 rfl (by omega) dL_law_370 dL_law_371 dL_law_372 dL_law_373 dL_law_374 ?_
  refine zu_call hG hX dL_law_375 LV_L_44 hM2 (by decide) rfl rfl rfl (Nat.le_of_ble_eq_true rfl) (fun v m2 h2 => ?_)
  obtain ⟨rfl, hH2⟩ := h2
  exact zu_eq hG dL_law_378 (tgt := 920) rfl (hK m2 hH2)
theorem zlc_menu {X : zX} {l : Launch} {g : zG} {b L i : Nat} {xs : Nat → Int32} {B : Int} {mem : zM} (hG : zGood X l g RL cL_law 12 4) (hX : zLx X b L xs) (hi : i + 4 ≤ L) (hH : zHd B mem) (hB : B ≤ 11900000) (hK : ∀ m2, zHd (B + 22000) m2 → zU X b 920 i [] m2) : zU X b 383 i [] mem := by
  obtain ⟨ans, hM⟩ := zpr_menu l g (r := (xs (i + 1)).toInt) (p := (xs (i + 2)).toInt) hH hB
  refine zu_a1 hG dL_law_383 ?_
  refine zu_s hG hX 1 rfl (by omega) dL_law_384 dL_law_385 dL_law_386 dL_law_387 dL_law_388 ?_
  refine zu_s hG hX 2 rfl (by omega) dL_law_389 dL_law_390 dL_law_391 dL_law_392 dL_law_393 ?_
  refine zu_call hG hX dL_law_394 LV_L_45 hM (by decide) rfl rfl rfl (Nat.le_of_ble_eq_true rfl) (fun v m1 h1 => ?_)
  obtain ⟨rfl, hM2⟩ := h1
  refine zu_a2 hG dL_law_397 ?_
  refine zu_s hG hX 1 rfl (by omega) dL_law_398 dL_law_399 dL_law_400 dL_law_401 dL_law_402 ?_
  refine zu_s hG hX 2 rfl (by omega) dL_law_403 dL_law_404 dL_law_405 dL_law_406 dL_law_407 ?_
  refine zu_call hG hX dL_law_408 LV_L_48 hM2 (by decide) rfl rfl rfl (Nat.le_of_ble_eq_true rfl) (fun v m2 h2 => ?_)
  obtain ⟨rfl, hH2⟩ := h2
  exact zu_eq hG dL_law_411 (tgt := 920) rfl (hK m2 hH2)
theorem zlc_hands {X : zX} {l : Launch} {g : zG} {b L i : Nat} {xs : Nat → Int32} {B : Int} {mem : zM} (hG : zGood X l g RL cL_law 12 4) (hX : zLx X b L xs) (hi : i + 4 ≤ L) (hH : zHd B mem) (hB : B ≤ 11900000) (hK : ∀ m2, zHd (B + 22000) m2 → zU X b 920 i [] m2) : zU X b 416 i [] mem := by
  obtain ⟨ans, hM⟩ := zpr_hands l g (x := (xs (i + 1)).toInt) hH hB
  refine zu_a1 hG dL_law_416 ?_
  refine zu_s hG hX 1 rfl (by omega) dL_law_417 dL_law_418 dL_law_419 dL_law_420 dL_law_421 ?_
  refine zu_call hG hX dL_law_422 LV_L_49 hM (by decide) rfl rfl rfl (Nat.le_of_ble_eq_true rfl) (fun v m1 h1 => ?_)
  obtain ⟨rfl, hM2⟩ := h1
  refine zu_a2 hG dL_law_425 ?_
  refine zu_s hG hX 1 rfl (by omega) dL_law_426 dL_law_427 dL_law_428 dL_law_429 dL_law_430 ?_
  refine zu_call hG hX dL_law_431 LV_L_52 hM2 (by decide) rfl rfl rfl (Nat.le_of_ble_eq_true rfl) (fun v m2 h2 => ?_)
  obtain ⟨rfl, hH2⟩ := h2
  exact zu_eq hG dL_law_434 (tgt := 920) rfl (hK m2 hH2)
theorem zlc_cook {X : zX} {l : Launch} {g : zG} {b L i : Nat} {xs : Nat → Int32} {B : Int} {mem : zM} (hG : zGood X l g RL cL_law 12 4) (hX : zLx X b L xs) (hi : i + 4 ≤ L) (hH : zHd B mem) (hB : B ≤ 11900000) (hK : ∀ m2, zHd (B + 22000) m2 → zU X b 920 i [] m2) : zU X b 439 i [] mem := by
  obtain ⟨ans, hM⟩ := zpr_cook l g  hH hB
  refine zu_a1 hG dL_law_439 ?_
  refine zu_call hG hX dL_law_440 LV_L_53 hM (by decide) rfl rfl rfl (Nat.le_of_ble_eq_true rfl) (fun v m1 h1 => ?_)
  obtain ⟨rfl, hM2⟩ := h1
  refine zu_a2 hG dL_law_443 ?_
  refine zu_call hG hX dL_law_444 LV_L_56 hM2 (by decide) rfl rfl rfl (Nat.le_of_ble_eq_true rfl) (fun v m2 h2 => ?_)
  obtain ⟨rfl, hH2⟩ := h2
  exact zu_eq hG dL_law_447 (tgt := 920) rfl (hK m2 hH2)
theorem zlc_pass {X : zX} {l : Launch} {g : zG} {b L i : Nat} {xs : Nat → Int32} {B : Int} {mem : zM} (hG : zGood X l g RL cL_law 12 4) (hX : zLx X b L xs) (hi : i + 4 ≤ L) (hH : zHd B mem) (hB : B ≤ 11900000) (hK : ∀ m2, zHd (B + 22000) m2 → zU X b 920 i [] m2) : zU X b 452 i [] mem := by
  obtain ⟨ans, hM⟩ := zpr_pass l g (d := (xs (i + 1)).toInt) hH hB
  refine zu_a1 hG dL_law_452 ?_
  refine zu_s hG hX 1 rfl (by omega) dL_law_453 dL_law_454 dL_law_455 dL_law_456 dL_law_457 ?_
  refine zu_call hG hX dL_law_458 LV_L_57 hM (by decide) rfl rfl rfl (Nat.le_of_ble_eq_true rfl) (fun v m1 h1 => ?_)
  obtain ⟨rfl, hM2⟩ := h1
  refine zu_a2 hG dL_law_461 ?_
  refine zu_s hG hX 1 rfl (by omega) dL_law_462 dL_law_463 dL_law_464 dL_law_465 dL_law_466 ?_
  refine zu_call hG hX dL_law_467 LV_L_60 hM2 (by decide) rfl rfl rfl (Nat.le_of_ble_eq_true rfl) (fun v m2 h2 => ?_)
  obtain ⟨rfl, hH2⟩ := h2
  exact zu_eq hG dL_law_470 (tgt := 920) rfl (hK m2 hH2)
theorem zlc_about {X : zX} {l : Launch} {g : zG} {b L i : Nat} {xs : Nat → Int32} {B : Int} {mem : zM} (hG : zGood X l g RL cL_law 12 4) (hX : zLx X b L xs) (hi : i + 4 ≤ L) (hH : zHd B mem) (hB : B ≤ 11900000) (hK : ∀ m2, zHd (B + 22000) m2 → zU X b 920 i [] m2) : zU X b 475 i [] mem := by
  obtain ⟨ans, hM⟩ := zpr_about l g (i := (xs (i + 1)).toInt) (w := (xs (i + 2)).toInt) hH hB
  refine zu_a1 hG dL_law_475 ?_
  refine zu_s hG hX 1 rfl (by omega) dL_law_476 dL_law_477 dL_law_478 dL_law_479 dL_law_480 ?_
  refine zu_s hG hX 2 rfl (by omega) dL_law_481 dL_law_482 dL_law_483 dL_law_484 dL_law_485 ?_
  refine zu_call hG hX dL_law_486 LV_L_61 hM (by decide) rfl rfl rfl (Nat.le_of_ble_eq_true rfl) (fun v m1 h1 => ?_)
  obtain ⟨rfl, hM2⟩ := h1
  refine zu_a2 hG dL_law_489 ?_
  refine zu_s hG hX 1 rfl (by omega) dL_law_490 dL_law_491 dL_law_492 dL_law_493 dL_law_494 ?_
  refine zu_s hG hX 2 rfl (by omega) dL_law_495 dL_law_496 dL_law_497 dL_law_498 dL_law_499 ?_
  refine zu_call hG hX dL_law_500 LV_L_64 hM2 (by decide) rfl rfl rfl (Nat.le_of_ble_eq_true rfl) (fun v m2 h2 => ?_)
  obtain ⟨rfl, hH2⟩ := h2
  exact zu_eq hG dL_law_503 (tgt := 920) rfl (hK m2 hH2)
theorem zlc_ofTin {X : zX} {l : Launch} {g : zG} {b L i : Nat} {xs : Nat → Int32} {B : Int} {mem : zM} (hG : zGood X l g RL cL_law 12 4) (hX : zLx X b L xs) (hi : i + 4 ≤ L) (hH : zHd B mem) (hB : B ≤ 11900000) (hK : ∀ m2, zHd (B + 22000) m2 → zU X b 920 i [] m2) : zU X b 508 i [] mem := by
  obtain ⟨ans, hM⟩ := zpr_ofTin l g (i := (xs (i + 1)).toInt) (k := (xs (i + 2)).toInt) (w := (xs (i + 3)).toInt) hH hB
  refine zu_a1 hG dL_law_508 ?_
  refine zu_s hG hX 1 rfl (by omega) dL_law_509 dL_law_510 dL_law_511 dL_law_512 dL_law_513 ?_
  refine zu_s hG hX 2 rfl (by omega) dL_law_514 dL_law_515 dL_law_516 dL_law_517 dL_law_518 ?_
  refine zu_s hG hX 3 rfl (by omega) dL_law_519 dL_law_520 dL_law_521 dL_law_522 dL_law_523 ?_
  refine zu_call hG hX dL_law_524 LV_L_65 hM (by decide) rfl rfl rfl (Nat.le_of_ble_eq_true rfl) (fun v m1 h1 => ?_)
  obtain ⟨rfl, hM2⟩ := h1
  refine zu_a2 hG dL_law_527 ?_
  refine zu_s hG hX 1 rfl (by omega) dL_law_528 dL_law_529 dL_law_530 dL_law_531 dL_law_532 ?_
  refine zu_s hG hX 2 rfl (by omega) dL_law_533 dL_law_534 dL_law_535 dL_law_536 dL_law_537 ?_
  refine zu_s hG hX 3 rfl (by omega) dL_law_538 dL_law_539 dL_law_540 dL_law_541 dL_law_542 ?_
  refine zu_call hG hX dL_law_543 LV_L_68 hM2 (by decide) rfl rfl rfl (Nat.le_of_ble_eq_true rfl) (fun v m2 h2 => ?_)
  obtain ⟨rfl, hH2⟩ := h2
  exact zu_eq hG dL_law_546 (tgt := 920) rfl (hK m2 hH2)
theorem zlc_needs {X : zX} {l : Launch} {g : zG} {b L i : Nat} {xs : Nat → Int32} {B : Int} {mem : zM} (hG : zGood X l g RL cL_law 12 4) (hX : zLx X b L xs) (hi : i + 4 ≤ L) (hH : zHd B mem) (hB : B ≤ 11900000) (hK : ∀ m2, zHd (B + 22000) m2 → zU X b 920 i [] m2) : zU X b 551 i [] mem := by
  obtain ⟨ans, hM⟩ := zpr_needs l g (i := (xs (i + 1)).toInt) (w := (xs (i + 2)).toInt) hH hB
  refine zu_a1 hG dL_law_551 ?_
  refine zu_s hG hX 1 rfl (by omega) dL_law_552 dL_law_553 dL_law_554 dL_law_555 dL_law_556 ?_
  refine zu_s hG hX 2 rfl (by omega) dL_law_557 dL_law_558 dL_law_559 dL_law_560 dL_law_561 ?_
  refine zu_call hG hX dL_law_562 LV_L_69 hM (by decide) rfl rfl rfl (Nat.le_of_ble_eq_true rfl) (fun v m1 h1 => ?_)
  obtain ⟨rfl, hM2⟩ := h1
  refine zu_a2 hG dL_law_565 ?_
  refine zu_s hG hX 1 rfl (by omega) dL_law_566 dL_law_567 dL_law_568 dL_law_569 dL_law_570 ?_
  refine zu_s hG hX 2 rfl (by omega) dL_law_571 dL_law_572 dL_law_573 dL_law_574 dL_law_575 ?_
  refine zu_call hG hX dL_law_576 LV_L_72 hM2 (by decide) rfl rfl rfl (Nat.le_of_ble_eq_true rfl) (fun v m2 h2 => ?_)
  obtain ⟨rfl, hH2⟩ := h2
  exact zu_eq hG dL_law_579 (tgt := 920) rfl (hK m2 hH2)
theorem zlc_step {X : zX} {l : Launch} {g : zG} {b L i : Nat} {xs : Nat → Int32} {B : Int} {mem : zM} (hG : zGood X l g RL cL_law 12 4) (hX : zLx X b L xs) (hi : i + 4 ≤ L) (hH : zHd B mem) (hB : B ≤ 11900000) (hK : ∀ m2, zHd (B + 22000) m2 → zU X b 920 i [] m2) : zU X b 584 i [] mem := by
  obtain ⟨ans, hM⟩ := zpr_step l g (r := (xs (i + 1)).toInt) (k := (xs (i + 2)).toInt) (w := (xs (i + 3)).toInt) hH hB
  refine zu_a1 hG dL_law_584 ?_
  refine zu_s hG hX 1 rfl (by omega) dL_law_585 dL_law_586 dL_law_587 dL_law_588 dL_law_589 ?_
  refine zu_s hG hX 2 rfl (by omega) dL_law_590 dL_law_591 dL_law_592 dL_law_593 dL_law_594 ?_
  refine zu_s hG hX 3 rfl (by omega) dL_law_595 dL_law_596 dL_law_597 dL_law_598 dL_law_599 ?_
  refine zu_call hG hX dL_law_600 LV_L_73 hM (by decide) rfl rfl rfl (Nat.le_of_ble_eq_true rfl) (fun v m1 h1 => ?_)
  obtain ⟨rfl, hM2⟩ := h1
  refine zu_a2 hG dL_law_603 ?_
  refine zu_s hG hX 1 rfl (by omega) dL_law_604 dL_law_605 dL_law_606 dL_law_607 dL_law_608 ?_
  refine zu_s hG hX 2 rfl (by omega) dL_law_609 dL_law_610 dL_law_611 dL_law_612 dL_law_613 ?_
  refine zu_s hG hX 3 rfl (by omega) dL_law_614 dL_law_615 dL_law_616 dL_law_617 dL_law_618 ?_
  refine zu_call hG hX dL_law_619 LV_L_76 hM2 (by decide) rfl rfl rfl (Nat.le_of_ble_eq_true rfl) (fun v m2 h2 => ?_)
  obtain ⟨rfl, hH2⟩ := h2
  exact zu_eq hG dL_law_622 (tgt := 920) rfl (hK m2 hH2)
theorem zlc_ofRecipe {X : zX} {l : Launch} {g : zG} {b L i : Nat} {xs : Nat → Int32} {B : Int} {mem : zM} (hG : zGood X l g RL cL_law 12 4) (hX : zLx X b L xs) (hi : i + 4 ≤ L) (hH : zHd B mem) (hB : B ≤ 11900000) (hK : ∀ m2, zHd (B + 22000) m2 → zU X b 920 i [] m2) : zU X b 627 i [] mem := by
  obtain ⟨ans, hM⟩ := zpr_ofRecipe l g (r := (xs (i + 1)).toInt) (w := (xs (i + 2)).toInt) hH hB
  refine zu_a1 hG dL_law_627 ?_
  refine zu_s hG hX 1 rfl (by omega) dL_law_628 dL_law_629 dL_law_630 dL_law_631 dL_law_632 ?_
  refine zu_s hG hX 2 rfl (by omega) dL_law_633 dL_law_634 dL_law_635 dL_law_636 dL_law_637 ?_
  refine zu_call hG hX dL_law_638 LV_L_77 hM (by decide) rfl rfl rfl (Nat.le_of_ble_eq_true rfl) (fun v m1 h1 => ?_)
  obtain ⟨rfl, hM2⟩ := h1
  refine zu_a2 hG dL_law_641 ?_
  refine zu_s hG hX 1 rfl (by omega) dL_law_642 dL_law_643 dL_law_644 dL_law_645 dL_law_646 ?_
  refine zu_s hG hX 2 rfl (by omega) dL_law_647 dL_law_648 dL_law_649 dL_law_650 dL_law_651 ?_
  refine zu_call hG hX dL_law_652 LV_L_80 hM2 (by decide) rfl rfl rfl (Nat.le_of_ble_eq_true rfl) (fun v m2 h2 => ?_)
  obtain ⟨rfl, hH2⟩ := h2
  exact zu_eq hG dL_law_655 (tgt := 920) rfl (hK m2 hH2)
theorem zlc_count {X : zX} {l : Launch} {g : zG} {b L i : Nat} {xs : Nat → Int32} {B : Int} {mem : zM} (hG : zGood X l g RL cL_law 12 4) (hX : zLx X b L xs) (hi : i + 4 ≤ L) (hH : zHd B mem) (hB : B ≤ 11900000) (hK : ∀ m2, zHd (B + 22000) m2 → zU X b 920 i [] m2) : zU X b 660 i [] mem := by
  obtain ⟨ans, hM⟩ := zpr_count l g (w := (xs (i + 1)).toInt) hH hB
  refine zu_a1 hG dL_law_660 ?_
  refine zu_s hG hX 1 rfl (by omega) dL_law_661 dL_law_662 dL_law_663 dL_law_664 dL_law_665 ?_
  refine zu_call hG hX dL_law_666 LV_L_81 hM (by decide) rfl rfl rfl (Nat.le_of_ble_eq_true rfl) (fun v m1 h1 => ?_)
  obtain ⟨rfl, hM2⟩ := h1
  refine zu_a2 hG dL_law_669 ?_
  refine zu_s hG hX 1 rfl (by omega) dL_law_670 dL_law_671 dL_law_672 dL_law_673 dL_law_674 ?_
  refine zu_call hG hX dL_law_675 LV_L_84 hM2 (by decide) rfl rfl rfl (Nat.le_of_ble_eq_true rfl) (fun v m2 h2 => ?_)
  obtain ⟨rfl, hH2⟩ := h2
  exact zu_eq hG dL_law_678 (tgt := 920) rfl (hK m2 hH2)
theorem zlc_bestPortions {X : zX} {l : Launch} {g : zG} {b L i : Nat} {xs : Nat → Int32} {B : Int} {mem : zM} (hG : zGood X l g RL cL_law 12 4) (hX : zLx X b L xs) (hi : i + 4 ≤ L) (hH : zHd B mem) (hB : B ≤ 11900000) (hK : ∀ m2, zHd (B + 22000) m2 → zU X b 920 i [] m2) : zU X b 683 i [] mem := by
  obtain ⟨ans, hM⟩ := zpr_bestPortions l g (r := (xs (i + 1)).toInt) (a := (xs (i + 2)).toInt) (z := (xs (i + 3)).toInt) hH hB
  refine zu_a1 hG dL_law_683 ?_
  refine zu_s hG hX 1 rfl (by omega) dL_law_684 dL_law_685 dL_law_686 dL_law_687 dL_law_688 ?_
  refine zu_s hG hX 2 rfl (by omega) dL_law_689 dL_law_690 dL_law_691 dL_law_692 dL_law_693 ?_
  refine zu_s hG hX 3 rfl (by omega) dL_law_694 dL_law_695 dL_law_696 dL_law_697 dL_law_698 ?_
  refine zu_call hG hX dL_law_699 LV_L_85 hM (by decide) rfl rfl rfl (Nat.le_of_ble_eq_true rfl) (fun v m1 h1 => ?_)
  obtain ⟨rfl, hM2⟩ := h1
  refine zu_a2 hG dL_law_702 ?_
  refine zu_s hG hX 1 rfl (by omega) dL_law_703 dL_law_704 dL_law_705 dL_law_706 dL_law_707 ?_
  refine zu_s hG hX 2 rfl (by omega) dL_law_708 dL_law_709 dL_law_710 dL_law_711 dL_law_712 ?_
  refine zu_s hG hX 3 rfl (by omega) dL_law_713 dL_law_714 dL_law_715 dL_law_716 dL_law_717 ?_
  refine zu_call hG hX dL_law_718 LV_L_88 hM2 (by decide) rfl rfl rfl (Nat.le_of_ble_eq_true rfl) (fun v m2 h2 => ?_)
  obtain ⟨rfl, hH2⟩ := h2
  exact zu_eq hG dL_law_721 (tgt := 920) rfl (hK m2 hH2)
theorem zlc_fewestHands {X : zX} {l : Launch} {g : zG} {b L i : Nat} {xs : Nat → Int32} {B : Int} {mem : zM} (hG : zGood X l g RL cL_law 12 4) (hX : zLx X b L xs) (hi : i + 4 ≤ L) (hH : zHd B mem) (hB : B ≤ 11900000) (hK : ∀ m2, zHd (B + 22000) m2 → zU X b 920 i [] m2) : zU X b 726 i [] mem := by
  obtain ⟨ans, hM⟩ := zpr_fewestHands l g (t := (xs (i + 1)).toInt) hH hB
  refine zu_a1 hG dL_law_726 ?_
  refine zu_s hG hX 1 rfl (by omega) dL_law_727 dL_law_728 dL_law_729 dL_law_730 dL_law_731 ?_
  refine zu_call hG hX dL_law_732 LV_L_89 hM (by decide) rfl rfl rfl (Nat.le_of_ble_eq_true rfl) (fun v m1 h1 => ?_)
  obtain ⟨rfl, hM2⟩ := h1
  refine zu_a2 hG dL_law_735 ?_
  refine zu_s hG hX 1 rfl (by omega) dL_law_736 dL_law_737 dL_law_738 dL_law_739 dL_law_740 ?_
  refine zu_call hG hX dL_law_741 LV_L_92 hM2 (by decide) rfl rfl rfl (Nat.le_of_ble_eq_true rfl) (fun v m2 h2 => ?_)
  obtain ⟨rfl, hH2⟩ := h2
  exact zu_eq hG dL_law_744 (tgt := 920) rfl (hK m2 hH2)
theorem zlc_ifBuyable {X : zX} {l : Launch} {g : zG} {b L i : Nat} {xs : Nat → Int32} {B : Int} {mem : zM} (hG : zGood X l g RL cL_law 12 4) (hX : zLx X b L xs) (hi : i + 4 ≤ L) (hH : zHd B mem) (hB : B ≤ 11900000) (hK : ∀ m2, zHd (B + 22000) m2 → zU X b 920 i [] m2) : zU X b 749 i [] mem := by
  obtain ⟨ans, hM⟩ := zpr_ifBuyable l g (i := (xs (i + 1)).toInt) (b := (xs (i + 2)).toInt) hH hB
  refine zu_a1 hG dL_law_749 ?_
  refine zu_s hG hX 1 rfl (by omega) dL_law_750 dL_law_751 dL_law_752 dL_law_753 dL_law_754 ?_
  refine zu_s hG hX 2 rfl (by omega) dL_law_755 dL_law_756 dL_law_757 dL_law_758 dL_law_759 ?_
  refine zu_call hG hX dL_law_760 LV_L_93 hM (by decide) rfl rfl rfl (Nat.le_of_ble_eq_true rfl) (fun v m1 h1 => ?_)
  obtain ⟨rfl, hM2⟩ := h1
  refine zu_a2 hG dL_law_763 ?_
  refine zu_s hG hX 1 rfl (by omega) dL_law_764 dL_law_765 dL_law_766 dL_law_767 dL_law_768 ?_
  refine zu_s hG hX 2 rfl (by omega) dL_law_769 dL_law_770 dL_law_771 dL_law_772 dL_law_773 ?_
  refine zu_call hG hX dL_law_774 LV_L_96 hM2 (by decide) rfl rfl rfl (Nat.le_of_ble_eq_true rfl) (fun v m2 h2 => ?_)
  obtain ⟨rfl, hH2⟩ := h2
  exact zu_eq hG dL_law_777 (tgt := 920) rfl (hK m2 hH2)
theorem zlc_put {X : zX} {l : Launch} {g : zG} {b L i : Nat} {xs : Nat → Int32} {B : Int} {mem : zM} (hG : zGood X l g RL cL_law 12 4) (hX : zLx X b L xs) (hi : i + 4 ≤ L) (hH : zHd B mem) (hB : B ≤ 11900000) (hK : ∀ m2, zHd (B + 22000) m2 → zU X b 920 i [] m2) : zU X b 782 i [] mem := by
  obtain ⟨ans, hM⟩ := zpr_put l g (x := (((Int32.ofInt (xs (i + 1)).toInt).toInt64 <<< ((Int32.ofInt 32).toInt64 &&& 63)) ||| ((Int32.ofInt (xs (i + 2)).toInt).toInt64 &&& 4294967295))) hH hB
  refine zu_a1 hG dL_law_782 ?_
  refine zu_s hG hX 1 rfl (by omega) dL_law_783 dL_law_784 dL_law_785 dL_law_786 dL_law_787 ?_
  refine zu_i2l hG dL_law_788 ?_
  refine zu_bipush hG dL_law_789 rfl ?_
  refine zu_lshl hG dL_law_791 ?_
  refine zu_s hG hX 2 rfl (by omega) dL_law_792 dL_law_793 dL_law_794 dL_law_795 dL_law_796 ?_
  refine zu_i2l hG dL_law_797 ?_
  refine zu_ldc2 hG dL_law_798 KC_L_97 ?_
  refine zu_land hG dL_law_801 ?_
  refine zu_lor hG dL_law_802 ?_
  refine zu_call hG hX dL_law_803 LV_L_99 hM (by decide) rfl rfl rfl (Nat.le_of_ble_eq_true rfl) (fun v m1 h1 => ?_)
  obtain ⟨rfl, hM2⟩ := h1
  refine zu_a2 hG dL_law_806 ?_
  refine zu_s hG hX 1 rfl (by omega) dL_law_807 dL_law_808 dL_law_809 dL_law_810 dL_law_811 ?_
  refine zu_i2l hG dL_law_812 ?_
  refine zu_bipush hG dL_law_813 rfl ?_
  refine zu_lshl hG dL_law_815 ?_
  refine zu_s hG hX 2 rfl (by omega) dL_law_816 dL_law_817 dL_law_818 dL_law_819 dL_law_820 ?_
  refine zu_i2l hG dL_law_821 ?_
  refine zu_ldc2 hG dL_law_822 KC_L_97 ?_
  refine zu_land hG dL_law_825 ?_
  refine zu_lor hG dL_law_826 ?_
  refine zu_call hG hX dL_law_827 LV_L_103 hM2 (by decide) rfl rfl rfl (Nat.le_of_ble_eq_true rfl) (fun v m2 h2 => ?_)
  obtain ⟨rfl, hH2⟩ := h2
  exact zu_eq hG dL_law_830 (tgt := 920) rfl (hK m2 hH2)
theorem zlc_wipe {X : zX} {l : Launch} {g : zG} {b L i : Nat} {xs : Nat → Int32} {B : Int} {mem : zM} (hG : zGood X l g RL cL_law 12 4) (hX : zLx X b L xs) (hi : i + 4 ≤ L) (hH : zHd B mem) (hB : B ≤ 11900000) (hK : ∀ m2, zHd (B + 22000) m2 → zU X b 920 i [] m2) : zU X b 835 i [] mem := by
  obtain ⟨ans, hM⟩ := zpr_wipe l g  hH hB
  refine zu_a1 hG dL_law_835 ?_
  refine zu_call hG hX dL_law_836 LV_L_104 hM (by decide) rfl rfl rfl (Nat.le_of_ble_eq_true rfl) (fun v m1 h1 => ?_)
  obtain ⟨rfl, hM2⟩ := h1
  refine zu_a2 hG dL_law_839 ?_
  refine zu_call hG hX dL_law_840 LV_L_107 hM2 (by decide) rfl rfl rfl (Nat.le_of_ble_eq_true rfl) (fun v m2 h2 => ?_)
  obtain ⟨rfl, hH2⟩ := h2
  exact zu_eq hG dL_law_843 (tgt := 920) rfl (hK m2 hH2)
theorem zlc_fault {X : zX} {l : Launch} {g : zG} {b L i : Nat} {xs : Nat → Int32} {B : Int} {mem : zM} (hG : zGood X l g RL cL_law 12 4) (hX : zLx X b L xs) (hi : i + 4 ≤ L) (hH : zHd B mem) (hB : B ≤ 11900000) (hK : ∀ m2, zHd (B + 22000) m2 → zU X b 920 i [] m2) : zU X b 848 i [] mem := by
  obtain ⟨ans, hM⟩ := zpr_fault l g  hH hB
  refine zu_a1 hG dL_law_848 ?_
  refine zu_call hG hX dL_law_849 LV_L_108 hM (by decide) rfl rfl rfl (Nat.le_of_ble_eq_true rfl) (fun v m1 h1 => ?_)
  obtain ⟨rfl, hM2⟩ := h1
  refine zu_a2 hG dL_law_852 ?_
  refine zu_call hG hX dL_law_853 LV_L_111 hM2 (by decide) rfl rfl rfl (Nat.le_of_ble_eq_true rfl) (fun v m2 h2 => ?_)
  obtain ⟨rfl, hH2⟩ := h2
  exact zu_eq hG dL_law_856 (tgt := 920) rfl (hK m2 hH2)
theorem zlc_undo {X : zX} {l : Launch} {g : zG} {b L i : Nat} {xs : Nat → Int32} {B : Int} {mem : zM} (hG : zGood X l g RL cL_law 12 4) (hX : zLx X b L xs) (hi : i + 4 ≤ L) (hH : zHd B mem) (hB : B ≤ 11900000) (hK : ∀ m2, zHd (B + 22000) m2 → zU X b 920 i [] m2) : zU X b 861 i [] mem := by
  obtain ⟨ans, hM⟩ := zpr_undo l g  hH hB
  refine zu_a1 hG dL_law_861 ?_
  refine zu_call hG hX dL_law_862 LV_L_112 hM (by decide) rfl rfl rfl (Nat.le_of_ble_eq_true rfl) (fun v m1 h1 => ?_)
  obtain ⟨rfl, hM2⟩ := h1
  refine zu_a2 hG dL_law_865 ?_
  refine zu_call hG hX dL_law_866 LV_L_115 hM2 (by decide) rfl rfl rfl (Nat.le_of_ble_eq_true rfl) (fun v m2 h2 => ?_)
  obtain ⟨rfl, hH2⟩ := h2
  exact zu_eq hG dL_law_869 (tgt := 920) rfl (hK m2 hH2)
theorem zlc_save {X : zX} {l : Launch} {g : zG} {b L i : Nat} {xs : Nat → Int32} {B : Int} {mem : zM} (hG : zGood X l g RL cL_law 12 4) (hX : zLx X b L xs) (hi : i + 4 ≤ L) (hH : zHd B mem) (hB : B ≤ 11900000) (hK : ∀ m2, zHd (B + 22000) m2 → zU X b 920 i [] m2) : zU X b 874 i [] mem := by
  obtain ⟨ans, hM⟩ := zpr_save l g (p := (xs (i + 1)).toInt) hH hB
  refine zu_a1 hG dL_law_874 ?_
  refine zu_s hG hX 1 rfl (by omega) dL_law_875 dL_law_876 dL_law_877 dL_law_878 dL_law_879 ?_
  refine zu_call hG hX dL_law_880 LV_L_116 hM (by decide) rfl rfl rfl (Nat.le_of_ble_eq_true rfl) (fun v m1 h1 => ?_)
  obtain ⟨rfl, hM2⟩ := h1
  refine zu_a2 hG dL_law_883 ?_
  refine zu_s hG hX 1 rfl (by omega) dL_law_884 dL_law_885 dL_law_886 dL_law_887 dL_law_888 ?_
  refine zu_call hG hX dL_law_889 LV_L_119 hM2 (by decide) rfl rfl rfl (Nat.le_of_ble_eq_true rfl) (fun v m2 h2 => ?_)
  obtain ⟨rfl, hH2⟩ := h2
  exact zu_eq hG dL_law_892 (tgt := 920) rfl (hK m2 hH2)
theorem zlc_restore {X : zX} {l : Launch} {g : zG} {b L i : Nat} {xs : Nat → Int32} {B : Int} {mem : zM} (hG : zGood X l g RL cL_law 12 4) (hX : zLx X b L xs) (hi : i + 4 ≤ L) (hH : zHd B mem) (hB : B ≤ 11900000) (hK : ∀ m2, zHd (B + 22000) m2 → zU X b 920 i [] m2) : zU X b 897 i [] mem := by
  obtain ⟨ans, hM⟩ := zpr_restore l g (p := (xs (i + 1)).toInt) hH hB
  refine zu_a1 hG dL_law_897 ?_
  refine zu_s hG hX 1 rfl (by omega) dL_law_898 dL_law_899 dL_law_900 dL_law_901 dL_law_902 ?_
  refine zu_call hG hX dL_law_903 LV_L_120 hM (by decide) rfl rfl rfl (Nat.le_of_ble_eq_true rfl) (fun v m1 h1 => ?_)
  obtain ⟨rfl, hM2⟩ := h1
  refine zu_a2 hG dL_law_906 ?_
  refine zu_s hG hX 1 rfl (by omega) dL_law_907 dL_law_908 dL_law_909 dL_law_910 dL_law_911 ?_
  refine zu_call hG hX dL_law_912 LV_L_123 hM2 (by decide) rfl rfl rfl (Nat.le_of_ble_eq_true rfl) (fun v m2 h2 => ?_)
  obtain ⟨rfl, hH2⟩ := h2
  exact zu_eq hG dL_law_915 (tgt := 920) rfl (hK m2 hH2)
theorem zl_body {X : zX} {l : Launch} {g : zG} {b L i : Nat} {xs : Nat → Int32} {B : Int} {mem : zM} (hG : zGood X l g RL cL_law 12 4) (hX : zLx X b L xs) (hi : i + 4 ≤ L) (hH : zHd B mem) (hB : B ≤ 11900000) (hK : ∀ m2, zHd (B + 22000) m2 → zU X b 920 i [] m2) : zU X b 26 i [] mem := by
  refine zu_s0 hG hX (by omega) dL_law_26 dL_law_27 dL_law_28 ?_
  refine zu_bipush hG dL_law_29 rfl ?_
  refine zu_iand hG dL_law_31 ?_
  generalize zand (xs i).toInt 31 = x
  by_cases hx : 0 ≤ x ∧ x ≤ 25
  · have hx2 : x = 0 ∨ x = 1 ∨ x = 2 ∨ x = 3 ∨ x = 4 ∨ x = 5 ∨ x = 6 ∨ x = 7 ∨ x = 8 ∨ x = 9 ∨ x = 10 ∨ x = 11 ∨ x = 12 ∨ x = 13 ∨ x = 14 ∨ x = 15 ∨ x = 16 ∨ x = 17 ∨ x = 18 ∨ x = 19 ∨ x = 20 ∨ x = 21 ∨ x = 22 ∨ x = 23 ∨ x = 24 ∨ x = 25 := by omega
    rcases hx2 with e | e | e | e | e | e | e | e | e | e | e | e | e | e | e | e | e | e | e | e | e | e | e | e | e | e
    · subst e
      exact zu_tabIn hG dL_law_32 (off := 120) (tgt := 152) (by decide) (by decide) rfl rfl (zlc_ingredient hG hX hi hH hB hK)
    · subst e
      exact zu_tabIn hG dL_law_32 (off := 143) (tgt := 175) (by decide) (by decide) rfl rfl (zlc_tin hG hX hi hH hB hK)
    · subst e
      exact zu_tabIn hG dL_law_32 (off := 186) (tgt := 218) (by decide) (by decide) rfl rfl (zlc_buyable hG hX hi hH hB hK)
    · subst e
      exact zu_tabIn hG dL_law_32 (off := 219) (tgt := 251) (by decide) (by decide) rfl rfl (zlc_substitute hG hX hi hH hB hK)
    · subst e
      exact zu_tabIn hG dL_law_32 (off := 262) (tgt := 294) (by decide) (by decide) rfl rfl (zlc_stock hG hX hi hH hB hK)
    · subst e
      exact zu_tabIn hG dL_law_32 (off := 295) (tgt := 327) (by decide) (by decide) rfl rfl (zlc_recipe hG hX hi hH hB hK)
    · subst e
      exact zu_tabIn hG dL_law_32 (off := 308) (tgt := 340) (by decide) (by decide) rfl rfl (zlc_amount hG hX hi hH hB hK)
    · subst e
      exact zu_tabIn hG dL_law_32 (off := 351) (tgt := 383) (by decide) (by decide) rfl rfl (zlc_menu hG hX hi hH hB hK)
    · subst e
      exact zu_tabIn hG dL_law_32 (off := 384) (tgt := 416) (by decide) (by decide) rfl rfl (zlc_hands hG hX hi hH hB hK)
    · subst e
      exact zu_tabIn hG dL_law_32 (off := 407) (tgt := 439) (by decide) (by decide) rfl rfl (zlc_cook hG hX hi hH hB hK)
    · subst e
      exact zu_tabIn hG dL_law_32 (off := 420) (tgt := 452) (by decide) (by decide) rfl rfl (zlc_pass hG hX hi hH hB hK)
    · subst e
      exact zu_tabIn hG dL_law_32 (off := 443) (tgt := 475) (by decide) (by decide) rfl rfl (zlc_about hG hX hi hH hB hK)
    · subst e
      exact zu_tabIn hG dL_law_32 (off := 476) (tgt := 508) (by decide) (by decide) rfl rfl (zlc_ofTin hG hX hi hH hB hK)
    · subst e
      exact zu_tabIn hG dL_law_32 (off := 519) (tgt := 551) (by decide) (by decide) rfl rfl (zlc_needs hG hX hi hH hB hK)
    · subst e
      exact zu_tabIn hG dL_law_32 (off := 552) (tgt := 584) (by decide) (by decide) rfl rfl (zlc_step hG hX hi hH hB hK)
    · subst e
      exact zu_tabIn hG dL_law_32 (off := 595) (tgt := 627) (by decide) (by decide) rfl rfl (zlc_ofRecipe hG hX hi hH hB hK)
    · subst e
      exact zu_tabIn hG dL_law_32 (off := 628) (tgt := 660) (by decide) (by decide) rfl rfl (zlc_count hG hX hi hH hB hK)
    · subst e
      exact zu_tabIn hG dL_law_32 (off := 651) (tgt := 683) (by decide) (by decide) rfl rfl (zlc_bestPortions hG hX hi hH hB hK)
    · subst e
      exact zu_tabIn hG dL_law_32 (off := 694) (tgt := 726) (by decide) (by decide) rfl rfl (zlc_fewestHands hG hX hi hH hB hK)
    · subst e
      exact zu_tabIn hG dL_law_32 (off := 717) (tgt := 749) (by decide) (by decide) rfl rfl (zlc_ifBuyable hG hX hi hH hB hK)
    · subst e
      exact zu_tabIn hG dL_law_32 (off := 750) (tgt := 782) (by decide) (by decide) rfl rfl (zlc_put hG hX hi hH hB hK)
    · subst e
      exact zu_tabIn hG dL_law_32 (off := 803) (tgt := 835) (by decide) (by decide) rfl rfl (zlc_wipe hG hX hi hH hB hK)
    · subst e
      exact zu_tabIn hG dL_law_32 (off := 816) (tgt := 848) (by decide) (by decide) rfl rfl (zlc_fault hG hX hi hH hB hK)
    · subst e
      exact zu_tabIn hG dL_law_32 (off := 829) (tgt := 861) (by decide) (by decide) rfl rfl (zlc_undo hG hX hi hH hB hK)
    · subst e
      exact zu_tabIn hG dL_law_32 (off := 842) (tgt := 874) (by decide) (by decide) rfl rfl (zlc_save hG hX hi hH hB hK)
    · subst e
      exact zu_tabIn hG dL_law_32 (off := 865) (tgt := 897) (by decide) (by decide) rfl rfl (zlc_restore hG hX hi hH hB hK)
  · refine zu_tabOut hG dL_law_32 (tgt := 920) (by omega) rfl ?_
    exact hK mem ⟨zInv_B (by omega) hH.1, hH.2⟩
theorem zl_loop {X : zX} {l : Launch} {g : zG} {b L : Nat} {xs : Nat → Int32} (hG : zGood X l g RL cL_law 12 4) (hX : zLx X b L xs) (hL : L ≤ 2048) : ∀ (n j : Nat) (mem : zM), L ≤ 4 * (j + n) → 4 * j ≤ 3000 → zHd (22000 * (j : Int)) mem → zU X b 18 (4 * j) [] mem := by
  intro n
  induction n with
  | zero =>
    intro j mem hn hj hH
    exact zu_head hG hX (by omega) (fun _ => zu_end hG hX) (fun q => absurd q (by omega))
  | succ n ih =>
    intro j mem hn hj hH
    refine zu_head hG hX (by omega) (fun _ => zu_end hG hX) (fun q => ?_)
    refine zl_body hG hX q hH (by omega) (fun m2 h2 => ?_)
    refine zu_inc hG dL_law_920 ?_
    refine zu_goto hG dL_law_923 (tgt := 18) rfl ?_
    have e : 4 * j + 4 = 4 * (j + 1) := by omega
    rw [e]
    exact ih (j + 1) m2 (by omega) (by omega) (by rw [show (22000 : Int) * ((j + 1 : Nat) : Int) = 22000 * (j : Int) + 22000 by omega]; exact h2)
