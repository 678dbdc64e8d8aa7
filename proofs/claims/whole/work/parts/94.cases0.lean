section LC0
variable {p : Program} {e : Env} {s : State} {m : MethodId} {below : List Frame} {meth : Method} {c : Code} {b L i : Nat} {xs : Nat → Int32} {g : rk_G} {H : Heap} {locs : List Loc} {ls : Array Slot} {σ : rk_M}
theorem lc_0 (X : lw_X g p s m meth c b L xs) (hL : L ≤ 3072) (hi : i + 6 ≤ L) (I : lw_I g s b i H locs ls σ) (J : Inv σ) (hk : lw_K g p e s m below meth c b i 957) : lw_W g p e s m below meth c b 144 H locs ls [] := by
  obtain ⟨hl, hP, hD, hS⟩ := I
  refine lv_aload_n X.1.1 X.1.2.1 dL_law_144 rfl (lv_at hl 2 rfl) ?_
  refine lw_arg X hL hl hS (k := 1) (by omega) dL_law_145 dL_law_146 dL_law_147 (by decide) dL_law_148 dL_law_149 ?_
  refine lw_arg X hL hl hS (k := 2) (by omega) dL_law_150 dL_law_151 dL_law_152 (by decide) dL_law_153 dL_law_154 ?_
  refine lw_cV (As := [.int (xs (i + 1)), .int (xs (i + 2))]) (rest := []) (c0 := 0) X hl hP hD hS rfl dL_law_155 rfl rfl npX6_meeting wmL_13 wvX6_meeting weX6_meeting wiX6 wdX6_meeting (by decide) (by decide) rfl rfl (Nat.le_of_ble_eq_true rfl) (B_meeting σ J) (fun v σ1 H locs hR hP hD hS => ?_)
  obtain ⟨z, rfl, h7⟩ := hR
  refine lv_aload_n X.1.1 X.1.2.1 dL_law_158 rfl (lv_at hl 1 rfl) ?_
  refine lw_arg X hL hl hS (k := 1) (by omega) dL_law_159 dL_law_160 dL_law_161 (by decide) dL_law_162 dL_law_163 ?_
  refine lw_arg X hL hl hS (k := 2) (by omega) dL_law_164 dL_law_165 dL_law_166 (by decide) dL_law_167 dL_law_168 ?_
  refine lw_cV (As := [.int (xs (i + 1)), .int (xs (i + 2))]) (rest := [.int z]) (c0 := 42) X hl hP hD hS rfl dL_law_169 rfl rfl npX7_meeting wmL_17 wvX7_meeting weX7_meeting wiX7 wdX7_meeting (by decide) (by decide) rfl rfl (Nat.le_of_ble_eq_true rfl) h7 (fun v σ2 H locs hR hP hD hS => ?_)
  obtain ⟨rfl, J2⟩ := hR
  refine lv_icmp_eq (tgt := 957) X.1.1 X.1.2.1 dL_law_172 (by decide) (fun _ => ?_) (fun h => absurd rfl h)
  exact hk _ _ _ _ ⟨hl, hP, hD, hS⟩ J2
theorem lc_1 (X : lw_X g p s m meth c b L xs) (hL : L ≤ 3072) (hi : i + 6 ≤ L) (I : lw_I g s b i H locs ls σ) (J : Inv σ) (hk : lw_K g p e s m below meth c b i 957) : lw_W g p e s m below meth c b 177 H locs ls [] := by
  obtain ⟨hl, hP, hD, hS⟩ := I
  refine lv_aload_n X.1.1 X.1.2.1 dL_law_177 rfl (lv_at hl 2 rfl) ?_
  refine lw_arg X hL hl hS (k := 1) (by omega) dL_law_178 dL_law_179 dL_law_180 (by decide) dL_law_181 dL_law_182 ?_
  refine lw_arg X hL hl hS (k := 2) (by omega) dL_law_183 dL_law_184 dL_law_185 (by decide) dL_law_186 dL_law_187 ?_
  refine lw_arg X hL hl hS (k := 3) (by omega) dL_law_188 dL_law_189 dL_law_190 (by decide) dL_law_191 dL_law_192 ?_
  refine lw_arg X hL hl hS (k := 4) (by omega) dL_law_193 dL_law_194 dL_law_195 (by decide) dL_law_196 dL_law_197 ?_
  refine lw_cV (As := [.int (xs (i + 1)), .int (xs (i + 2)), .int (xs (i + 3)), .int (xs (i + 4))]) (rest := []) (c0 := 0) X hl hP hD hS rfl dL_law_198 rfl rfl npX6_road wmL_18 wvX6_road weX6_road wiX6 wdX6_road (by decide) (by decide) rfl rfl (Nat.le_of_ble_eq_true rfl) (B_road σ J) (fun v σ1 H locs hR hP hD hS => ?_)
  obtain ⟨z, rfl, h7⟩ := hR
  refine lv_aload_n X.1.1 X.1.2.1 dL_law_201 rfl (lv_at hl 1 rfl) ?_
  refine lw_arg X hL hl hS (k := 1) (by omega) dL_law_202 dL_law_203 dL_law_204 (by decide) dL_law_205 dL_law_206 ?_
  refine lw_arg X hL hl hS (k := 2) (by omega) dL_law_207 dL_law_208 dL_law_209 (by decide) dL_law_210 dL_law_211 ?_
  refine lw_arg X hL hl hS (k := 3) (by omega) dL_law_212 dL_law_213 dL_law_214 (by decide) dL_law_215 dL_law_216 ?_
  refine lw_arg X hL hl hS (k := 4) (by omega) dL_law_217 dL_law_218 dL_law_219 (by decide) dL_law_220 dL_law_221 ?_
  refine lw_cV (As := [.int (xs (i + 1)), .int (xs (i + 2)), .int (xs (i + 3)), .int (xs (i + 4))]) (rest := [.int z]) (c0 := 42) X hl hP hD hS rfl dL_law_222 rfl rfl npX7_road wmL_22 wvX7_road weX7_road wiX7 wdX7_road (by decide) (by decide) rfl rfl (Nat.le_of_ble_eq_true rfl) h7 (fun v σ2 H locs hR hP hD hS => ?_)
  obtain ⟨rfl, J2⟩ := hR
  refine lv_icmp_eq (tgt := 957) X.1.1 X.1.2.1 dL_law_225 (by decide) (fun _ => ?_) (fun h => absurd rfl h)
  exact hk _ _ _ _ ⟨hl, hP, hD, hS⟩ J2
theorem lc_2 (X : lw_X g p s m meth c b L xs) (hL : L ≤ 3072) (hi : i + 6 ≤ L) (I : lw_I g s b i H locs ls σ) (J : Inv σ) (hk : lw_K g p e s m below meth c b i 957) : lw_W g p e s m below meth c b 230 H locs ls [] := by
  obtain ⟨hl, hP, hD, hS⟩ := I
  refine lv_aload_n X.1.1 X.1.2.1 dL_law_230 rfl (lv_at hl 2 rfl) ?_
  refine lw_cV (As := []) (rest := []) (c0 := 0) X hl hP hD hS rfl dL_law_231 rfl rfl npX6_undo wmL_23 wvX6_undo weX6_undo wiX6 wdX6_undo (by decide) (by decide) rfl rfl (Nat.le_of_ble_eq_true rfl) (B_undo σ J) (fun v σ1 H locs hR hP hD hS => ?_)
  obtain ⟨z, rfl, h7⟩ := hR
  refine lv_aload_n X.1.1 X.1.2.1 dL_law_234 rfl (lv_at hl 1 rfl) ?_
  refine lw_cV (As := []) (rest := [.int z]) (c0 := 42) X hl hP hD hS rfl dL_law_235 rfl rfl npX7_undo wmL_27 wvX7_undo weX7_undo wiX7 wdX7_undo (by decide) (by decide) rfl rfl (Nat.le_of_ble_eq_true rfl) h7 (fun v σ2 H locs hR hP hD hS => ?_)
  obtain ⟨rfl, J2⟩ := hR
  refine lv_icmp_eq (tgt := 957) X.1.1 X.1.2.1 dL_law_238 (by decide) (fun _ => ?_) (fun h => absurd rfl h)
  exact hk _ _ _ _ ⟨hl, hP, hD, hS⟩ J2
theorem lc_3 (X : lw_X g p s m meth c b L xs) (hL : L ≤ 3072) (hi : i + 6 ≤ L) (I : lw_I g s b i H locs ls σ) (J : Inv σ) (hk : lw_K g p e s m below meth c b i 957) : lw_W g p e s m below meth c b 243 H locs ls [] := by
  obtain ⟨hl, hP, hD, hS⟩ := I
  refine lv_aload_n X.1.1 X.1.2.1 dL_law_243 rfl (lv_at hl 2 rfl) ?_
  refine lw_arg X hL hl hS (k := 1) (by omega) dL_law_244 dL_law_245 dL_law_246 (by decide) dL_law_247 dL_law_248 ?_
  refine lw_arg X hL hl hS (k := 2) (by omega) dL_law_249 dL_law_250 dL_law_251 (by decide) dL_law_252 dL_law_253 ?_
  refine lw_arg X hL hl hS (k := 3) (by omega) dL_law_254 dL_law_255 dL_law_256 (by decide) dL_law_257 dL_law_258 ?_
  refine lw_cV (As := [.int (xs (i + 1)), .int (xs (i + 2)), .int (xs (i + 3))]) (rest := []) (c0 := 0) X hl hP hD hS rfl dL_law_259 rfl rfl npX6_alter wmL_28 wvX6_alter weX6_alter wiX6 wdX6_alter (by decide) (by decide) rfl rfl (Nat.le_of_ble_eq_true rfl) (B_alter σ J) (fun v σ1 H locs hR hP hD hS => ?_)
  obtain ⟨z, rfl, h7⟩ := hR
  refine lv_aload_n X.1.1 X.1.2.1 dL_law_262 rfl (lv_at hl 1 rfl) ?_
  refine lw_arg X hL hl hS (k := 1) (by omega) dL_law_263 dL_law_264 dL_law_265 (by decide) dL_law_266 dL_law_267 ?_
  refine lw_arg X hL hl hS (k := 2) (by omega) dL_law_268 dL_law_269 dL_law_270 (by decide) dL_law_271 dL_law_272 ?_
  refine lw_arg X hL hl hS (k := 3) (by omega) dL_law_273 dL_law_274 dL_law_275 (by decide) dL_law_276 dL_law_277 ?_
  refine lw_cV (As := [.int (xs (i + 1)), .int (xs (i + 2)), .int (xs (i + 3))]) (rest := [.int z]) (c0 := 42) X hl hP hD hS rfl dL_law_278 rfl rfl npX7_alter wmL_32 wvX7_alter weX7_alter wiX7 wdX7_alter (by decide) (by decide) rfl rfl (Nat.le_of_ble_eq_true rfl) h7 (fun v σ2 H locs hR hP hD hS => ?_)
  obtain ⟨rfl, J2⟩ := hR
  refine lv_icmp_eq (tgt := 957) X.1.1 X.1.2.1 dL_law_281 (by decide) (fun _ => ?_) (fun h => absurd rfl h)
  exact hk _ _ _ _ ⟨hl, hP, hD, hS⟩ J2
theorem lc_4 (X : lw_X g p s m meth c b L xs) (hL : L ≤ 3072) (hi : i + 6 ≤ L) (I : lw_I g s b i H locs ls σ) (J : Inv σ) (hk : lw_K g p e s m below meth c b i 957) : lw_W g p e s m below meth c b 286 H locs ls [] := by
  obtain ⟨hl, hP, hD, hS⟩ := I
  refine lv_aload_n X.1.1 X.1.2.1 dL_law_286 rfl (lv_at hl 2 rfl) ?_
  refine lw_arg X hL hl hS (k := 1) (by omega) dL_law_287 dL_law_288 dL_law_289 (by decide) dL_law_290 dL_law_291 ?_
  refine lw_cV (As := [.int (xs (i + 1))]) (rest := []) (c0 := 0) X hl hP hD hS rfl dL_law_292 rfl rfl npX6_read wmL_33 wvX6_read weX6_read wiX6 wdX6_read (by decide) (by decide) rfl rfl (Nat.le_of_ble_eq_true rfl) (B_read σ J) (fun v σ1 H locs hR hP hD hS => ?_)
  obtain ⟨z, rfl, h7⟩ := hR
  refine lv_aload_n X.1.1 X.1.2.1 dL_law_295 rfl (lv_at hl 1 rfl) ?_
  refine lw_arg X hL hl hS (k := 1) (by omega) dL_law_296 dL_law_297 dL_law_298 (by decide) dL_law_299 dL_law_300 ?_
  refine lw_cV (As := [.int (xs (i + 1))]) (rest := [.int z]) (c0 := 42) X hl hP hD hS rfl dL_law_301 rfl rfl npX7_read wmL_37 wvX7_read weX7_read wiX7 wdX7_read (by decide) (by decide) rfl rfl (Nat.le_of_ble_eq_true rfl) h7 (fun v σ2 H locs hR hP hD hS => ?_)
  obtain ⟨rfl, J2⟩ := hR
  refine lv_icmp_eq (tgt := 957) X.1.1 X.1.2.1 dL_law_304 (by decide) (fun _ => ?_) (fun h => absurd rfl h)
  exact hk _ _ _ _ ⟨hl, hP, hD, hS⟩ J2
theorem lc_5 (X : lw_X g p s m meth c b L xs) (hL : L ≤ 3072) (hi : i + 6 ≤ L) (I : lw_I g s b i H locs ls σ) (J : Inv σ) (hk : lw_K g p e s m below meth c b i 957) : lw_W g p e s m below meth c b 309 H locs ls [] := by
  obtain ⟨hl, hP, hD, hS⟩ := I
  refine lv_aload_n X.1.1 X.1.2.1 dL_law_309 rfl (lv_at hl 2 rfl) ?_
  refine lw_arg X hL hl hS (k := 1) (by omega) dL_law_310 dL_law_311 dL_law_312 (by decide) dL_law_313 dL_law_314 ?_
  refine lw_arg X hL hl hS (k := 2) (by omega) dL_law_315 dL_law_316 dL_law_317 (by decide) dL_law_318 dL_law_319 ?_
  refine lw_cV (As := [.int (xs (i + 1)), .int (xs (i + 2))]) (rest := []) (c0 := 0) X hl hP hD hS rfl dL_law_320 rfl rfl npX6_at wmL_38 wvX6_at weX6_at wiX6 wdX6_at (by decide) (by decide) rfl rfl (Nat.le_of_ble_eq_true rfl) (B_at σ J) (fun v σ1 H locs hR hP hD hS => ?_)
  obtain ⟨z, rfl, h7⟩ := hR
  refine lv_aload_n X.1.1 X.1.2.1 dL_law_323 rfl (lv_at hl 1 rfl) ?_
  refine lw_arg X hL hl hS (k := 1) (by omega) dL_law_324 dL_law_325 dL_law_326 (by decide) dL_law_327 dL_law_328 ?_
  refine lw_arg X hL hl hS (k := 2) (by omega) dL_law_329 dL_law_330 dL_law_331 (by decide) dL_law_332 dL_law_333 ?_
  refine lw_cV (As := [.int (xs (i + 1)), .int (xs (i + 2))]) (rest := [.int z]) (c0 := 42) X hl hP hD hS rfl dL_law_334 rfl rfl npX7_at wmL_41 wvX7_at weX7_at wiX7 wdX7_at (by decide) (by decide) rfl rfl (Nat.le_of_ble_eq_true rfl) h7 (fun v σ2 H locs hR hP hD hS => ?_)
  obtain ⟨rfl, J2⟩ := hR
  refine lv_icmp_eq (tgt := 957) X.1.1 X.1.2.1 dL_law_337 (by decide) (fun _ => ?_) (fun h => absurd rfl h)
  exact hk _ _ _ _ ⟨hl, hP, hD, hS⟩ J2
theorem lc_6 (X : lw_X g p s m meth c b L xs) (hL : L ≤ 3072) (hi : i + 6 ≤ L) (I : lw_I g s b i H locs ls σ) (J : Inv σ) (hk : lw_K g p e s m below meth c b i 957) : lw_W g p e s m below meth c b 342 H locs ls [] := by
  obtain ⟨hl, hP, hD, hS⟩ := I
  refine lv_aload_n X.1.1 X.1.2.1 dL_law_342 rfl (lv_at hl 2 rfl) ?_
  refine lw_arg X hL hl hS (k := 1) (by omega) dL_law_343 dL_law_344 dL_law_345 (by decide) dL_law_346 dL_law_347 ?_
  refine lw_arg X hL hl hS (k := 2) (by omega) dL_law_348 dL_law_349 dL_law_350 (by decide) dL_law_351 dL_law_352 ?_
  refine lw_cV (As := [.int (xs (i + 1)), .int (xs (i + 2))]) (rest := []) (c0 := 0) X hl hP hD hS rfl dL_law_353 rfl rfl npX6_info wmL_42 wvX6_info weX6_info wiX6 wdX6_info (by decide) (by decide) rfl rfl (Nat.le_of_ble_eq_true rfl) (B_info σ J) (fun v σ1 H locs hR hP hD hS => ?_)
  obtain ⟨z, rfl, h7⟩ := hR
  refine lv_aload_n X.1.1 X.1.2.1 dL_law_356 rfl (lv_at hl 1 rfl) ?_
  refine lw_arg X hL hl hS (k := 1) (by omega) dL_law_357 dL_law_358 dL_law_359 (by decide) dL_law_360 dL_law_361 ?_
  refine lw_arg X hL hl hS (k := 2) (by omega) dL_law_362 dL_law_363 dL_law_364 (by decide) dL_law_365 dL_law_366 ?_
  refine lw_cV (As := [.int (xs (i + 1)), .int (xs (i + 2))]) (rest := [.int z]) (c0 := 42) X hl hP hD hS rfl dL_law_367 rfl rfl npX7_info wmL_45 wvX7_info weX7_info wiX7 wdX7_info (by decide) (by decide) rfl rfl (Nat.le_of_ble_eq_true rfl) h7 (fun v σ2 H locs hR hP hD hS => ?_)
  obtain ⟨rfl, J2⟩ := hR
  refine lv_icmp_eq (tgt := 957) X.1.1 X.1.2.1 dL_law_370 (by decide) (fun _ => ?_) (fun h => absurd rfl h)
  exact hk _ _ _ _ ⟨hl, hP, hD, hS⟩ J2
theorem lc_7 (X : lw_X g p s m meth c b L xs) (hL : L ≤ 3072) (hi : i + 6 ≤ L) (I : lw_I g s b i H locs ls σ) (J : Inv σ) (hk : lw_K g p e s m below meth c b i 957) : lw_W g p e s m below meth c b 375 H locs ls [] := by
  obtain ⟨hl, hP, hD, hS⟩ := I
  refine lv_aload_n X.1.1 X.1.2.1 dL_law_375 rfl (lv_at hl 2 rfl) ?_
  refine lw_arg X hL hl hS (k := 1) (by omega) dL_law_376 dL_law_377 dL_law_378 (by decide) dL_law_379 dL_law_380 ?_
  refine lw_arg X hL hl hS (k := 2) (by omega) dL_law_381 dL_law_382 dL_law_383 (by decide) dL_law_384 dL_law_385 ?_
  refine lw_cV (As := [.int (xs (i + 1)), .int (xs (i + 2))]) (rest := []) (c0 := 0) X hl hP hD hS rfl dL_law_386 rfl rfl npX6_joined wmL_46 wvX6_joined weX6_joined wiX6 wdX6_joined (by decide) (by decide) rfl rfl (Nat.le_of_ble_eq_true rfl) (B_joined σ J) (fun v σ1 H locs hR hP hD hS => ?_)
  obtain ⟨z, rfl, h7⟩ := hR
  refine lv_aload_n X.1.1 X.1.2.1 dL_law_389 rfl (lv_at hl 1 rfl) ?_
  refine lw_arg X hL hl hS (k := 1) (by omega) dL_law_390 dL_law_391 dL_law_392 (by decide) dL_law_393 dL_law_394 ?_
  refine lw_arg X hL hl hS (k := 2) (by omega) dL_law_395 dL_law_396 dL_law_397 (by decide) dL_law_398 dL_law_399 ?_
  refine lw_cV (As := [.int (xs (i + 1)), .int (xs (i + 2))]) (rest := [.int z]) (c0 := 42) X hl hP hD hS rfl dL_law_400 rfl rfl npX7_joined wmL_49 wvX7_joined weX7_joined wiX7 wdX7_joined (by decide) (by decide) rfl rfl (Nat.le_of_ble_eq_true rfl) h7 (fun v σ2 H locs hR hP hD hS => ?_)
  obtain ⟨rfl, J2⟩ := hR
  refine lv_icmp_eq (tgt := 957) X.1.1 X.1.2.1 dL_law_403 (by decide) (fun _ => ?_) (fun h => absurd rfl h)
  exact hk _ _ _ _ ⟨hl, hP, hD, hS⟩ J2
theorem lc_8 (X : lw_X g p s m meth c b L xs) (hL : L ≤ 3072) (hi : i + 6 ≤ L) (I : lw_I g s b i H locs ls σ) (J : Inv σ) (hk : lw_K g p e s m below meth c b i 957) : lw_W g p e s m below meth c b 408 H locs ls [] := by
  obtain ⟨hl, hP, hD, hS⟩ := I
  refine lv_aload_n X.1.1 X.1.2.1 dL_law_408 rfl (lv_at hl 2 rfl) ?_
  refine lw_arg X hL hl hS (k := 1) (by omega) dL_law_409 dL_law_410 dL_law_411 (by decide) dL_law_412 dL_law_413 ?_
  refine lw_arg X hL hl hS (k := 2) (by omega) dL_law_414 dL_law_415 dL_law_416 (by decide) dL_law_417 dL_law_418 ?_
  refine lw_arg X hL hl hS (k := 3) (by omega) dL_law_419 dL_law_420 dL_law_421 (by decide) dL_law_422 dL_law_423 ?_
  refine lw_cV (As := [.int (xs (i + 1)), .int (xs (i + 2)), .int (xs (i + 3))]) (rest := []) (c0 := 0) X hl hP hD hS rfl dL_law_424 rfl rfl npX6_along wmL_50 wvX6_along weX6_along wiX6 wdX6_along (by decide) (by decide) rfl rfl (Nat.le_of_ble_eq_true rfl) (B_along σ J) (fun v σ1 H locs hR hP hD hS => ?_)
  obtain ⟨z, rfl, h7⟩ := hR
  refine lv_aload_n X.1.1 X.1.2.1 dL_law_427 rfl (lv_at hl 1 rfl) ?_
  refine lw_arg X hL hl hS (k := 1) (by omega) dL_law_428 dL_law_429 dL_law_430 (by decide) dL_law_431 dL_law_432 ?_
  refine lw_arg X hL hl hS (k := 2) (by omega) dL_law_433 dL_law_434 dL_law_435 (by decide) dL_law_436 dL_law_437 ?_
  refine lw_arg X hL hl hS (k := 3) (by omega) dL_law_438 dL_law_439 dL_law_440 (by decide) dL_law_441 dL_law_442 ?_
  refine lw_cV (As := [.int (xs (i + 1)), .int (xs (i + 2)), .int (xs (i + 3))]) (rest := [.int z]) (c0 := 42) X hl hP hD hS rfl dL_law_443 rfl rfl npX7_along wmL_53 wvX7_along weX7_along wiX7 wdX7_along (by decide) (by decide) rfl rfl (Nat.le_of_ble_eq_true rfl) h7 (fun v σ2 H locs hR hP hD hS => ?_)
  obtain ⟨rfl, J2⟩ := hR
  refine lv_icmp_eq (tgt := 957) X.1.1 X.1.2.1 dL_law_446 (by decide) (fun _ => ?_) (fun h => absurd rfl h)
  exact hk _ _ _ _ ⟨hl, hP, hD, hS⟩ J2
theorem lc_9 (X : lw_X g p s m meth c b L xs) (hL : L ≤ 3072) (hi : i + 6 ≤ L) (I : lw_I g s b i H locs ls σ) (J : Inv σ) (hk : lw_K g p e s m below meth c b i 957) : lw_W g p e s m below meth c b 451 H locs ls [] := by
  obtain ⟨hl, hP, hD, hS⟩ := I
  refine lv_aload_n X.1.1 X.1.2.1 dL_law_451 rfl (lv_at hl 2 rfl) ?_
  refine lw_arg X hL hl hS (k := 1) (by omega) dL_law_452 dL_law_453 dL_law_454 (by decide) dL_law_455 dL_law_456 ?_
  refine lw_arg X hL hl hS (k := 2) (by omega) dL_law_457 dL_law_458 dL_law_459 (by decide) dL_law_460 dL_law_461 ?_
  refine lw_cV (As := [.int (xs (i + 1)), .int (xs (i + 2))]) (rest := []) (c0 := 0) X hl hP hD hS rfl dL_law_462 rfl rfl npX6_stroke wmL_54 wvX6_stroke weX6_stroke wiX6 wdX6_stroke (by decide) (by decide) rfl rfl (Nat.le_of_ble_eq_true rfl) (B_stroke σ J) (fun v σ1 H locs hR hP hD hS => ?_)
  obtain ⟨z, rfl, h7⟩ := hR
  refine lv_aload_n X.1.1 X.1.2.1 dL_law_465 rfl (lv_at hl 1 rfl) ?_
  refine lw_arg X hL hl hS (k := 1) (by omega) dL_law_466 dL_law_467 dL_law_468 (by decide) dL_law_469 dL_law_470 ?_
  refine lw_arg X hL hl hS (k := 2) (by omega) dL_law_471 dL_law_472 dL_law_473 (by decide) dL_law_474 dL_law_475 ?_
  refine lw_cV (As := [.int (xs (i + 1)), .int (xs (i + 2))]) (rest := [.int z]) (c0 := 42) X hl hP hD hS rfl dL_law_476 rfl rfl npX7_stroke wmL_57 wvX7_stroke weX7_stroke wiX7 wdX7_stroke (by decide) (by decide) rfl rfl (Nat.le_of_ble_eq_true rfl) h7 (fun v σ2 H locs hR hP hD hS => ?_)
  obtain ⟨rfl, J2⟩ := hR
  refine lv_icmp_eq (tgt := 957) X.1.1 X.1.2.1 dL_law_479 (by decide) (fun _ => ?_) (fun h => absurd rfl h)
  exact hk _ _ _ _ ⟨hl, hP, hD, hS⟩ J2
theorem lc_10 (X : lw_X g p s m meth c b L xs) (hL : L ≤ 3072) (hi : i + 6 ≤ L) (I : lw_I g s b i H locs ls σ) (J : Inv σ) (hk : lw_K g p e s m below meth c b i 957) : lw_W g p e s m below meth c b 484 H locs ls [] := by
  obtain ⟨hl, hP, hD, hS⟩ := I
  refine lv_aload_n X.1.1 X.1.2.1 dL_law_484 rfl (lv_at hl 2 rfl) ?_
  refine lw_arg X hL hl hS (k := 1) (by omega) dL_law_485 dL_law_486 dL_law_487 (by decide) dL_law_488 dL_law_489 ?_
  refine lw_arg X hL hl hS (k := 2) (by omega) dL_law_490 dL_law_491 dL_law_492 (by decide) dL_law_493 dL_law_494 ?_
  refine lw_cV (As := [.int (xs (i + 1)), .int (xs (i + 2))]) (rest := []) (c0 := 0) X hl hP hD hS rfl dL_law_495 rfl rfl npX6_rank wmL_58 wvX6_rank weX6_rank wiX6 wdX6_rank (by decide) (by decide) rfl rfl (Nat.le_of_ble_eq_true rfl) (B_rank σ J) (fun v σ1 H locs hR hP hD hS => ?_)
  obtain ⟨z, rfl, h7⟩ := hR
  refine lv_aload_n X.1.1 X.1.2.1 dL_law_498 rfl (lv_at hl 1 rfl) ?_
  refine lw_arg X hL hl hS (k := 1) (by omega) dL_law_499 dL_law_500 dL_law_501 (by decide) dL_law_502 dL_law_503 ?_
  refine lw_arg X hL hl hS (k := 2) (by omega) dL_law_504 dL_law_505 dL_law_506 (by decide) dL_law_507 dL_law_508 ?_
  refine lw_cV (As := [.int (xs (i + 1)), .int (xs (i + 2))]) (rest := [.int z]) (c0 := 42) X hl hP hD hS rfl dL_law_509 rfl rfl npX7_rank wmL_61 wvX7_rank weX7_rank wiX7 wdX7_rank (by decide) (by decide) rfl rfl (Nat.le_of_ble_eq_true rfl) h7 (fun v σ2 H locs hR hP hD hS => ?_)
  obtain ⟨rfl, J2⟩ := hR
  refine lv_icmp_eq (tgt := 957) X.1.1 X.1.2.1 dL_law_512 (by decide) (fun _ => ?_) (fun h => absurd rfl h)
  exact hk _ _ _ _ ⟨hl, hP, hD, hS⟩ J2
theorem lc_11 (X : lw_X g p s m meth c b L xs) (hL : L ≤ 3072) (hi : i + 6 ≤ L) (I : lw_I g s b i H locs ls σ) (J : Inv σ) (hk : lw_K g p e s m below meth c b i 957) : lw_W g p e s m below meth c b 517 H locs ls [] := by
  obtain ⟨hl, hP, hD, hS⟩ := I
  refine lv_aload_n X.1.1 X.1.2.1 dL_law_517 rfl (lv_at hl 2 rfl) ?_
  refine lw_arg X hL hl hS (k := 1) (by omega) dL_law_518 dL_law_519 dL_law_520 (by decide) dL_law_521 dL_law_522 ?_
  refine lw_arg X hL hl hS (k := 2) (by omega) dL_law_523 dL_law_524 dL_law_525 (by decide) dL_law_526 dL_law_527 ?_
  refine lw_arg X hL hl hS (k := 3) (by omega) dL_law_528 dL_law_529 dL_law_530 (by decide) dL_law_531 dL_law_532 ?_
  refine lw_cV (As := [.int (xs (i + 1)), .int (xs (i + 2)), .int (xs (i + 3))]) (rest := []) (c0 := 0) X hl hP hD hS rfl dL_law_533 rfl rfl npX6_far wmL_62 wvX6_far weX6_far wiX6 wdX6_far (by decide) (by decide) rfl rfl (Nat.le_of_ble_eq_true rfl) (B_far σ J) (fun v σ1 H locs hR hP hD hS => ?_)
  obtain ⟨z, rfl, h7⟩ := hR
  refine lv_aload_n X.1.1 X.1.2.1 dL_law_536 rfl (lv_at hl 1 rfl) ?_
  refine lw_arg X hL hl hS (k := 1) (by omega) dL_law_537 dL_law_538 dL_law_539 (by decide) dL_law_540 dL_law_541 ?_
  refine lw_arg X hL hl hS (k := 2) (by omega) dL_law_542 dL_law_543 dL_law_544 (by decide) dL_law_545 dL_law_546 ?_
  refine lw_arg X hL hl hS (k := 3) (by omega) dL_law_547 dL_law_548 dL_law_549 (by decide) dL_law_550 dL_law_551 ?_
  refine lw_cV (As := [.int (xs (i + 1)), .int (xs (i + 2)), .int (xs (i + 3))]) (rest := [.int z]) (c0 := 42) X hl hP hD hS rfl dL_law_552 rfl rfl npX7_far wmL_65 wvX7_far weX7_far wiX7 wdX7_far (by decide) (by decide) rfl rfl (Nat.le_of_ble_eq_true rfl) h7 (fun v σ2 H locs hR hP hD hS => ?_)
  obtain ⟨rfl, J2⟩ := hR
  refine lv_icmp_eq (tgt := 957) X.1.1 X.1.2.1 dL_law_555 (by decide) (fun _ => ?_) (fun h => absurd rfl h)
  exact hk _ _ _ _ ⟨hl, hP, hD, hS⟩ J2
end LC0
