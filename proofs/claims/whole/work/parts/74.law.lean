/-! the law: a call of each sort -/
theorem lc_wheat {b : ev_B} {σ : ev_M} {i : Int} {Q : Option ev_V → ev_M → Prop} (hi : 0 ≤ i ∧ i + 6 ≤ (b.2.2.2.2.1 : Int)) (hL : b.2.2.2.2.1 ≤ 3072) (hx : ∀ j : Nat, (-2147483648 ≤ b.2.2.2.2.2 j ∧ b.2.2.2.2.2 j < 2147483648)) (I : INV σ) (nx : ∀ τ, INV τ → Ev b mL_law 1369 [(0, vR 74), (1, vR 0), (2, vR 46), (3, vI i)] [] τ Q) : Ev b mL_law 208 [(0, vR 74), (1, vR 0), (2, vR 46), (3, vI i)] [] σ Q := by
  have K := INV_K I
  refine ev_aload_n dL_law_208 rfl ?_
  refine ev_aload_n dL_law_209 rfl ?_
  refine ev_iload_n dL_law_210 rfl ?_
  refine ev_iconst dL_law_211 ?_
  refine ev_iadd dL_law_212 ?_
  refine ev_sald dL_law_213 (by omega) ?_
  refine ev_aload_n dL_law_214 rfl ?_
  refine ev_iload_n dL_law_215 rfl ?_
  refine ev_iconst dL_law_216 ?_
  refine ev_iadd dL_law_217 ?_
  refine ev_sald dL_law_218 (by omega) ?_
  refine ev_callV (d5_wheat K (hx _) (hx _)) okX5_wheat dL_law_219 mlL_13 rfl rfl ⟨by decide, by decide⟩ rfl (Nat.le_of_ble_eq_true rfl) (fun r219 τ219 h219 => ?_)
  obtain ⟨rfl, h219⟩ := h219
  obtain ⟨M, e, n⟩ := INV_go go_wheat I h219
  refine ev_aload_n dL_law_222 rfl ?_
  refine ev_aload_n dL_law_223 rfl ?_
  refine ev_iload_n dL_law_224 rfl ?_
  refine ev_iconst dL_law_225 ?_
  refine ev_iadd dL_law_226 ?_
  refine ev_sald dL_law_227 (by omega) ?_
  refine ev_aload_n dL_law_228 rfl ?_
  refine ev_iload_n dL_law_229 rfl ?_
  refine ev_iconst dL_law_230 ?_
  refine ev_iadd dL_law_231 ?_
  refine ev_sald dL_law_232 (by omega) ?_
  refine ev_callV (d6_wheat M (hx _) (hx _)) okX6_wheat dL_law_233 mlL_17 rfl rfl ⟨by decide, by decide⟩ rfl (Nat.le_of_ble_eq_true rfl) (fun r233 τ233 h233 => ?_)
  obtain ⟨rfl, h233⟩ := h233
  refine ev_eq_of (tgt := 1369) dL_law_236 (by decide) e ?_
  exact nx _ (n _ h233)
theorem lc_cell {b : ev_B} {σ : ev_M} {i : Int} {Q : Option ev_V → ev_M → Prop} (hi : 0 ≤ i ∧ i + 6 ≤ (b.2.2.2.2.1 : Int)) (hL : b.2.2.2.2.1 ≤ 3072) (hx : ∀ j : Nat, (-2147483648 ≤ b.2.2.2.2.2 j ∧ b.2.2.2.2.2 j < 2147483648)) (I : INV σ) (nx : ∀ τ, INV τ → Ev b mL_law 1369 [(0, vR 74), (1, vR 0), (2, vR 46), (3, vI i)] [] τ Q) : Ev b mL_law 241 [(0, vR 74), (1, vR 0), (2, vR 46), (3, vI i)] [] σ Q := by
  have K := INV_K I
  refine ev_aload_n dL_law_241 rfl ?_
  refine ev_aload_n dL_law_242 rfl ?_
  refine ev_iload_n dL_law_243 rfl ?_
  refine ev_iconst dL_law_244 ?_
  refine ev_iadd dL_law_245 ?_
  refine ev_sald dL_law_246 (by omega) ?_
  refine ev_aload_n dL_law_247 rfl ?_
  refine ev_iload_n dL_law_248 rfl ?_
  refine ev_iconst dL_law_249 ?_
  refine ev_iadd dL_law_250 ?_
  refine ev_sald dL_law_251 (by omega) ?_
  refine ev_callV (d5_cell K (hx _) (hx _)) okX5_cell dL_law_252 mlL_18 rfl rfl ⟨by decide, by decide⟩ rfl (Nat.le_of_ble_eq_true rfl) (fun r252 τ252 h252 => ?_)
  obtain ⟨rfl, h252⟩ := h252
  obtain ⟨M, e, n⟩ := INV_go go_cell I h252
  refine ev_aload_n dL_law_255 rfl ?_
  refine ev_aload_n dL_law_256 rfl ?_
  refine ev_iload_n dL_law_257 rfl ?_
  refine ev_iconst dL_law_258 ?_
  refine ev_iadd dL_law_259 ?_
  refine ev_sald dL_law_260 (by omega) ?_
  refine ev_aload_n dL_law_261 rfl ?_
  refine ev_iload_n dL_law_262 rfl ?_
  refine ev_iconst dL_law_263 ?_
  refine ev_iadd dL_law_264 ?_
  refine ev_sald dL_law_265 (by omega) ?_
  refine ev_callV (d6_cell M (hx _) (hx _)) okX6_cell dL_law_266 mlL_21 rfl rfl ⟨by decide, by decide⟩ rfl (Nat.le_of_ble_eq_true rfl) (fun r266 τ266 h266 => ?_)
  obtain ⟨rfl, h266⟩ := h266
  refine ev_eq_of (tgt := 1369) dL_law_269 (by decide) e ?_
  exact nx _ (n _ h266)
theorem lc_crows {b : ev_B} {σ : ev_M} {i : Int} {Q : Option ev_V → ev_M → Prop} (hi : 0 ≤ i ∧ i + 6 ≤ (b.2.2.2.2.1 : Int)) (hL : b.2.2.2.2.1 ≤ 3072) (hx : ∀ j : Nat, (-2147483648 ≤ b.2.2.2.2.2 j ∧ b.2.2.2.2.2 j < 2147483648)) (I : INV σ) (nx : ∀ τ, INV τ → Ev b mL_law 1369 [(0, vR 74), (1, vR 0), (2, vR 46), (3, vI i)] [] τ Q) : Ev b mL_law 274 [(0, vR 74), (1, vR 0), (2, vR 46), (3, vI i)] [] σ Q := by
  have K := INV_K I
  refine ev_aload_n dL_law_274 rfl ?_
  refine ev_aload_n dL_law_275 rfl ?_
  refine ev_iload_n dL_law_276 rfl ?_
  refine ev_iconst dL_law_277 ?_
  refine ev_iadd dL_law_278 ?_
  refine ev_sald dL_law_279 (by omega) ?_
  refine ev_callV (d5_crows K (hx _)) okX5_crows dL_law_280 mlL_22 rfl rfl ⟨by decide, by decide⟩ rfl (Nat.le_of_ble_eq_true rfl) (fun r280 τ280 h280 => ?_)
  obtain ⟨rfl, h280⟩ := h280
  obtain ⟨M, e, n⟩ := INV_go go_crows I h280
  refine ev_aload_n dL_law_283 rfl ?_
  refine ev_aload_n dL_law_284 rfl ?_
  refine ev_iload_n dL_law_285 rfl ?_
  refine ev_iconst dL_law_286 ?_
  refine ev_iadd dL_law_287 ?_
  refine ev_sald dL_law_288 (by omega) ?_
  refine ev_callV (d6_crows M (hx _)) okX6_crows dL_law_289 mlL_26 rfl rfl ⟨by decide, by decide⟩ rfl (Nat.le_of_ble_eq_true rfl) (fun r289 τ289 h289 => ?_)
  obtain ⟨rfl, h289⟩ := h289
  refine ev_eq_of (tgt := 1369) dL_law_292 (by decide) e ?_
  exact nx _ (n _ h289)
theorem lc_sitter {b : ev_B} {σ : ev_M} {i : Int} {Q : Option ev_V → ev_M → Prop} (hi : 0 ≤ i ∧ i + 6 ≤ (b.2.2.2.2.1 : Int)) (hL : b.2.2.2.2.1 ≤ 3072) (hx : ∀ j : Nat, (-2147483648 ≤ b.2.2.2.2.2 j ∧ b.2.2.2.2.2 j < 2147483648)) (I : INV σ) (nx : ∀ τ, INV τ → Ev b mL_law 1369 [(0, vR 74), (1, vR 0), (2, vR 46), (3, vI i)] [] τ Q) : Ev b mL_law 297 [(0, vR 74), (1, vR 0), (2, vR 46), (3, vI i)] [] σ Q := by
  have K := INV_K I
  refine ev_aload_n dL_law_297 rfl ?_
  refine ev_aload_n dL_law_298 rfl ?_
  refine ev_iload_n dL_law_299 rfl ?_
  refine ev_iconst dL_law_300 ?_
  refine ev_iadd dL_law_301 ?_
  refine ev_sald dL_law_302 (by omega) ?_
  refine ev_callV (d5_sitter K (hx _)) okX5_sitter dL_law_303 mlL_27 rfl rfl ⟨by decide, by decide⟩ rfl (Nat.le_of_ble_eq_true rfl) (fun r303 τ303 h303 => ?_)
  obtain ⟨rfl, h303⟩ := h303
  obtain ⟨M, e, n⟩ := INV_go go_sitter I h303
  refine ev_aload_n dL_law_306 rfl ?_
  refine ev_aload_n dL_law_307 rfl ?_
  refine ev_iload_n dL_law_308 rfl ?_
  refine ev_iconst dL_law_309 ?_
  refine ev_iadd dL_law_310 ?_
  refine ev_sald dL_law_311 (by omega) ?_
  refine ev_callV (d6_sitter M (hx _)) okX6_sitter dL_law_312 mlL_30 rfl rfl ⟨by decide, by decide⟩ rfl (Nat.le_of_ble_eq_true rfl) (fun r312 τ312 h312 => ?_)
  obtain ⟨rfl, h312⟩ := h312
  refine ev_eq_of (tgt := 1369) dL_law_315 (by decide) e ?_
  exact nx _ (n _ h312)
theorem lc_of {b : ev_B} {σ : ev_M} {i : Int} {Q : Option ev_V → ev_M → Prop} (hi : 0 ≤ i ∧ i + 6 ≤ (b.2.2.2.2.1 : Int)) (hL : b.2.2.2.2.1 ≤ 3072) (hx : ∀ j : Nat, (-2147483648 ≤ b.2.2.2.2.2 j ∧ b.2.2.2.2.2 j < 2147483648)) (I : INV σ) (nx : ∀ τ, INV τ → Ev b mL_law 1369 [(0, vR 74), (1, vR 0), (2, vR 46), (3, vI i)] [] τ Q) : Ev b mL_law 320 [(0, vR 74), (1, vR 0), (2, vR 46), (3, vI i)] [] σ Q := by
  have K := INV_K I
  refine ev_aload_n dL_law_320 rfl ?_
  refine ev_aload_n dL_law_321 rfl ?_
  refine ev_iload_n dL_law_322 rfl ?_
  refine ev_iconst dL_law_323 ?_
  refine ev_iadd dL_law_324 ?_
  refine ev_sald dL_law_325 (by omega) ?_
  refine ev_aload_n dL_law_326 rfl ?_
  refine ev_iload_n dL_law_327 rfl ?_
  refine ev_iconst dL_law_328 ?_
  refine ev_iadd dL_law_329 ?_
  refine ev_sald dL_law_330 (by omega) ?_
  refine ev_callV (d5_of K (hx _) (hx _)) okX5_of dL_law_331 mlL_31 rfl rfl ⟨by decide, by decide⟩ rfl (Nat.le_of_ble_eq_true rfl) (fun r331 τ331 h331 => ?_)
  obtain ⟨rfl, h331⟩ := h331
  obtain ⟨M, e, n⟩ := INV_go go_of I h331
  refine ev_aload_n dL_law_334 rfl ?_
  refine ev_aload_n dL_law_335 rfl ?_
  refine ev_iload_n dL_law_336 rfl ?_
  refine ev_iconst dL_law_337 ?_
  refine ev_iadd dL_law_338 ?_
  refine ev_sald dL_law_339 (by omega) ?_
  refine ev_aload_n dL_law_340 rfl ?_
  refine ev_iload_n dL_law_341 rfl ?_
  refine ev_iconst dL_law_342 ?_
  refine ev_iadd dL_law_343 ?_
  refine ev_sald dL_law_344 (by omega) ?_
  refine ev_callV (d6_of M (hx _) (hx _)) okX6_of dL_law_345 mlL_34 rfl rfl ⟨by decide, by decide⟩ rfl (Nat.le_of_ble_eq_true rfl) (fun r345 τ345 h345 => ?_)
  obtain ⟨rfl, h345⟩ := h345
  refine ev_eq_of (tgt := 1369) dL_law_348 (by decide) e ?_
  exact nx _ (n _ h345)
theorem lc_set {b : ev_B} {σ : ev_M} {i : Int} {Q : Option ev_V → ev_M → Prop} (hi : 0 ≤ i ∧ i + 6 ≤ (b.2.2.2.2.1 : Int)) (hL : b.2.2.2.2.1 ≤ 3072) (hx : ∀ j : Nat, (-2147483648 ≤ b.2.2.2.2.2 j ∧ b.2.2.2.2.2 j < 2147483648)) (I : INV σ) (nx : ∀ τ, INV τ → Ev b mL_law 1369 [(0, vR 74), (1, vR 0), (2, vR 46), (3, vI i)] [] τ Q) : Ev b mL_law 353 [(0, vR 74), (1, vR 0), (2, vR 46), (3, vI i)] [] σ Q := by
  have K := INV_K I
  refine ev_aload_n dL_law_353 rfl ?_
  refine ev_aload_n dL_law_354 rfl ?_
  refine ev_iload_n dL_law_355 rfl ?_
  refine ev_iconst dL_law_356 ?_
  refine ev_iadd dL_law_357 ?_
  refine ev_sald dL_law_358 (by omega) ?_
  refine ev_aload_n dL_law_359 rfl ?_
  refine ev_iload_n dL_law_360 rfl ?_
  refine ev_iconst dL_law_361 ?_
  refine ev_iadd dL_law_362 ?_
  refine ev_sald dL_law_363 (by omega) ?_
  refine ev_aload_n dL_law_364 rfl ?_
  refine ev_iload_n dL_law_365 rfl ?_
  refine ev_iconst dL_law_366 ?_
  refine ev_iadd dL_law_367 ?_
  refine ev_sald dL_law_368 (by omega) ?_
  refine ev_callV (d5_set K (hx _) (hx _) (hx _)) okX5_set dL_law_369 mlL_35 rfl rfl ⟨by decide, by decide⟩ rfl (Nat.le_of_ble_eq_true rfl) (fun r369 τ369 h369 => ?_)
  obtain ⟨rfl, h369⟩ := h369
  obtain ⟨M, e, n⟩ := INV_go go_set I h369
  refine ev_aload_n dL_law_372 rfl ?_
  refine ev_aload_n dL_law_373 rfl ?_
  refine ev_iload_n dL_law_374 rfl ?_
  refine ev_iconst dL_law_375 ?_
  refine ev_iadd dL_law_376 ?_
  refine ev_sald dL_law_377 (by omega) ?_
  refine ev_aload_n dL_law_378 rfl ?_
  refine ev_iload_n dL_law_379 rfl ?_
  refine ev_iconst dL_law_380 ?_
  refine ev_iadd dL_law_381 ?_
  refine ev_sald dL_law_382 (by omega) ?_
  refine ev_aload_n dL_law_383 rfl ?_
  refine ev_iload_n dL_law_384 rfl ?_
  refine ev_iconst dL_law_385 ?_
  refine ev_iadd dL_law_386 ?_
  refine ev_sald dL_law_387 (by omega) ?_
  refine ev_callV (d6_set M (hx _) (hx _) (hx _)) okX6_set dL_law_388 mlL_39 rfl rfl ⟨by decide, by decide⟩ rfl (Nat.le_of_ble_eq_true rfl) (fun r388 τ388 h388 => ?_)
  obtain ⟨rfl, h388⟩ := h388
  refine ev_eq_of (tgt := 1369) dL_law_391 (by decide) e ?_
  exact nx _ (n _ h388)
theorem lc_turn {b : ev_B} {σ : ev_M} {i : Int} {Q : Option ev_V → ev_M → Prop} (hi : 0 ≤ i ∧ i + 6 ≤ (b.2.2.2.2.1 : Int)) (hL : b.2.2.2.2.1 ≤ 3072) (hx : ∀ j : Nat, (-2147483648 ≤ b.2.2.2.2.2 j ∧ b.2.2.2.2.2 j < 2147483648)) (I : INV σ) (nx : ∀ τ, INV τ → Ev b mL_law 1369 [(0, vR 74), (1, vR 0), (2, vR 46), (3, vI i)] [] τ Q) : Ev b mL_law 396 [(0, vR 74), (1, vR 0), (2, vR 46), (3, vI i)] [] σ Q := by
  have K := INV_K I
  refine ev_aload_n dL_law_396 rfl ?_
  refine ev_aload_n dL_law_397 rfl ?_
  refine ev_iload_n dL_law_398 rfl ?_
  refine ev_iconst dL_law_399 ?_
  refine ev_iadd dL_law_400 ?_
  refine ev_sald dL_law_401 (by omega) ?_
  refine ev_aload_n dL_law_402 rfl ?_
  refine ev_iload_n dL_law_403 rfl ?_
  refine ev_iconst dL_law_404 ?_
  refine ev_iadd dL_law_405 ?_
  refine ev_sald dL_law_406 (by omega) ?_
  refine ev_callV (d5_turn K (hx _) (hx _)) okX5_turn dL_law_407 mlL_40 rfl rfl ⟨by decide, by decide⟩ rfl (Nat.le_of_ble_eq_true rfl) (fun r407 τ407 h407 => ?_)
  obtain ⟨rfl, h407⟩ := h407
  obtain ⟨M, e, n⟩ := INV_go go_turn I h407
  refine ev_aload_n dL_law_410 rfl ?_
  refine ev_aload_n dL_law_411 rfl ?_
  refine ev_iload_n dL_law_412 rfl ?_
  refine ev_iconst dL_law_413 ?_
  refine ev_iadd dL_law_414 ?_
  refine ev_sald dL_law_415 (by omega) ?_
  refine ev_aload_n dL_law_416 rfl ?_
  refine ev_iload_n dL_law_417 rfl ?_
  refine ev_iconst dL_law_418 ?_
  refine ev_iadd dL_law_419 ?_
  refine ev_sald dL_law_420 (by omega) ?_
  refine ev_callV (d6_turn M (hx _) (hx _)) okX6_turn dL_law_421 mlL_43 rfl rfl ⟨by decide, by decide⟩ rfl (Nat.le_of_ble_eq_true rfl) (fun r421 τ421 h421 => ?_)
  obtain ⟨rfl, h421⟩ := h421
  refine ev_eq_of (tgt := 1369) dL_law_424 (by decide) e ?_
  exact nx _ (n _ h421)
theorem lc_as {b : ev_B} {σ : ev_M} {i : Int} {Q : Option ev_V → ev_M → Prop} (hi : 0 ≤ i ∧ i + 6 ≤ (b.2.2.2.2.1 : Int)) (hL : b.2.2.2.2.1 ≤ 3072) (hx : ∀ j : Nat, (-2147483648 ≤ b.2.2.2.2.2 j ∧ b.2.2.2.2.2 j < 2147483648)) (I : INV σ) (nx : ∀ τ, INV τ → Ev b mL_law 1369 [(0, vR 74), (1, vR 0), (2, vR 46), (3, vI i)] [] τ Q) : Ev b mL_law 429 [(0, vR 74), (1, vR 0), (2, vR 46), (3, vI i)] [] σ Q := by
  have K := INV_K I
  refine ev_aload_n dL_law_429 rfl ?_
  refine ev_aload_n dL_law_430 rfl ?_
  refine ev_iload_n dL_law_431 rfl ?_
  refine ev_iconst dL_law_432 ?_
  refine ev_iadd dL_law_433 ?_
  refine ev_sald dL_law_434 (by omega) ?_
  refine ev_aload_n dL_law_435 rfl ?_
  refine ev_iload_n dL_law_436 rfl ?_
  refine ev_iconst dL_law_437 ?_
  refine ev_iadd dL_law_438 ?_
  refine ev_sald dL_law_439 (by omega) ?_
  refine ev_callV (d5_as K (hx _) (hx _)) okX5_as dL_law_440 mlL_44 rfl rfl ⟨by decide, by decide⟩ rfl (Nat.le_of_ble_eq_true rfl) (fun r440 τ440 h440 => ?_)
  obtain ⟨rfl, h440⟩ := h440
  obtain ⟨M, e, n⟩ := INV_go go_as I h440
  refine ev_aload_n dL_law_443 rfl ?_
  refine ev_aload_n dL_law_444 rfl ?_
  refine ev_iload_n dL_law_445 rfl ?_
  refine ev_iconst dL_law_446 ?_
  refine ev_iadd dL_law_447 ?_
  refine ev_sald dL_law_448 (by omega) ?_
  refine ev_aload_n dL_law_449 rfl ?_
  refine ev_iload_n dL_law_450 rfl ?_
  refine ev_iconst dL_law_451 ?_
  refine ev_iadd dL_law_452 ?_
  refine ev_sald dL_law_453 (by omega) ?_
  refine ev_callV (d6_as M (hx _) (hx _)) okX6_as dL_law_454 mlL_47 rfl rfl ⟨by decide, by decide⟩ rfl (Nat.le_of_ble_eq_true rfl) (fun r454 τ454 h454 => ?_)
  obtain ⟨rfl, h454⟩ := h454
  refine ev_eq_of (tgt := 1369) dL_law_457 (by decide) e ?_
  exact nx _ (n _ h454)
theorem lc_likeness {b : ev_B} {σ : ev_M} {i : Int} {Q : Option ev_V → ev_M → Prop} (hi : 0 ≤ i ∧ i + 6 ≤ (b.2.2.2.2.1 : Int)) (hL : b.2.2.2.2.1 ≤ 3072) (hx : ∀ j : Nat, (-2147483648 ≤ b.2.2.2.2.2 j ∧ b.2.2.2.2.2 j < 2147483648)) (I : INV σ) (nx : ∀ τ, INV τ → Ev b mL_law 1369 [(0, vR 74), (1, vR 0), (2, vR 46), (3, vI i)] [] τ Q) : Ev b mL_law 462 [(0, vR 74), (1, vR 0), (2, vR 46), (3, vI i)] [] σ Q := by
  have K := INV_K I
  refine ev_aload_n dL_law_462 rfl ?_
  refine ev_aload_n dL_law_463 rfl ?_
  refine ev_iload_n dL_law_464 rfl ?_
  refine ev_iconst dL_law_465 ?_
  refine ev_iadd dL_law_466 ?_
  refine ev_sald dL_law_467 (by omega) ?_
  refine ev_aload_n dL_law_468 rfl ?_
  refine ev_iload_n dL_law_469 rfl ?_
  refine ev_iconst dL_law_470 ?_
  refine ev_iadd dL_law_471 ?_
  refine ev_sald dL_law_472 (by omega) ?_
  refine ev_callV (d5_likeness K (hx _) (hx _)) okX5_likeness dL_law_473 mlL_48 rfl rfl ⟨by decide, by decide⟩ rfl (Nat.le_of_ble_eq_true rfl) (fun r473 τ473 h473 => ?_)
  obtain ⟨rfl, h473⟩ := h473
  obtain ⟨M, e, n⟩ := INV_go go_likeness I h473
  refine ev_aload_n dL_law_476 rfl ?_
  refine ev_aload_n dL_law_477 rfl ?_
  refine ev_iload_n dL_law_478 rfl ?_
  refine ev_iconst dL_law_479 ?_
  refine ev_iadd dL_law_480 ?_
  refine ev_sald dL_law_481 (by omega) ?_
  refine ev_aload_n dL_law_482 rfl ?_
  refine ev_iload_n dL_law_483 rfl ?_
  refine ev_iconst dL_law_484 ?_
  refine ev_iadd dL_law_485 ?_
  refine ev_sald dL_law_486 (by omega) ?_
  refine ev_callV (d6_likeness M (hx _) (hx _)) okX6_likeness dL_law_487 mlL_51 rfl rfl ⟨by decide, by decide⟩ rfl (Nat.le_of_ble_eq_true rfl) (fun r487 τ487 h487 => ?_)
  obtain ⟨rfl, h487⟩ := h487
  refine ev_eq_of (tgt := 1369) dL_law_490 (by decide) e ?_
  exact nx _ (n _ h487)
theorem lc_told {b : ev_B} {σ : ev_M} {i : Int} {Q : Option ev_V → ev_M → Prop} (hi : 0 ≤ i ∧ i + 6 ≤ (b.2.2.2.2.1 : Int)) (hL : b.2.2.2.2.1 ≤ 3072) (hx : ∀ j : Nat, (-2147483648 ≤ b.2.2.2.2.2 j ∧ b.2.2.2.2.2 j < 2147483648)) (I : INV σ) (nx : ∀ τ, INV τ → Ev b mL_law 1369 [(0, vR 74), (1, vR 0), (2, vR 46), (3, vI i)] [] τ Q) : Ev b mL_law 495 [(0, vR 74), (1, vR 0), (2, vR 46), (3, vI i)] [] σ Q := by
  have K := INV_K I
  refine ev_aload_n dL_law_495 rfl ?_
  refine ev_aload_n dL_law_496 rfl ?_
  refine ev_iload_n dL_law_497 rfl ?_
  refine ev_iconst dL_law_498 ?_
  refine ev_iadd dL_law_499 ?_
  refine ev_sald dL_law_500 (by omega) ?_
  refine ev_aload_n dL_law_501 rfl ?_
  refine ev_iload_n dL_law_502 rfl ?_
  refine ev_iconst dL_law_503 ?_
  refine ev_iadd dL_law_504 ?_
  refine ev_sald dL_law_505 (by omega) ?_
  refine ev_callV (d5_told K (hx _) (hx _)) okX5_told dL_law_506 mlL_52 rfl rfl ⟨by decide, by decide⟩ rfl (Nat.le_of_ble_eq_true rfl) (fun r506 τ506 h506 => ?_)
  obtain ⟨rfl, h506⟩ := h506
  obtain ⟨M, e, n⟩ := INV_go go_told I h506
  refine ev_aload_n dL_law_509 rfl ?_
  refine ev_aload_n dL_law_510 rfl ?_
  refine ev_iload_n dL_law_511 rfl ?_
  refine ev_iconst dL_law_512 ?_
  refine ev_iadd dL_law_513 ?_
  refine ev_sald dL_law_514 (by omega) ?_
  refine ev_aload_n dL_law_515 rfl ?_
  refine ev_iload_n dL_law_516 rfl ?_
  refine ev_iconst dL_law_517 ?_
  refine ev_iadd dL_law_518 ?_
  refine ev_sald dL_law_519 (by omega) ?_
  refine ev_callV (d6_told M (hx _) (hx _)) okX6_told dL_law_520 mlL_55 rfl rfl ⟨by decide, by decide⟩ rfl (Nat.le_of_ble_eq_true rfl) (fun r520 τ520 h520 => ?_)
  obtain ⟨rfl, h520⟩ := h520
  refine ev_eq_of (tgt := 1369) dL_law_523 (by decide) e ?_
  exact nx _ (n _ h520)
theorem lc_place {b : ev_B} {σ : ev_M} {i : Int} {Q : Option ev_V → ev_M → Prop} (hi : 0 ≤ i ∧ i + 6 ≤ (b.2.2.2.2.1 : Int)) (hL : b.2.2.2.2.1 ≤ 3072) (hx : ∀ j : Nat, (-2147483648 ≤ b.2.2.2.2.2 j ∧ b.2.2.2.2.2 j < 2147483648)) (I : INV σ) (nx : ∀ τ, INV τ → Ev b mL_law 1369 [(0, vR 74), (1, vR 0), (2, vR 46), (3, vI i)] [] τ Q) : Ev b mL_law 528 [(0, vR 74), (1, vR 0), (2, vR 46), (3, vI i)] [] σ Q := by
  have K := INV_K I
  refine ev_aload_n dL_law_528 rfl ?_
  refine ev_aload_n dL_law_529 rfl ?_
  refine ev_iload_n dL_law_530 rfl ?_
  refine ev_iconst dL_law_531 ?_
  refine ev_iadd dL_law_532 ?_
  refine ev_sald dL_law_533 (by omega) ?_
  refine ev_aload_n dL_law_534 rfl ?_
  refine ev_iload_n dL_law_535 rfl ?_
  refine ev_iconst dL_law_536 ?_
  refine ev_iadd dL_law_537 ?_
  refine ev_sald dL_law_538 (by omega) ?_
  refine ev_aload_n dL_law_539 rfl ?_
  refine ev_iload_n dL_law_540 rfl ?_
  refine ev_iconst dL_law_541 ?_
  refine ev_iadd dL_law_542 ?_
  refine ev_sald dL_law_543 (by omega) ?_
  refine ev_callV (d5_place K (hx _) (hx _) (hx _)) okX5_place dL_law_544 mlL_56 rfl rfl ⟨by decide, by decide⟩ rfl (Nat.le_of_ble_eq_true rfl) (fun r544 τ544 h544 => ?_)
  obtain ⟨rfl, h544⟩ := h544
  obtain ⟨M, e, n⟩ := INV_go go_place I h544
  refine ev_aload_n dL_law_547 rfl ?_
  refine ev_aload_n dL_law_548 rfl ?_
  refine ev_iload_n dL_law_549 rfl ?_
  refine ev_iconst dL_law_550 ?_
  refine ev_iadd dL_law_551 ?_
  refine ev_sald dL_law_552 (by omega) ?_
  refine ev_aload_n dL_law_553 rfl ?_
  refine ev_iload_n dL_law_554 rfl ?_
  refine ev_iconst dL_law_555 ?_
  refine ev_iadd dL_law_556 ?_
  refine ev_sald dL_law_557 (by omega) ?_
  refine ev_aload_n dL_law_558 rfl ?_
  refine ev_iload_n dL_law_559 rfl ?_
  refine ev_iconst dL_law_560 ?_
  refine ev_iadd dL_law_561 ?_
  refine ev_sald dL_law_562 (by omega) ?_
  refine ev_callV (d6_place M (hx _) (hx _) (hx _)) okX6_place dL_law_563 mlL_59 rfl rfl ⟨by decide, by decide⟩ rfl (Nat.le_of_ble_eq_true rfl) (fun r563 τ563 h563 => ?_)
  obtain ⟨rfl, h563⟩ := h563
  refine ev_eq_of (tgt := 1369) dL_law_566 (by decide) e ?_
  exact nx _ (n _ h563)
theorem lc_scares {b : ev_B} {σ : ev_M} {i : Int} {Q : Option ev_V → ev_M → Prop} (hi : 0 ≤ i ∧ i + 6 ≤ (b.2.2.2.2.1 : Int)) (hL : b.2.2.2.2.1 ≤ 3072) (hx : ∀ j : Nat, (-2147483648 ≤ b.2.2.2.2.2 j ∧ b.2.2.2.2.2 j < 2147483648)) (I : INV σ) (nx : ∀ τ, INV τ → Ev b mL_law 1369 [(0, vR 74), (1, vR 0), (2, vR 46), (3, vI i)] [] τ Q) : Ev b mL_law 571 [(0, vR 74), (1, vR 0), (2, vR 46), (3, vI i)] [] σ Q := by
  have K := INV_K I
  refine ev_aload_n dL_law_571 rfl ?_
  refine ev_aload_n dL_law_572 rfl ?_
  refine ev_iload_n dL_law_573 rfl ?_
  refine ev_iconst dL_law_574 ?_
  refine ev_iadd dL_law_575 ?_
  refine ev_sald dL_law_576 (by omega) ?_
  refine ev_aload_n dL_law_577 rfl ?_
  refine ev_iload_n dL_law_578 rfl ?_
  refine ev_iconst dL_law_579 ?_
  refine ev_iadd dL_law_580 ?_
  refine ev_sald dL_law_581 (by omega) ?_
  refine ev_callV (d5_scares K (hx _) (hx _)) okX5_scares dL_law_582 mlL_60 rfl rfl ⟨by decide, by decide⟩ rfl (Nat.le_of_ble_eq_true rfl) (fun r582 τ582 h582 => ?_)
  obtain ⟨rfl, h582⟩ := h582
  obtain ⟨M, e, n⟩ := INV_go go_scares I h582
  refine ev_aload_n dL_law_585 rfl ?_
  refine ev_aload_n dL_law_586 rfl ?_
  refine ev_iload_n dL_law_587 rfl ?_
  refine ev_iconst dL_law_588 ?_
  refine ev_iadd dL_law_589 ?_
  refine ev_sald dL_law_590 (by omega) ?_
  refine ev_aload_n dL_law_591 rfl ?_
  refine ev_iload_n dL_law_592 rfl ?_
  refine ev_iconst dL_law_593 ?_
  refine ev_iadd dL_law_594 ?_
  refine ev_sald dL_law_595 (by omega) ?_
  refine ev_callV (d6_scares M (hx _) (hx _)) okX6_scares dL_law_596 mlL_63 rfl rfl ⟨by decide, by decide⟩ rfl (Nat.le_of_ble_eq_true rfl) (fun r596 τ596 h596 => ?_)
  obtain ⟨rfl, h596⟩ := h596
  refine ev_eq_of (tgt := 1369) dL_law_599 (by decide) e ?_
  exact nx _ (n _ h596)
theorem lc_lands {b : ev_B} {σ : ev_M} {i : Int} {Q : Option ev_V → ev_M → Prop} (hi : 0 ≤ i ∧ i + 6 ≤ (b.2.2.2.2.1 : Int)) (hL : b.2.2.2.2.1 ≤ 3072) (hx : ∀ j : Nat, (-2147483648 ≤ b.2.2.2.2.2 j ∧ b.2.2.2.2.2 j < 2147483648)) (I : INV σ) (nx : ∀ τ, INV τ → Ev b mL_law 1369 [(0, vR 74), (1, vR 0), (2, vR 46), (3, vI i)] [] τ Q) : Ev b mL_law 604 [(0, vR 74), (1, vR 0), (2, vR 46), (3, vI i)] [] σ Q := by
  have K := INV_K I
  refine ev_aload_n dL_law_604 rfl ?_
  refine ev_callV (d5_lands K) okX5_lands dL_law_605 mlL_64 rfl rfl ⟨by decide, by decide⟩ rfl (Nat.le_of_ble_eq_true rfl) (fun r605 τ605 h605 => ?_)
  obtain ⟨rfl, h605⟩ := h605
  obtain ⟨M, e, n⟩ := INV_go go_lands I h605
  refine ev_aload_n dL_law_608 rfl ?_
  refine ev_callV (d6_lands M) okX6_lands dL_law_609 mlL_68 rfl rfl ⟨by decide, by decide⟩ rfl (Nat.le_of_ble_eq_true rfl) (fun r609 τ609 h609 => ?_)
  obtain ⟨rfl, h609⟩ := h609
  refine ev_eq_of (tgt := 1369) dL_law_612 (by decide) e ?_
  exact nx _ (n _ h609)
theorem lc_days {b : ev_B} {σ : ev_M} {i : Int} {Q : Option ev_V → ev_M → Prop} (hi : 0 ≤ i ∧ i + 6 ≤ (b.2.2.2.2.1 : Int)) (hL : b.2.2.2.2.1 ≤ 3072) (hx : ∀ j : Nat, (-2147483648 ≤ b.2.2.2.2.2 j ∧ b.2.2.2.2.2 j < 2147483648)) (I : INV σ) (nx : ∀ τ, INV τ → Ev b mL_law 1369 [(0, vR 74), (1, vR 0), (2, vR 46), (3, vI i)] [] τ Q) : Ev b mL_law 617 [(0, vR 74), (1, vR 0), (2, vR 46), (3, vI i)] [] σ Q := by
  have K := INV_K I
  refine ev_aload_n dL_law_617 rfl ?_
  refine ev_aload_n dL_law_618 rfl ?_
  refine ev_iload_n dL_law_619 rfl ?_
  refine ev_iconst dL_law_620 ?_
  refine ev_iadd dL_law_621 ?_
  refine ev_sald dL_law_622 (by omega) ?_
  refine ev_callV (d5_days K (hx _)) okX5_days dL_law_623 mlL_69 rfl rfl ⟨by decide, by decide⟩ rfl (Nat.le_of_ble_eq_true rfl) (fun r623 τ623 h623 => ?_)
  obtain ⟨rfl, h623⟩ := h623
  obtain ⟨M, e, n⟩ := INV_go go_days I h623
  refine ev_aload_n dL_law_626 rfl ?_
  refine ev_aload_n dL_law_627 rfl ?_
  refine ev_iload_n dL_law_628 rfl ?_
  refine ev_iconst dL_law_629 ?_
  refine ev_iadd dL_law_630 ?_
  refine ev_sald dL_law_631 (by omega) ?_
  refine ev_callV (d6_days M (hx _)) okX6_days dL_law_632 mlL_72 rfl rfl ⟨by decide, by decide⟩ rfl (Nat.le_of_ble_eq_true rfl) (fun r632 τ632 h632 => ?_)
  obtain ⟨rfl, h632⟩ := h632
  refine ev_eq_of (tgt := 1369) dL_law_635 (by decide) e ?_
  exact nx _ (n _ h632)
theorem lc_now {b : ev_B} {σ : ev_M} {i : Int} {Q : Option ev_V → ev_M → Prop} (hi : 0 ≤ i ∧ i + 6 ≤ (b.2.2.2.2.1 : Int)) (hL : b.2.2.2.2.1 ≤ 3072) (hx : ∀ j : Nat, (-2147483648 ≤ b.2.2.2.2.2 j ∧ b.2.2.2.2.2 j < 2147483648)) (I : INV σ) (nx : ∀ τ, INV τ → Ev b mL_law 1369 [(0, vR 74), (1, vR 0), (2, vR 46), (3, vI i)] [] τ Q) : Ev b mL_law 640 [(0, vR 74), (1, vR 0), (2, vR 46), (3, vI i)] [] σ Q := by
  have K := INV_K I
  refine ev_aload_n dL_law_640 rfl ?_
  refine ev_aload_n dL_law_641 rfl ?_
  refine ev_iload_n dL_law_642 rfl ?_
  refine ev_iconst dL_law_643 ?_
  refine ev_iadd dL_law_644 ?_
  refine ev_sald dL_law_645 (by omega) ?_
  refine ev_callV (d5_now K (hx _)) okX5_now dL_law_646 mlL_73 rfl rfl ⟨by decide, by decide⟩ rfl (Nat.le_of_ble_eq_true rfl) (fun r646 τ646 h646 => ?_)
  obtain ⟨rfl, h646⟩ := h646
  obtain ⟨M, e, n⟩ := INV_go go_now I h646
  refine ev_aload_n dL_law_649 rfl ?_
  refine ev_aload_n dL_law_650 rfl ?_
  refine ev_iload_n dL_law_651 rfl ?_
  refine ev_iconst dL_law_652 ?_
  refine ev_iadd dL_law_653 ?_
  refine ev_sald dL_law_654 (by omega) ?_
  refine ev_callV (d6_now M (hx _)) okX6_now dL_law_655 mlL_76 rfl rfl ⟨by decide, by decide⟩ rfl (Nat.le_of_ble_eq_true rfl) (fun r655 τ655 h655 => ?_)
  obtain ⟨rfl, h655⟩ := h655
  refine ev_eq_of (tgt := 1369) dL_law_658 (by decide) e ?_
  exact nx _ (n _ h655)
theorem lc_on {b : ev_B} {σ : ev_M} {i : Int} {Q : Option ev_V → ev_M → Prop} (hi : 0 ≤ i ∧ i + 6 ≤ (b.2.2.2.2.1 : Int)) (hL : b.2.2.2.2.1 ≤ 3072) (hx : ∀ j : Nat, (-2147483648 ≤ b.2.2.2.2.2 j ∧ b.2.2.2.2.2 j < 2147483648)) (I : INV σ) (nx : ∀ τ, INV τ → Ev b mL_law 1369 [(0, vR 74), (1, vR 0), (2, vR 46), (3, vI i)] [] τ Q) : Ev b mL_law 663 [(0, vR 74), (1, vR 0), (2, vR 46), (3, vI i)] [] σ Q := by
  have K := INV_K I
  refine ev_aload_n dL_law_663 rfl ?_
  refine ev_aload_n dL_law_664 rfl ?_
  refine ev_iload_n dL_law_665 rfl ?_
  refine ev_iconst dL_law_666 ?_
  refine ev_iadd dL_law_667 ?_
  refine ev_sald dL_law_668 (by omega) ?_
  refine ev_aload_n dL_law_669 rfl ?_
  refine ev_iload_n dL_law_670 rfl ?_
  refine ev_iconst dL_law_671 ?_
  refine ev_iadd dL_law_672 ?_
  refine ev_sald dL_law_673 (by omega) ?_
  refine ev_callV (d5_on K (hx _) (hx _)) okX5_on dL_law_674 mlL_77 rfl rfl ⟨by decide, by decide⟩ rfl (Nat.le_of_ble_eq_true rfl) (fun r674 τ674 h674 => ?_)
  obtain ⟨rfl, h674⟩ := h674
  obtain ⟨M, e, n⟩ := INV_go go_on I h674
  refine ev_aload_n dL_law_677 rfl ?_
  refine ev_aload_n dL_law_678 rfl ?_
  refine ev_iload_n dL_law_679 rfl ?_
  refine ev_iconst dL_law_680 ?_
  refine ev_iadd dL_law_681 ?_
  refine ev_sald dL_law_682 (by omega) ?_
  refine ev_aload_n dL_law_683 rfl ?_
  refine ev_iload_n dL_law_684 rfl ?_
  refine ev_iconst dL_law_685 ?_
  refine ev_iadd dL_law_686 ?_
  refine ev_sald dL_law_687 (by omega) ?_
  refine ev_callV (d6_on M (hx _) (hx _)) okX6_on dL_law_688 mlL_80 rfl rfl ⟨by decide, by decide⟩ rfl (Nat.le_of_ble_eq_true rfl) (fun r688 τ688 h688 => ?_)
  obtain ⟨rfl, h688⟩ := h688
  refine ev_eq_of (tgt := 1369) dL_law_691 (by decide) e ?_
  exact nx _ (n _ h688)
theorem lc_eaten {b : ev_B} {σ : ev_M} {i : Int} {Q : Option ev_V → ev_M → Prop} (hi : 0 ≤ i ∧ i + 6 ≤ (b.2.2.2.2.1 : Int)) (hL : b.2.2.2.2.1 ≤ 3072) (hx : ∀ j : Nat, (-2147483648 ≤ b.2.2.2.2.2 j ∧ b.2.2.2.2.2 j < 2147483648)) (I : INV σ) (nx : ∀ τ, INV τ → Ev b mL_law 1369 [(0, vR 74), (1, vR 0), (2, vR 46), (3, vI i)] [] τ Q) : Ev b mL_law 696 [(0, vR 74), (1, vR 0), (2, vR 46), (3, vI i)] [] σ Q := by
  have K := INV_K I
  refine ev_aload_n dL_law_696 rfl ?_
  refine ev_aload_n dL_law_697 rfl ?_
  refine ev_iload_n dL_law_698 rfl ?_
  refine ev_iconst dL_law_699 ?_
  refine ev_iadd dL_law_700 ?_
  refine ev_sald dL_law_701 (by omega) ?_
  refine ev_callV (d5_eaten K (hx _)) okX5_eaten dL_law_702 mlL_81 rfl rfl ⟨by decide, by decide⟩ rfl (Nat.le_of_ble_eq_true rfl) (fun r702 τ702 h702 => ?_)
  obtain ⟨rfl, h702⟩ := h702
  obtain ⟨M, e, n⟩ := INV_go go_eaten I h702
  refine ev_aload_n dL_law_705 rfl ?_
  refine ev_aload_n dL_law_706 rfl ?_
  refine ev_iload_n dL_law_707 rfl ?_
  refine ev_iconst dL_law_708 ?_
  refine ev_iadd dL_law_709 ?_
  refine ev_sald dL_law_710 (by omega) ?_
  refine ev_callV (d6_eaten M (hx _)) okX6_eaten dL_law_711 mlL_84 rfl rfl ⟨by decide, by decide⟩ rfl (Nat.le_of_ble_eq_true rfl) (fun r711 τ711 h711 => ?_)
  obtain ⟨rfl, h711⟩ := h711
  refine ev_eq_of (tgt := 1369) dL_law_714 (by decide) e ?_
  exact nx _ (n _ h711)
theorem lc_first {b : ev_B} {σ : ev_M} {i : Int} {Q : Option ev_V → ev_M → Prop} (hi : 0 ≤ i ∧ i + 6 ≤ (b.2.2.2.2.1 : Int)) (hL : b.2.2.2.2.1 ≤ 3072) (hx : ∀ j : Nat, (-2147483648 ≤ b.2.2.2.2.2 j ∧ b.2.2.2.2.2 j < 2147483648)) (I : INV σ) (nx : ∀ τ, INV τ → Ev b mL_law 1369 [(0, vR 74), (1, vR 0), (2, vR 46), (3, vI i)] [] τ Q) : Ev b mL_law 719 [(0, vR 74), (1, vR 0), (2, vR 46), (3, vI i)] [] σ Q := by
  have K := INV_K I
  refine ev_aload_n dL_law_719 rfl ?_
  refine ev_aload_n dL_law_720 rfl ?_
  refine ev_iload_n dL_law_721 rfl ?_
  refine ev_iconst dL_law_722 ?_
  refine ev_iadd dL_law_723 ?_
  refine ev_sald dL_law_724 (by omega) ?_
  refine ev_callV (d5_first K (hx _)) okX5_first dL_law_725 mlL_85 rfl rfl ⟨by decide, by decide⟩ rfl (Nat.le_of_ble_eq_true rfl) (fun r725 τ725 h725 => ?_)
  obtain ⟨rfl, h725⟩ := h725
  obtain ⟨M, e, n⟩ := INV_go go_first I h725
  refine ev_aload_n dL_law_728 rfl ?_
  refine ev_aload_n dL_law_729 rfl ?_
  refine ev_iload_n dL_law_730 rfl ?_
  refine ev_iconst dL_law_731 ?_
  refine ev_iadd dL_law_732 ?_
  refine ev_sald dL_law_733 (by omega) ?_
  refine ev_callV (d6_first M (hx _)) okX6_first dL_law_734 mlL_88 rfl rfl ⟨by decide, by decide⟩ rfl (Nat.le_of_ble_eq_true rfl) (fun r734 τ734 h734 => ?_)
  obtain ⟨rfl, h734⟩ := h734
  refine ev_eq_of (tgt := 1369) dL_law_737 (by decide) e ?_
  exact nx _ (n _ h734)
theorem lc_spot {b : ev_B} {σ : ev_M} {i : Int} {Q : Option ev_V → ev_M → Prop} (hi : 0 ≤ i ∧ i + 6 ≤ (b.2.2.2.2.1 : Int)) (hL : b.2.2.2.2.1 ≤ 3072) (hx : ∀ j : Nat, (-2147483648 ≤ b.2.2.2.2.2 j ∧ b.2.2.2.2.2 j < 2147483648)) (I : INV σ) (nx : ∀ τ, INV τ → Ev b mL_law 1369 [(0, vR 74), (1, vR 0), (2, vR 46), (3, vI i)] [] τ Q) : Ev b mL_law 742 [(0, vR 74), (1, vR 0), (2, vR 46), (3, vI i)] [] σ Q := by
  have K := INV_K I
  refine ev_aload_n dL_law_742 rfl ?_
  refine ev_aload_n dL_law_743 rfl ?_
  refine ev_iload_n dL_law_744 rfl ?_
  refine ev_iconst dL_law_745 ?_
  refine ev_iadd dL_law_746 ?_
  refine ev_sald dL_law_747 (by omega) ?_
  refine ev_aload_n dL_law_748 rfl ?_
  refine ev_iload_n dL_law_749 rfl ?_
  refine ev_iconst dL_law_750 ?_
  refine ev_iadd dL_law_751 ?_
  refine ev_sald dL_law_752 (by omega) ?_
  refine ev_callV (d5_spot K (hx _) (hx _)) okX5_spot dL_law_753 mlL_89 rfl rfl ⟨by decide, by decide⟩ rfl (Nat.le_of_ble_eq_true rfl) (fun r753 τ753 h753 => ?_)
  obtain ⟨rfl, h753⟩ := h753
  obtain ⟨M, e, n⟩ := INV_go go_spot I h753
  refine ev_aload_n dL_law_756 rfl ?_
  refine ev_aload_n dL_law_757 rfl ?_
  refine ev_iload_n dL_law_758 rfl ?_
  refine ev_iconst dL_law_759 ?_
  refine ev_iadd dL_law_760 ?_
  refine ev_sald dL_law_761 (by omega) ?_
  refine ev_aload_n dL_law_762 rfl ?_
  refine ev_iload_n dL_law_763 rfl ?_
  refine ev_iconst dL_law_764 ?_
  refine ev_iadd dL_law_765 ?_
  refine ev_sald dL_law_766 (by omega) ?_
  refine ev_callV (d6_spot M (hx _) (hx _)) okX6_spot dL_law_767 mlL_92 rfl rfl ⟨by decide, by decide⟩ rfl (Nat.le_of_ble_eq_true rfl) (fun r767 τ767 h767 => ?_)
  obtain ⟨rfl, h767⟩ := h767
  refine ev_eq_of (tgt := 1369) dL_law_770 (by decide) e ?_
  exact nx _ (n _ h767)
theorem lc_whose {b : ev_B} {σ : ev_M} {i : Int} {Q : Option ev_V → ev_M → Prop} (hi : 0 ≤ i ∧ i + 6 ≤ (b.2.2.2.2.1 : Int)) (hL : b.2.2.2.2.1 ≤ 3072) (hx : ∀ j : Nat, (-2147483648 ≤ b.2.2.2.2.2 j ∧ b.2.2.2.2.2 j < 2147483648)) (I : INV σ) (nx : ∀ τ, INV τ → Ev b mL_law 1369 [(0, vR 74), (1, vR 0), (2, vR 46), (3, vI i)] [] τ Q) : Ev b mL_law 775 [(0, vR 74), (1, vR 0), (2, vR 46), (3, vI i)] [] σ Q := by
  have K := INV_K I
  refine ev_aload_n dL_law_775 rfl ?_
  refine ev_aload_n dL_law_776 rfl ?_
  refine ev_iload_n dL_law_777 rfl ?_
  refine ev_iconst dL_law_778 ?_
  refine ev_iadd dL_law_779 ?_
  refine ev_sald dL_law_780 (by omega) ?_
  refine ev_aload_n dL_law_781 rfl ?_
  refine ev_iload_n dL_law_782 rfl ?_
  refine ev_iconst dL_law_783 ?_
  refine ev_iadd dL_law_784 ?_
  refine ev_sald dL_law_785 (by omega) ?_
  refine ev_callV (d5_whose K (hx _) (hx _)) okX5_whose dL_law_786 mlL_93 rfl rfl ⟨by decide, by decide⟩ rfl (Nat.le_of_ble_eq_true rfl) (fun r786 τ786 h786 => ?_)
  obtain ⟨rfl, h786⟩ := h786
  obtain ⟨M, e, n⟩ := INV_go go_whose I h786
  refine ev_aload_n dL_law_789 rfl ?_
  refine ev_aload_n dL_law_790 rfl ?_
  refine ev_iload_n dL_law_791 rfl ?_
  refine ev_iconst dL_law_792 ?_
  refine ev_iadd dL_law_793 ?_
  refine ev_sald dL_law_794 (by omega) ?_
  refine ev_aload_n dL_law_795 rfl ?_
  refine ev_iload_n dL_law_796 rfl ?_
  refine ev_iconst dL_law_797 ?_
  refine ev_iadd dL_law_798 ?_
  refine ev_sald dL_law_799 (by omega) ?_
  refine ev_callV (d6_whose M (hx _) (hx _)) okX6_whose dL_law_800 mlL_96 rfl rfl ⟨by decide, by decide⟩ rfl (Nat.le_of_ble_eq_true rfl) (fun r800 τ800 h800 => ?_)
  obtain ⟨rfl, h800⟩ := h800
  refine ev_eq_of (tgt := 1369) dL_law_803 (by decide) e ?_
  exact nx _ (n _ h800)
theorem lc_kind {b : ev_B} {σ : ev_M} {i : Int} {Q : Option ev_V → ev_M → Prop} (hi : 0 ≤ i ∧ i + 6 ≤ (b.2.2.2.2.1 : Int)) (hL : b.2.2.2.2.1 ≤ 3072) (hx : ∀ j : Nat, (-2147483648 ≤ b.2.2.2.2.2 j ∧ b.2.2.2.2.2 j < 2147483648)) (I : INV σ) (nx : ∀ τ, INV τ → Ev b mL_law 1369 [(0, vR 74), (1, vR 0), (2, vR 46), (3, vI i)] [] τ Q) : Ev b mL_law 808 [(0, vR 74), (1, vR 0), (2, vR 46), (3, vI i)] [] σ Q := by
  have K := INV_K I
  refine ev_aload_n dL_law_808 rfl ?_
  refine ev_aload_n dL_law_809 rfl ?_
  refine ev_iload_n dL_law_810 rfl ?_
  refine ev_iconst dL_law_811 ?_
  refine ev_iadd dL_law_812 ?_
  refine ev_sald dL_law_813 (by omega) ?_
  refine ev_aload_n dL_law_814 rfl ?_
  refine ev_iload_n dL_law_815 rfl ?_
  refine ev_iconst dL_law_816 ?_
  refine ev_iadd dL_law_817 ?_
  refine ev_sald dL_law_818 (by omega) ?_
  refine ev_callV (d5_kind K (hx _) (hx _)) okX5_kind dL_law_819 mlL_97 rfl rfl ⟨by decide, by decide⟩ rfl (Nat.le_of_ble_eq_true rfl) (fun r819 τ819 h819 => ?_)
  obtain ⟨rfl, h819⟩ := h819
  obtain ⟨M, e, n⟩ := INV_go go_kind I h819
  refine ev_aload_n dL_law_822 rfl ?_
  refine ev_aload_n dL_law_823 rfl ?_
  refine ev_iload_n dL_law_824 rfl ?_
  refine ev_iconst dL_law_825 ?_
  refine ev_iadd dL_law_826 ?_
  refine ev_sald dL_law_827 (by omega) ?_
  refine ev_aload_n dL_law_828 rfl ?_
  refine ev_iload_n dL_law_829 rfl ?_
  refine ev_iconst dL_law_830 ?_
  refine ev_iadd dL_law_831 ?_
  refine ev_sald dL_law_832 (by omega) ?_
  refine ev_callV (d6_kind M (hx _) (hx _)) okX6_kind dL_law_833 mlL_100 rfl rfl ⟨by decide, by decide⟩ rfl (Nat.le_of_ble_eq_true rfl) (fun r833 τ833 h833 => ?_)
  obtain ⟨rfl, h833⟩ := h833
  refine ev_eq_of (tgt := 1369) dL_law_836 (by decide) e ?_
  exact nx _ (n _ h833)
theorem lc_temper {b : ev_B} {σ : ev_M} {i : Int} {Q : Option ev_V → ev_M → Prop} (hi : 0 ≤ i ∧ i + 6 ≤ (b.2.2.2.2.1 : Int)) (hL : b.2.2.2.2.1 ≤ 3072) (hx : ∀ j : Nat, (-2147483648 ≤ b.2.2.2.2.2 j ∧ b.2.2.2.2.2 j < 2147483648)) (I : INV σ) (nx : ∀ τ, INV τ → Ev b mL_law 1369 [(0, vR 74), (1, vR 0), (2, vR 46), (3, vI i)] [] τ Q) : Ev b mL_law 841 [(0, vR 74), (1, vR 0), (2, vR 46), (3, vI i)] [] σ Q := by
  have K := INV_K I
  refine ev_aload_n dL_law_841 rfl ?_
  refine ev_aload_n dL_law_842 rfl ?_
  refine ev_iload_n dL_law_843 rfl ?_
  refine ev_iconst dL_law_844 ?_
  refine ev_iadd dL_law_845 ?_
  refine ev_sald dL_law_846 (by omega) ?_
  refine ev_aload_n dL_law_847 rfl ?_
  refine ev_iload_n dL_law_848 rfl ?_
  refine ev_iconst dL_law_849 ?_
  refine ev_iadd dL_law_850 ?_
  refine ev_sald dL_law_851 (by omega) ?_
  refine ev_callV (d5_temper K (hx _) (hx _)) okX5_temper dL_law_852 mlL_101 rfl rfl ⟨by decide, by decide⟩ rfl (Nat.le_of_ble_eq_true rfl) (fun r852 τ852 h852 => ?_)
  obtain ⟨rfl, h852⟩ := h852
  obtain ⟨M, e, n⟩ := INV_go go_temper I h852
  refine ev_aload_n dL_law_855 rfl ?_
  refine ev_aload_n dL_law_856 rfl ?_
  refine ev_iload_n dL_law_857 rfl ?_
  refine ev_iconst dL_law_858 ?_
  refine ev_iadd dL_law_859 ?_
  refine ev_sald dL_law_860 (by omega) ?_
  refine ev_aload_n dL_law_861 rfl ?_
  refine ev_iload_n dL_law_862 rfl ?_
  refine ev_iconst dL_law_863 ?_
  refine ev_iadd dL_law_864 ?_
  refine ev_sald dL_law_865 (by omega) ?_
  refine ev_callV (d6_temper M (hx _) (hx _)) okX6_temper dL_law_866 mlL_104 rfl rfl ⟨by decide, by decide⟩ rfl (Nat.le_of_ble_eq_true rfl) (fun r866 τ866 h866 => ?_)
  obtain ⟨rfl, h866⟩ := h866
  refine ev_eq_of (tgt := 1369) dL_law_869 (by decide) e ?_
  exact nx _ (n _ h866)
theorem lc_keep {b : ev_B} {σ : ev_M} {i : Int} {Q : Option ev_V → ev_M → Prop} (hi : 0 ≤ i ∧ i + 6 ≤ (b.2.2.2.2.1 : Int)) (hL : b.2.2.2.2.1 ≤ 3072) (hx : ∀ j : Nat, (-2147483648 ≤ b.2.2.2.2.2 j ∧ b.2.2.2.2.2 j < 2147483648)) (I : INV σ) (nx : ∀ τ, INV τ → Ev b mL_law 1369 [(0, vR 74), (1, vR 0), (2, vR 46), (3, vI i)] [] τ Q) : Ev b mL_law 874 [(0, vR 74), (1, vR 0), (2, vR 46), (3, vI i)] [] σ Q := by
  have K := INV_K I
  refine ev_aload_n dL_law_874 rfl ?_
  refine ev_aload_n dL_law_875 rfl ?_
  refine ev_iload_n dL_law_876 rfl ?_
  refine ev_iconst dL_law_877 ?_
  refine ev_iadd dL_law_878 ?_
  refine ev_sald dL_law_879 (by omega) ?_
  refine ev_callV (d5_keep K (hx _)) okX5_keep dL_law_880 mlL_105 rfl rfl ⟨by decide, by decide⟩ rfl (Nat.le_of_ble_eq_true rfl) (fun r880 τ880 h880 => ?_)
  obtain ⟨rfl, h880⟩ := h880
  obtain ⟨M, e, n⟩ := INV_go go_keep I h880
  refine ev_aload_n dL_law_883 rfl ?_
  refine ev_aload_n dL_law_884 rfl ?_
  refine ev_iload_n dL_law_885 rfl ?_
  refine ev_iconst dL_law_886 ?_
  refine ev_iadd dL_law_887 ?_
  refine ev_sald dL_law_888 (by omega) ?_
  refine ev_callV (d6_keep M (hx _)) okX6_keep dL_law_889 mlL_108 rfl rfl ⟨by decide, by decide⟩ rfl (Nat.le_of_ble_eq_true rfl) (fun r889 τ889 h889 => ?_)
  obtain ⟨rfl, h889⟩ := h889
  refine ev_eq_of (tgt := 1369) dL_law_892 (by decide) e ?_
  exact nx _ (n _ h889)
theorem lc_worth {b : ev_B} {σ : ev_M} {i : Int} {Q : Option ev_V → ev_M → Prop} (hi : 0 ≤ i ∧ i + 6 ≤ (b.2.2.2.2.1 : Int)) (hL : b.2.2.2.2.1 ≤ 3072) (hx : ∀ j : Nat, (-2147483648 ≤ b.2.2.2.2.2 j ∧ b.2.2.2.2.2 j < 2147483648)) (I : INV σ) (nx : ∀ τ, INV τ → Ev b mL_law 1369 [(0, vR 74), (1, vR 0), (2, vR 46), (3, vI i)] [] τ Q) : Ev b mL_law 897 [(0, vR 74), (1, vR 0), (2, vR 46), (3, vI i)] [] σ Q := by
  have K := INV_K I
  refine ev_aload_n dL_law_897 rfl ?_
  refine ev_aload_n dL_law_898 rfl ?_
  refine ev_iload_n dL_law_899 rfl ?_
  refine ev_iconst dL_law_900 ?_
  refine ev_iadd dL_law_901 ?_
  refine ev_sald dL_law_902 (by omega) ?_
  refine ev_callV (d5_worth K (hx _)) okX5_worth dL_law_903 mlL_109 rfl rfl ⟨by decide, by decide⟩ rfl (Nat.le_of_ble_eq_true rfl) (fun r903 τ903 h903 => ?_)
  obtain ⟨rfl, h903⟩ := h903
  obtain ⟨M, e, n⟩ := INV_go go_worth I h903
  refine ev_aload_n dL_law_906 rfl ?_
  refine ev_aload_n dL_law_907 rfl ?_
  refine ev_iload_n dL_law_908 rfl ?_
  refine ev_iconst dL_law_909 ?_
  refine ev_iadd dL_law_910 ?_
  refine ev_sald dL_law_911 (by omega) ?_
  refine ev_callV (d6_worth M (hx _)) okX6_worth dL_law_912 mlL_112 rfl rfl ⟨by decide, by decide⟩ rfl (Nat.le_of_ble_eq_true rfl) (fun r912 τ912 h912 => ?_)
  obtain ⟨rfl, h912⟩ := h912
  refine ev_eq_of (tgt := 1369) dL_law_915 (by decide) e ?_
  exact nx _ (n _ h912)
theorem lc_apart {b : ev_B} {σ : ev_M} {i : Int} {Q : Option ev_V → ev_M → Prop} (hi : 0 ≤ i ∧ i + 6 ≤ (b.2.2.2.2.1 : Int)) (hL : b.2.2.2.2.1 ≤ 3072) (hx : ∀ j : Nat, (-2147483648 ≤ b.2.2.2.2.2 j ∧ b.2.2.2.2.2 j < 2147483648)) (I : INV σ) (nx : ∀ τ, INV τ → Ev b mL_law 1369 [(0, vR 74), (1, vR 0), (2, vR 46), (3, vI i)] [] τ Q) : Ev b mL_law 920 [(0, vR 74), (1, vR 0), (2, vR 46), (3, vI i)] [] σ Q := by
  have K := INV_K I
  refine ev_aload_n dL_law_920 rfl ?_
  refine ev_aload_n dL_law_921 rfl ?_
  refine ev_iload_n dL_law_922 rfl ?_
  refine ev_iconst dL_law_923 ?_
  refine ev_iadd dL_law_924 ?_
  refine ev_sald dL_law_925 (by omega) ?_
  refine ev_callV (d5_apart K (hx _)) okX5_apart dL_law_926 mlL_113 rfl rfl ⟨by decide, by decide⟩ rfl (Nat.le_of_ble_eq_true rfl) (fun r926 τ926 h926 => ?_)
  obtain ⟨rfl, h926⟩ := h926
  obtain ⟨M, e, n⟩ := INV_go go_apart I h926
  refine ev_aload_n dL_law_929 rfl ?_
  refine ev_aload_n dL_law_930 rfl ?_
  refine ev_iload_n dL_law_931 rfl ?_
  refine ev_iconst dL_law_932 ?_
  refine ev_iadd dL_law_933 ?_
  refine ev_sald dL_law_934 (by omega) ?_
  refine ev_callV (d6_apart M (hx _)) okX6_apart dL_law_935 mlL_116 rfl rfl ⟨by decide, by decide⟩ rfl (Nat.le_of_ble_eq_true rfl) (fun r935 τ935 h935 => ?_)
  obtain ⟨rfl, h935⟩ := h935
  refine ev_eq_of (tgt := 1369) dL_law_938 (by decide) e ?_
  exact nx _ (n _ h935)
theorem lc_swap {b : ev_B} {σ : ev_M} {i : Int} {Q : Option ev_V → ev_M → Prop} (hi : 0 ≤ i ∧ i + 6 ≤ (b.2.2.2.2.1 : Int)) (hL : b.2.2.2.2.1 ≤ 3072) (hx : ∀ j : Nat, (-2147483648 ≤ b.2.2.2.2.2 j ∧ b.2.2.2.2.2 j < 2147483648)) (I : INV σ) (nx : ∀ τ, INV τ → Ev b mL_law 1369 [(0, vR 74), (1, vR 0), (2, vR 46), (3, vI i)] [] τ Q) : Ev b mL_law 943 [(0, vR 74), (1, vR 0), (2, vR 46), (3, vI i)] [] σ Q := by
  have K := INV_K I
  refine ev_aload_n dL_law_943 rfl ?_
  refine ev_aload_n dL_law_944 rfl ?_
  refine ev_iload_n dL_law_945 rfl ?_
  refine ev_iconst dL_law_946 ?_
  refine ev_iadd dL_law_947 ?_
  refine ev_sald dL_law_948 (by omega) ?_
  refine ev_callV (d5_swap K (hx _)) okX5_swap dL_law_949 mlL_117 rfl rfl ⟨by decide, by decide⟩ rfl (Nat.le_of_ble_eq_true rfl) (fun r949 τ949 h949 => ?_)
  obtain ⟨rfl, h949⟩ := h949
  obtain ⟨M, e, n⟩ := INV_go go_swap I h949
  refine ev_aload_n dL_law_952 rfl ?_
  refine ev_aload_n dL_law_953 rfl ?_
  refine ev_iload_n dL_law_954 rfl ?_
  refine ev_iconst dL_law_955 ?_
  refine ev_iadd dL_law_956 ?_
  refine ev_sald dL_law_957 (by omega) ?_
  refine ev_callV (d6_swap M (hx _)) okX6_swap dL_law_958 mlL_120 rfl rfl ⟨by decide, by decide⟩ rfl (Nat.le_of_ble_eq_true rfl) (fun r958 τ958 h958 => ?_)
  obtain ⟨rfl, h958⟩ := h958
  refine ev_eq_of (tgt := 1369) dL_law_961 (by decide) e ?_
  exact nx _ (n _ h958)
theorem lc_feed {b : ev_B} {σ : ev_M} {i : Int} {Q : Option ev_V → ev_M → Prop} (hi : 0 ≤ i ∧ i + 6 ≤ (b.2.2.2.2.1 : Int)) (hL : b.2.2.2.2.1 ≤ 3072) (hx : ∀ j : Nat, (-2147483648 ≤ b.2.2.2.2.2 j ∧ b.2.2.2.2.2 j < 2147483648)) (I : INV σ) (nx : ∀ τ, INV τ → Ev b mL_law 1369 [(0, vR 74), (1, vR 0), (2, vR 46), (3, vI i)] [] τ Q) : Ev b mL_law 966 [(0, vR 74), (1, vR 0), (2, vR 46), (3, vI i)] [] σ Q := by
  have K := INV_K I
  refine ev_aload_n dL_law_966 rfl ?_
  refine ev_aload_n dL_law_967 rfl ?_
  refine ev_iload_n dL_law_968 rfl ?_
  refine ev_iconst dL_law_969 ?_
  refine ev_iadd dL_law_970 ?_
  refine ev_sald dL_law_971 (by omega) ?_
  refine ev_aload_n dL_law_972 rfl ?_
  refine ev_iload_n dL_law_973 rfl ?_
  refine ev_iconst dL_law_974 ?_
  refine ev_iadd dL_law_975 ?_
  refine ev_sald dL_law_976 (by omega) ?_
  refine ev_callV (d5_feed K (hx _) (hx _)) okX5_feed dL_law_977 mlL_121 rfl rfl ⟨by decide, by decide⟩ rfl (Nat.le_of_ble_eq_true rfl) (fun r977 τ977 h977 => ?_)
  obtain ⟨rfl, h977⟩ := h977
  obtain ⟨M, e, n⟩ := INV_go go_feed I h977
  refine ev_aload_n dL_law_980 rfl ?_
  refine ev_aload_n dL_law_981 rfl ?_
  refine ev_iload_n dL_law_982 rfl ?_
  refine ev_iconst dL_law_983 ?_
  refine ev_iadd dL_law_984 ?_
  refine ev_sald dL_law_985 (by omega) ?_
  refine ev_aload_n dL_law_986 rfl ?_
  refine ev_iload_n dL_law_987 rfl ?_
  refine ev_iconst dL_law_988 ?_
  refine ev_iadd dL_law_989 ?_
  refine ev_sald dL_law_990 (by omega) ?_
  refine ev_callV (d6_feed M (hx _) (hx _)) okX6_feed dL_law_991 mlL_124 rfl rfl ⟨by decide, by decide⟩ rfl (Nat.le_of_ble_eq_true rfl) (fun r991 τ991 h991 => ?_)
  obtain ⟨rfl, h991⟩ := h991
  refine ev_eq_of (tgt := 1369) dL_law_994 (by decide) e ?_
  exact nx _ (n _ h991)
theorem lc_wipe {b : ev_B} {σ : ev_M} {i : Int} {Q : Option ev_V → ev_M → Prop} (hi : 0 ≤ i ∧ i + 6 ≤ (b.2.2.2.2.1 : Int)) (hL : b.2.2.2.2.1 ≤ 3072) (hx : ∀ j : Nat, (-2147483648 ≤ b.2.2.2.2.2 j ∧ b.2.2.2.2.2 j < 2147483648)) (I : INV σ) (nx : ∀ τ, INV τ → Ev b mL_law 1369 [(0, vR 74), (1, vR 0), (2, vR 46), (3, vI i)] [] τ Q) : Ev b mL_law 999 [(0, vR 74), (1, vR 0), (2, vR 46), (3, vI i)] [] σ Q := by
  have K := INV_K I
  refine ev_aload_n dL_law_999 rfl ?_
  refine ev_callV (d5_wipe K) okX5_wipe dL_law_1000 mlL_125 rfl rfl ⟨by decide, by decide⟩ rfl (Nat.le_of_ble_eq_true rfl) (fun r1000 τ1000 h1000 => ?_)
  obtain ⟨rfl, h1000⟩ := h1000
  obtain ⟨M, e, n⟩ := INV_go go_wipe I h1000
  refine ev_aload_n dL_law_1003 rfl ?_
  refine ev_callV (d6_wipe M) okX6_wipe dL_law_1004 mlL_128 rfl rfl ⟨by decide, by decide⟩ rfl (Nat.le_of_ble_eq_true rfl) (fun r1004 τ1004 h1004 => ?_)
  obtain ⟨rfl, h1004⟩ := h1004
  refine ev_eq_of (tgt := 1369) dL_law_1007 (by decide) e ?_
  exact nx _ (n _ h1004)
theorem lc_plain {b : ev_B} {σ : ev_M} {i : Int} {Q : Option ev_V → ev_M → Prop} (hi : 0 ≤ i ∧ i + 6 ≤ (b.2.2.2.2.1 : Int)) (hL : b.2.2.2.2.1 ≤ 3072) (hx : ∀ j : Nat, (-2147483648 ≤ b.2.2.2.2.2 j ∧ b.2.2.2.2.2 j < 2147483648)) (I : INV σ) (nx : ∀ τ, INV τ → Ev b mL_law 1369 [(0, vR 74), (1, vR 0), (2, vR 46), (3, vI i)] [] τ Q) : Ev b mL_law 1012 [(0, vR 74), (1, vR 0), (2, vR 46), (3, vI i)] [] σ Q := by
  have K := INV_K I
  refine ev_aload_n dL_law_1012 rfl ?_
  refine ev_callV (d5_plain K) okX5_plain dL_law_1013 mlL_129 rfl rfl ⟨by decide, by decide⟩ rfl (Nat.le_of_ble_eq_true rfl) (fun r1013 τ1013 h1013 => ?_)
  obtain ⟨rfl, h1013⟩ := h1013
  obtain ⟨M, e, n⟩ := INV_go go_plain I h1013
  refine ev_aload_n dL_law_1016 rfl ?_
  refine ev_callV (d6_plain M) okX6_plain dL_law_1017 mlL_132 rfl rfl ⟨by decide, by decide⟩ rfl (Nat.le_of_ble_eq_true rfl) (fun r1017 τ1017 h1017 => ?_)
  obtain ⟨rfl, h1017⟩ := h1017
  refine ev_eq_of (tgt := 1369) dL_law_1020 (by decide) e ?_
  exact nx _ (n _ h1017)
theorem lc_sheet {b : ev_B} {σ : ev_M} {i : Int} {Q : Option ev_V → ev_M → Prop} (hi : 0 ≤ i ∧ i + 6 ≤ (b.2.2.2.2.1 : Int)) (hL : b.2.2.2.2.1 ≤ 3072) (hx : ∀ j : Nat, (-2147483648 ≤ b.2.2.2.2.2 j ∧ b.2.2.2.2.2 j < 2147483648)) (I : INV σ) (nx : ∀ τ, INV τ → Ev b mL_law 1369 [(0, vR 74), (1, vR 0), (2, vR 46), (3, vI i)] [] τ Q) : Ev b mL_law 1025 [(0, vR 74), (1, vR 0), (2, vR 46), (3, vI i)] [] σ Q := by
  have K := INV_K I
  refine ev_aload_n dL_law_1025 rfl ?_
  refine ev_aload_n dL_law_1026 rfl ?_
  refine ev_iload_n dL_law_1027 rfl ?_
  refine ev_iconst dL_law_1028 ?_
  refine ev_iadd dL_law_1029 ?_
  refine ev_sald dL_law_1030 (by omega) ?_
  refine ev_aload_n dL_law_1031 rfl ?_
  refine ev_iload_n dL_law_1032 rfl ?_
  refine ev_iconst dL_law_1033 ?_
  refine ev_iadd dL_law_1034 ?_
  refine ev_sald dL_law_1035 (by omega) ?_
  refine ev_aload_n dL_law_1036 rfl ?_
  refine ev_iload_n dL_law_1037 rfl ?_
  refine ev_iconst dL_law_1038 ?_
  refine ev_iadd dL_law_1039 ?_
  refine ev_sald dL_law_1040 (by omega) ?_
  refine ev_callV (d5_sheet K (hx _) (hx _) (hx _)) okX5_sheet dL_law_1041 mlL_133 rfl rfl ⟨by decide, by decide⟩ rfl (Nat.le_of_ble_eq_true rfl) (fun r1041 τ1041 h1041 => ?_)
  obtain ⟨rfl, h1041⟩ := h1041
  obtain ⟨M, e, n⟩ := INV_go go_sheet I h1041
  refine ev_aload_n dL_law_1044 rfl ?_
  refine ev_aload_n dL_law_1045 rfl ?_
  refine ev_iload_n dL_law_1046 rfl ?_
  refine ev_iconst dL_law_1047 ?_
  refine ev_iadd dL_law_1048 ?_
  refine ev_sald dL_law_1049 (by omega) ?_
  refine ev_aload_n dL_law_1050 rfl ?_
  refine ev_iload_n dL_law_1051 rfl ?_
  refine ev_iconst dL_law_1052 ?_
  refine ev_iadd dL_law_1053 ?_
  refine ev_sald dL_law_1054 (by omega) ?_
  refine ev_aload_n dL_law_1055 rfl ?_
  refine ev_iload_n dL_law_1056 rfl ?_
  refine ev_iconst dL_law_1057 ?_
  refine ev_iadd dL_law_1058 ?_
  refine ev_sald dL_law_1059 (by omega) ?_
  refine ev_callV (d6_sheet M (hx _) (hx _) (hx _)) okX6_sheet dL_law_1060 mlL_136 rfl rfl ⟨by decide, by decide⟩ rfl (Nat.le_of_ble_eq_true rfl) (fun r1060 τ1060 h1060 => ?_)
  obtain ⟨rfl, h1060⟩ := h1060
  refine ev_eq_of (tgt := 1369) dL_law_1063 (by decide) e ?_
  exact nx _ (n _ h1060)
theorem lc_write {b : ev_B} {σ : ev_M} {i : Int} {Q : Option ev_V → ev_M → Prop} (hi : 0 ≤ i ∧ i + 6 ≤ (b.2.2.2.2.1 : Int)) (hL : b.2.2.2.2.1 ≤ 3072) (hx : ∀ j : Nat, (-2147483648 ≤ b.2.2.2.2.2 j ∧ b.2.2.2.2.2 j < 2147483648)) (I : INV σ) (nx : ∀ τ, INV τ → Ev b mL_law 1369 [(0, vR 74), (1, vR 0), (2, vR 46), (3, vI i)] [] τ Q) : Ev b mL_law 1068 [(0, vR 74), (1, vR 0), (2, vR 46), (3, vI i)] [] σ Q := by
  have K := INV_K I
  have y3 := hx (i + 3).toNat
  have y4 := hx (i + 4).toNat
  refine ev_aload_n dL_law_1068 rfl ?_
  refine ev_aload_n dL_law_1069 rfl ?_
  refine ev_iload_n dL_law_1070 rfl ?_
  refine ev_iconst dL_law_1071 ?_
  refine ev_iadd dL_law_1072 ?_
  refine ev_sald dL_law_1073 (by omega) ?_
  refine ev_aload_n dL_law_1074 rfl ?_
  refine ev_iload_n dL_law_1075 rfl ?_
  refine ev_iconst dL_law_1076 ?_
  refine ev_iadd dL_law_1077 ?_
  refine ev_sald dL_law_1078 (by omega) ?_
  refine ev_aload_n dL_law_1079 rfl ?_
  refine ev_iload_n dL_law_1080 rfl ?_
  refine ev_iconst dL_law_1081 ?_
  refine ev_iadd dL_law_1082 ?_
  refine ev_sald dL_law_1083 (by omega) ?_
  refine ev_i2l dL_law_1084 (by omega) ?_
  refine ev_bipush dL_law_1085 (by decide) ?_
  refine ev_lshl dL_law_1087 (Int64.ofInt_toInt _).symm ?_
  refine ev_aload_n dL_law_1088 rfl ?_
  refine ev_iload_n dL_law_1089 rfl ?_
  refine ev_iconst dL_law_1090 ?_
  refine ev_iadd dL_law_1091 ?_
  refine ev_sald dL_law_1092 (by omega) ?_
  refine ev_i2l dL_law_1093 (by omega) ?_
  refine ev_ldc2 (z := 4294967295) dL_law_1094 klL_137 (by decide) ?_
  refine ev_land dL_law_1097 (Int64.ofInt_toInt _).symm ?_
  refine ev_lor dL_law_1098 (Int64.ofInt_toInt _).symm ?_
  refine ev_callV (d5_write K (hx _) (hx _) (l64_bd _)) okX5_write dL_law_1099 mlL_139 rfl rfl ⟨by decide, by decide⟩ rfl (Nat.le_of_ble_eq_true rfl) (fun r1099 τ1099 h1099 => ?_)
  obtain ⟨rfl, h1099⟩ := h1099
  obtain ⟨M, e, n⟩ := INV_go (go_write (l64_bd _)) I h1099
  refine ev_aload_n dL_law_1102 rfl ?_
  refine ev_aload_n dL_law_1103 rfl ?_
  refine ev_iload_n dL_law_1104 rfl ?_
  refine ev_iconst dL_law_1105 ?_
  refine ev_iadd dL_law_1106 ?_
  refine ev_sald dL_law_1107 (by omega) ?_
  refine ev_aload_n dL_law_1108 rfl ?_
  refine ev_iload_n dL_law_1109 rfl ?_
  refine ev_iconst dL_law_1110 ?_
  refine ev_iadd dL_law_1111 ?_
  refine ev_sald dL_law_1112 (by omega) ?_
  refine ev_aload_n dL_law_1113 rfl ?_
  refine ev_iload_n dL_law_1114 rfl ?_
  refine ev_iconst dL_law_1115 ?_
  refine ev_iadd dL_law_1116 ?_
  refine ev_sald dL_law_1117 (by omega) ?_
  refine ev_i2l dL_law_1118 (by omega) ?_
  refine ev_bipush dL_law_1119 (by decide) ?_
  refine ev_lshl dL_law_1121 (Int64.ofInt_toInt _).symm ?_
  refine ev_aload_n dL_law_1122 rfl ?_
  refine ev_iload_n dL_law_1123 rfl ?_
  refine ev_iconst dL_law_1124 ?_
  refine ev_iadd dL_law_1125 ?_
  refine ev_sald dL_law_1126 (by omega) ?_
  refine ev_i2l dL_law_1127 (by omega) ?_
  refine ev_ldc2 (z := 4294967295) dL_law_1128 klL_137 (by decide) ?_
  refine ev_land dL_law_1131 (Int64.ofInt_toInt _).symm ?_
  refine ev_lor dL_law_1132 (Int64.ofInt_toInt _).symm ?_
  refine ev_callV (d6_write M (hx _) (hx _)) okX6_write dL_law_1133 mlL_143 rfl rfl ⟨by decide, by decide⟩ rfl (Nat.le_of_ble_eq_true rfl) (fun r1133 τ1133 h1133 => ?_)
  obtain ⟨rfl, h1133⟩ := h1133
  refine ev_lc_of (tgt := 1369) dL_law_1136 dL_law_1137 (by decide) e ?_
  exact nx _ (n _ h1133)
theorem lc_copy {b : ev_B} {σ : ev_M} {i : Int} {Q : Option ev_V → ev_M → Prop} (hi : 0 ≤ i ∧ i + 6 ≤ (b.2.2.2.2.1 : Int)) (hL : b.2.2.2.2.1 ≤ 3072) (hx : ∀ j : Nat, (-2147483648 ≤ b.2.2.2.2.2 j ∧ b.2.2.2.2.2 j < 2147483648)) (I : INV σ) (nx : ∀ τ, INV τ → Ev b mL_law 1369 [(0, vR 74), (1, vR 0), (2, vR 46), (3, vI i)] [] τ Q) : Ev b mL_law 1142 [(0, vR 74), (1, vR 0), (2, vR 46), (3, vI i)] [] σ Q := by
  have K := INV_K I
  refine ev_aload_n dL_law_1142 rfl ?_
  refine ev_aload_n dL_law_1143 rfl ?_
  refine ev_iload_n dL_law_1144 rfl ?_
  refine ev_iconst dL_law_1145 ?_
  refine ev_iadd dL_law_1146 ?_
  refine ev_sald dL_law_1147 (by omega) ?_
  refine ev_aload_n dL_law_1148 rfl ?_
  refine ev_iload_n dL_law_1149 rfl ?_
  refine ev_iconst dL_law_1150 ?_
  refine ev_iadd dL_law_1151 ?_
  refine ev_sald dL_law_1152 (by omega) ?_
  refine ev_aload_n dL_law_1153 rfl ?_
  refine ev_iload_n dL_law_1154 rfl ?_
  refine ev_iconst dL_law_1155 ?_
  refine ev_iadd dL_law_1156 ?_
  refine ev_sald dL_law_1157 (by omega) ?_
  refine ev_aload_n dL_law_1158 rfl ?_
  refine ev_iload_n dL_law_1159 rfl ?_
  refine ev_iconst dL_law_1160 ?_
  refine ev_iadd dL_law_1161 ?_
  refine ev_sald dL_law_1162 (by omega) ?_
  refine ev_aload_n dL_law_1163 rfl ?_
  refine ev_iload_n dL_law_1164 rfl ?_
  refine ev_iconst dL_law_1165 ?_
  refine ev_iadd dL_law_1166 ?_
  refine ev_sald dL_law_1167 (by omega) ?_
  refine ev_callV (d5_copy K (hx _) (hx _) (hx _) (hx _) (hx _)) okX5_copy dL_law_1168 mlL_144 rfl rfl ⟨by decide, by decide⟩ rfl (Nat.le_of_ble_eq_true rfl) (fun r1168 τ1168 h1168 => ?_)
  obtain ⟨rfl, h1168⟩ := h1168
  obtain ⟨M, e, n⟩ := INV_go go_copy I h1168
  refine ev_aload_n dL_law_1171 rfl ?_
  refine ev_aload_n dL_law_1172 rfl ?_
  refine ev_iload_n dL_law_1173 rfl ?_
  refine ev_iconst dL_law_1174 ?_
  refine ev_iadd dL_law_1175 ?_
  refine ev_sald dL_law_1176 (by omega) ?_
  refine ev_aload_n dL_law_1177 rfl ?_
  refine ev_iload_n dL_law_1178 rfl ?_
  refine ev_iconst dL_law_1179 ?_
  refine ev_iadd dL_law_1180 ?_
  refine ev_sald dL_law_1181 (by omega) ?_
  refine ev_aload_n dL_law_1182 rfl ?_
  refine ev_iload_n dL_law_1183 rfl ?_
  refine ev_iconst dL_law_1184 ?_
  refine ev_iadd dL_law_1185 ?_
  refine ev_sald dL_law_1186 (by omega) ?_
  refine ev_aload_n dL_law_1187 rfl ?_
  refine ev_iload_n dL_law_1188 rfl ?_
  refine ev_iconst dL_law_1189 ?_
  refine ev_iadd dL_law_1190 ?_
  refine ev_sald dL_law_1191 (by omega) ?_
  refine ev_aload_n dL_law_1192 rfl ?_
  refine ev_iload_n dL_law_1193 rfl ?_
  refine ev_iconst dL_law_1194 ?_
  refine ev_iadd dL_law_1195 ?_
  refine ev_sald dL_law_1196 (by omega) ?_
  refine ev_callV (d6_copy M (hx _) (hx _) (hx _) (hx _) (hx _)) okX6_copy dL_law_1197 mlL_148 rfl rfl ⟨by decide, by decide⟩ rfl (Nat.le_of_ble_eq_true rfl) (fun r1197 τ1197 h1197 => ?_)
  obtain ⟨rfl, h1197⟩ := h1197
  refine ev_eq_of (tgt := 1369) dL_law_1200 (by decide) e ?_
  exact nx _ (n _ h1197)
theorem lc_lays {b : ev_B} {σ : ev_M} {i : Int} {Q : Option ev_V → ev_M → Prop} (hi : 0 ≤ i ∧ i + 6 ≤ (b.2.2.2.2.1 : Int)) (hL : b.2.2.2.2.1 ≤ 3072) (hx : ∀ j : Nat, (-2147483648 ≤ b.2.2.2.2.2 j ∧ b.2.2.2.2.2 j < 2147483648)) (I : INV σ) (nx : ∀ τ, INV τ → Ev b mL_law 1369 [(0, vR 74), (1, vR 0), (2, vR 46), (3, vI i)] [] τ Q) : Ev b mL_law 1205 [(0, vR 74), (1, vR 0), (2, vR 46), (3, vI i)] [] σ Q := by
  have K := INV_K I
  refine ev_aload_n dL_law_1205 rfl ?_
  refine ev_aload_n dL_law_1206 rfl ?_
  refine ev_iload_n dL_law_1207 rfl ?_
  refine ev_iconst dL_law_1208 ?_
  refine ev_iadd dL_law_1209 ?_
  refine ev_sald dL_law_1210 (by omega) ?_
  refine ev_callV (d5_lays K (hx _)) okX5_lays dL_law_1211 mlL_149 rfl rfl ⟨by decide, by decide⟩ rfl (Nat.le_of_ble_eq_true rfl) (fun r1211 τ1211 h1211 => ?_)
  obtain ⟨rfl, h1211⟩ := h1211
  obtain ⟨M, e, n⟩ := INV_go go_lays I h1211
  refine ev_aload_n dL_law_1214 rfl ?_
  refine ev_aload_n dL_law_1215 rfl ?_
  refine ev_iload_n dL_law_1216 rfl ?_
  refine ev_iconst dL_law_1217 ?_
  refine ev_iadd dL_law_1218 ?_
  refine ev_sald dL_law_1219 (by omega) ?_
  refine ev_callV (d6_lays M (hx _)) okX6_lays dL_law_1220 mlL_152 rfl rfl ⟨by decide, by decide⟩ rfl (Nat.le_of_ble_eq_true rfl) (fun r1220 τ1220 h1220 => ?_)
  obtain ⟨rfl, h1220⟩ := h1220
  refine ev_eq_of (tgt := 1369) dL_law_1223 (by decide) e ?_
  exact nx _ (n _ h1220)
theorem lc_book {b : ev_B} {σ : ev_M} {i : Int} {Q : Option ev_V → ev_M → Prop} (hi : 0 ≤ i ∧ i + 6 ≤ (b.2.2.2.2.1 : Int)) (hL : b.2.2.2.2.1 ≤ 3072) (hx : ∀ j : Nat, (-2147483648 ≤ b.2.2.2.2.2 j ∧ b.2.2.2.2.2 j < 2147483648)) (I : INV σ) (nx : ∀ τ, INV τ → Ev b mL_law 1369 [(0, vR 74), (1, vR 0), (2, vR 46), (3, vI i)] [] τ Q) : Ev b mL_law 1228 [(0, vR 74), (1, vR 0), (2, vR 46), (3, vI i)] [] σ Q := by
  have K := INV_K I
  refine ev_aload_n dL_law_1228 rfl ?_
  refine ev_aload_n dL_law_1229 rfl ?_
  refine ev_iload_n dL_law_1230 rfl ?_
  refine ev_iconst dL_law_1231 ?_
  refine ev_iadd dL_law_1232 ?_
  refine ev_sald dL_law_1233 (by omega) ?_
  refine ev_callV (d5_book K (hx _)) okX5_book dL_law_1234 mlL_153 rfl rfl ⟨by decide, by decide⟩ rfl (Nat.le_of_ble_eq_true rfl) (fun r1234 τ1234 h1234 => ?_)
  obtain ⟨rfl, h1234⟩ := h1234
  obtain ⟨M, e, n⟩ := INV_go go_book I h1234
  refine ev_aload_n dL_law_1237 rfl ?_
  refine ev_aload_n dL_law_1238 rfl ?_
  refine ev_iload_n dL_law_1239 rfl ?_
  refine ev_iconst dL_law_1240 ?_
  refine ev_iadd dL_law_1241 ?_
  refine ev_sald dL_law_1242 (by omega) ?_
  refine ev_callV (d6_book M (hx _)) okX6_book dL_law_1243 mlL_156 rfl rfl ⟨by decide, by decide⟩ rfl (Nat.le_of_ble_eq_true rfl) (fun r1243 τ1243 h1243 => ?_)
  obtain ⟨rfl, h1243⟩ := h1243
  refine ev_eq_of (tgt := 1369) dL_law_1246 (by decide) e ?_
  exact nx _ (n _ h1243)
theorem lc_read {b : ev_B} {σ : ev_M} {i : Int} {Q : Option ev_V → ev_M → Prop} (hi : 0 ≤ i ∧ i + 6 ≤ (b.2.2.2.2.1 : Int)) (hL : b.2.2.2.2.1 ≤ 3072) (hx : ∀ j : Nat, (-2147483648 ≤ b.2.2.2.2.2 j ∧ b.2.2.2.2.2 j < 2147483648)) (I : INV σ) (nx : ∀ τ, INV τ → Ev b mL_law 1369 [(0, vR 74), (1, vR 0), (2, vR 46), (3, vI i)] [] τ Q) : Ev b mL_law 1251 [(0, vR 74), (1, vR 0), (2, vR 46), (3, vI i)] [] σ Q := by
  have K := INV_K I
  refine ev_aload_n dL_law_1251 rfl ?_
  refine ev_aload_n dL_law_1252 rfl ?_
  refine ev_iload_n dL_law_1253 rfl ?_
  refine ev_iconst dL_law_1254 ?_
  refine ev_iadd dL_law_1255 ?_
  refine ev_sald dL_law_1256 (by omega) ?_
  refine ev_aload_n dL_law_1257 rfl ?_
  refine ev_iload_n dL_law_1258 rfl ?_
  refine ev_iconst dL_law_1259 ?_
  refine ev_iadd dL_law_1260 ?_
  refine ev_sald dL_law_1261 (by omega) ?_
  refine ev_callV (d5_read K (hx _) (hx _)) okX5_read dL_law_1262 mlL_157 rfl rfl ⟨by decide, by decide⟩ rfl (Nat.le_of_ble_eq_true rfl) (fun r1262 τ1262 h1262 => ?_)
  obtain ⟨rfl, h1262⟩ := h1262
  obtain ⟨M, e, n⟩ := INV_go go_read I h1262
  refine ev_aload_n dL_law_1265 rfl ?_
  refine ev_aload_n dL_law_1266 rfl ?_
  refine ev_iload_n dL_law_1267 rfl ?_
  refine ev_iconst dL_law_1268 ?_
  refine ev_iadd dL_law_1269 ?_
  refine ev_sald dL_law_1270 (by omega) ?_
  refine ev_aload_n dL_law_1271 rfl ?_
  refine ev_iload_n dL_law_1272 rfl ?_
  refine ev_iconst dL_law_1273 ?_
  refine ev_iadd dL_law_1274 ?_
  refine ev_sald dL_law_1275 (by omega) ?_
  refine ev_callV (d6_read M (hx _) (hx _)) okX6_read dL_law_1276 mlL_160 rfl rfl ⟨by decide, by decide⟩ rfl (Nat.le_of_ble_eq_true rfl) (fun r1276 τ1276 h1276 => ?_)
  obtain ⟨rfl, h1276⟩ := h1276
  refine ev_eq_of (tgt := 1369) dL_law_1279 (by decide) e ?_
  exact nx _ (n _ h1276)
theorem lc_image {b : ev_B} {σ : ev_M} {i : Int} {Q : Option ev_V → ev_M → Prop} (hi : 0 ≤ i ∧ i + 6 ≤ (b.2.2.2.2.1 : Int)) (hL : b.2.2.2.2.1 ≤ 3072) (hx : ∀ j : Nat, (-2147483648 ≤ b.2.2.2.2.2 j ∧ b.2.2.2.2.2 j < 2147483648)) (I : INV σ) (nx : ∀ τ, INV τ → Ev b mL_law 1369 [(0, vR 74), (1, vR 0), (2, vR 46), (3, vI i)] [] τ Q) : Ev b mL_law 1284 [(0, vR 74), (1, vR 0), (2, vR 46), (3, vI i)] [] σ Q := by
  have K := INV_K I
  refine ev_aload_n dL_law_1284 rfl ?_
  refine ev_callV (d5_image K) okX5_image dL_law_1285 mlL_161 rfl rfl ⟨by decide, by decide⟩ rfl (Nat.le_of_ble_eq_true rfl) (fun r1285 τ1285 h1285 => ?_)
  obtain ⟨rfl, h1285⟩ := h1285
  obtain ⟨M, e, n⟩ := INV_go go_image I h1285
  refine ev_aload_n dL_law_1288 rfl ?_
  refine ev_callV (d6_image M) okX6_image dL_law_1289 mlL_164 rfl rfl ⟨by decide, by decide⟩ rfl (Nat.le_of_ble_eq_true rfl) (fun r1289 τ1289 h1289 => ?_)
  obtain ⟨rfl, h1289⟩ := h1289
  refine ev_eq_of (tgt := 1369) dL_law_1292 (by decide) e ?_
  exact nx _ (n _ h1289)
theorem lc_undo {b : ev_B} {σ : ev_M} {i : Int} {Q : Option ev_V → ev_M → Prop} (hi : 0 ≤ i ∧ i + 6 ≤ (b.2.2.2.2.1 : Int)) (hL : b.2.2.2.2.1 ≤ 3072) (hx : ∀ j : Nat, (-2147483648 ≤ b.2.2.2.2.2 j ∧ b.2.2.2.2.2 j < 2147483648)) (I : INV σ) (nx : ∀ τ, INV τ → Ev b mL_law 1369 [(0, vR 74), (1, vR 0), (2, vR 46), (3, vI i)] [] τ Q) : Ev b mL_law 1297 [(0, vR 74), (1, vR 0), (2, vR 46), (3, vI i)] [] σ Q := by
  have K := INV_K I
  refine ev_aload_n dL_law_1297 rfl ?_
  refine ev_callV (d5_undo K) okX5_undo dL_law_1298 mlL_165 rfl rfl ⟨by decide, by decide⟩ rfl (Nat.le_of_ble_eq_true rfl) (fun r1298 τ1298 h1298 => ?_)
  obtain ⟨rfl, h1298⟩ := h1298
  obtain ⟨M, e, n⟩ := INV_go go_undo I h1298
  refine ev_aload_n dL_law_1301 rfl ?_
  refine ev_callV (d6_undo M) okX6_undo dL_law_1302 mlL_168 rfl rfl ⟨by decide, by decide⟩ rfl (Nat.le_of_ble_eq_true rfl) (fun r1302 τ1302 h1302 => ?_)
  obtain ⟨rfl, h1302⟩ := h1302
  refine ev_eq_of (tgt := 1369) dL_law_1305 (by decide) e ?_
  exact nx _ (n _ h1302)
theorem lc_tear {b : ev_B} {σ : ev_M} {i : Int} {Q : Option ev_V → ev_M → Prop} (hi : 0 ≤ i ∧ i + 6 ≤ (b.2.2.2.2.1 : Int)) (hL : b.2.2.2.2.1 ≤ 3072) (hx : ∀ j : Nat, (-2147483648 ≤ b.2.2.2.2.2 j ∧ b.2.2.2.2.2 j < 2147483648)) (I : INV σ) (nx : ∀ τ, INV τ → Ev b mL_law 1369 [(0, vR 74), (1, vR 0), (2, vR 46), (3, vI i)] [] τ Q) : Ev b mL_law 1310 [(0, vR 74), (1, vR 0), (2, vR 46), (3, vI i)] [] σ Q := by
  have K := INV_K I
  refine ev_aload_n dL_law_1310 rfl ?_
  refine ev_callV (d5_tear K) okX5_tear dL_law_1311 mlL_169 rfl rfl ⟨by decide, by decide⟩ rfl (Nat.le_of_ble_eq_true rfl) (fun r1311 τ1311 h1311 => ?_)
  obtain ⟨rfl, h1311⟩ := h1311
  obtain ⟨M, e, n⟩ := INV_go go_tear I h1311
  refine ev_aload_n dL_law_1314 rfl ?_
  refine ev_callV (d6_tear M) okX6_tear dL_law_1315 mlL_172 rfl rfl ⟨by decide, by decide⟩ rfl (Nat.le_of_ble_eq_true rfl) (fun r1315 τ1315 h1315 => ?_)
  obtain ⟨rfl, h1315⟩ := h1315
  refine ev_eq_of (tgt := 1369) dL_law_1318 (by decide) e ?_
  exact nx _ (n _ h1315)
theorem lc_count {b : ev_B} {σ : ev_M} {i : Int} {Q : Option ev_V → ev_M → Prop} (hi : 0 ≤ i ∧ i + 6 ≤ (b.2.2.2.2.1 : Int)) (hL : b.2.2.2.2.1 ≤ 3072) (hx : ∀ j : Nat, (-2147483648 ≤ b.2.2.2.2.2 j ∧ b.2.2.2.2.2 j < 2147483648)) (I : INV σ) (nx : ∀ τ, INV τ → Ev b mL_law 1369 [(0, vR 74), (1, vR 0), (2, vR 46), (3, vI i)] [] τ Q) : Ev b mL_law 1323 [(0, vR 74), (1, vR 0), (2, vR 46), (3, vI i)] [] σ Q := by
  have K := INV_K I
  refine ev_aload_n dL_law_1323 rfl ?_
  refine ev_aload_n dL_law_1324 rfl ?_
  refine ev_iload_n dL_law_1325 rfl ?_
  refine ev_iconst dL_law_1326 ?_
  refine ev_iadd dL_law_1327 ?_
  refine ev_sald dL_law_1328 (by omega) ?_
  refine ev_callV (d5_count K (hx _)) okX5_count dL_law_1329 mlL_173 rfl rfl ⟨by decide, by decide⟩ rfl (Nat.le_of_ble_eq_true rfl) (fun r1329 τ1329 h1329 => ?_)
  obtain ⟨rfl, h1329⟩ := h1329
  obtain ⟨M, e, n⟩ := INV_go go_count I h1329
  refine ev_aload_n dL_law_1332 rfl ?_
  refine ev_aload_n dL_law_1333 rfl ?_
  refine ev_iload_n dL_law_1334 rfl ?_
  refine ev_iconst dL_law_1335 ?_
  refine ev_iadd dL_law_1336 ?_
  refine ev_sald dL_law_1337 (by omega) ?_
  refine ev_callV (d6_count M (hx _)) okX6_count dL_law_1338 mlL_176 rfl rfl ⟨by decide, by decide⟩ rfl (Nat.le_of_ble_eq_true rfl) (fun r1338 τ1338 h1338 => ?_)
  obtain ⟨rfl, h1338⟩ := h1338
  refine ev_eq_of (tgt := 1369) dL_law_1341 (by decide) e ?_
  exact nx _ (n _ h1338)
theorem lc_status {b : ev_B} {σ : ev_M} {i : Int} {Q : Option ev_V → ev_M → Prop} (hi : 0 ≤ i ∧ i + 6 ≤ (b.2.2.2.2.1 : Int)) (hL : b.2.2.2.2.1 ≤ 3072) (hx : ∀ j : Nat, (-2147483648 ≤ b.2.2.2.2.2 j ∧ b.2.2.2.2.2 j < 2147483648)) (I : INV σ) (nx : ∀ τ, INV τ → Ev b mL_law 1369 [(0, vR 74), (1, vR 0), (2, vR 46), (3, vI i)] [] τ Q) : Ev b mL_law 1346 [(0, vR 74), (1, vR 0), (2, vR 46), (3, vI i)] [] σ Q := by
  have K := INV_K I
  refine ev_aload_n dL_law_1346 rfl ?_
  refine ev_aload_n dL_law_1347 rfl ?_
  refine ev_iload_n dL_law_1348 rfl ?_
  refine ev_iconst dL_law_1349 ?_
  refine ev_iadd dL_law_1350 ?_
  refine ev_sald dL_law_1351 (by omega) ?_
  refine ev_callV (d5_status K (hx _)) okX5_status dL_law_1352 mlL_177 rfl rfl ⟨by decide, by decide⟩ rfl (Nat.le_of_ble_eq_true rfl) (fun r1352 τ1352 h1352 => ?_)
  obtain ⟨rfl, h1352⟩ := h1352
  obtain ⟨M, e, n⟩ := INV_go go_status I h1352
  refine ev_aload_n dL_law_1355 rfl ?_
  refine ev_aload_n dL_law_1356 rfl ?_
  refine ev_iload_n dL_law_1357 rfl ?_
  refine ev_iconst dL_law_1358 ?_
  refine ev_iadd dL_law_1359 ?_
  refine ev_sald dL_law_1360 (by omega) ?_
  refine ev_callV (d6_status M (hx _)) okX6_status dL_law_1361 mlL_180 rfl rfl ⟨by decide, by decide⟩ rfl (Nat.le_of_ble_eq_true rfl) (fun r1361 τ1361 h1361 => ?_)
  obtain ⟨rfl, h1361⟩ := h1361
  refine ev_eq_of (tgt := 1369) dL_law_1364 (by decide) e ?_
  exact nx _ (n _ h1361)
