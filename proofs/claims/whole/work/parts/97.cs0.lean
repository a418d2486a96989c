/-! turns of the law -/
section LAWC
variable {p : Program} {l : Launch} {e : Env} {s : State} {m : MethodId} {below : List Frame} {meth : Method} {c : Code} {H : Heap} {locs : List Loc} {Q : State → Prop} {D : va_G} {cy : Nat → ClassId} {gs aC aM : Nat → Nat} {b L i : Nat} {xs : Nat → Int32} {ls : Array Slot} {σc σm : Sg}
theorem cs_0 (X : lawX gs b D cy p s m meth c) (V : lawV aC aM D cy s H locs σc σm) (S : lawP b L i xs s) (hl : lv_has ls 4 [(0, .ref b), (1, .ref (aC 0)), (2, .ref (aM 0)), (3, .int (nI i))]) (kk : ∀ (σc σm : Sg) (H : Heap) (locs : List Loc), lawV aC aM D cy s H locs σc σm → W p l e room_1 s m #[Value.ref b] below meth c H locs 75 2073 Q (F0 m 1675 ls [])) : W p l e room_1 s m #[Value.ref b] below meth c H locs 75 2073 Q (F0 m 228 ls []) := by
  obtain ⟨hx, hb, hml, hown, hts, hK, hA, hXf⟩ := id X
  obtain ⟨IC, IM, hne, hR⟩ := V
  obtain ⟨r, τc, τm, e1, e2, hR1⟩ := eq_feed hR ((((xs (i + 1)).toInt64 <<< ((32 : Int32).toInt64 &&& 63)) ||| ((xs (i + 2)).toInt64 &&& (4294967295 : Int64)))) (xs (i + 3))
  refine lv_aload_n hx hb dL_law_228 rfl (lv_at hl 1 rfl) ?_
  refine arg_ (k := 1) hx hb S IC.2.2 hl (by omega) dL_law_229 dL_law_230 dL_law_231 (by decide) dL_law_232 dL_law_233 ?_
  refine lv_i2l (v := (xs (i + 1)).toInt64) hx hb dL_law_234 rfl ?_
  refine lv_bipush (v := 32) hx hb dL_law_235 (by decide) ?_
  refine lv_lshl (v := (xs (i + 1)).toInt64 <<< ((32 : Int32).toInt64 &&& 63)) hx hb dL_law_237 rfl ?_
  refine arg_ (k := 2) hx hb S IC.2.2 hl (by omega) dL_law_238 dL_law_239 dL_law_240 (by decide) dL_law_241 dL_law_242 ?_
  refine lv_i2l (v := (xs (i + 2)).toInt64) hx hb dL_law_243 rfl ?_
  refine lv_ldc2 hx hb hown (hts (.constantLong RL 13 4294967295) (List.mem_append_left _ (List.mem_of_getElem? (i := 6) rfl))) dL_law_244 ?_
  refine lv_land hx hb dL_law_247 ?_
  refine lv_lor hx hb dL_law_248 ?_
  refine arg_ (k := 3) hx hb S IC.2.2 hl (by omega) dL_law_249 dL_law_250 dL_law_251 (by decide) dL_law_252 dL_law_253 ?_
  refine cG_ (k := 0) (nn := 2) (Xf2 := xfC gs) (rest := []) X xkC hXf.1 IC (c_C_feed e1 _) (gLB gL_law_X11_feed) rfl ⟨rfl, rfl⟩ (by decide +kernel) ⟨Nat.le_of_ble_eq_true rfl, Nat.le_of_ble_eq_true rfl⟩ (by decide) shC_0 rfl rfl hl.1 rfl (Nat.le_of_ble_eq_true rfl) dL_law_254 ⟨Nat.le_of_ble_eq_true rfl, Nat.le_of_ble_eq_true rfl⟩ (fun H1 locs1 IC1 hk1 => ?_)
  have IM := keepW IM IC1 hk1 (fun i j hi hj q => hne j i hj hi q.symm)
  clear hk1
  have IC := IC1
  refine lv_aload_n hx hb dL_law_257 rfl (lv_at hl 2 rfl) ?_
  refine arg_ (k := 1) hx hb S IM.2.2 hl (by omega) dL_law_258 dL_law_259 dL_law_260 (by decide) dL_law_261 dL_law_262 ?_
  refine lv_i2l (v := (xs (i + 1)).toInt64) hx hb dL_law_263 rfl ?_
  refine lv_bipush (v := 32) hx hb dL_law_264 (by decide) ?_
  refine lv_lshl (v := (xs (i + 1)).toInt64 <<< ((32 : Int32).toInt64 &&& 63)) hx hb dL_law_266 rfl ?_
  refine arg_ (k := 2) hx hb S IM.2.2 hl (by omega) dL_law_267 dL_law_268 dL_law_269 (by decide) dL_law_270 dL_law_271 ?_
  refine lv_i2l (v := (xs (i + 2)).toInt64) hx hb dL_law_272 rfl ?_
  refine lv_ldc2 hx hb hown (hts (.constantLong RL 13 4294967295) (List.mem_append_left _ (List.mem_of_getElem? (i := 6) rfl))) dL_law_273 ?_
  refine lv_land hx hb dL_law_276 ?_
  refine lv_lor hx hb dL_law_277 ?_
  refine arg_ (k := 3) hx hb S IM.2.2 hl (by omega) dL_law_278 dL_law_279 dL_law_280 (by decide) dL_law_281 dL_law_282 ?_
  refine cG_ (k := 0) (nn := 2) (Xf2 := xfM) (rest := [.int r]) X xkM trivial IM (c_M_feed e2 _) (gLB gL_law_X12_feed) rfl ⟨rfl, rfl⟩ (by decide +kernel) ⟨Nat.le_of_ble_eq_true rfl, Nat.le_of_ble_eq_true rfl⟩ (by decide) shM_0 rfl rfl hl.1 rfl (Nat.le_of_ble_eq_true rfl) dL_law_283 ⟨Nat.le_of_ble_eq_true rfl, Nat.le_of_ble_eq_true rfl⟩ (fun H2 locs2 IM2 hk2 => ?_)
  have IC := keepW IC IM2 hk2 hne
  refine lv_icmp_eq (tgt := 1675) hx hb dL_law_286 (by decide) (fun _ => ?_) (fun q => absurd rfl q)
  exact kk τc τm _ _ ⟨IC, IM2, hne, hR1⟩
theorem cs_1 (X : lawX gs b D cy p s m meth c) (V : lawV aC aM D cy s H locs σc σm) (S : lawP b L i xs s) (hl : lv_has ls 4 [(0, .ref b), (1, .ref (aC 0)), (2, .ref (aM 0)), (3, .int (nI i))]) (kk : ∀ (σc σm : Sg) (H : Heap) (locs : List Loc), lawV aC aM D cy s H locs σc σm → W p l e room_1 s m #[Value.ref b] below meth c H locs 75 2073 Q (F0 m 1675 ls [])) : W p l e room_1 s m #[Value.ref b] below meth c H locs 75 2073 Q (F0 m 291 ls []) := by
  obtain ⟨hx, hb, hml, hown, hts, hK, hA, hXf⟩ := id X
  obtain ⟨IC, IM, hne, hR⟩ := V
  obtain ⟨r, τc, τm, e1, e2, hR1⟩ := eq_church hR 
  refine lv_aload_n hx hb dL_law_291 rfl (lv_at hl 1 rfl) ?_
  refine cG_ (k := 0) (nn := 0) (Xf2 := xfC gs) (rest := []) X xkC hXf.1 IC (c_C_church e1 _) (gLB gL_law_X11_church) rfl ⟨rfl, rfl⟩ (by decide +kernel) ⟨Nat.le_of_ble_eq_true rfl, Nat.le_of_ble_eq_true rfl⟩ (by decide) shC_0 rfl rfl hl.1 rfl (Nat.le_of_ble_eq_true rfl) dL_law_292 ⟨Nat.le_of_ble_eq_true rfl, Nat.le_of_ble_eq_true rfl⟩ (fun H1 locs1 IC1 hk1 => ?_)
  have IM := keepW IM IC1 hk1 (fun i j hi hj q => hne j i hj hi q.symm)
  clear hk1
  have IC := IC1
  refine lv_aload_n hx hb dL_law_295 rfl (lv_at hl 2 rfl) ?_
  refine cG_ (k := 0) (nn := 0) (Xf2 := xfM) (rest := [.int r]) X xkM trivial IM (c_M_church e2 _) (gLB gL_law_X12_church) rfl ⟨rfl, rfl⟩ (by decide +kernel) ⟨Nat.le_of_ble_eq_true rfl, Nat.le_of_ble_eq_true rfl⟩ (by decide) shM_0 rfl rfl hl.1 rfl (Nat.le_of_ble_eq_true rfl) dL_law_296 ⟨Nat.le_of_ble_eq_true rfl, Nat.le_of_ble_eq_true rfl⟩ (fun H2 locs2 IM2 hk2 => ?_)
  have IC := keepW IC IM2 hk2 hne
  refine lv_icmp_eq (tgt := 1675) hx hb dL_law_299 (by decide) (fun _ => ?_) (fun q => absurd rfl q)
  exact kk τc τm _ _ ⟨IC, IM2, hne, hR1⟩
theorem cs_2 (X : lawX gs b D cy p s m meth c) (V : lawV aC aM D cy s H locs σc σm) (S : lawP b L i xs s) (hl : lv_has ls 4 [(0, .ref b), (1, .ref (aC 0)), (2, .ref (aM 0)), (3, .int (nI i))]) (kk : ∀ (σc σm : Sg) (H : Heap) (locs : List Loc), lawV aC aM D cy s H locs σc σm → W p l e room_1 s m #[Value.ref b] below meth c H locs 75 2073 Q (F0 m 1675 ls [])) : W p l e room_1 s m #[Value.ref b] below meth c H locs 75 2073 Q (F0 m 304 ls []) := by
  obtain ⟨hx, hb, hml, hown, hts, hK, hA, hXf⟩ := id X
  obtain ⟨IC, IM, hne, hR⟩ := V
  obtain ⟨r, τc, τm, e1, e2, hR1⟩ := eq_set hR (xs (i + 1)) (xs (i + 2))
  refine lv_aload_n hx hb dL_law_304 rfl (lv_at hl 1 rfl) ?_
  refine arg_ (k := 1) hx hb S IC.2.2 hl (by omega) dL_law_305 dL_law_306 dL_law_307 (by decide) dL_law_308 dL_law_309 ?_
  refine arg_ (k := 2) hx hb S IC.2.2 hl (by omega) dL_law_310 dL_law_311 dL_law_312 (by decide) dL_law_313 dL_law_314 ?_
  refine cG_ (k := 0) (nn := 2) (Xf2 := xfC gs) (rest := []) X xkC hXf.1 IC (c_C_set e1 _) (gLB gL_law_X11_set) rfl ⟨rfl, rfl⟩ (by decide +kernel) ⟨Nat.le_of_ble_eq_true rfl, Nat.le_of_ble_eq_true rfl⟩ (by decide) shC_0 rfl rfl hl.1 rfl (Nat.le_of_ble_eq_true rfl) dL_law_315 ⟨Nat.le_of_ble_eq_true rfl, Nat.le_of_ble_eq_true rfl⟩ (fun H1 locs1 IC1 hk1 => ?_)
  have IM := keepW IM IC1 hk1 (fun i j hi hj q => hne j i hj hi q.symm)
  clear hk1
  have IC := IC1
  refine lv_aload_n hx hb dL_law_318 rfl (lv_at hl 2 rfl) ?_
  refine arg_ (k := 1) hx hb S IM.2.2 hl (by omega) dL_law_319 dL_law_320 dL_law_321 (by decide) dL_law_322 dL_law_323 ?_
  refine arg_ (k := 2) hx hb S IM.2.2 hl (by omega) dL_law_324 dL_law_325 dL_law_326 (by decide) dL_law_327 dL_law_328 ?_
  refine cG_ (k := 0) (nn := 2) (Xf2 := xfM) (rest := [.int r]) X xkM trivial IM (c_M_set e2 _) (gLB gL_law_X12_set) rfl ⟨rfl, rfl⟩ (by decide +kernel) ⟨Nat.le_of_ble_eq_true rfl, Nat.le_of_ble_eq_true rfl⟩ (by decide) shM_0 rfl rfl hl.1 rfl (Nat.le_of_ble_eq_true rfl) dL_law_329 ⟨Nat.le_of_ble_eq_true rfl, Nat.le_of_ble_eq_true rfl⟩ (fun H2 locs2 IM2 hk2 => ?_)
  have IC := keepW IC IM2 hk2 hne
  refine lv_icmp_eq (tgt := 1675) hx hb dL_law_332 (by decide) (fun _ => ?_) (fun q => absurd rfl q)
  exact kk τc τm _ _ ⟨IC, IM2, hne, hR1⟩
theorem cs_3 (X : lawX gs b D cy p s m meth c) (V : lawV aC aM D cy s H locs σc σm) (S : lawP b L i xs s) (hl : lv_has ls 4 [(0, .ref b), (1, .ref (aC 0)), (2, .ref (aM 0)), (3, .int (nI i))]) (kk : ∀ (σc σm : Sg) (H : Heap) (locs : List Loc), lawV aC aM D cy s H locs σc σm → W p l e room_1 s m #[Value.ref b] below meth c H locs 75 2073 Q (F0 m 1675 ls [])) : W p l e room_1 s m #[Value.ref b] below meth c H locs 75 2073 Q (F0 m 337 ls []) := by
  obtain ⟨hx, hb, hml, hown, hts, hK, hA, hXf⟩ := id X
  obtain ⟨IC, IM, hne, hR⟩ := V
  obtain ⟨r, τc, τm, e1, e2, hR1⟩ := eq_lawOf hR (xs (i + 1))
  refine lv_aload_n hx hb dL_law_337 rfl (lv_at hl 1 rfl) ?_
  refine arg_ (k := 1) hx hb S IC.2.2 hl (by omega) dL_law_338 dL_law_339 dL_law_340 (by decide) dL_law_341 dL_law_342 ?_
  refine cG_ (k := 0) (nn := 1) (Xf2 := xfC gs) (rest := []) X xkC hXf.1 IC (c_C_lawOf e1 _) (gLB gL_law_X11_lawOf) rfl ⟨rfl, rfl⟩ (by decide +kernel) ⟨Nat.le_of_ble_eq_true rfl, Nat.le_of_ble_eq_true rfl⟩ (by decide) shC_0 rfl rfl hl.1 rfl (Nat.le_of_ble_eq_true rfl) dL_law_343 ⟨Nat.le_of_ble_eq_true rfl, Nat.le_of_ble_eq_true rfl⟩ (fun H1 locs1 IC1 hk1 => ?_)
  have IM := keepW IM IC1 hk1 (fun i j hi hj q => hne j i hj hi q.symm)
  clear hk1
  have IC := IC1
  refine lv_aload_n hx hb dL_law_346 rfl (lv_at hl 2 rfl) ?_
  refine arg_ (k := 1) hx hb S IM.2.2 hl (by omega) dL_law_347 dL_law_348 dL_law_349 (by decide) dL_law_350 dL_law_351 ?_
  refine cG_ (k := 0) (nn := 1) (Xf2 := xfM) (rest := [.int r]) X xkM trivial IM (c_M_lawOf e2 _) (gLB gL_law_X12_lawOf) rfl ⟨rfl, rfl⟩ (by decide +kernel) ⟨Nat.le_of_ble_eq_true rfl, Nat.le_of_ble_eq_true rfl⟩ (by decide) shM_0 rfl rfl hl.1 rfl (Nat.le_of_ble_eq_true rfl) dL_law_352 ⟨Nat.le_of_ble_eq_true rfl, Nat.le_of_ble_eq_true rfl⟩ (fun H2 locs2 IM2 hk2 => ?_)
  have IC := keepW IC IM2 hk2 hne
  refine lv_icmp_eq (tgt := 1675) hx hb dL_law_355 (by decide) (fun _ => ?_) (fun q => absurd rfl q)
  exact kk τc τm _ _ ⟨IC, IM2, hne, hR1⟩
theorem cs_4 (X : lawX gs b D cy p s m meth c) (V : lawV aC aM D cy s H locs σc σm) (S : lawP b L i xs s) (hl : lv_has ls 4 [(0, .ref b), (1, .ref (aC 0)), (2, .ref (aM 0)), (3, .int (nI i))]) (kk : ∀ (σc σm : Sg) (H : Heap) (locs : List Loc), lawV aC aM D cy s H locs σc σm → W p l e room_1 s m #[Value.ref b] below meth c H locs 75 2073 Q (F0 m 1675 ls [])) : W p l e room_1 s m #[Value.ref b] below meth c H locs 75 2073 Q (F0 m 360 ls []) := by
  obtain ⟨hx, hb, hml, hown, hts, hK, hA, hXf⟩ := id X
  obtain ⟨IC, IM, hne, hR⟩ := V
  obtain ⟨r, τc, τm, e1, e2, hR1⟩ := eq_child hR (xs (i + 1)) (xs (i + 2)) (xs (i + 3)) (xs (i + 4))
  refine lv_aload_n hx hb dL_law_360 rfl (lv_at hl 1 rfl) ?_
  refine arg_ (k := 1) hx hb S IC.2.2 hl (by omega) dL_law_361 dL_law_362 dL_law_363 (by decide) dL_law_364 dL_law_365 ?_
  refine arg_ (k := 2) hx hb S IC.2.2 hl (by omega) dL_law_366 dL_law_367 dL_law_368 (by decide) dL_law_369 dL_law_370 ?_
  refine arg_ (k := 3) hx hb S IC.2.2 hl (by omega) dL_law_371 dL_law_372 dL_law_373 (by decide) dL_law_374 dL_law_375 ?_
  refine arg_ (k := 4) hx hb S IC.2.2 hl (by omega) dL_law_376 dL_law_377 dL_law_378 (by decide) dL_law_379 dL_law_380 ?_
  refine cG_ (k := 0) (nn := 4) (Xf2 := xfC gs) (rest := []) X xkC hXf.1 IC (c_C_child e1 _) (gLB gL_law_X11_child) rfl ⟨rfl, rfl⟩ (by decide +kernel) ⟨Nat.le_of_ble_eq_true rfl, Nat.le_of_ble_eq_true rfl⟩ (by decide) shC_0 rfl rfl hl.1 rfl (Nat.le_of_ble_eq_true rfl) dL_law_381 ⟨Nat.le_of_ble_eq_true rfl, Nat.le_of_ble_eq_true rfl⟩ (fun H1 locs1 IC1 hk1 => ?_)
  have IM := keepW IM IC1 hk1 (fun i j hi hj q => hne j i hj hi q.symm)
  clear hk1
  have IC := IC1
  refine lv_aload_n hx hb dL_law_384 rfl (lv_at hl 2 rfl) ?_
  refine arg_ (k := 1) hx hb S IM.2.2 hl (by omega) dL_law_385 dL_law_386 dL_law_387 (by decide) dL_law_388 dL_law_389 ?_
  refine arg_ (k := 2) hx hb S IM.2.2 hl (by omega) dL_law_390 dL_law_391 dL_law_392 (by decide) dL_law_393 dL_law_394 ?_
  refine arg_ (k := 3) hx hb S IM.2.2 hl (by omega) dL_law_395 dL_law_396 dL_law_397 (by decide) dL_law_398 dL_law_399 ?_
  refine arg_ (k := 4) hx hb S IM.2.2 hl (by omega) dL_law_400 dL_law_401 dL_law_402 (by decide) dL_law_403 dL_law_404 ?_
  refine cG_ (k := 0) (nn := 4) (Xf2 := xfM) (rest := [.int r]) X xkM trivial IM (c_M_child e2 _) (gLB gL_law_X12_child) rfl ⟨rfl, rfl⟩ (by decide +kernel) ⟨Nat.le_of_ble_eq_true rfl, Nat.le_of_ble_eq_true rfl⟩ (by decide) shM_0 rfl rfl hl.1 rfl (Nat.le_of_ble_eq_true rfl) dL_law_405 ⟨Nat.le_of_ble_eq_true rfl, Nat.le_of_ble_eq_true rfl⟩ (fun H2 locs2 IM2 hk2 => ?_)
  have IC := keepW IC IM2 hk2 hne
  refine lv_icmp_eq (tgt := 1675) hx hb dL_law_408 (by decide) (fun _ => ?_) (fun q => absurd rfl q)
  exact kk τc τm _ _ ⟨IC, IM2, hne, hR1⟩
theorem cs_5 (X : lawX gs b D cy p s m meth c) (V : lawV aC aM D cy s H locs σc σm) (S : lawP b L i xs s) (hl : lv_has ls 4 [(0, .ref b), (1, .ref (aC 0)), (2, .ref (aM 0)), (3, .int (nI i))]) (kk : ∀ (σc σm : Sg) (H : Heap) (locs : List Loc), lawV aC aM D cy s H locs σc σm → W p l e room_1 s m #[Value.ref b] below meth c H locs 75 2073 Q (F0 m 1675 ls [])) : W p l e room_1 s m #[Value.ref b] below meth c H locs 75 2073 Q (F0 m 413 ls []) := by
  obtain ⟨hx, hb, hml, hown, hts, hK, hA, hXf⟩ := id X
  obtain ⟨IC, IM, hne, hR⟩ := V
  obtain ⟨r, τc, τm, e1, e2, hR1⟩ := eq_of hR (xs (i + 1)) (xs (i + 2))
  refine lv_aload_n hx hb dL_law_413 rfl (lv_at hl 1 rfl) ?_
  refine arg_ (k := 1) hx hb S IC.2.2 hl (by omega) dL_law_414 dL_law_415 dL_law_416 (by decide) dL_law_417 dL_law_418 ?_
  refine arg_ (k := 2) hx hb S IC.2.2 hl (by omega) dL_law_419 dL_law_420 dL_law_421 (by decide) dL_law_422 dL_law_423 ?_
  refine cG_ (k := 0) (nn := 2) (Xf2 := xfC gs) (rest := []) X xkC hXf.1 IC (c_C_of e1 _) (gLB gL_law_X11_of) rfl ⟨rfl, rfl⟩ (by decide +kernel) ⟨Nat.le_of_ble_eq_true rfl, Nat.le_of_ble_eq_true rfl⟩ (by decide) shC_0 rfl rfl hl.1 rfl (Nat.le_of_ble_eq_true rfl) dL_law_424 ⟨Nat.le_of_ble_eq_true rfl, Nat.le_of_ble_eq_true rfl⟩ (fun H1 locs1 IC1 hk1 => ?_)
  have IM := keepW IM IC1 hk1 (fun i j hi hj q => hne j i hj hi q.symm)
  clear hk1
  have IC := IC1
  refine lv_aload_n hx hb dL_law_427 rfl (lv_at hl 2 rfl) ?_
  refine arg_ (k := 1) hx hb S IM.2.2 hl (by omega) dL_law_428 dL_law_429 dL_law_430 (by decide) dL_law_431 dL_law_432 ?_
  refine arg_ (k := 2) hx hb S IM.2.2 hl (by omega) dL_law_433 dL_law_434 dL_law_435 (by decide) dL_law_436 dL_law_437 ?_
  refine cG_ (k := 0) (nn := 2) (Xf2 := xfM) (rest := [.int r]) X xkM trivial IM (c_M_of e2 _) (gLB gL_law_X12_of) rfl ⟨rfl, rfl⟩ (by decide +kernel) ⟨Nat.le_of_ble_eq_true rfl, Nat.le_of_ble_eq_true rfl⟩ (by decide) shM_0 rfl rfl hl.1 rfl (Nat.le_of_ble_eq_true rfl) dL_law_438 ⟨Nat.le_of_ble_eq_true rfl, Nat.le_of_ble_eq_true rfl⟩ (fun H2 locs2 IM2 hk2 => ?_)
  have IC := keepW IC IM2 hk2 hne
  refine lv_icmp_eq (tgt := 1675) hx hb dL_law_441 (by decide) (fun _ => ?_) (fun q => absurd rfl q)
  exact kk τc τm _ _ ⟨IC, IM2, hne, hR1⟩
theorem cs_6 (X : lawX gs b D cy p s m meth c) (V : lawV aC aM D cy s H locs σc σm) (S : lawP b L i xs s) (hl : lv_has ls 4 [(0, .ref b), (1, .ref (aC 0)), (2, .ref (aM 0)), (3, .int (nI i))]) (kk : ∀ (σc σm : Sg) (H : Heap) (locs : List Loc), lawV aC aM D cy s H locs σc σm → W p l e room_1 s m #[Value.ref b] below meth c H locs 75 2073 Q (F0 m 1675 ls [])) : W p l e room_1 s m #[Value.ref b] below meth c H locs 75 2073 Q (F0 m 446 ls []) := by
  obtain ⟨hx, hb, hml, hown, hts, hK, hA, hXf⟩ := id X
  obtain ⟨IC, IM, hne, hR⟩ := V
  obtain ⟨r, τc, τm, e1, e2, hR1⟩ := eq_does hR (xs (i + 1)) (xs (i + 2))
  refine lv_aload_n hx hb dL_law_446 rfl (lv_at hl 1 rfl) ?_
  refine arg_ (k := 1) hx hb S IC.2.2 hl (by omega) dL_law_447 dL_law_448 dL_law_449 (by decide) dL_law_450 dL_law_451 ?_
  refine arg_ (k := 2) hx hb S IC.2.2 hl (by omega) dL_law_452 dL_law_453 dL_law_454 (by decide) dL_law_455 dL_law_456 ?_
  refine cG_ (k := 0) (nn := 2) (Xf2 := xfC gs) (rest := []) X xkC hXf.1 IC (c_C_does e1 _) (gLB gL_law_X11_does) rfl ⟨rfl, rfl⟩ (by decide +kernel) ⟨Nat.le_of_ble_eq_true rfl, Nat.le_of_ble_eq_true rfl⟩ (by decide) shC_0 rfl rfl hl.1 rfl (Nat.le_of_ble_eq_true rfl) dL_law_457 ⟨Nat.le_of_ble_eq_true rfl, Nat.le_of_ble_eq_true rfl⟩ (fun H1 locs1 IC1 hk1 => ?_)
  have IM := keepW IM IC1 hk1 (fun i j hi hj q => hne j i hj hi q.symm)
  clear hk1
  have IC := IC1
  refine lv_aload_n hx hb dL_law_460 rfl (lv_at hl 2 rfl) ?_
  refine arg_ (k := 1) hx hb S IM.2.2 hl (by omega) dL_law_461 dL_law_462 dL_law_463 (by decide) dL_law_464 dL_law_465 ?_
  refine arg_ (k := 2) hx hb S IM.2.2 hl (by omega) dL_law_466 dL_law_467 dL_law_468 (by decide) dL_law_469 dL_law_470 ?_
  refine cG_ (k := 0) (nn := 2) (Xf2 := xfM) (rest := [.int r]) X xkM trivial IM (c_M_does e2 _) (gLB gL_law_X12_does) rfl ⟨rfl, rfl⟩ (by decide +kernel) ⟨Nat.le_of_ble_eq_true rfl, Nat.le_of_ble_eq_true rfl⟩ (by decide) shM_0 rfl rfl hl.1 rfl (Nat.le_of_ble_eq_true rfl) dL_law_471 ⟨Nat.le_of_ble_eq_true rfl, Nat.le_of_ble_eq_true rfl⟩ (fun H2 locs2 IM2 hk2 => ?_)
  have IC := keepW IC IM2 hk2 hne
  refine lv_icmp_eq (tgt := 1675) hx hb dL_law_474 (by decide) (fun _ => ?_) (fun q => absurd rfl q)
  exact kk τc τm _ _ ⟨IC, IM2, hne, hR1⟩
theorem cs_7 (X : lawX gs b D cy p s m meth c) (V : lawV aC aM D cy s H locs σc σm) (S : lawP b L i xs s) (hl : lv_has ls 4 [(0, .ref b), (1, .ref (aC 0)), (2, .ref (aM 0)), (3, .int (nI i))]) (kk : ∀ (σc σm : Sg) (H : Heap) (locs : List Loc), lawV aC aM D cy s H locs σc σm → W p l e room_1 s m #[Value.ref b] below meth c H locs 75 2073 Q (F0 m 1675 ls [])) : W p l e room_1 s m #[Value.ref b] below meth c H locs 75 2073 Q (F0 m 479 ls []) := by
  obtain ⟨hx, hb, hml, hown, hts, hK, hA, hXf⟩ := id X
  obtain ⟨IC, IM, hne, hR⟩ := V
  obtain ⟨r, τc, τm, e1, e2, hR1⟩ := eq_mind hR (xs (i + 1)) (xs (i + 2)) (xs (i + 3))
  refine lv_aload_n hx hb dL_law_479 rfl (lv_at hl 1 rfl) ?_
  refine arg_ (k := 1) hx hb S IC.2.2 hl (by omega) dL_law_480 dL_law_481 dL_law_482 (by decide) dL_law_483 dL_law_484 ?_
  refine arg_ (k := 2) hx hb S IC.2.2 hl (by omega) dL_law_485 dL_law_486 dL_law_487 (by decide) dL_law_488 dL_law_489 ?_
  refine arg_ (k := 3) hx hb S IC.2.2 hl (by omega) dL_law_490 dL_law_491 dL_law_492 (by decide) dL_law_493 dL_law_494 ?_
  refine cG_ (k := 0) (nn := 3) (Xf2 := xfC gs) (rest := []) X xkC hXf.1 IC (c_C_mind e1 _) (gLB gL_law_X11_mind) rfl ⟨rfl, rfl⟩ (by decide +kernel) ⟨Nat.le_of_ble_eq_true rfl, Nat.le_of_ble_eq_true rfl⟩ (by decide) shC_0 rfl rfl hl.1 rfl (Nat.le_of_ble_eq_true rfl) dL_law_495 ⟨Nat.le_of_ble_eq_true rfl, Nat.le_of_ble_eq_true rfl⟩ (fun H1 locs1 IC1 hk1 => ?_)
  have IM := keepW IM IC1 hk1 (fun i j hi hj q => hne j i hj hi q.symm)
  clear hk1
  have IC := IC1
  refine lv_aload_n hx hb dL_law_498 rfl (lv_at hl 2 rfl) ?_
  refine arg_ (k := 1) hx hb S IM.2.2 hl (by omega) dL_law_499 dL_law_500 dL_law_501 (by decide) dL_law_502 dL_law_503 ?_
  refine arg_ (k := 2) hx hb S IM.2.2 hl (by omega) dL_law_504 dL_law_505 dL_law_506 (by decide) dL_law_507 dL_law_508 ?_
  refine arg_ (k := 3) hx hb S IM.2.2 hl (by omega) dL_law_509 dL_law_510 dL_law_511 (by decide) dL_law_512 dL_law_513 ?_
  refine cG_ (k := 0) (nn := 3) (Xf2 := xfM) (rest := [.int r]) X xkM trivial IM (c_M_mind e2 _) (gLB gL_law_X12_mind) rfl ⟨rfl, rfl⟩ (by decide +kernel) ⟨Nat.le_of_ble_eq_true rfl, Nat.le_of_ble_eq_true rfl⟩ (by decide) shM_0 rfl rfl hl.1 rfl (Nat.le_of_ble_eq_true rfl) dL_law_514 ⟨Nat.le_of_ble_eq_true rfl, Nat.le_of_ble_eq_true rfl⟩ (fun H2 locs2 IM2 hk2 => ?_)
  have IC := keepW IC IM2 hk2 hne
  refine lv_icmp_eq (tgt := 1675) hx hb dL_law_517 (by decide) (fun _ => ?_) (fun q => absurd rfl q)
  exact kk τc τm _ _ ⟨IC, IM2, hne, hR1⟩
theorem cs_8 (X : lawX gs b D cy p s m meth c) (V : lawV aC aM D cy s H locs σc σm) (S : lawP b L i xs s) (hl : lv_has ls 4 [(0, .ref b), (1, .ref (aC 0)), (2, .ref (aM 0)), (3, .int (nI i))]) (kk : ∀ (σc σm : Sg) (H : Heap) (locs : List Loc), lawV aC aM D cy s H locs σc σm → W p l e room_1 s m #[Value.ref b] below meth c H locs 75 2073 Q (F0 m 1675 ls [])) : W p l e room_1 s m #[Value.ref b] below meth c H locs 75 2073 Q (F0 m 522 ls []) := by
  obtain ⟨hx, hb, hml, hown, hts, hK, hA, hXf⟩ := id X
  obtain ⟨IC, IM, hne, hR⟩ := V
  obtain ⟨r, τc, τm, e1, e2, hR1⟩ := eq_change hR (xs (i + 1)) (xs (i + 2)) (xs (i + 3))
  refine lv_aload_n hx hb dL_law_522 rfl (lv_at hl 1 rfl) ?_
  refine arg_ (k := 1) hx hb S IC.2.2 hl (by omega) dL_law_523 dL_law_524 dL_law_525 (by decide) dL_law_526 dL_law_527 ?_
  refine arg_ (k := 2) hx hb S IC.2.2 hl (by omega) dL_law_528 dL_law_529 dL_law_530 (by decide) dL_law_531 dL_law_532 ?_
  refine arg_ (k := 3) hx hb S IC.2.2 hl (by omega) dL_law_533 dL_law_534 dL_law_535 (by decide) dL_law_536 dL_law_537 ?_
  refine cG_ (k := 0) (nn := 3) (Xf2 := xfC gs) (rest := []) X xkC hXf.1 IC (c_C_change e1 _) (gLB gL_law_X11_change) rfl ⟨rfl, rfl⟩ (by decide +kernel) ⟨Nat.le_of_ble_eq_true rfl, Nat.le_of_ble_eq_true rfl⟩ (by decide) shC_0 rfl rfl hl.1 rfl (Nat.le_of_ble_eq_true rfl) dL_law_538 ⟨Nat.le_of_ble_eq_true rfl, Nat.le_of_ble_eq_true rfl⟩ (fun H1 locs1 IC1 hk1 => ?_)
  have IM := keepW IM IC1 hk1 (fun i j hi hj q => hne j i hj hi q.symm)
  clear hk1
  have IC := IC1
  refine lv_aload_n hx hb dL_law_541 rfl (lv_at hl 2 rfl) ?_
  refine arg_ (k := 1) hx hb S IM.2.2 hl (by omega) dL_law_542 dL_law_543 dL_law_544 (by decide) dL_law_545 dL_law_546 ?_
  refine arg_ (k := 2) hx hb S IM.2.2 hl (by omega) dL_law_547 dL_law_548 dL_law_549 (by decide) dL_law_550 dL_law_551 ?_
  refine arg_ (k := 3) hx hb S IM.2.2 hl (by omega) dL_law_552 dL_law_553 dL_law_554 (by decide) dL_law_555 dL_law_556 ?_
  refine cG_ (k := 0) (nn := 3) (Xf2 := xfM) (rest := [.int r]) X xkM trivial IM (c_M_change e2 _) (gLB gL_law_X12_change) rfl ⟨rfl, rfl⟩ (by decide +kernel) ⟨Nat.le_of_ble_eq_true rfl, Nat.le_of_ble_eq_true rfl⟩ (by decide) shM_0 rfl rfl hl.1 rfl (Nat.le_of_ble_eq_true rfl) dL_law_557 ⟨Nat.le_of_ble_eq_true rfl, Nat.le_of_ble_eq_true rfl⟩ (fun H2 locs2 IM2 hk2 => ?_)
  have IC := keepW IC IM2 hk2 hne
  refine lv_icmp_eq (tgt := 1675) hx hb dL_law_560 (by decide) (fun _ => ?_) (fun q => absurd rfl q)
  exact kk τc τm _ _ ⟨IC, IM2, hne, hR1⟩
theorem cs_9 (X : lawX gs b D cy p s m meth c) (V : lawV aC aM D cy s H locs σc σm) (S : lawP b L i xs s) (hl : lv_has ls 4 [(0, .ref b), (1, .ref (aC 0)), (2, .ref (aM 0)), (3, .int (nI i))]) (kk : ∀ (σc σm : Sg) (H : Heap) (locs : List Loc), lawV aC aM D cy s H locs σc σm → W p l e room_1 s m #[Value.ref b] below meth c H locs 75 2073 Q (F0 m 1675 ls [])) : W p l e room_1 s m #[Value.ref b] below meth c H locs 75 2073 Q (F0 m 565 ls []) := by
  obtain ⟨hx, hb, hml, hown, hts, hK, hA, hXf⟩ := id X
  obtain ⟨IC, IM, hne, hR⟩ := V
  obtain ⟨r, τc, τm, e1, e2, hR1⟩ := eq_swear hR (xs (i + 1)) (xs (i + 2))
  refine lv_aload_n hx hb dL_law_565 rfl (lv_at hl 1 rfl) ?_
  refine arg_ (k := 1) hx hb S IC.2.2 hl (by omega) dL_law_566 dL_law_567 dL_law_568 (by decide) dL_law_569 dL_law_570 ?_
  refine arg_ (k := 2) hx hb S IC.2.2 hl (by omega) dL_law_571 dL_law_572 dL_law_573 (by decide) dL_law_574 dL_law_575 ?_
  refine cG_ (k := 0) (nn := 2) (Xf2 := xfC gs) (rest := []) X xkC hXf.1 IC (c_C_swear e1 _) (gLB gL_law_X11_swear) rfl ⟨rfl, rfl⟩ (by decide +kernel) ⟨Nat.le_of_ble_eq_true rfl, Nat.le_of_ble_eq_true rfl⟩ (by decide) shC_0 rfl rfl hl.1 rfl (Nat.le_of_ble_eq_true rfl) dL_law_576 ⟨Nat.le_of_ble_eq_true rfl, Nat.le_of_ble_eq_true rfl⟩ (fun H1 locs1 IC1 hk1 => ?_)
  have IM := keepW IM IC1 hk1 (fun i j hi hj q => hne j i hj hi q.symm)
  clear hk1
  have IC := IC1
  refine lv_aload_n hx hb dL_law_579 rfl (lv_at hl 2 rfl) ?_
  refine arg_ (k := 1) hx hb S IM.2.2 hl (by omega) dL_law_580 dL_law_581 dL_law_582 (by decide) dL_law_583 dL_law_584 ?_
  refine arg_ (k := 2) hx hb S IM.2.2 hl (by omega) dL_law_585 dL_law_586 dL_law_587 (by decide) dL_law_588 dL_law_589 ?_
  refine cG_ (k := 0) (nn := 2) (Xf2 := xfM) (rest := [.int r]) X xkM trivial IM (c_M_swear e2 _) (gLB gL_law_X12_swear) rfl ⟨rfl, rfl⟩ (by decide +kernel) ⟨Nat.le_of_ble_eq_true rfl, Nat.le_of_ble_eq_true rfl⟩ (by decide) shM_0 rfl rfl hl.1 rfl (Nat.le_of_ble_eq_true rfl) dL_law_590 ⟨Nat.le_of_ble_eq_true rfl, Nat.le_of_ble_eq_true rfl⟩ (fun H2 locs2 IM2 hk2 => ?_)
  have IC := keepW IC IM2 hk2 hne
  refine lv_icmp_eq (tgt := 1675) hx hb dL_law_593 (by decide) (fun _ => ?_) (fun q => absurd rfl q)
  exact kk τc τm _ _ ⟨IC, IM2, hne, hR1⟩
theorem cs_10 (X : lawX gs b D cy p s m meth c) (V : lawV aC aM D cy s H locs σc σm) (S : lawP b L i xs s) (hl : lv_has ls 4 [(0, .ref b), (1, .ref (aC 0)), (2, .ref (aM 0)), (3, .int (nI i))]) (kk : ∀ (σc σm : Sg) (H : Heap) (locs : List Loc), lawV aC aM D cy s H locs σc σm → W p l e room_1 s m #[Value.ref b] below meth c H locs 75 2073 Q (F0 m 1675 ls [])) : W p l e room_1 s m #[Value.ref b] below meth c H locs 75 2073 Q (F0 m 598 ls []) := by
  obtain ⟨hx, hb, hml, hown, hts, hK, hA, hXf⟩ := id X
  obtain ⟨IC, IM, hne, hR⟩ := V
  obtain ⟨r, τc, τm, e1, e2, hR1⟩ := eq_vice hR (xs (i + 1)) (xs (i + 2))
  refine lv_aload_n hx hb dL_law_598 rfl (lv_at hl 1 rfl) ?_
  refine arg_ (k := 1) hx hb S IC.2.2 hl (by omega) dL_law_599 dL_law_600 dL_law_601 (by decide) dL_law_602 dL_law_603 ?_
  refine arg_ (k := 2) hx hb S IC.2.2 hl (by omega) dL_law_604 dL_law_605 dL_law_606 (by decide) dL_law_607 dL_law_608 ?_
  refine cG_ (k := 0) (nn := 2) (Xf2 := xfC gs) (rest := []) X xkC hXf.1 IC (c_C_vice e1 _) (gLB gL_law_X11_vice) rfl ⟨rfl, rfl⟩ (by decide +kernel) ⟨Nat.le_of_ble_eq_true rfl, Nat.le_of_ble_eq_true rfl⟩ (by decide) shC_0 rfl rfl hl.1 rfl (Nat.le_of_ble_eq_true rfl) dL_law_609 ⟨Nat.le_of_ble_eq_true rfl, Nat.le_of_ble_eq_true rfl⟩ (fun H1 locs1 IC1 hk1 => ?_)
  have IM := keepW IM IC1 hk1 (fun i j hi hj q => hne j i hj hi q.symm)
  clear hk1
  have IC := IC1
  refine lv_aload_n hx hb dL_law_612 rfl (lv_at hl 2 rfl) ?_
  refine arg_ (k := 1) hx hb S IM.2.2 hl (by omega) dL_law_613 dL_law_614 dL_law_615 (by decide) dL_law_616 dL_law_617 ?_
  refine arg_ (k := 2) hx hb S IM.2.2 hl (by omega) dL_law_618 dL_law_619 dL_law_620 (by decide) dL_law_621 dL_law_622 ?_
  refine cG_ (k := 0) (nn := 2) (Xf2 := xfM) (rest := [.int r]) X xkM trivial IM (c_M_vice e2 _) (gLB gL_law_X12_vice) rfl ⟨rfl, rfl⟩ (by decide +kernel) ⟨Nat.le_of_ble_eq_true rfl, Nat.le_of_ble_eq_true rfl⟩ (by decide) shM_0 rfl rfl hl.1 rfl (Nat.le_of_ble_eq_true rfl) dL_law_623 ⟨Nat.le_of_ble_eq_true rfl, Nat.le_of_ble_eq_true rfl⟩ (fun H2 locs2 IM2 hk2 => ?_)
  have IC := keepW IC IM2 hk2 hne
  refine lv_icmp_eq (tgt := 1675) hx hb dL_law_626 (by decide) (fun _ => ?_) (fun q => absurd rfl q)
  exact kk τc τm _ _ ⟨IC, IM2, hne, hR1⟩
theorem cs_11 (X : lawX gs b D cy p s m meth c) (V : lawV aC aM D cy s H locs σc σm) (S : lawP b L i xs s) (hl : lv_has ls 4 [(0, .ref b), (1, .ref (aC 0)), (2, .ref (aM 0)), (3, .int (nI i))]) (kk : ∀ (σc σm : Sg) (H : Heap) (locs : List Loc), lawV aC aM D cy s H locs σc σm → W p l e room_1 s m #[Value.ref b] below meth c H locs 75 2073 Q (F0 m 1675 ls [])) : W p l e room_1 s m #[Value.ref b] below meth c H locs 75 2073 Q (F0 m 631 ls []) := by
  obtain ⟨hx, hb, hml, hown, hts, hK, hA, hXf⟩ := id X
  obtain ⟨IC, IM, hne, hR⟩ := V
  obtain ⟨r, τc, τm, e1, e2, hR1⟩ := eq_easy hR (xs (i + 1)) (xs (i + 2))
  refine lv_aload_n hx hb dL_law_631 rfl (lv_at hl 1 rfl) ?_
  refine arg_ (k := 1) hx hb S IC.2.2 hl (by omega) dL_law_632 dL_law_633 dL_law_634 (by decide) dL_law_635 dL_law_636 ?_
  refine arg_ (k := 2) hx hb S IC.2.2 hl (by omega) dL_law_637 dL_law_638 dL_law_639 (by decide) dL_law_640 dL_law_641 ?_
  refine cG_ (k := 0) (nn := 2) (Xf2 := xfC gs) (rest := []) X xkC hXf.1 IC (c_C_easy e1 _) (gLB gL_law_X11_easy) rfl ⟨rfl, rfl⟩ (by decide +kernel) ⟨Nat.le_of_ble_eq_true rfl, Nat.le_of_ble_eq_true rfl⟩ (by decide) shC_0 rfl rfl hl.1 rfl (Nat.le_of_ble_eq_true rfl) dL_law_642 ⟨Nat.le_of_ble_eq_true rfl, Nat.le_of_ble_eq_true rfl⟩ (fun H1 locs1 IC1 hk1 => ?_)
  have IM := keepW IM IC1 hk1 (fun i j hi hj q => hne j i hj hi q.symm)
  clear hk1
  have IC := IC1
  refine lv_aload_n hx hb dL_law_645 rfl (lv_at hl 2 rfl) ?_
  refine arg_ (k := 1) hx hb S IM.2.2 hl (by omega) dL_law_646 dL_law_647 dL_law_648 (by decide) dL_law_649 dL_law_650 ?_
  refine arg_ (k := 2) hx hb S IM.2.2 hl (by omega) dL_law_651 dL_law_652 dL_law_653 (by decide) dL_law_654 dL_law_655 ?_
  refine cG_ (k := 0) (nn := 2) (Xf2 := xfM) (rest := [.int r]) X xkM trivial IM (c_M_easy e2 _) (gLB gL_law_X12_easy) rfl ⟨rfl, rfl⟩ (by decide +kernel) ⟨Nat.le_of_ble_eq_true rfl, Nat.le_of_ble_eq_true rfl⟩ (by decide) shM_0 rfl rfl hl.1 rfl (Nat.le_of_ble_eq_true rfl) dL_law_656 ⟨Nat.le_of_ble_eq_true rfl, Nat.le_of_ble_eq_true rfl⟩ (fun H2 locs2 IM2 hk2 => ?_)
  have IC := keepW IC IM2 hk2 hne
  refine lv_icmp_eq (tgt := 1675) hx hb dL_law_659 (by decide) (fun _ => ?_) (fun q => absurd rfl q)
  exact kk τc τm _ _ ⟨IC, IM2, hne, hR1⟩
theorem cs_12 (X : lawX gs b D cy p s m meth c) (V : lawV aC aM D cy s H locs σc σm) (S : lawP b L i xs s) (hl : lv_has ls 4 [(0, .ref b), (1, .ref (aC 0)), (2, .ref (aM 0)), (3, .int (nI i))]) (kk : ∀ (σc σm : Sg) (H : Heap) (locs : List Loc), lawV aC aM D cy s H locs σc σm → W p l e room_1 s m #[Value.ref b] below meth c H locs 75 2073 Q (F0 m 1675 ls [])) : W p l e room_1 s m #[Value.ref b] below meth c H locs 75 2073 Q (F0 m 664 ls []) := by
  obtain ⟨hx, hb, hml, hown, hts, hK, hA, hXf⟩ := id X
  obtain ⟨IC, IM, hne, hR⟩ := V
  obtain ⟨r, τc, τm, e1, e2, hR1⟩ := eq_godmother hR (xs (i + 1)) (xs (i + 2))
  refine lv_aload_n hx hb dL_law_664 rfl (lv_at hl 1 rfl) ?_
  refine arg_ (k := 1) hx hb S IC.2.2 hl (by omega) dL_law_665 dL_law_666 dL_law_667 (by decide) dL_law_668 dL_law_669 ?_
  refine arg_ (k := 2) hx hb S IC.2.2 hl (by omega) dL_law_670 dL_law_671 dL_law_672 (by decide) dL_law_673 dL_law_674 ?_
  refine cG_ (k := 0) (nn := 2) (Xf2 := xfC gs) (rest := []) X xkC hXf.1 IC (c_C_godmother e1 _) (gLB gL_law_X11_godmother) rfl ⟨rfl, rfl⟩ (by decide +kernel) ⟨Nat.le_of_ble_eq_true rfl, Nat.le_of_ble_eq_true rfl⟩ (by decide) shC_0 rfl rfl hl.1 rfl (Nat.le_of_ble_eq_true rfl) dL_law_675 ⟨Nat.le_of_ble_eq_true rfl, Nat.le_of_ble_eq_true rfl⟩ (fun H1 locs1 IC1 hk1 => ?_)
  have IM := keepW IM IC1 hk1 (fun i j hi hj q => hne j i hj hi q.symm)
  clear hk1
  have IC := IC1
  refine lv_aload_n hx hb dL_law_678 rfl (lv_at hl 2 rfl) ?_
  refine arg_ (k := 1) hx hb S IM.2.2 hl (by omega) dL_law_679 dL_law_680 dL_law_681 (by decide) dL_law_682 dL_law_683 ?_
  refine arg_ (k := 2) hx hb S IM.2.2 hl (by omega) dL_law_684 dL_law_685 dL_law_686 (by decide) dL_law_687 dL_law_688 ?_
  refine cG_ (k := 0) (nn := 2) (Xf2 := xfM) (rest := [.int r]) X xkM trivial IM (c_M_godmother e2 _) (gLB gL_law_X12_godmother) rfl ⟨rfl, rfl⟩ (by decide +kernel) ⟨Nat.le_of_ble_eq_true rfl, Nat.le_of_ble_eq_true rfl⟩ (by decide) shM_0 rfl rfl hl.1 rfl (Nat.le_of_ble_eq_true rfl) dL_law_689 ⟨Nat.le_of_ble_eq_true rfl, Nat.le_of_ble_eq_true rfl⟩ (fun H2 locs2 IM2 hk2 => ?_)
  have IC := keepW IC IM2 hk2 hne
  refine lv_icmp_eq (tgt := 1675) hx hb dL_law_692 (by decide) (fun _ => ?_) (fun q => absurd rfl q)
  exact kk τc τm _ _ ⟨IC, IM2, hne, hR1⟩
theorem cs_13 (X : lawX gs b D cy p s m meth c) (V : lawV aC aM D cy s H locs σc σm) (S : lawP b L i xs s) (hl : lv_has ls 4 [(0, .ref b), (1, .ref (aC 0)), (2, .ref (aM 0)), (3, .int (nI i))]) (kk : ∀ (σc σm : Sg) (H : Heap) (locs : List Loc), lawV aC aM D cy s H locs σc σm → W p l e room_1 s m #[Value.ref b] below meth c H locs 75 2073 Q (F0 m 1675 ls [])) : W p l e room_1 s m #[Value.ref b] below meth c H locs 75 2073 Q (F0 m 697 ls []) := by
  obtain ⟨hx, hb, hml, hown, hts, hK, hA, hXf⟩ := id X
  obtain ⟨IC, IM, hne, hR⟩ := V
  obtain ⟨r, τc, τm, e1, e2, hR1⟩ := eq_years hR (xs (i + 1))
  refine lv_aload_n hx hb dL_law_697 rfl (lv_at hl 1 rfl) ?_
  refine arg_ (k := 1) hx hb S IC.2.2 hl (by omega) dL_law_698 dL_law_699 dL_law_700 (by decide) dL_law_701 dL_law_702 ?_
  refine cG_ (k := 0) (nn := 1) (Xf2 := xfC gs) (rest := []) X xkC hXf.1 IC (c_C_years e1 _) (gLB gL_law_X11_years) rfl ⟨rfl, rfl⟩ (by decide +kernel) ⟨Nat.le_of_ble_eq_true rfl, Nat.le_of_ble_eq_true rfl⟩ (by decide) shC_0 rfl rfl hl.1 rfl (Nat.le_of_ble_eq_true rfl) dL_law_703 ⟨Nat.le_of_ble_eq_true rfl, Nat.le_of_ble_eq_true rfl⟩ (fun H1 locs1 IC1 hk1 => ?_)
  have IM := keepW IM IC1 hk1 (fun i j hi hj q => hne j i hj hi q.symm)
  clear hk1
  have IC := IC1
  refine lv_aload_n hx hb dL_law_706 rfl (lv_at hl 2 rfl) ?_
  refine arg_ (k := 1) hx hb S IM.2.2 hl (by omega) dL_law_707 dL_law_708 dL_law_709 (by decide) dL_law_710 dL_law_711 ?_
  refine cG_ (k := 0) (nn := 1) (Xf2 := xfM) (rest := [.int r]) X xkM trivial IM (c_M_years e2 _) (gLB gL_law_X12_years) rfl ⟨rfl, rfl⟩ (by decide +kernel) ⟨Nat.le_of_ble_eq_true rfl, Nat.le_of_ble_eq_true rfl⟩ (by decide) shM_0 rfl rfl hl.1 rfl (Nat.le_of_ble_eq_true rfl) dL_law_712 ⟨Nat.le_of_ble_eq_true rfl, Nat.le_of_ble_eq_true rfl⟩ (fun H2 locs2 IM2 hk2 => ?_)
  have IC := keepW IC IM2 hk2 hne
  refine lv_icmp_eq (tgt := 1675) hx hb dL_law_715 (by decide) (fun _ => ?_) (fun q => absurd rfl q)
  exact kk τc τm _ _ ⟨IC, IM2, hne, hR1⟩
theorem cs_14 (X : lawX gs b D cy p s m meth c) (V : lawV aC aM D cy s H locs σc σm) (S : lawP b L i xs s) (hl : lv_has ls 4 [(0, .ref b), (1, .ref (aC 0)), (2, .ref (aM 0)), (3, .int (nI i))]) (kk : ∀ (σc σm : Sg) (H : Heap) (locs : List Loc), lawV aC aM D cy s H locs σc σm → W p l e room_1 s m #[Value.ref b] below meth c H locs 75 2073 Q (F0 m 1675 ls [])) : W p l e room_1 s m #[Value.ref b] below meth c H locs 75 2073 Q (F0 m 720 ls []) := by
  obtain ⟨hx, hb, hml, hown, hts, hK, hA, hXf⟩ := id X
  obtain ⟨IC, IM, hne, hR⟩ := V
  obtain ⟨r, τc, τm, e1, e2, hR1⟩ := eq_seed hR (xs (i + 1))
  refine lv_aload_n hx hb dL_law_720 rfl (lv_at hl 1 rfl) ?_
  refine arg_ (k := 1) hx hb S IC.2.2 hl (by omega) dL_law_721 dL_law_722 dL_law_723 (by decide) dL_law_724 dL_law_725 ?_
  refine cG_ (k := 0) (nn := 1) (Xf2 := xfC gs) (rest := []) X xkC hXf.1 IC (c_C_seed e1 _) (gLB gL_law_X11_seed) rfl ⟨rfl, rfl⟩ (by decide +kernel) ⟨Nat.le_of_ble_eq_true rfl, Nat.le_of_ble_eq_true rfl⟩ (by decide) shC_0 rfl rfl hl.1 rfl (Nat.le_of_ble_eq_true rfl) dL_law_726 ⟨Nat.le_of_ble_eq_true rfl, Nat.le_of_ble_eq_true rfl⟩ (fun H1 locs1 IC1 hk1 => ?_)
  have IM := keepW IM IC1 hk1 (fun i j hi hj q => hne j i hj hi q.symm)
  clear hk1
  have IC := IC1
  refine lv_aload_n hx hb dL_law_729 rfl (lv_at hl 2 rfl) ?_
  refine arg_ (k := 1) hx hb S IM.2.2 hl (by omega) dL_law_730 dL_law_731 dL_law_732 (by decide) dL_law_733 dL_law_734 ?_
  refine cG_ (k := 0) (nn := 1) (Xf2 := xfM) (rest := [.int r]) X xkM trivial IM (c_M_seed e2 _) (gLB gL_law_X12_seed) rfl ⟨rfl, rfl⟩ (by decide +kernel) ⟨Nat.le_of_ble_eq_true rfl, Nat.le_of_ble_eq_true rfl⟩ (by decide) shM_0 rfl rfl hl.1 rfl (Nat.le_of_ble_eq_true rfl) dL_law_735 ⟨Nat.le_of_ble_eq_true rfl, Nat.le_of_ble_eq_true rfl⟩ (fun H2 locs2 IM2 hk2 => ?_)
  have IC := keepW IC IM2 hk2 hne
  refine lv_icmp_eq (tgt := 1675) hx hb dL_law_738 (by decide) (fun _ => ?_) (fun q => absurd rfl q)
  exact kk τc τm _ _ ⟨IC, IM2, hne, hR1⟩
theorem cs_15 (X : lawX gs b D cy p s m meth c) (V : lawV aC aM D cy s H locs σc σm) (S : lawP b L i xs s) (hl : lv_has ls 4 [(0, .ref b), (1, .ref (aC 0)), (2, .ref (aM 0)), (3, .int (nI i))]) (kk : ∀ (σc σm : Sg) (H : Heap) (locs : List Loc), lawV aC aM D cy s H locs σc σm → W p l e room_1 s m #[Value.ref b] below meth c H locs 75 2073 Q (F0 m 1675 ls [])) : W p l e room_1 s m #[Value.ref b] below meth c H locs 75 2073 Q (F0 m 743 ls []) := by
  obtain ⟨hx, hb, hml, hown, hts, hK, hA, hXf⟩ := id X
  obtain ⟨IC, IM, hne, hR⟩ := V
  obtain ⟨r, τc, τm, e1, e2, hR1⟩ := eq_year hR 
  refine lv_aload_n hx hb dL_law_743 rfl (lv_at hl 1 rfl) ?_
  refine cG_ (k := 0) (nn := 0) (Xf2 := xfC gs) (rest := []) X xkC hXf.1 IC (c_C_year e1 _) (gLB gL_law_X11_year) rfl ⟨rfl, rfl⟩ (by decide +kernel) ⟨Nat.le_of_ble_eq_true rfl, Nat.le_of_ble_eq_true rfl⟩ (by decide) shC_0 rfl rfl hl.1 rfl (Nat.le_of_ble_eq_true rfl) dL_law_744 ⟨Nat.le_of_ble_eq_true rfl, Nat.le_of_ble_eq_true rfl⟩ (fun H1 locs1 IC1 hk1 => ?_)
  have IM := keepW IM IC1 hk1 (fun i j hi hj q => hne j i hj hi q.symm)
  clear hk1
  have IC := IC1
  refine lv_aload_n hx hb dL_law_747 rfl (lv_at hl 2 rfl) ?_
  refine cG_ (k := 0) (nn := 0) (Xf2 := xfM) (rest := [.int r]) X xkM trivial IM (c_M_year e2 _) (gLB gL_law_X12_year) rfl ⟨rfl, rfl⟩ (by decide +kernel) ⟨Nat.le_of_ble_eq_true rfl, Nat.le_of_ble_eq_true rfl⟩ (by decide) shM_0 rfl rfl hl.1 rfl (Nat.le_of_ble_eq_true rfl) dL_law_748 ⟨Nat.le_of_ble_eq_true rfl, Nat.le_of_ble_eq_true rfl⟩ (fun H2 locs2 IM2 hk2 => ?_)
  have IC := keepW IC IM2 hk2 hne
  refine lv_icmp_eq (tgt := 1675) hx hb dL_law_751 (by decide) (fun _ => ?_) (fun q => absurd rfl q)
  exact kk τc τm _ _ ⟨IC, IM2, hne, hR1⟩
theorem cs_16 (X : lawX gs b D cy p s m meth c) (V : lawV aC aM D cy s H locs σc σm) (S : lawP b L i xs s) (hl : lv_has ls 4 [(0, .ref b), (1, .ref (aC 0)), (2, .ref (aM 0)), (3, .int (nI i))]) (kk : ∀ (σc σm : Sg) (H : Heap) (locs : List Loc), lawV aC aM D cy s H locs σc σm → W p l e room_1 s m #[Value.ref b] below meth c H locs 75 2073 Q (F0 m 1675 ls [])) : W p l e room_1 s m #[Value.ref b] below meth c H locs 75 2073 Q (F0 m 756 ls []) := by
  obtain ⟨hx, hb, hml, hown, hts, hK, hA, hXf⟩ := id X
  obtain ⟨IC, IM, hne, hR⟩ := V
  obtain ⟨r, τc, τm, e1, e2, hR1⟩ := eq_luck hR (xs (i + 1))
  refine lv_aload_n hx hb dL_law_756 rfl (lv_at hl 1 rfl) ?_
  refine arg_ (k := 1) hx hb S IC.2.2 hl (by omega) dL_law_757 dL_law_758 dL_law_759 (by decide) dL_law_760 dL_law_761 ?_
  refine cG_ (k := 0) (nn := 1) (Xf2 := xfC gs) (rest := []) X xkC hXf.1 IC (c_C_luck e1 _) (gLB gL_law_X11_luck) rfl ⟨rfl, rfl⟩ (by decide +kernel) ⟨Nat.le_of_ble_eq_true rfl, Nat.le_of_ble_eq_true rfl⟩ (by decide) shC_0 rfl rfl hl.1 rfl (Nat.le_of_ble_eq_true rfl) dL_law_762 ⟨Nat.le_of_ble_eq_true rfl, Nat.le_of_ble_eq_true rfl⟩ (fun H1 locs1 IC1 hk1 => ?_)
  have IM := keepW IM IC1 hk1 (fun i j hi hj q => hne j i hj hi q.symm)
  clear hk1
  have IC := IC1
  refine lv_aload_n hx hb dL_law_765 rfl (lv_at hl 2 rfl) ?_
  refine arg_ (k := 1) hx hb S IM.2.2 hl (by omega) dL_law_766 dL_law_767 dL_law_768 (by decide) dL_law_769 dL_law_770 ?_
  refine cG_ (k := 0) (nn := 1) (Xf2 := xfM) (rest := [.int r]) X xkM trivial IM (c_M_luck e2 _) (gLB gL_law_X12_luck) rfl ⟨rfl, rfl⟩ (by decide +kernel) ⟨Nat.le_of_ble_eq_true rfl, Nat.le_of_ble_eq_true rfl⟩ (by decide) shM_0 rfl rfl hl.1 rfl (Nat.le_of_ble_eq_true rfl) dL_law_771 ⟨Nat.le_of_ble_eq_true rfl, Nat.le_of_ble_eq_true rfl⟩ (fun H2 locs2 IM2 hk2 => ?_)
  have IC := keepW IC IM2 hk2 hne
  refine lv_icmp_eq (tgt := 1675) hx hb dL_law_774 (by decide) (fun _ => ?_) (fun q => absurd rfl q)
  exact kk τc τm _ _ ⟨IC, IM2, hne, hR1⟩
theorem cs_17 (X : lawX gs b D cy p s m meth c) (V : lawV aC aM D cy s H locs σc σm) (S : lawP b L i xs s) (hl : lv_has ls 4 [(0, .ref b), (1, .ref (aC 0)), (2, .ref (aM 0)), (3, .int (nI i))]) (kk : ∀ (σc σm : Sg) (H : Heap) (locs : List Loc), lawV aC aM D cy s H locs σc σm → W p l e room_1 s m #[Value.ref b] below meth c H locs 75 2073 Q (F0 m 1675 ls [])) : W p l e room_1 s m #[Value.ref b] below meth c H locs 75 2073 Q (F0 m 779 ls []) := by
  obtain ⟨hx, hb, hml, hown, hts, hK, hA, hXf⟩ := id X
  obtain ⟨IC, IM, hne, hR⟩ := V
  obtain ⟨r, τc, τm, e1, e2, hR1⟩ := eq_state hR (xs (i + 1))
  refine lv_aload_n hx hb dL_law_779 rfl (lv_at hl 1 rfl) ?_
  refine arg_ (k := 1) hx hb S IC.2.2 hl (by omega) dL_law_780 dL_law_781 dL_law_782 (by decide) dL_law_783 dL_law_784 ?_
  refine cG_ (k := 0) (nn := 1) (Xf2 := xfC gs) (rest := []) X xkC hXf.1 IC (c_C_state e1 _) (gLB gL_law_X11_state) rfl ⟨rfl, rfl⟩ (by decide +kernel) ⟨Nat.le_of_ble_eq_true rfl, Nat.le_of_ble_eq_true rfl⟩ (by decide) shC_0 rfl rfl hl.1 rfl (Nat.le_of_ble_eq_true rfl) dL_law_785 ⟨Nat.le_of_ble_eq_true rfl, Nat.le_of_ble_eq_true rfl⟩ (fun H1 locs1 IC1 hk1 => ?_)
  have IM := keepW IM IC1 hk1 (fun i j hi hj q => hne j i hj hi q.symm)
  clear hk1
  have IC := IC1
  refine lv_aload_n hx hb dL_law_788 rfl (lv_at hl 2 rfl) ?_
  refine arg_ (k := 1) hx hb S IM.2.2 hl (by omega) dL_law_789 dL_law_790 dL_law_791 (by decide) dL_law_792 dL_law_793 ?_
  refine cG_ (k := 0) (nn := 1) (Xf2 := xfM) (rest := [.int r]) X xkM trivial IM (c_M_state e2 _) (gLB gL_law_X12_state) rfl ⟨rfl, rfl⟩ (by decide +kernel) ⟨Nat.le_of_ble_eq_true rfl, Nat.le_of_ble_eq_true rfl⟩ (by decide) shM_0 rfl rfl hl.1 rfl (Nat.le_of_ble_eq_true rfl) dL_law_794 ⟨Nat.le_of_ble_eq_true rfl, Nat.le_of_ble_eq_true rfl⟩ (fun H2 locs2 IM2 hk2 => ?_)
  have IC := keepW IC IM2 hk2 hne
  refine lv_icmp_eq (tgt := 1675) hx hb dL_law_797 (by decide) (fun _ => ?_) (fun q => absurd rfl q)
  exact kk τc τm _ _ ⟨IC, IM2, hne, hR1⟩
theorem cs_18 (X : lawX gs b D cy p s m meth c) (V : lawV aC aM D cy s H locs σc σm) (S : lawP b L i xs s) (hl : lv_has ls 4 [(0, .ref b), (1, .ref (aC 0)), (2, .ref (aM 0)), (3, .int (nI i))]) (kk : ∀ (σc σm : Sg) (H : Heap) (locs : List Loc), lawV aC aM D cy s H locs σc σm → W p l e room_1 s m #[Value.ref b] below meth c H locs 75 2073 Q (F0 m 1675 ls [])) : W p l e room_1 s m #[Value.ref b] below meth c H locs 75 2073 Q (F0 m 802 ls []) := by
  obtain ⟨hx, hb, hml, hown, hts, hK, hA, hXf⟩ := id X
  obtain ⟨IC, IM, hne, hR⟩ := V
  obtain ⟨r, τc, τm, e1, e2, hR1⟩ := eq_becomes hR (xs (i + 1)) (xs (i + 2))
  refine lv_aload_n hx hb dL_law_802 rfl (lv_at hl 1 rfl) ?_
  refine arg_ (k := 1) hx hb S IC.2.2 hl (by omega) dL_law_803 dL_law_804 dL_law_805 (by decide) dL_law_806 dL_law_807 ?_
  refine arg_ (k := 2) hx hb S IC.2.2 hl (by omega) dL_law_808 dL_law_809 dL_law_810 (by decide) dL_law_811 dL_law_812 ?_
  refine cG_ (k := 0) (nn := 2) (Xf2 := xfC gs) (rest := []) X xkC hXf.1 IC (c_C_becomes e1 _) (gLB gL_law_X11_becomes) rfl ⟨rfl, rfl⟩ (by decide +kernel) ⟨Nat.le_of_ble_eq_true rfl, Nat.le_of_ble_eq_true rfl⟩ (by decide) shC_0 rfl rfl hl.1 rfl (Nat.le_of_ble_eq_true rfl) dL_law_813 ⟨Nat.le_of_ble_eq_true rfl, Nat.le_of_ble_eq_true rfl⟩ (fun H1 locs1 IC1 hk1 => ?_)
  have IM := keepW IM IC1 hk1 (fun i j hi hj q => hne j i hj hi q.symm)
  clear hk1
  have IC := IC1
  refine lv_aload_n hx hb dL_law_816 rfl (lv_at hl 2 rfl) ?_
  refine arg_ (k := 1) hx hb S IM.2.2 hl (by omega) dL_law_817 dL_law_818 dL_law_819 (by decide) dL_law_820 dL_law_821 ?_
  refine arg_ (k := 2) hx hb S IM.2.2 hl (by omega) dL_law_822 dL_law_823 dL_law_824 (by decide) dL_law_825 dL_law_826 ?_
  refine cG_ (k := 0) (nn := 2) (Xf2 := xfM) (rest := [.int r]) X xkM trivial IM (c_M_becomes e2 _) (gLB gL_law_X12_becomes) rfl ⟨rfl, rfl⟩ (by decide +kernel) ⟨Nat.le_of_ble_eq_true rfl, Nat.le_of_ble_eq_true rfl⟩ (by decide) shM_0 rfl rfl hl.1 rfl (Nat.le_of_ble_eq_true rfl) dL_law_827 ⟨Nat.le_of_ble_eq_true rfl, Nat.le_of_ble_eq_true rfl⟩ (fun H2 locs2 IM2 hk2 => ?_)
  have IC := keepW IC IM2 hk2 hne
  refine lv_icmp_eq (tgt := 1675) hx hb dL_law_830 (by decide) (fun _ => ?_) (fun q => absurd rfl q)
  exact kk τc τm _ _ ⟨IC, IM2, hne, hR1⟩
theorem cs_19 (X : lawX gs b D cy p s m meth c) (V : lawV aC aM D cy s H locs σc σm) (S : lawP b L i xs s) (hl : lv_has ls 4 [(0, .ref b), (1, .ref (aC 0)), (2, .ref (aM 0)), (3, .int (nI i))]) (kk : ∀ (σc σm : Sg) (H : Heap) (locs : List Loc), lawV aC aM D cy s H locs σc σm → W p l e room_1 s m #[Value.ref b] below meth c H locs 75 2073 Q (F0 m 1675 ls [])) : W p l e room_1 s m #[Value.ref b] below meth c H locs 75 2073 Q (F0 m 835 ls []) := by
  obtain ⟨hx, hb, hml, hown, hts, hK, hA, hXf⟩ := id X
  obtain ⟨IC, IM, hne, hR⟩ := V
  obtain ⟨r, τc, τm, e1, e2, hR1⟩ := eq_suited hR (xs (i + 1))
  refine lv_aload_n hx hb dL_law_835 rfl (lv_at hl 1 rfl) ?_
  refine arg_ (k := 1) hx hb S IC.2.2 hl (by omega) dL_law_836 dL_law_837 dL_law_838 (by decide) dL_law_839 dL_law_840 ?_
  refine cG_ (k := 0) (nn := 1) (Xf2 := xfC gs) (rest := []) X xkC hXf.1 IC (c_C_suited e1 _) (gLB gL_law_X11_suited) rfl ⟨rfl, rfl⟩ (by decide +kernel) ⟨Nat.le_of_ble_eq_true rfl, Nat.le_of_ble_eq_true rfl⟩ (by decide) shC_0 rfl rfl hl.1 rfl (Nat.le_of_ble_eq_true rfl) dL_law_841 ⟨Nat.le_of_ble_eq_true rfl, Nat.le_of_ble_eq_true rfl⟩ (fun H1 locs1 IC1 hk1 => ?_)
  have IM := keepW IM IC1 hk1 (fun i j hi hj q => hne j i hj hi q.symm)
  clear hk1
  have IC := IC1
  refine lv_aload_n hx hb dL_law_844 rfl (lv_at hl 2 rfl) ?_
  refine arg_ (k := 1) hx hb S IM.2.2 hl (by omega) dL_law_845 dL_law_846 dL_law_847 (by decide) dL_law_848 dL_law_849 ?_
  refine cG_ (k := 0) (nn := 1) (Xf2 := xfM) (rest := [.int r]) X xkM trivial IM (c_M_suited e2 _) (gLB gL_law_X12_suited) rfl ⟨rfl, rfl⟩ (by decide +kernel) ⟨Nat.le_of_ble_eq_true rfl, Nat.le_of_ble_eq_true rfl⟩ (by decide) shM_0 rfl rfl hl.1 rfl (Nat.le_of_ble_eq_true rfl) dL_law_850 ⟨Nat.le_of_ble_eq_true rfl, Nat.le_of_ble_eq_true rfl⟩ (fun H2 locs2 IM2 hk2 => ?_)
  have IC := keepW IC IM2 hk2 hne
  refine lv_icmp_eq (tgt := 1675) hx hb dL_law_853 (by decide) (fun _ => ?_) (fun q => absurd rfl q)
  exact kk τc τm _ _ ⟨IC, IM2, hne, hR1⟩
theorem cs_20 (X : lawX gs b D cy p s m meth c) (V : lawV aC aM D cy s H locs σc σm) (S : lawP b L i xs s) (hl : lv_has ls 4 [(0, .ref b), (1, .ref (aC 0)), (2, .ref (aM 0)), (3, .int (nI i))]) (kk : ∀ (σc σm : Sg) (H : Heap) (locs : List Loc), lawV aC aM D cy s H locs σc σm → W p l e room_1 s m #[Value.ref b] below meth c H locs 75 2073 Q (F0 m 1675 ls [])) : W p l e room_1 s m #[Value.ref b] below meth c H locs 75 2073 Q (F0 m 858 ls []) := by
  obtain ⟨hx, hb, hml, hown, hts, hK, hA, hXf⟩ := id X
  obtain ⟨IC, IM, hne, hR⟩ := V
  obtain ⟨r, τc, τm, e1, e2, hR1⟩ := eq_grown hR 
  refine lv_aload_n hx hb dL_law_858 rfl (lv_at hl 1 rfl) ?_
  refine cG_ (k := 0) (nn := 0) (Xf2 := xfC gs) (rest := []) X xkC hXf.1 IC (c_C_grown e1 _) (gLB gL_law_X11_grown) rfl ⟨rfl, rfl⟩ (by decide +kernel) ⟨Nat.le_of_ble_eq_true rfl, Nat.le_of_ble_eq_true rfl⟩ (by decide) shC_0 rfl rfl hl.1 rfl (Nat.le_of_ble_eq_true rfl) dL_law_859 ⟨Nat.le_of_ble_eq_true rfl, Nat.le_of_ble_eq_true rfl⟩ (fun H1 locs1 IC1 hk1 => ?_)
  have IM := keepW IM IC1 hk1 (fun i j hi hj q => hne j i hj hi q.symm)
  clear hk1
  have IC := IC1
  refine lv_aload_n hx hb dL_law_862 rfl (lv_at hl 2 rfl) ?_
  refine cG_ (k := 0) (nn := 0) (Xf2 := xfM) (rest := [.int r]) X xkM trivial IM (c_M_grown e2 _) (gLB gL_law_X12_grown) rfl ⟨rfl, rfl⟩ (by decide +kernel) ⟨Nat.le_of_ble_eq_true rfl, Nat.le_of_ble_eq_true rfl⟩ (by decide) shM_0 rfl rfl hl.1 rfl (Nat.le_of_ble_eq_true rfl) dL_law_863 ⟨Nat.le_of_ble_eq_true rfl, Nat.le_of_ble_eq_true rfl⟩ (fun H2 locs2 IM2 hk2 => ?_)
  have IC := keepW IC IM2 hk2 hne
  refine lv_icmp_eq (tgt := 1675) hx hb dL_law_866 (by decide) (fun _ => ?_) (fun q => absurd rfl q)
  exact kk τc τm _ _ ⟨IC, IM2, hne, hR1⟩
theorem cs_21 (X : lawX gs b D cy p s m meth c) (V : lawV aC aM D cy s H locs σc σm) (S : lawP b L i xs s) (hl : lv_has ls 4 [(0, .ref b), (1, .ref (aC 0)), (2, .ref (aM 0)), (3, .int (nI i))]) (kk : ∀ (σc σm : Sg) (H : Heap) (locs : List Loc), lawV aC aM D cy s H locs σc σm → W p l e room_1 s m #[Value.ref b] below meth c H locs 75 2073 Q (F0 m 1675 ls [])) : W p l e room_1 s m #[Value.ref b] below meth c H locs 75 2073 Q (F0 m 871 ls []) := by
  obtain ⟨hx, hb, hml, hown, hts, hK, hA, hXf⟩ := id X
  obtain ⟨IC, IM, hne, hR⟩ := V
  obtain ⟨r, τc, τm, e1, e2, hR1⟩ := eq_far hR (xs (i + 1)) (xs (i + 2))
  refine lv_aload_n hx hb dL_law_871 rfl (lv_at hl 1 rfl) ?_
  refine arg_ (k := 1) hx hb S IC.2.2 hl (by omega) dL_law_872 dL_law_873 dL_law_874 (by decide) dL_law_875 dL_law_876 ?_
  refine arg_ (k := 2) hx hb S IC.2.2 hl (by omega) dL_law_877 dL_law_878 dL_law_879 (by decide) dL_law_880 dL_law_881 ?_
  refine cG_ (k := 0) (nn := 2) (Xf2 := xfC gs) (rest := []) X xkC hXf.1 IC (c_C_far e1 _) (gLB gL_law_X11_far) rfl ⟨rfl, rfl⟩ (by decide +kernel) ⟨Nat.le_of_ble_eq_true rfl, Nat.le_of_ble_eq_true rfl⟩ (by decide) shC_0 rfl rfl hl.1 rfl (Nat.le_of_ble_eq_true rfl) dL_law_882 ⟨Nat.le_of_ble_eq_true rfl, Nat.le_of_ble_eq_true rfl⟩ (fun H1 locs1 IC1 hk1 => ?_)
  have IM := keepW IM IC1 hk1 (fun i j hi hj q => hne j i hj hi q.symm)
  clear hk1
  have IC := IC1
  refine lv_aload_n hx hb dL_law_885 rfl (lv_at hl 2 rfl) ?_
  refine arg_ (k := 1) hx hb S IM.2.2 hl (by omega) dL_law_886 dL_law_887 dL_law_888 (by decide) dL_law_889 dL_law_890 ?_
  refine arg_ (k := 2) hx hb S IM.2.2 hl (by omega) dL_law_891 dL_law_892 dL_law_893 (by decide) dL_law_894 dL_law_895 ?_
  refine cG_ (k := 0) (nn := 2) (Xf2 := xfM) (rest := [.int r]) X xkM trivial IM (c_M_far e2 _) (gLB gL_law_X12_far) rfl ⟨rfl, rfl⟩ (by decide +kernel) ⟨Nat.le_of_ble_eq_true rfl, Nat.le_of_ble_eq_true rfl⟩ (by decide) shM_0 rfl rfl hl.1 rfl (Nat.le_of_ble_eq_true rfl) dL_law_896 ⟨Nat.le_of_ble_eq_true rfl, Nat.le_of_ble_eq_true rfl⟩ (fun H2 locs2 IM2 hk2 => ?_)
  have IC := keepW IC IM2 hk2 hne
  refine lv_icmp_eq (tgt := 1675) hx hb dL_law_899 (by decide) (fun _ => ?_) (fun q => absurd rfl q)
  exact kk τc τm _ _ ⟨IC, IM2, hne, hR1⟩
theorem cs_22 (X : lawX gs b D cy p s m meth c) (V : lawV aC aM D cy s H locs σc σm) (S : lawP b L i xs s) (hl : lv_has ls 4 [(0, .ref b), (1, .ref (aC 0)), (2, .ref (aM 0)), (3, .int (nI i))]) (kk : ∀ (σc σm : Sg) (H : Heap) (locs : List Loc), lawV aC aM D cy s H locs σc σm → W p l e room_1 s m #[Value.ref b] below meth c H locs 75 2073 Q (F0 m 1675 ls [])) : W p l e room_1 s m #[Value.ref b] below meth c H locs 75 2073 Q (F0 m 904 ls []) := by
  obtain ⟨hx, hb, hml, hown, hts, hK, hA, hXf⟩ := id X
  obtain ⟨IC, IM, hne, hR⟩ := V
  obtain ⟨r, τc, τm, e1, e2, hR1⟩ := eq_swearFor hR (xs (i + 1)) (xs (i + 2))
  refine lv_aload_n hx hb dL_law_904 rfl (lv_at hl 1 rfl) ?_
  refine arg_ (k := 1) hx hb S IC.2.2 hl (by omega) dL_law_905 dL_law_906 dL_law_907 (by decide) dL_law_908 dL_law_909 ?_
  refine arg_ (k := 2) hx hb S IC.2.2 hl (by omega) dL_law_910 dL_law_911 dL_law_912 (by decide) dL_law_913 dL_law_914 ?_
  refine cG_ (k := 0) (nn := 2) (Xf2 := xfC gs) (rest := []) X xkC hXf.1 IC (c_C_swearFor e1 _) (gLB gL_law_X11_swearFor) rfl ⟨rfl, rfl⟩ (by decide +kernel) ⟨Nat.le_of_ble_eq_true rfl, Nat.le_of_ble_eq_true rfl⟩ (by decide) shC_0 rfl rfl hl.1 rfl (Nat.le_of_ble_eq_true rfl) dL_law_915 ⟨Nat.le_of_ble_eq_true rfl, Nat.le_of_ble_eq_true rfl⟩ (fun H1 locs1 IC1 hk1 => ?_)
  have IM := keepW IM IC1 hk1 (fun i j hi hj q => hne j i hj hi q.symm)
  clear hk1
  have IC := IC1
  refine lv_aload_n hx hb dL_law_918 rfl (lv_at hl 2 rfl) ?_
  refine arg_ (k := 1) hx hb S IM.2.2 hl (by omega) dL_law_919 dL_law_920 dL_law_921 (by decide) dL_law_922 dL_law_923 ?_
  refine arg_ (k := 2) hx hb S IM.2.2 hl (by omega) dL_law_924 dL_law_925 dL_law_926 (by decide) dL_law_927 dL_law_928 ?_
  refine cG_ (k := 0) (nn := 2) (Xf2 := xfM) (rest := [.int r]) X xkM trivial IM (c_M_swearFor e2 _) (gLB gL_law_X12_swearFor) rfl ⟨rfl, rfl⟩ (by decide +kernel) ⟨Nat.le_of_ble_eq_true rfl, Nat.le_of_ble_eq_true rfl⟩ (by decide) shM_0 rfl rfl hl.1 rfl (Nat.le_of_ble_eq_true rfl) dL_law_929 ⟨Nat.le_of_ble_eq_true rfl, Nat.le_of_ble_eq_true rfl⟩ (fun H2 locs2 IM2 hk2 => ?_)
  have IC := keepW IC IM2 hk2 hne
  refine lv_icmp_eq (tgt := 1675) hx hb dL_law_932 (by decide) (fun _ => ?_) (fun q => absurd rfl q)
  exact kk τc τm _ _ ⟨IC, IM2, hne, hR1⟩
end LAWC
