/-! the law's cases -/
section ZL
variable {p : Program} {l : Launch} {e : Env} {s : State} {m : MethodId} {below : List Frame} {meth : Method} {c : Code} {b L : Nat} {xs : Nat → Int32} {G : zc_G} {ba na : Nat → Nat} {pa : Nat → Nat → Nat} {ma : Nat → Nat} {Q : State → Prop} {H : Heap} {locs : List Loc} {ls : Array Slot} {x3 : Int32} {v : zc_B} {u : zc_M} {T : Int}
set_option maxHeartbeats 8000000 in
set_option maxRecDepth 100000 in
theorem zl_tick (F : z_Fix p s m c b L xs G ba na pa ma) (Nw : z_Now s G ba na pa ma v u H locs) (hl : lv_has ls 4 [(0, .ref b), (1, .ref (ba 0)), (2, .ref (ma 0)), (3, .int x3)]) (hi : zInv T v u) (hT : T + 4000 ≤ 1100000) (h1 : vp_in (x3 + 1) L) (h2 : vp_in (x3 + 2) L) (h3 : vp_in (x3 + 3) L) (kk : ∀ (v' : zc_B) (u' : zc_M) (H' : Heap) (locs' : List Loc), zInv (T + 2000) v' u' → z_Now s G ba na pa ma v' u' H' locs' → W p l e room_1 s m #[Value.ref b] below meth c H' locs' 173 2503 Q (F0 m 841 ls [])) : W p l e room_1 s m #[Value.ref b] below meth c H locs 173 2503 Q (F0 m 284 ls []) := by
  obtain ⟨hx, hb, hml, hown, hts, hXb, hK, hDb, hDm, hap⟩ := id F
  obtain ⟨hPb, hPm, hS⟩ := id Nw
  obtain ⟨r, v1, u1, e2, e3, hi1⟩ := X_tick (N := 100001) hi (by omega) (by decide) (xs (x3 + 1).toNatClampNeg)
  refine lv_aload_n hx hb dL_law_284 rfl (lv_at hl 1 rfl) ?_
  refine z_arg F Nw hl (w := 1) (by decide) h1 dL_law_285 dL_law_286 dL_law_287 dL_law_288 dL_law_289 ?_
  refine z_cb F Nw (va_runV (As := [.int _]) ⟨hx, hb, hml, hown, hts⟩ (kX2_tick l G ba na pa _ e2) (cwV 1 hts gL_law_X2_tick rfl rfl rfl (by decide +kernel) ⟨Nat.le_of_ble_eq_true rfl, Nat.le_of_ble_eq_true rfl⟩) (zc_preVm hK hPb (zc_bcD hDb) 0 rfl rfl) rfl rfl hl.1 rfl (lv_room (Nat.le_of_ble_eq_true rfl)) dL_law_290 ⟨Nat.le_of_ble_eq_true rfl, Nat.le_of_ble_eq_true rfl⟩) (fun H locs Nw => ?_)
  obtain ⟨hPb, hPm, hS⟩ := id Nw
  refine lv_aload_n hx hb dL_law_293 rfl (lv_at hl 2 rfl) ?_
  refine z_arg F Nw hl (w := 1) (by decide) h1 dL_law_294 dL_law_295 dL_law_296 dL_law_297 dL_law_298 ?_
  refine z_cm F Nw (va_runV (As := [.int _]) ⟨hx, hb, hml, hown, hts⟩ (kX3_tick l G ma _ e3) (cwV 1 hts gL_law_X3_tick rfl rfl rfl (by decide +kernel) ⟨Nat.le_of_ble_eq_true rfl, Nat.le_of_ble_eq_true rfl⟩) (zc_preVm hK hPm (zc_Ds hDm rfl) 0 rfl rfl) rfl rfl hl.1 rfl (lv_room (Nat.le_of_ble_eq_true rfl)) dL_law_299 ⟨Nat.le_of_ble_eq_true rfl, Nat.le_of_ble_eq_true rfl⟩) (fun H locs Nw => ?_)
  obtain ⟨hPb, hPm, hS⟩ := id Nw
  exact lv_icmp_eq (tgt := 841) hx hb dL_law_302 (by decide) (fun _ => kk v1 u1 H locs hi1 Nw) (fun h => absurd rfl h)
set_option maxHeartbeats 8000000 in
set_option maxRecDepth 100000 in
theorem zl_warm (F : z_Fix p s m c b L xs G ba na pa ma) (Nw : z_Now s G ba na pa ma v u H locs) (hl : lv_has ls 4 [(0, .ref b), (1, .ref (ba 0)), (2, .ref (ma 0)), (3, .int x3)]) (hi : zInv T v u) (hT : T + 4000 ≤ 1100000) (h1 : vp_in (x3 + 1) L) (h2 : vp_in (x3 + 2) L) (h3 : vp_in (x3 + 3) L) (kk : ∀ (v' : zc_B) (u' : zc_M) (H' : Heap) (locs' : List Loc), zInv (T + 2000) v' u' → z_Now s G ba na pa ma v' u' H' locs' → W p l e room_1 s m #[Value.ref b] below meth c H' locs' 173 2503 Q (F0 m 841 ls [])) : W p l e room_1 s m #[Value.ref b] below meth c H locs 173 2503 Q (F0 m 307 ls []) := by
  obtain ⟨hx, hb, hml, hown, hts, hXb, hK, hDb, hDm, hap⟩ := id F
  obtain ⟨hPb, hPm, hS⟩ := id Nw
  obtain ⟨r, v1, u1, e2, e3, hi1⟩ := X_warm (N := 100001) hi (by omega) (by decide) (xs (x3 + 1).toNatClampNeg)
  refine lv_aload_n hx hb dL_law_307 rfl (lv_at hl 1 rfl) ?_
  refine z_arg F Nw hl (w := 1) (by decide) h1 dL_law_308 dL_law_309 dL_law_310 dL_law_311 dL_law_312 ?_
  refine z_cb F Nw (va_runV (As := [.int _]) ⟨hx, hb, hml, hown, hts⟩ (kX2_warm l G ba na pa _ e2) (cwV 1 hts gL_law_X2_warm rfl rfl rfl (by decide +kernel) ⟨Nat.le_of_ble_eq_true rfl, Nat.le_of_ble_eq_true rfl⟩) (zc_preVm hK hPb (zc_bcD hDb) 0 rfl rfl) rfl rfl hl.1 rfl (lv_room (Nat.le_of_ble_eq_true rfl)) dL_law_313 ⟨Nat.le_of_ble_eq_true rfl, Nat.le_of_ble_eq_true rfl⟩) (fun H locs Nw => ?_)
  obtain ⟨hPb, hPm, hS⟩ := id Nw
  refine lv_aload_n hx hb dL_law_316 rfl (lv_at hl 2 rfl) ?_
  refine z_arg F Nw hl (w := 1) (by decide) h1 dL_law_317 dL_law_318 dL_law_319 dL_law_320 dL_law_321 ?_
  refine z_cm F Nw (va_runV (As := [.int _]) ⟨hx, hb, hml, hown, hts⟩ (kX3_warm l G ma _ e3) (cwV 1 hts gL_law_X3_warm rfl rfl rfl (by decide +kernel) ⟨Nat.le_of_ble_eq_true rfl, Nat.le_of_ble_eq_true rfl⟩) (zc_preVm hK hPm (zc_Ds hDm rfl) 0 rfl rfl) rfl rfl hl.1 rfl (lv_room (Nat.le_of_ble_eq_true rfl)) dL_law_322 ⟨Nat.le_of_ble_eq_true rfl, Nat.le_of_ble_eq_true rfl⟩) (fun H locs Nw => ?_)
  obtain ⟨hPb, hPm, hS⟩ := id Nw
  exact lv_icmp_eq (tgt := 841) hx hb dL_law_325 (by decide) (fun _ => kk v1 u1 H locs hi1 Nw) (fun h => absurd rfl h)
set_option maxHeartbeats 8000000 in
set_option maxRecDepth 100000 in
theorem zl_crystal (F : z_Fix p s m c b L xs G ba na pa ma) (Nw : z_Now s G ba na pa ma v u H locs) (hl : lv_has ls 4 [(0, .ref b), (1, .ref (ba 0)), (2, .ref (ma 0)), (3, .int x3)]) (hi : zInv T v u) (hT : T + 4000 ≤ 1100000) (h1 : vp_in (x3 + 1) L) (h2 : vp_in (x3 + 2) L) (h3 : vp_in (x3 + 3) L) (kk : ∀ (v' : zc_B) (u' : zc_M) (H' : Heap) (locs' : List Loc), zInv (T + 2000) v' u' → z_Now s G ba na pa ma v' u' H' locs' → W p l e room_1 s m #[Value.ref b] below meth c H' locs' 173 2503 Q (F0 m 841 ls [])) : W p l e room_1 s m #[Value.ref b] below meth c H locs 173 2503 Q (F0 m 330 ls []) := by
  obtain ⟨hx, hb, hml, hown, hts, hXb, hK, hDb, hDm, hap⟩ := id F
  obtain ⟨hPb, hPm, hS⟩ := id Nw
  obtain ⟨r, v1, u1, e2, e3, hi1⟩ := X_crystal (N := 100001) hi (by omega) (by decide) (xs (x3 + 1).toNatClampNeg) (xs (x3 + 2).toNatClampNeg) (xs (x3 + 3).toNatClampNeg)
  refine lv_aload_n hx hb dL_law_330 rfl (lv_at hl 1 rfl) ?_
  refine z_arg F Nw hl (w := 1) (by decide) h1 dL_law_331 dL_law_332 dL_law_333 dL_law_334 dL_law_335 ?_
  refine z_arg F Nw hl (w := 2) (by decide) h2 dL_law_336 dL_law_337 dL_law_338 dL_law_339 dL_law_340 ?_
  refine z_arg F Nw hl (w := 3) (by decide) h3 dL_law_341 dL_law_342 dL_law_343 dL_law_344 dL_law_345 ?_
  refine z_cb F Nw (va_runV (As := [.int _, .int _, .int _]) ⟨hx, hb, hml, hown, hts⟩ (kX2_crystal l G ba na pa _ e2) (cwV 3 hts gL_law_X2_crystal rfl rfl rfl (by decide +kernel) ⟨Nat.le_of_ble_eq_true rfl, Nat.le_of_ble_eq_true rfl⟩) (zc_preVm hK hPb (zc_bcD hDb) 0 rfl rfl) rfl rfl hl.1 rfl (lv_room (Nat.le_of_ble_eq_true rfl)) dL_law_346 ⟨Nat.le_of_ble_eq_true rfl, Nat.le_of_ble_eq_true rfl⟩) (fun H locs Nw => ?_)
  obtain ⟨hPb, hPm, hS⟩ := id Nw
  refine lv_aload_n hx hb dL_law_349 rfl (lv_at hl 2 rfl) ?_
  refine z_arg F Nw hl (w := 1) (by decide) h1 dL_law_350 dL_law_351 dL_law_352 dL_law_353 dL_law_354 ?_
  refine z_arg F Nw hl (w := 2) (by decide) h2 dL_law_355 dL_law_356 dL_law_357 dL_law_358 dL_law_359 ?_
  refine z_arg F Nw hl (w := 3) (by decide) h3 dL_law_360 dL_law_361 dL_law_362 dL_law_363 dL_law_364 ?_
  refine z_cm F Nw (va_runV (As := [.int _, .int _, .int _]) ⟨hx, hb, hml, hown, hts⟩ (kX3_crystal l G ma _ e3) (cwV 3 hts gL_law_X3_crystal rfl rfl rfl (by decide +kernel) ⟨Nat.le_of_ble_eq_true rfl, Nat.le_of_ble_eq_true rfl⟩) (zc_preVm hK hPm (zc_Ds hDm rfl) 0 rfl rfl) rfl rfl hl.1 rfl (lv_room (Nat.le_of_ble_eq_true rfl)) dL_law_365 ⟨Nat.le_of_ble_eq_true rfl, Nat.le_of_ble_eq_true rfl⟩) (fun H locs Nw => ?_)
  obtain ⟨hPb, hPm, hS⟩ := id Nw
  exact lv_icmp_eq (tgt := 841) hx hb dL_law_368 (by decide) (fun _ => kk v1 u1 H locs hi1 Nw) (fun h => absurd rfl h)
set_option maxHeartbeats 8000000 in
set_option maxRecDepth 100000 in
theorem zl_bound (F : z_Fix p s m c b L xs G ba na pa ma) (Nw : z_Now s G ba na pa ma v u H locs) (hl : lv_has ls 4 [(0, .ref b), (1, .ref (ba 0)), (2, .ref (ma 0)), (3, .int x3)]) (hi : zInv T v u) (hT : T + 4000 ≤ 1100000) (h1 : vp_in (x3 + 1) L) (h2 : vp_in (x3 + 2) L) (h3 : vp_in (x3 + 3) L) (kk : ∀ (v' : zc_B) (u' : zc_M) (H' : Heap) (locs' : List Loc), zInv (T + 2000) v' u' → z_Now s G ba na pa ma v' u' H' locs' → W p l e room_1 s m #[Value.ref b] below meth c H' locs' 173 2503 Q (F0 m 841 ls [])) : W p l e room_1 s m #[Value.ref b] below meth c H locs 173 2503 Q (F0 m 373 ls []) := by
  obtain ⟨hx, hb, hml, hown, hts, hXb, hK, hDb, hDm, hap⟩ := id F
  obtain ⟨hPb, hPm, hS⟩ := id Nw
  obtain ⟨r, v1, u1, e2, e3, hi1⟩ := X_bound (N := 100001) hi (by omega) (by decide) (xs (x3 + 1).toNatClampNeg) (xs (x3 + 2).toNatClampNeg)
  refine lv_aload_n hx hb dL_law_373 rfl (lv_at hl 1 rfl) ?_
  refine z_arg F Nw hl (w := 1) (by decide) h1 dL_law_374 dL_law_375 dL_law_376 dL_law_377 dL_law_378 ?_
  refine z_arg F Nw hl (w := 2) (by decide) h2 dL_law_379 dL_law_380 dL_law_381 dL_law_382 dL_law_383 ?_
  refine z_cb F Nw (va_runV (As := [.int _, .int _]) ⟨hx, hb, hml, hown, hts⟩ (kX2_bound l G ba na pa _ e2) (cwV 2 hts gL_law_X2_bound rfl rfl rfl (by decide +kernel) ⟨Nat.le_of_ble_eq_true rfl, Nat.le_of_ble_eq_true rfl⟩) (zc_preVm hK hPb (zc_bcD hDb) 0 rfl rfl) rfl rfl hl.1 rfl (lv_room (Nat.le_of_ble_eq_true rfl)) dL_law_384 ⟨Nat.le_of_ble_eq_true rfl, Nat.le_of_ble_eq_true rfl⟩) (fun H locs Nw => ?_)
  obtain ⟨hPb, hPm, hS⟩ := id Nw
  refine lv_aload_n hx hb dL_law_387 rfl (lv_at hl 2 rfl) ?_
  refine z_arg F Nw hl (w := 1) (by decide) h1 dL_law_388 dL_law_389 dL_law_390 dL_law_391 dL_law_392 ?_
  refine z_arg F Nw hl (w := 2) (by decide) h2 dL_law_393 dL_law_394 dL_law_395 dL_law_396 dL_law_397 ?_
  refine z_cm F Nw (va_runV (As := [.int _, .int _]) ⟨hx, hb, hml, hown, hts⟩ (kX3_bound l G ma _ e3) (cwV 2 hts gL_law_X3_bound rfl rfl rfl (by decide +kernel) ⟨Nat.le_of_ble_eq_true rfl, Nat.le_of_ble_eq_true rfl⟩) (zc_preVm hK hPm (zc_Ds hDm rfl) 0 rfl rfl) rfl rfl hl.1 rfl (lv_room (Nat.le_of_ble_eq_true rfl)) dL_law_398 ⟨Nat.le_of_ble_eq_true rfl, Nat.le_of_ble_eq_true rfl⟩) (fun H locs Nw => ?_)
  obtain ⟨hPb, hPm, hS⟩ := id Nw
  exact lv_icmp_eq (tgt := 841) hx hb dL_law_401 (by decide) (fun _ => kk v1 u1 H locs hi1 Nw) (fun h => absurd rfl h)
set_option maxHeartbeats 8000000 in
set_option maxRecDepth 100000 in
theorem zl_power (F : z_Fix p s m c b L xs G ba na pa ma) (Nw : z_Now s G ba na pa ma v u H locs) (hl : lv_has ls 4 [(0, .ref b), (1, .ref (ba 0)), (2, .ref (ma 0)), (3, .int x3)]) (hi : zInv T v u) (hT : T + 4000 ≤ 1100000) (h1 : vp_in (x3 + 1) L) (h2 : vp_in (x3 + 2) L) (h3 : vp_in (x3 + 3) L) (kk : ∀ (v' : zc_B) (u' : zc_M) (H' : Heap) (locs' : List Loc), zInv (T + 2000) v' u' → z_Now s G ba na pa ma v' u' H' locs' → W p l e room_1 s m #[Value.ref b] below meth c H' locs' 173 2503 Q (F0 m 841 ls [])) : W p l e room_1 s m #[Value.ref b] below meth c H locs 173 2503 Q (F0 m 406 ls []) := by
  obtain ⟨hx, hb, hml, hown, hts, hXb, hK, hDb, hDm, hap⟩ := id F
  obtain ⟨hPb, hPm, hS⟩ := id Nw
  by_cases ca : (xs (x3 + 1).toNatClampNeg) = 0
  · obtain ⟨r, v1, u1, e2, e3, hi1⟩ := X_power (N := 100001) hi (by omega) (by decide) (a1 := 0) (Or.inl rfl)
    refine lv_aload_n hx hb dL_law_406 rfl (lv_at hl 1 rfl) ?_
    refine z_arg F Nw hl (w := 1) (by decide) h1 dL_law_407 dL_law_408 dL_law_409 dL_law_410 dL_law_411 ?_
    refine lv_if_eq (tgt := 419) hx hb dL_law_412 (by decide) (fun _ => ?_) (fun h => absurd ca h)
    refine lv_iconst (v := 0) hx hb dL_law_419 (by decide) ?_
    refine z_cb F Nw (va_runV (As := [.int _]) ⟨hx, hb, hml, hown, hts⟩ (kX2_power l G ba na pa _ e2) (cwV 1 hts gL_law_X2_power rfl rfl rfl (by decide +kernel) ⟨Nat.le_of_ble_eq_true rfl, Nat.le_of_ble_eq_true rfl⟩) (zc_preVm hK hPb (zc_bcD hDb) 0 rfl rfl) rfl rfl hl.1 rfl (lv_room (Nat.le_of_ble_eq_true rfl)) dL_law_420 ⟨Nat.le_of_ble_eq_true rfl, Nat.le_of_ble_eq_true rfl⟩) (fun H locs Nw => ?_)
    obtain ⟨hPb, hPm, hS⟩ := id Nw
    refine lv_aload_n hx hb dL_law_423 rfl (lv_at hl 2 rfl) ?_
    refine z_arg F Nw hl (w := 1) (by decide) h1 dL_law_424 dL_law_425 dL_law_426 dL_law_427 dL_law_428 ?_
    refine lv_if_eq (tgt := 436) hx hb dL_law_429 (by decide) (fun _ => ?_) (fun h => absurd ca h)
    refine lv_iconst (v := 0) hx hb dL_law_436 (by decide) ?_
    refine z_cm F Nw (va_runV (As := [.int _]) ⟨hx, hb, hml, hown, hts⟩ (kX3_power l G ma _ e3) (cwV 1 hts gL_law_X3_power rfl rfl rfl (by decide +kernel) ⟨Nat.le_of_ble_eq_true rfl, Nat.le_of_ble_eq_true rfl⟩) (zc_preVm hK hPm (zc_Ds hDm rfl) 0 rfl rfl) rfl rfl hl.1 rfl (lv_room (Nat.le_of_ble_eq_true rfl)) dL_law_437 ⟨Nat.le_of_ble_eq_true rfl, Nat.le_of_ble_eq_true rfl⟩) (fun H locs Nw => ?_)
    obtain ⟨hPb, hPm, hS⟩ := id Nw
    exact lv_icmp_eq (tgt := 841) hx hb dL_law_440 (by decide) (fun _ => kk v1 u1 H locs hi1 Nw) (fun h => absurd rfl h)
  · obtain ⟨r, v1, u1, e2, e3, hi1⟩ := X_power (N := 100001) hi (by omega) (by decide) (a1 := 1) (Or.inr rfl)
    refine lv_aload_n hx hb dL_law_406 rfl (lv_at hl 1 rfl) ?_
    refine z_arg F Nw hl (w := 1) (by decide) h1 dL_law_407 dL_law_408 dL_law_409 dL_law_410 dL_law_411 ?_
    refine lv_if_eq (tgt := 419) hx hb dL_law_412 (by decide) (fun h => absurd h ca) (fun _ => ?_)
    refine lv_iconst (v := 1) hx hb dL_law_415 (by decide) ?_
    refine lv_goto (tgt := 420) hx hb dL_law_416 (by decide) ?_
    refine z_cb F Nw (va_runV (As := [.int _]) ⟨hx, hb, hml, hown, hts⟩ (kX2_power l G ba na pa _ e2) (cwV 1 hts gL_law_X2_power rfl rfl rfl (by decide +kernel) ⟨Nat.le_of_ble_eq_true rfl, Nat.le_of_ble_eq_true rfl⟩) (zc_preVm hK hPb (zc_bcD hDb) 0 rfl rfl) rfl rfl hl.1 rfl (lv_room (Nat.le_of_ble_eq_true rfl)) dL_law_420 ⟨Nat.le_of_ble_eq_true rfl, Nat.le_of_ble_eq_true rfl⟩) (fun H locs Nw => ?_)
    obtain ⟨hPb, hPm, hS⟩ := id Nw
    refine lv_aload_n hx hb dL_law_423 rfl (lv_at hl 2 rfl) ?_
    refine z_arg F Nw hl (w := 1) (by decide) h1 dL_law_424 dL_law_425 dL_law_426 dL_law_427 dL_law_428 ?_
    refine lv_if_eq (tgt := 436) hx hb dL_law_429 (by decide) (fun h => absurd h ca) (fun _ => ?_)
    refine lv_iconst (v := 1) hx hb dL_law_432 (by decide) ?_
    refine lv_goto (tgt := 437) hx hb dL_law_433 (by decide) ?_
    refine z_cm F Nw (va_runV (As := [.int _]) ⟨hx, hb, hml, hown, hts⟩ (kX3_power l G ma _ e3) (cwV 1 hts gL_law_X3_power rfl rfl rfl (by decide +kernel) ⟨Nat.le_of_ble_eq_true rfl, Nat.le_of_ble_eq_true rfl⟩) (zc_preVm hK hPm (zc_Ds hDm rfl) 0 rfl rfl) rfl rfl hl.1 rfl (lv_room (Nat.le_of_ble_eq_true rfl)) dL_law_437 ⟨Nat.le_of_ble_eq_true rfl, Nat.le_of_ble_eq_true rfl⟩) (fun H locs Nw => ?_)
    obtain ⟨hPb, hPm, hS⟩ := id Nw
    exact lv_icmp_eq (tgt := 841) hx hb dL_law_440 (by decide) (fun _ => kk v1 u1 H locs hi1 Nw) (fun h => absurd rfl h)
end ZL
