/-! the law's cases -/
section ZL
variable {p : Program} {l : Launch} {e : Env} {s : State} {m : MethodId} {below : List Frame} {meth : Method} {c : Code} {b L : Nat} {xs : Nat → Int32} {G : zc_G} {ba na : Nat → Nat} {pa : Nat → Nat → Nat} {ma : Nat → Nat} {Q : State → Prop} {H : Heap} {locs : List Loc} {ls : Array Slot} {x3 : Int32} {v : zc_B} {u : zc_M} {T : Int}
set_option maxHeartbeats 8000000 in
set_option maxRecDepth 100000 in
theorem zl_hear (F : z_Fix p s m c b L xs G ba na pa ma) (Nw : z_Now s G ba na pa ma v u H locs) (hl : lv_has ls 4 [(0, .ref b), (1, .ref (ba 0)), (2, .ref (ma 0)), (3, .int x3)]) (hi : zInv T v u) (hT : T + 4000 ≤ 1100000) (h1 : vp_in (x3 + 1) L) (h2 : vp_in (x3 + 2) L) (h3 : vp_in (x3 + 3) L) (kk : ∀ (v' : zc_B) (u' : zc_M) (H' : Heap) (locs' : List Loc), zInv (T + 2000) v' u' → z_Now s G ba na pa ma v' u' H' locs' → W p l e room_1 s m #[Value.ref b] below meth c H' locs' 173 2503 Q (F0 m 841 ls [])) : W p l e room_1 s m #[Value.ref b] below meth c H locs 173 2503 Q (F0 m 445 ls []) := by
  obtain ⟨hx, hb, hml, hown, hts, hXb, hK, hDb, hDm, hap⟩ := id F
  obtain ⟨hPb, hPm, hS⟩ := id Nw
  obtain ⟨r, v1, u1, e2, e3, hi1⟩ := X_hear (N := 100001) hi (by omega) (by decide) (xs (x3 + 1).toNatClampNeg) (xs (x3 + 2).toNatClampNeg)
  refine lv_aload_n hx hb dL_law_445 rfl (lv_at hl 1 rfl) ?_
  refine z_arg F Nw hl (w := 1) (by decide) h1 dL_law_446 dL_law_447 dL_law_448 dL_law_449 dL_law_450 ?_
  refine z_arg F Nw hl (w := 2) (by decide) h2 dL_law_451 dL_law_452 dL_law_453 dL_law_454 dL_law_455 ?_
  refine z_cb F Nw (va_runV (As := [.int _, .int _]) ⟨hx, hb, hml, hown, hts⟩ (kX2_hear l G ba na pa _ e2) (cwV 2 hts gL_law_X2_hear rfl rfl rfl (by decide +kernel) ⟨Nat.le_of_ble_eq_true rfl, Nat.le_of_ble_eq_true rfl⟩) (zc_preVm hK hPb (zc_bcD hDb) 0 rfl rfl) rfl rfl hl.1 rfl (lv_room (Nat.le_of_ble_eq_true rfl)) dL_law_456 ⟨Nat.le_of_ble_eq_true rfl, Nat.le_of_ble_eq_true rfl⟩) (fun H locs Nw => ?_)
  obtain ⟨hPb, hPm, hS⟩ := id Nw
  refine lv_aload_n hx hb dL_law_459 rfl (lv_at hl 2 rfl) ?_
  refine z_arg F Nw hl (w := 1) (by decide) h1 dL_law_460 dL_law_461 dL_law_462 dL_law_463 dL_law_464 ?_
  refine z_arg F Nw hl (w := 2) (by decide) h2 dL_law_465 dL_law_466 dL_law_467 dL_law_468 dL_law_469 ?_
  refine z_cm F Nw (va_runV (As := [.int _, .int _]) ⟨hx, hb, hml, hown, hts⟩ (kX3_hear l G ma _ e3) (cwV 2 hts gL_law_X3_hear rfl rfl rfl (by decide +kernel) ⟨Nat.le_of_ble_eq_true rfl, Nat.le_of_ble_eq_true rfl⟩) (zc_preVm hK hPm (zc_Ds hDm rfl) 0 rfl rfl) rfl rfl hl.1 rfl (lv_room (Nat.le_of_ble_eq_true rfl)) dL_law_470 ⟨Nat.le_of_ble_eq_true rfl, Nat.le_of_ble_eq_true rfl⟩) (fun H locs Nw => ?_)
  obtain ⟨hPb, hPm, hS⟩ := id Nw
  exact lv_icmp_eq (tgt := 841) hx hb dL_law_473 (by decide) (fun _ => kk v1 u1 H locs hi1 Nw) (fun h => absurd rfl h)
set_option maxHeartbeats 8000000 in
set_option maxRecDepth 100000 in
theorem zl_alarm (F : z_Fix p s m c b L xs G ba na pa ma) (Nw : z_Now s G ba na pa ma v u H locs) (hl : lv_has ls 4 [(0, .ref b), (1, .ref (ba 0)), (2, .ref (ma 0)), (3, .int x3)]) (hi : zInv T v u) (hT : T + 4000 ≤ 1100000) (h1 : vp_in (x3 + 1) L) (h2 : vp_in (x3 + 2) L) (h3 : vp_in (x3 + 3) L) (kk : ∀ (v' : zc_B) (u' : zc_M) (H' : Heap) (locs' : List Loc), zInv (T + 2000) v' u' → z_Now s G ba na pa ma v' u' H' locs' → W p l e room_1 s m #[Value.ref b] below meth c H' locs' 173 2503 Q (F0 m 841 ls [])) : W p l e room_1 s m #[Value.ref b] below meth c H locs 173 2503 Q (F0 m 478 ls []) := by
  obtain ⟨hx, hb, hml, hown, hts, hXb, hK, hDb, hDm, hap⟩ := id F
  obtain ⟨hPb, hPm, hS⟩ := id Nw
  obtain ⟨r, v1, u1, e2, e3, hi1⟩ := X_alarm (N := 100001) hi (by omega) (by decide) (xs (x3 + 1).toNatClampNeg) (xs (x3 + 2).toNatClampNeg) (xs (x3 + 3).toNatClampNeg)
  refine lv_aload_n hx hb dL_law_478 rfl (lv_at hl 1 rfl) ?_
  refine z_arg F Nw hl (w := 1) (by decide) h1 dL_law_479 dL_law_480 dL_law_481 dL_law_482 dL_law_483 ?_
  refine z_arg F Nw hl (w := 2) (by decide) h2 dL_law_484 dL_law_485 dL_law_486 dL_law_487 dL_law_488 ?_
  refine z_arg F Nw hl (w := 3) (by decide) h3 dL_law_489 dL_law_490 dL_law_491 dL_law_492 dL_law_493 ?_
  refine z_cb F Nw (va_runV (As := [.int _, .int _, .int _]) ⟨hx, hb, hml, hown, hts⟩ (kX2_alarm l G ba na pa _ e2) (cwV 3 hts gL_law_X2_alarm rfl rfl rfl (by decide +kernel) ⟨Nat.le_of_ble_eq_true rfl, Nat.le_of_ble_eq_true rfl⟩) (zc_preVm hK hPb (zc_bcD hDb) 0 rfl rfl) rfl rfl hl.1 rfl (lv_room (Nat.le_of_ble_eq_true rfl)) dL_law_494 ⟨Nat.le_of_ble_eq_true rfl, Nat.le_of_ble_eq_true rfl⟩) (fun H locs Nw => ?_)
  obtain ⟨hPb, hPm, hS⟩ := id Nw
  refine lv_aload_n hx hb dL_law_497 rfl (lv_at hl 2 rfl) ?_
  refine z_arg F Nw hl (w := 1) (by decide) h1 dL_law_498 dL_law_499 dL_law_500 dL_law_501 dL_law_502 ?_
  refine z_arg F Nw hl (w := 2) (by decide) h2 dL_law_503 dL_law_504 dL_law_505 dL_law_506 dL_law_507 ?_
  refine z_arg F Nw hl (w := 3) (by decide) h3 dL_law_508 dL_law_509 dL_law_510 dL_law_511 dL_law_512 ?_
  refine z_cm F Nw (va_runV (As := [.int _, .int _, .int _]) ⟨hx, hb, hml, hown, hts⟩ (kX3_alarm l G ma _ e3) (cwV 3 hts gL_law_X3_alarm rfl rfl rfl (by decide +kernel) ⟨Nat.le_of_ble_eq_true rfl, Nat.le_of_ble_eq_true rfl⟩) (zc_preVm hK hPm (zc_Ds hDm rfl) 0 rfl rfl) rfl rfl hl.1 rfl (lv_room (Nat.le_of_ble_eq_true rfl)) dL_law_513 ⟨Nat.le_of_ble_eq_true rfl, Nat.le_of_ble_eq_true rfl⟩) (fun H locs Nw => ?_)
  obtain ⟨hPb, hPm, hS⟩ := id Nw
  exact lv_icmp_eq (tgt := 841) hx hb dL_law_516 (by decide) (fun _ => kk v1 u1 H locs hi1 Nw) (fun h => absurd rfl h)
set_option maxHeartbeats 8000000 in
set_option maxRecDepth 100000 in
theorem zl_drop (F : z_Fix p s m c b L xs G ba na pa ma) (Nw : z_Now s G ba na pa ma v u H locs) (hl : lv_has ls 4 [(0, .ref b), (1, .ref (ba 0)), (2, .ref (ma 0)), (3, .int x3)]) (hi : zInv T v u) (hT : T + 4000 ≤ 1100000) (h1 : vp_in (x3 + 1) L) (h2 : vp_in (x3 + 2) L) (h3 : vp_in (x3 + 3) L) (kk : ∀ (v' : zc_B) (u' : zc_M) (H' : Heap) (locs' : List Loc), zInv (T + 2000) v' u' → z_Now s G ba na pa ma v' u' H' locs' → W p l e room_1 s m #[Value.ref b] below meth c H' locs' 173 2503 Q (F0 m 841 ls [])) : W p l e room_1 s m #[Value.ref b] below meth c H locs 173 2503 Q (F0 m 521 ls []) := by
  obtain ⟨hx, hb, hml, hown, hts, hXb, hK, hDb, hDm, hap⟩ := id F
  obtain ⟨hPb, hPm, hS⟩ := id Nw
  obtain ⟨r, v1, u1, e2, e3, hi1⟩ := X_drop (N := 100001) hi (by omega) (by decide) (xs (x3 + 1).toNatClampNeg)
  refine lv_aload_n hx hb dL_law_521 rfl (lv_at hl 1 rfl) ?_
  refine z_arg F Nw hl (w := 1) (by decide) h1 dL_law_522 dL_law_523 dL_law_524 dL_law_525 dL_law_526 ?_
  refine z_cb F Nw (va_runV (As := [.int _]) ⟨hx, hb, hml, hown, hts⟩ (kX2_drop l G ba na pa _ e2) (cwV 1 hts gL_law_X2_drop rfl rfl rfl (by decide +kernel) ⟨Nat.le_of_ble_eq_true rfl, Nat.le_of_ble_eq_true rfl⟩) (zc_preVm hK hPb (zc_bcD hDb) 0 rfl rfl) rfl rfl hl.1 rfl (lv_room (Nat.le_of_ble_eq_true rfl)) dL_law_527 ⟨Nat.le_of_ble_eq_true rfl, Nat.le_of_ble_eq_true rfl⟩) (fun H locs Nw => ?_)
  obtain ⟨hPb, hPm, hS⟩ := id Nw
  refine lv_aload_n hx hb dL_law_530 rfl (lv_at hl 2 rfl) ?_
  refine z_arg F Nw hl (w := 1) (by decide) h1 dL_law_531 dL_law_532 dL_law_533 dL_law_534 dL_law_535 ?_
  refine z_cm F Nw (va_runV (As := [.int _]) ⟨hx, hb, hml, hown, hts⟩ (kX3_drop l G ma _ e3) (cwV 1 hts gL_law_X3_drop rfl rfl rfl (by decide +kernel) ⟨Nat.le_of_ble_eq_true rfl, Nat.le_of_ble_eq_true rfl⟩) (zc_preVm hK hPm (zc_Ds hDm rfl) 0 rfl rfl) rfl rfl hl.1 rfl (lv_room (Nat.le_of_ble_eq_true rfl)) dL_law_536 ⟨Nat.le_of_ble_eq_true rfl, Nat.le_of_ble_eq_true rfl⟩) (fun H locs Nw => ?_)
  obtain ⟨hPb, hPm, hS⟩ := id Nw
  exact lv_icmp_eq (tgt := 841) hx hb dL_law_539 (by decide) (fun _ => kk v1 u1 H locs hi1 Nw) (fun h => absurd rfl h)
set_option maxHeartbeats 8000000 in
set_option maxRecDepth 100000 in
theorem zl_learn (F : z_Fix p s m c b L xs G ba na pa ma) (Nw : z_Now s G ba na pa ma v u H locs) (hl : lv_has ls 4 [(0, .ref b), (1, .ref (ba 0)), (2, .ref (ma 0)), (3, .int x3)]) (hi : zInv T v u) (hT : T + 4000 ≤ 1100000) (h1 : vp_in (x3 + 1) L) (h2 : vp_in (x3 + 2) L) (h3 : vp_in (x3 + 3) L) (kk : ∀ (v' : zc_B) (u' : zc_M) (H' : Heap) (locs' : List Loc), zInv (T + 2000) v' u' → z_Now s G ba na pa ma v' u' H' locs' → W p l e room_1 s m #[Value.ref b] below meth c H' locs' 173 2503 Q (F0 m 841 ls [])) : W p l e room_1 s m #[Value.ref b] below meth c H locs 173 2503 Q (F0 m 544 ls []) := by
  obtain ⟨hx, hb, hml, hown, hts, hXb, hK, hDb, hDm, hap⟩ := id F
  obtain ⟨hPb, hPm, hS⟩ := id Nw
  obtain ⟨r, v1, u1, e2, e3, hi1⟩ := X_learn (N := 100001) hi (by omega) (by decide) (xs (x3 + 1).toNatClampNeg) (xs (x3 + 2).toNatClampNeg)
  refine lv_aload_n hx hb dL_law_544 rfl (lv_at hl 1 rfl) ?_
  refine z_arg F Nw hl (w := 1) (by decide) h1 dL_law_545 dL_law_546 dL_law_547 dL_law_548 dL_law_549 ?_
  refine z_arg F Nw hl (w := 2) (by decide) h2 dL_law_550 dL_law_551 dL_law_552 dL_law_553 dL_law_554 ?_
  refine z_cb F Nw (va_runV (As := [.int _, .int _]) ⟨hx, hb, hml, hown, hts⟩ (kX2_learn l G ba na pa _ e2) (cwV 2 hts gL_law_X2_learn rfl rfl rfl (by decide +kernel) ⟨Nat.le_of_ble_eq_true rfl, Nat.le_of_ble_eq_true rfl⟩) (zc_preVm hK hPb (zc_bcD hDb) 0 rfl rfl) rfl rfl hl.1 rfl (lv_room (Nat.le_of_ble_eq_true rfl)) dL_law_555 ⟨Nat.le_of_ble_eq_true rfl, Nat.le_of_ble_eq_true rfl⟩) (fun H locs Nw => ?_)
  obtain ⟨hPb, hPm, hS⟩ := id Nw
  refine lv_aload_n hx hb dL_law_558 rfl (lv_at hl 2 rfl) ?_
  refine z_arg F Nw hl (w := 1) (by decide) h1 dL_law_559 dL_law_560 dL_law_561 dL_law_562 dL_law_563 ?_
  refine z_arg F Nw hl (w := 2) (by decide) h2 dL_law_564 dL_law_565 dL_law_566 dL_law_567 dL_law_568 ?_
  refine z_cm F Nw (va_runV (As := [.int _, .int _]) ⟨hx, hb, hml, hown, hts⟩ (kX3_learn l G ma _ e3) (cwV 2 hts gL_law_X3_learn rfl rfl rfl (by decide +kernel) ⟨Nat.le_of_ble_eq_true rfl, Nat.le_of_ble_eq_true rfl⟩) (zc_preVm hK hPm (zc_Ds hDm rfl) 0 rfl rfl) rfl rfl hl.1 rfl (lv_room (Nat.le_of_ble_eq_true rfl)) dL_law_569 ⟨Nat.le_of_ble_eq_true rfl, Nat.le_of_ble_eq_true rfl⟩) (fun H locs Nw => ?_)
  obtain ⟨hPb, hPm, hS⟩ := id Nw
  exact lv_icmp_eq (tgt := 841) hx hb dL_law_572 (by decide) (fun _ => kk v1 u1 H locs hi1 Nw) (fun h => absurd rfl h)
set_option maxHeartbeats 8000000 in
set_option maxRecDepth 100000 in
theorem zl_drift (F : z_Fix p s m c b L xs G ba na pa ma) (Nw : z_Now s G ba na pa ma v u H locs) (hl : lv_has ls 4 [(0, .ref b), (1, .ref (ba 0)), (2, .ref (ma 0)), (3, .int x3)]) (hi : zInv T v u) (hT : T + 4000 ≤ 1100000) (h1 : vp_in (x3 + 1) L) (h2 : vp_in (x3 + 2) L) (h3 : vp_in (x3 + 3) L) (kk : ∀ (v' : zc_B) (u' : zc_M) (H' : Heap) (locs' : List Loc), zInv (T + 2000) v' u' → z_Now s G ba na pa ma v' u' H' locs' → W p l e room_1 s m #[Value.ref b] below meth c H' locs' 173 2503 Q (F0 m 841 ls [])) : W p l e room_1 s m #[Value.ref b] below meth c H locs 173 2503 Q (F0 m 577 ls []) := by
  obtain ⟨hx, hb, hml, hown, hts, hXb, hK, hDb, hDm, hap⟩ := id F
  obtain ⟨hPb, hPm, hS⟩ := id Nw
  obtain ⟨r, v1, u1, e2, e3, hi1⟩ := X_drift (N := 100001) hi hT (by decide) (xs (x3 + 1).toNatClampNeg)
  refine lv_aload_n hx hb dL_law_577 rfl (lv_at hl 1 rfl) ?_
  refine z_arg F Nw hl (w := 1) (by decide) h1 dL_law_578 dL_law_579 dL_law_580 dL_law_581 dL_law_582 ?_
  refine z_cb F Nw (va_runV (As := [.int _]) ⟨hx, hb, hml, hown, hts⟩ (kX2_drift l G ba na pa _ e2) (cwV 1 hts gL_law_X2_drift rfl rfl rfl (by decide +kernel) ⟨Nat.le_of_ble_eq_true rfl, Nat.le_of_ble_eq_true rfl⟩) (zc_preVm hK hPb (zc_bcD hDb) 0 rfl rfl) rfl rfl hl.1 rfl (lv_room (Nat.le_of_ble_eq_true rfl)) dL_law_583 ⟨Nat.le_of_ble_eq_true rfl, Nat.le_of_ble_eq_true rfl⟩) (fun H locs Nw => ?_)
  obtain ⟨hPb, hPm, hS⟩ := id Nw
  refine lv_aload_n hx hb dL_law_586 rfl (lv_at hl 2 rfl) ?_
  refine z_arg F Nw hl (w := 1) (by decide) h1 dL_law_587 dL_law_588 dL_law_589 dL_law_590 dL_law_591 ?_
  refine z_cm F Nw (va_runV (As := [.int _]) ⟨hx, hb, hml, hown, hts⟩ (kX3_drift l G ma _ e3) (cwV 1 hts gL_law_X3_drift rfl rfl rfl (by decide +kernel) ⟨Nat.le_of_ble_eq_true rfl, Nat.le_of_ble_eq_true rfl⟩) (zc_preVm hK hPm (zc_Ds hDm rfl) 0 rfl rfl) rfl rfl hl.1 rfl (lv_room (Nat.le_of_ble_eq_true rfl)) dL_law_592 ⟨Nat.le_of_ble_eq_true rfl, Nat.le_of_ble_eq_true rfl⟩) (fun H locs Nw => ?_)
  obtain ⟨hPb, hPm, hS⟩ := id Nw
  exact lv_icmp_eq (tgt := 841) hx hb dL_law_595 (by decide) (fun _ => kk v1 u1 H locs hi1 Nw) (fun h => absurd rfl h)
end ZL
