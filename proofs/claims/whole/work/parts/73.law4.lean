/-! the law's cases -/
section ZL
variable {p : Program} {l : Launch} {e : Env} {s : State} {m : MethodId} {below : List Frame} {meth : Method} {c : Code} {b L : Nat} {xs : Nat → Int32} {G : zc_G} {ba na : Nat → Nat} {pa : Nat → Nat → Nat} {ma : Nat → Nat} {Q : State → Prop} {H : Heap} {locs : List Loc} {ls : Array Slot} {x3 : Int32} {v : zc_B} {u : zc_M} {T : Int}
set_option maxHeartbeats 8000000 in
set_option maxRecDepth 100000 in
theorem zl_undo (F : z_Fix p s m c b L xs G ba na pa ma) (Nw : z_Now s G ba na pa ma v u H locs) (hl : lv_has ls 4 [(0, .ref b), (1, .ref (ba 0)), (2, .ref (ma 0)), (3, .int x3)]) (hi : zInv T v u) (hT : T + 4000 ≤ 1100000) (h1 : vp_in (x3 + 1) L) (h2 : vp_in (x3 + 2) L) (h3 : vp_in (x3 + 3) L) (kk : ∀ (v' : zc_B) (u' : zc_M) (H' : Heap) (locs' : List Loc), zInv (T + 2000) v' u' → z_Now s G ba na pa ma v' u' H' locs' → W p l e room_1 s m #[Value.ref b] below meth c H' locs' 173 2503 Q (F0 m 841 ls [])) : W p l e room_1 s m #[Value.ref b] below meth c H locs 173 2503 Q (F0 m 600 ls []) := by
  obtain ⟨hx, hb, hml, hown, hts, hXb, hK, hDb, hDm, hap⟩ := id F
  obtain ⟨hPb, hPm, hS⟩ := id Nw
  obtain ⟨r, v1, u1, e2, e3, hi1⟩ := X_undo (N := 100001) hi (by omega) (by decide) (xs (x3 + 1).toNatClampNeg)
  refine lv_aload_n hx hb dL_law_600 rfl (lv_at hl 1 rfl) ?_
  refine z_arg F Nw hl (w := 1) (by decide) h1 dL_law_601 dL_law_602 dL_law_603 dL_law_604 dL_law_605 ?_
  refine z_cb F Nw (va_runV (As := [.int _]) ⟨hx, hb, hml, hown, hts⟩ (kX2_undo l G ba na pa _ e2) (cwV 1 hts gL_law_X2_undo rfl rfl rfl (by decide +kernel) ⟨Nat.le_of_ble_eq_true rfl, Nat.le_of_ble_eq_true rfl⟩) (zc_preVm hK hPb (zc_bcD hDb) 0 rfl rfl) rfl rfl hl.1 rfl (lv_room (Nat.le_of_ble_eq_true rfl)) dL_law_606 ⟨Nat.le_of_ble_eq_true rfl, Nat.le_of_ble_eq_true rfl⟩) (fun H locs Nw => ?_)
  obtain ⟨hPb, hPm, hS⟩ := id Nw
  refine lv_aload_n hx hb dL_law_609 rfl (lv_at hl 2 rfl) ?_
  refine z_arg F Nw hl (w := 1) (by decide) h1 dL_law_610 dL_law_611 dL_law_612 dL_law_613 dL_law_614 ?_
  refine z_cm F Nw (va_runV (As := [.int _]) ⟨hx, hb, hml, hown, hts⟩ (kX3_undo l G ma _ e3) (cwV 1 hts gL_law_X3_undo rfl rfl rfl (by decide +kernel) ⟨Nat.le_of_ble_eq_true rfl, Nat.le_of_ble_eq_true rfl⟩) (zc_preVm hK hPm (zc_Ds hDm rfl) 0 rfl rfl) rfl rfl hl.1 rfl (lv_room (Nat.le_of_ble_eq_true rfl)) dL_law_615 ⟨Nat.le_of_ble_eq_true rfl, Nat.le_of_ble_eq_true rfl⟩) (fun H locs Nw => ?_)
  obtain ⟨hPb, hPm, hS⟩ := id Nw
  exact lv_icmp_eq (tgt := 841) hx hb dL_law_618 (by decide) (fun _ => kk v1 u1 H locs hi1 Nw) (fun h => absurd rfl h)
set_option maxHeartbeats 8000000 in
set_option maxRecDepth 100000 in
theorem zl_evenly (F : z_Fix p s m c b L xs G ba na pa ma) (Nw : z_Now s G ba na pa ma v u H locs) (hl : lv_has ls 4 [(0, .ref b), (1, .ref (ba 0)), (2, .ref (ma 0)), (3, .int x3)]) (hi : zInv T v u) (hT : T + 4000 ≤ 1100000) (h1 : vp_in (x3 + 1) L) (h2 : vp_in (x3 + 2) L) (h3 : vp_in (x3 + 3) L) (kk : ∀ (v' : zc_B) (u' : zc_M) (H' : Heap) (locs' : List Loc), zInv (T + 2000) v' u' → z_Now s G ba na pa ma v' u' H' locs' → W p l e room_1 s m #[Value.ref b] below meth c H' locs' 173 2503 Q (F0 m 841 ls [])) : W p l e room_1 s m #[Value.ref b] below meth c H locs 173 2503 Q (F0 m 623 ls []) := by
  obtain ⟨hx, hb, hml, hown, hts, hXb, hK, hDb, hDm, hap⟩ := id F
  obtain ⟨hPb, hPm, hS⟩ := id Nw
  obtain ⟨r, e2, e3⟩ := X_evenly (b := v) (u := u) (xs (x3 + 1).toNatClampNeg) (xs (x3 + 2).toNatClampNeg) (xs (x3 + 3).toNatClampNeg)
  refine lv_aload_n hx hb dL_law_623 rfl (lv_at hl 1 rfl) ?_
  refine z_arg F Nw hl (w := 1) (by decide) h1 dL_law_624 dL_law_625 dL_law_626 dL_law_627 dL_law_628 ?_
  refine z_arg F Nw hl (w := 2) (by decide) h2 dL_law_629 dL_law_630 dL_law_631 dL_law_632 dL_law_633 ?_
  refine z_arg F Nw hl (w := 3) (by decide) h3 dL_law_634 dL_law_635 dL_law_636 dL_law_637 dL_law_638 ?_
  refine zc_ci (va_runV (As := [.int _, .int _, .int _]) ⟨hx, hb, hml, hown, hts⟩ (kX2_evenly l G ba na pa e2) (cwV 3 hts gL_law_X2_evenly rfl rfl rfl (by decide +kernel) ⟨Nat.le_of_ble_eq_true rfl, Nat.le_of_ble_eq_true rfl⟩) (zc_preV hK hPb 0 rfl rfl) rfl rfl hl.1 rfl (lv_room (Nat.le_of_ble_eq_true rfl)) dL_law_639 ⟨Nat.le_of_ble_eq_true rfl, Nat.le_of_ble_eq_true rfl⟩) ?_
  refine lv_aload_n hx hb dL_law_642 rfl (lv_at hl 2 rfl) ?_
  refine z_arg F Nw hl (w := 1) (by decide) h1 dL_law_643 dL_law_644 dL_law_645 dL_law_646 dL_law_647 ?_
  refine z_arg F Nw hl (w := 2) (by decide) h2 dL_law_648 dL_law_649 dL_law_650 dL_law_651 dL_law_652 ?_
  refine z_arg F Nw hl (w := 3) (by decide) h3 dL_law_653 dL_law_654 dL_law_655 dL_law_656 dL_law_657 ?_
  refine zc_ci (va_runV (As := [.int _, .int _, .int _]) ⟨hx, hb, hml, hown, hts⟩ (kX3_evenly l G ma e3) (cwV 3 hts gL_law_X3_evenly rfl rfl rfl (by decide +kernel) ⟨Nat.le_of_ble_eq_true rfl, Nat.le_of_ble_eq_true rfl⟩) (zc_preV hK hPm 0 rfl rfl) rfl rfl hl.1 rfl (lv_room (Nat.le_of_ble_eq_true rfl)) dL_law_658 ⟨Nat.le_of_ble_eq_true rfl, Nat.le_of_ble_eq_true rfl⟩) ?_
  exact lv_icmp_eq (tgt := 841) hx hb dL_law_661 (by decide) (fun _ => kk v u H locs (hi.mono (by omega) (by omega)) Nw) (fun h => absurd rfl h)
set_option maxHeartbeats 8000000 in
set_option maxRecDepth 100000 in
theorem zl_after (F : z_Fix p s m c b L xs G ba na pa ma) (Nw : z_Now s G ba na pa ma v u H locs) (hl : lv_has ls 4 [(0, .ref b), (1, .ref (ba 0)), (2, .ref (ma 0)), (3, .int x3)]) (hi : zInv T v u) (hT : T + 4000 ≤ 1100000) (h1 : vp_in (x3 + 1) L) (h2 : vp_in (x3 + 2) L) (h3 : vp_in (x3 + 3) L) (kk : ∀ (v' : zc_B) (u' : zc_M) (H' : Heap) (locs' : List Loc), zInv (T + 2000) v' u' → z_Now s G ba na pa ma v' u' H' locs' → W p l e room_1 s m #[Value.ref b] below meth c H' locs' 173 2503 Q (F0 m 841 ls [])) : W p l e room_1 s m #[Value.ref b] below meth c H locs 173 2503 Q (F0 m 666 ls []) := by
  obtain ⟨hx, hb, hml, hown, hts, hXb, hK, hDb, hDm, hap⟩ := id F
  obtain ⟨hPb, hPm, hS⟩ := id Nw
  obtain ⟨r, e2, e3⟩ := X_after hi (xs (x3 + 1).toNatClampNeg)
  refine lv_aload_n hx hb dL_law_666 rfl (lv_at hl 1 rfl) ?_
  refine z_arg F Nw hl (w := 1) (by decide) h1 dL_law_667 dL_law_668 dL_law_669 dL_law_670 dL_law_671 ?_
  refine zc_cl (va_runV (As := [.int _]) ⟨hx, hb, hml, hown, hts⟩ (kX2_after l G ba na pa e2) (cwV 1 hts gL_law_X2_after rfl rfl rfl (by decide +kernel) ⟨Nat.le_of_ble_eq_true rfl, Nat.le_of_ble_eq_true rfl⟩) (zc_preV hK hPb 0 rfl rfl) rfl rfl hl.1 rfl (lv_room (Nat.le_of_ble_eq_true rfl)) dL_law_672 ⟨Nat.le_of_ble_eq_true rfl, Nat.le_of_ble_eq_true rfl⟩) ?_
  refine lv_aload_n hx hb dL_law_675 rfl (lv_at hl 2 rfl) ?_
  refine z_arg F Nw hl (w := 1) (by decide) h1 dL_law_676 dL_law_677 dL_law_678 dL_law_679 dL_law_680 ?_
  refine zc_cl (va_runV (As := [.int _]) ⟨hx, hb, hml, hown, hts⟩ (kX3_after l G ma e3) (cwV 1 hts gL_law_X3_after rfl rfl rfl (by decide +kernel) ⟨Nat.le_of_ble_eq_true rfl, Nat.le_of_ble_eq_true rfl⟩) (zc_preV hK hPm 0 rfl rfl) rfl rfl hl.1 rfl (lv_room (Nat.le_of_ble_eq_true rfl)) dL_law_681 ⟨Nat.le_of_ble_eq_true rfl, Nat.le_of_ble_eq_true rfl⟩) ?_
  refine W.lcmp hx hb dL_law_684 ?_
  exact lv_if_eq (tgt := 841) hx hb dL_law_685 (by decide) (fun _ => kk v u H locs (hi.mono (by omega) (by omega)) Nw) (fun h => absurd (by rw [lg_cmp_eq]) h)
set_option maxHeartbeats 8000000 in
set_option maxRecDepth 100000 in
theorem zl_rings (F : z_Fix p s m c b L xs G ba na pa ma) (Nw : z_Now s G ba na pa ma v u H locs) (hl : lv_has ls 4 [(0, .ref b), (1, .ref (ba 0)), (2, .ref (ma 0)), (3, .int x3)]) (hi : zInv T v u) (hT : T + 4000 ≤ 1100000) (h1 : vp_in (x3 + 1) L) (h2 : vp_in (x3 + 2) L) (h3 : vp_in (x3 + 3) L) (kk : ∀ (v' : zc_B) (u' : zc_M) (H' : Heap) (locs' : List Loc), zInv (T + 2000) v' u' → z_Now s G ba na pa ma v' u' H' locs' → W p l e room_1 s m #[Value.ref b] below meth c H' locs' 173 2503 Q (F0 m 841 ls [])) : W p l e room_1 s m #[Value.ref b] below meth c H locs 173 2503 Q (F0 m 690 ls []) := by
  obtain ⟨hx, hb, hml, hown, hts, hXb, hK, hDb, hDm, hap⟩ := id F
  obtain ⟨hPb, hPm, hS⟩ := id Nw
  obtain ⟨r, e2, e3⟩ := X_rings (N := 100001) hi (by decide) (xs (x3 + 1).toNatClampNeg)
  refine lv_aload_n hx hb dL_law_690 rfl (lv_at hl 1 rfl) ?_
  refine z_arg F Nw hl (w := 1) (by decide) h1 dL_law_691 dL_law_692 dL_law_693 dL_law_694 dL_law_695 ?_
  refine zc_ci (va_runV (As := [.int _]) ⟨hx, hb, hml, hown, hts⟩ (kX2_rings l G ba na pa e2) (cwV 1 hts gL_law_X2_rings rfl rfl rfl (by decide +kernel) ⟨Nat.le_of_ble_eq_true rfl, Nat.le_of_ble_eq_true rfl⟩) (zc_preV hK hPb 0 rfl rfl) rfl rfl hl.1 rfl (lv_room (Nat.le_of_ble_eq_true rfl)) dL_law_696 ⟨Nat.le_of_ble_eq_true rfl, Nat.le_of_ble_eq_true rfl⟩) ?_
  refine lv_aload_n hx hb dL_law_699 rfl (lv_at hl 2 rfl) ?_
  refine z_arg F Nw hl (w := 1) (by decide) h1 dL_law_700 dL_law_701 dL_law_702 dL_law_703 dL_law_704 ?_
  refine zc_ci (va_runV (As := [.int _]) ⟨hx, hb, hml, hown, hts⟩ (kX3_rings l G ma e3) (cwV 1 hts gL_law_X3_rings rfl rfl rfl (by decide +kernel) ⟨Nat.le_of_ble_eq_true rfl, Nat.le_of_ble_eq_true rfl⟩) (zc_preV hK hPm 0 rfl rfl) rfl rfl hl.1 rfl (lv_room (Nat.le_of_ble_eq_true rfl)) dL_law_705 ⟨Nat.le_of_ble_eq_true rfl, Nat.le_of_ble_eq_true rfl⟩) ?_
  exact lv_icmp_eq (tgt := 841) hx hb dL_law_708 (by decide) (fun _ => kk v u H locs (hi.mono (by omega) (by omega)) Nw) (fun h => absurd rfl h)
set_option maxHeartbeats 8000000 in
set_option maxRecDepth 100000 in
theorem zl_untilWide (F : z_Fix p s m c b L xs G ba na pa ma) (Nw : z_Now s G ba na pa ma v u H locs) (hl : lv_has ls 4 [(0, .ref b), (1, .ref (ba 0)), (2, .ref (ma 0)), (3, .int x3)]) (hi : zInv T v u) (hT : T + 4000 ≤ 1100000) (h1 : vp_in (x3 + 1) L) (h2 : vp_in (x3 + 2) L) (h3 : vp_in (x3 + 3) L) (kk : ∀ (v' : zc_B) (u' : zc_M) (H' : Heap) (locs' : List Loc), zInv (T + 2000) v' u' → z_Now s G ba na pa ma v' u' H' locs' → W p l e room_1 s m #[Value.ref b] below meth c H' locs' 173 2503 Q (F0 m 841 ls [])) : W p l e room_1 s m #[Value.ref b] below meth c H locs 173 2503 Q (F0 m 713 ls []) := by
  obtain ⟨hx, hb, hml, hown, hts, hXb, hK, hDb, hDm, hap⟩ := id F
  obtain ⟨hPb, hPm, hS⟩ := id Nw
  obtain ⟨r, e2, e3⟩ := X_untilWide hi (xs (x3 + 1).toNatClampNeg)
  refine lv_aload_n hx hb dL_law_713 rfl (lv_at hl 1 rfl) ?_
  refine z_arg F Nw hl (w := 1) (by decide) h1 dL_law_714 dL_law_715 dL_law_716 dL_law_717 dL_law_718 ?_
  refine zc_ci (va_runV (As := [.int _]) ⟨hx, hb, hml, hown, hts⟩ (kX2_untilWide l G ba na pa e2) (cwV 1 hts gL_law_X2_untilWide rfl rfl rfl (by decide +kernel) ⟨Nat.le_of_ble_eq_true rfl, Nat.le_of_ble_eq_true rfl⟩) (zc_preV hK hPb 0 rfl rfl) rfl rfl hl.1 rfl (lv_room (Nat.le_of_ble_eq_true rfl)) dL_law_719 ⟨Nat.le_of_ble_eq_true rfl, Nat.le_of_ble_eq_true rfl⟩) ?_
  refine lv_aload_n hx hb dL_law_722 rfl (lv_at hl 2 rfl) ?_
  refine z_arg F Nw hl (w := 1) (by decide) h1 dL_law_723 dL_law_724 dL_law_725 dL_law_726 dL_law_727 ?_
  refine zc_ci (va_runV (As := [.int _]) ⟨hx, hb, hml, hown, hts⟩ (kX3_untilWide l G ma e3) (cwV 1 hts gL_law_X3_untilWide rfl rfl rfl (by decide +kernel) ⟨Nat.le_of_ble_eq_true rfl, Nat.le_of_ble_eq_true rfl⟩) (zc_preV hK hPm 0 rfl rfl) rfl rfl hl.1 rfl (lv_room (Nat.le_of_ble_eq_true rfl)) dL_law_728 ⟨Nat.le_of_ble_eq_true rfl, Nat.le_of_ble_eq_true rfl⟩) ?_
  exact lv_icmp_eq (tgt := 841) hx hb dL_law_731 (by decide) (fun _ => kk v u H locs (hi.mono (by omega) (by omega)) Nw) (fun h => absurd rfl h)
end ZL
