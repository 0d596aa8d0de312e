/-! the law's cases -/
section ZL
variable {p : Program} {l : Launch} {e : Env} {s : State} {m : MethodId} {below : List Frame} {meth : Method} {c : Code} {b L : Nat} {xs : Nat → Int32} {G : zc_G} {ba na : Nat → Nat} {pa : Nat → Nat → Nat} {ma : Nat → Nat} {Q : State → Prop} {H : Heap} {locs : List Loc} {ls : Array Slot} {x3 : Int32} {v : zc_B} {u : zc_M} {T : Int}
set_option maxHeartbeats 8000000 in
set_option maxRecDepth 100000 in
theorem zl_write (F : z_Fix p s m c b L xs G ba na pa ma) (Nw : z_Now s G ba na pa ma v u H locs) (hl : lv_has ls 4 [(0, .ref b), (1, .ref (ba 0)), (2, .ref (ma 0)), (3, .int x3)]) (hi : zInv T v u) (hT : T + 4000 ≤ 1100000) (h1 : vp_in (x3 + 1) L) (h2 : vp_in (x3 + 2) L) (h3 : vp_in (x3 + 3) L) (kk : ∀ (v' : zc_B) (u' : zc_M) (H' : Heap) (locs' : List Loc), zInv (T + 2000) v' u' → z_Now s G ba na pa ma v' u' H' locs' → W p l e room_1 s m #[Value.ref b] below meth c H' locs' 173 2503 Q (F0 m 841 ls [])) : W p l e room_1 s m #[Value.ref b] below meth c H locs 173 2503 Q (F0 m 736 ls []) := by
  obtain ⟨hx, hb, hml, hown, hts, hXb, hK, hDb, hDm, hap⟩ := id F
  obtain ⟨hPb, hPm, hS⟩ := id Nw
  obtain ⟨r, v1, u1, e2, e3, hi1⟩ := X_write hi (by omega) (xs (x3 + 1).toNatClampNeg)
  refine lv_aload_n hx hb dL_law_736 rfl (lv_at hl 1 rfl) ?_
  refine z_arg F Nw hl (w := 1) (by decide) h1 dL_law_737 dL_law_738 dL_law_739 dL_law_740 dL_law_741 ?_
  refine z_cb F Nw (va_runV (As := [.int _]) ⟨hx, hb, hml, hown, hts⟩ (kX2_write l G ba na pa _ e2) (cwV 1 hts gL_law_X2_write rfl rfl rfl (by decide +kernel) ⟨Nat.le_of_ble_eq_true rfl, Nat.le_of_ble_eq_true rfl⟩) (zc_preVm hK hPb (zc_bcD hDb) 0 rfl rfl) rfl rfl hl.1 rfl (lv_room (Nat.le_of_ble_eq_true rfl)) dL_law_742 ⟨Nat.le_of_ble_eq_true rfl, Nat.le_of_ble_eq_true rfl⟩) (fun H locs Nw => ?_)
  obtain ⟨hPb, hPm, hS⟩ := id Nw
  refine lv_aload_n hx hb dL_law_745 rfl (lv_at hl 2 rfl) ?_
  refine z_arg F Nw hl (w := 1) (by decide) h1 dL_law_746 dL_law_747 dL_law_748 dL_law_749 dL_law_750 ?_
  refine z_cm F Nw (va_runV (As := [.int _]) ⟨hx, hb, hml, hown, hts⟩ (kX3_write l G ma _ e3) (cwV 1 hts gL_law_X3_write rfl rfl rfl (by decide +kernel) ⟨Nat.le_of_ble_eq_true rfl, Nat.le_of_ble_eq_true rfl⟩) (zc_preVm hK hPm (zc_Ds hDm rfl) 0 rfl rfl) rfl rfl hl.1 rfl (lv_room (Nat.le_of_ble_eq_true rfl)) dL_law_751 ⟨Nat.le_of_ble_eq_true rfl, Nat.le_of_ble_eq_true rfl⟩) (fun H locs Nw => ?_)
  obtain ⟨hPb, hPm, hS⟩ := id Nw
  exact lv_icmp_eq (tgt := 841) hx hb dL_law_754 (by decide) (fun _ => kk v1 u1 H locs hi1 Nw) (fun h => absurd rfl h)
set_option maxHeartbeats 8000000 in
set_option maxRecDepth 100000 in
theorem zl_tear (F : z_Fix p s m c b L xs G ba na pa ma) (Nw : z_Now s G ba na pa ma v u H locs) (hl : lv_has ls 4 [(0, .ref b), (1, .ref (ba 0)), (2, .ref (ma 0)), (3, .int x3)]) (hi : zInv T v u) (hT : T + 4000 ≤ 1100000) (h1 : vp_in (x3 + 1) L) (h2 : vp_in (x3 + 2) L) (h3 : vp_in (x3 + 3) L) (kk : ∀ (v' : zc_B) (u' : zc_M) (H' : Heap) (locs' : List Loc), zInv (T + 2000) v' u' → z_Now s G ba na pa ma v' u' H' locs' → W p l e room_1 s m #[Value.ref b] below meth c H' locs' 173 2503 Q (F0 m 841 ls [])) : W p l e room_1 s m #[Value.ref b] below meth c H locs 173 2503 Q (F0 m 759 ls []) := by
  obtain ⟨hx, hb, hml, hown, hts, hXb, hK, hDb, hDm, hap⟩ := id F
  obtain ⟨hPb, hPm, hS⟩ := id Nw
  obtain ⟨r, v1, u1, e2, e3, hi1⟩ := X_tear hi (by omega) 
  refine lv_aload_n hx hb dL_law_759 rfl (lv_at hl 1 rfl) ?_
  refine z_cb F Nw (va_runV (As := []) ⟨hx, hb, hml, hown, hts⟩ (kX2_tear l G ba na pa _ e2) (cwV 0 hts gL_law_X2_tear rfl rfl rfl (by decide +kernel) ⟨Nat.le_of_ble_eq_true rfl, Nat.le_of_ble_eq_true rfl⟩) (zc_preVm hK hPb (zc_bcD hDb) 0 rfl rfl) rfl rfl hl.1 rfl (lv_room (Nat.le_of_ble_eq_true rfl)) dL_law_760 ⟨Nat.le_of_ble_eq_true rfl, Nat.le_of_ble_eq_true rfl⟩) (fun H locs Nw => ?_)
  obtain ⟨hPb, hPm, hS⟩ := id Nw
  refine lv_aload_n hx hb dL_law_763 rfl (lv_at hl 2 rfl) ?_
  refine z_cm F Nw (va_runV (As := []) ⟨hx, hb, hml, hown, hts⟩ (kX3_tear l G ma _ e3) (cwV 0 hts gL_law_X3_tear rfl rfl rfl (by decide +kernel) ⟨Nat.le_of_ble_eq_true rfl, Nat.le_of_ble_eq_true rfl⟩) (zc_preVm hK hPm (zc_Ds hDm rfl) 0 rfl rfl) rfl rfl hl.1 rfl (lv_room (Nat.le_of_ble_eq_true rfl)) dL_law_764 ⟨Nat.le_of_ble_eq_true rfl, Nat.le_of_ble_eq_true rfl⟩) (fun H locs Nw => ?_)
  obtain ⟨hPb, hPm, hS⟩ := id Nw
  exact lv_icmp_eq (tgt := 841) hx hb dL_law_767 (by decide) (fun _ => kk v1 u1 H locs hi1 Nw) (fun h => absurd rfl h)
set_option maxHeartbeats 8000000 in
set_option maxRecDepth 100000 in
theorem zl_seed (F : z_Fix p s m c b L xs G ba na pa ma) (Nw : z_Now s G ba na pa ma v u H locs) (hl : lv_has ls 4 [(0, .ref b), (1, .ref (ba 0)), (2, .ref (ma 0)), (3, .int x3)]) (hi : zInv T v u) (hT : T + 4000 ≤ 1100000) (h1 : vp_in (x3 + 1) L) (h2 : vp_in (x3 + 2) L) (h3 : vp_in (x3 + 3) L) (kk : ∀ (v' : zc_B) (u' : zc_M) (H' : Heap) (locs' : List Loc), zInv (T + 2000) v' u' → z_Now s G ba na pa ma v' u' H' locs' → W p l e room_1 s m #[Value.ref b] below meth c H' locs' 173 2503 Q (F0 m 841 ls [])) : W p l e room_1 s m #[Value.ref b] below meth c H locs 173 2503 Q (F0 m 772 ls []) := by
  obtain ⟨hx, hb, hml, hown, hts, hXb, hK, hDb, hDm, hap⟩ := id F
  obtain ⟨hPb, hPm, hS⟩ := id Nw
  obtain ⟨r, v1, u1, e2, e3, hi1⟩ := X_seed hi (by omega) (xs (x3 + 1).toNatClampNeg)
  refine lv_aload_n hx hb dL_law_772 rfl (lv_at hl 1 rfl) ?_
  refine z_arg F Nw hl (w := 1) (by decide) h1 dL_law_773 dL_law_774 dL_law_775 dL_law_776 dL_law_777 ?_
  refine z_cb F Nw (va_runV (As := [.int _]) ⟨hx, hb, hml, hown, hts⟩ (kX2_seed l G ba na pa _ e2) (cwV 1 hts gL_law_X2_seed rfl rfl rfl (by decide +kernel) ⟨Nat.le_of_ble_eq_true rfl, Nat.le_of_ble_eq_true rfl⟩) (zc_preVm hK hPb (zc_bcD hDb) 0 rfl rfl) rfl rfl hl.1 rfl (lv_room (Nat.le_of_ble_eq_true rfl)) dL_law_778 ⟨Nat.le_of_ble_eq_true rfl, Nat.le_of_ble_eq_true rfl⟩) (fun H locs Nw => ?_)
  obtain ⟨hPb, hPm, hS⟩ := id Nw
  refine lv_aload_n hx hb dL_law_781 rfl (lv_at hl 2 rfl) ?_
  refine z_arg F Nw hl (w := 1) (by decide) h1 dL_law_782 dL_law_783 dL_law_784 dL_law_785 dL_law_786 ?_
  refine z_cm F Nw (va_runV (As := [.int _]) ⟨hx, hb, hml, hown, hts⟩ (kX3_seed l G ma _ e3) (cwV 1 hts gL_law_X3_seed rfl rfl rfl (by decide +kernel) ⟨Nat.le_of_ble_eq_true rfl, Nat.le_of_ble_eq_true rfl⟩) (zc_preVm hK hPm (zc_Ds hDm rfl) 0 rfl rfl) rfl rfl hl.1 rfl (lv_room (Nat.le_of_ble_eq_true rfl)) dL_law_787 ⟨Nat.le_of_ble_eq_true rfl, Nat.le_of_ble_eq_true rfl⟩) (fun H locs Nw => ?_)
  obtain ⟨hPb, hPm, hS⟩ := id Nw
  exact lv_icmp_eq (tgt := 841) hx hb dL_law_790 (by decide) (fun _ => kk v1 u1 H locs hi1 Nw) (fun h => absurd rfl h)
set_option maxHeartbeats 8000000 in
set_option maxRecDepth 100000 in
theorem zl_keep (F : z_Fix p s m c b L xs G ba na pa ma) (Nw : z_Now s G ba na pa ma v u H locs) (hl : lv_has ls 4 [(0, .ref b), (1, .ref (ba 0)), (2, .ref (ma 0)), (3, .int x3)]) (hi : zInv T v u) (hT : T + 4000 ≤ 1100000) (h1 : vp_in (x3 + 1) L) (h2 : vp_in (x3 + 2) L) (h3 : vp_in (x3 + 3) L) (kk : ∀ (v' : zc_B) (u' : zc_M) (H' : Heap) (locs' : List Loc), zInv (T + 2000) v' u' → z_Now s G ba na pa ma v' u' H' locs' → W p l e room_1 s m #[Value.ref b] below meth c H' locs' 173 2503 Q (F0 m 841 ls [])) : W p l e room_1 s m #[Value.ref b] below meth c H locs 173 2503 Q (F0 m 795 ls []) := by
  obtain ⟨hx, hb, hml, hown, hts, hXb, hK, hDb, hDm, hap⟩ := id F
  obtain ⟨hPb, hPm, hS⟩ := id Nw
  obtain ⟨r, v1, u1, e2, e3, hi1⟩ := X_keep (N := 100001) hi (by omega) (by decide) (xs (x3 + 1).toNatClampNeg)
  refine lv_aload_n hx hb dL_law_795 rfl (lv_at hl 1 rfl) ?_
  refine z_arg F Nw hl (w := 1) (by decide) h1 dL_law_796 dL_law_797 dL_law_798 dL_law_799 dL_law_800 ?_
  refine z_cb F Nw (va_runV (As := [.int _]) ⟨hx, hb, hml, hown, hts⟩ (kX2_keep l G ba na pa _ e2) (cwV 1 hts gL_law_X2_keep rfl rfl rfl (by decide +kernel) ⟨Nat.le_of_ble_eq_true rfl, Nat.le_of_ble_eq_true rfl⟩) (zc_preVm hK hPb (zc_bcD hDb) 0 rfl rfl) rfl rfl hl.1 rfl (lv_room (Nat.le_of_ble_eq_true rfl)) dL_law_801 ⟨Nat.le_of_ble_eq_true rfl, Nat.le_of_ble_eq_true rfl⟩) (fun H locs Nw => ?_)
  obtain ⟨hPb, hPm, hS⟩ := id Nw
  refine lv_aload_n hx hb dL_law_804 rfl (lv_at hl 2 rfl) ?_
  refine z_arg F Nw hl (w := 1) (by decide) h1 dL_law_805 dL_law_806 dL_law_807 dL_law_808 dL_law_809 ?_
  refine z_cm F Nw (va_runV (As := [.int _]) ⟨hx, hb, hml, hown, hts⟩ (kX3_keep l G ma _ e3) (cwV 1 hts gL_law_X3_keep rfl rfl rfl (by decide +kernel) ⟨Nat.le_of_ble_eq_true rfl, Nat.le_of_ble_eq_true rfl⟩) (zc_preVm hK hPm (zc_Ds hDm rfl) 0 rfl rfl) rfl rfl hl.1 rfl (lv_room (Nat.le_of_ble_eq_true rfl)) dL_law_810 ⟨Nat.le_of_ble_eq_true rfl, Nat.le_of_ble_eq_true rfl⟩) (fun H locs Nw => ?_)
  obtain ⟨hPb, hPm, hS⟩ := id Nw
  exact lv_icmp_eq (tgt := 841) hx hb dL_law_813 (by decide) (fun _ => kk v1 u1 H locs hi1 Nw) (fun h => absurd rfl h)
set_option maxHeartbeats 8000000 in
set_option maxRecDepth 100000 in
theorem zl_goBack (F : z_Fix p s m c b L xs G ba na pa ma) (Nw : z_Now s G ba na pa ma v u H locs) (hl : lv_has ls 4 [(0, .ref b), (1, .ref (ba 0)), (2, .ref (ma 0)), (3, .int x3)]) (hi : zInv T v u) (hT : T + 4000 ≤ 1100000) (h1 : vp_in (x3 + 1) L) (h2 : vp_in (x3 + 2) L) (h3 : vp_in (x3 + 3) L) (kk : ∀ (v' : zc_B) (u' : zc_M) (H' : Heap) (locs' : List Loc), zInv (T + 2000) v' u' → z_Now s G ba na pa ma v' u' H' locs' → W p l e room_1 s m #[Value.ref b] below meth c H' locs' 173 2503 Q (F0 m 841 ls [])) : W p l e room_1 s m #[Value.ref b] below meth c H locs 173 2503 Q (F0 m 818 ls []) := by
  obtain ⟨hx, hb, hml, hown, hts, hXb, hK, hDb, hDm, hap⟩ := id F
  obtain ⟨hPb, hPm, hS⟩ := id Nw
  obtain ⟨r, v1, u1, e2, e3, hi1⟩ := X_goBack (N := 100001) hi (by omega) (by decide) (xs (x3 + 1).toNatClampNeg)
  refine lv_aload_n hx hb dL_law_818 rfl (lv_at hl 1 rfl) ?_
  refine z_arg F Nw hl (w := 1) (by decide) h1 dL_law_819 dL_law_820 dL_law_821 dL_law_822 dL_law_823 ?_
  refine z_cb F Nw (va_runV (As := [.int _]) ⟨hx, hb, hml, hown, hts⟩ (kX2_goBack l G ba na pa _ e2) (cwV 1 hts gL_law_X2_goBack rfl rfl rfl (by decide +kernel) ⟨Nat.le_of_ble_eq_true rfl, Nat.le_of_ble_eq_true rfl⟩) (zc_preVm hK hPb (zc_bcD hDb) 0 rfl rfl) rfl rfl hl.1 rfl (lv_room (Nat.le_of_ble_eq_true rfl)) dL_law_824 ⟨Nat.le_of_ble_eq_true rfl, Nat.le_of_ble_eq_true rfl⟩) (fun H locs Nw => ?_)
  obtain ⟨hPb, hPm, hS⟩ := id Nw
  refine lv_aload_n hx hb dL_law_827 rfl (lv_at hl 2 rfl) ?_
  refine z_arg F Nw hl (w := 1) (by decide) h1 dL_law_828 dL_law_829 dL_law_830 dL_law_831 dL_law_832 ?_
  refine z_cm F Nw (va_runV (As := [.int _]) ⟨hx, hb, hml, hown, hts⟩ (kX3_goBack l G ma _ e3) (cwV 1 hts gL_law_X3_goBack rfl rfl rfl (by decide +kernel) ⟨Nat.le_of_ble_eq_true rfl, Nat.le_of_ble_eq_true rfl⟩) (zc_preVm hK hPm (zc_Ds hDm rfl) 0 rfl rfl) rfl rfl hl.1 rfl (lv_room (Nat.le_of_ble_eq_true rfl)) dL_law_833 ⟨Nat.le_of_ble_eq_true rfl, Nat.le_of_ble_eq_true rfl⟩) (fun H locs Nw => ?_)
  obtain ⟨hPb, hPm, hS⟩ := id Nw
  exact lv_icmp_eq (tgt := 841) hx hb dL_law_836 (by decide) (fun _ => kk v1 u1 H locs hi1 Nw) (fun h => absurd rfl h)
end ZL
