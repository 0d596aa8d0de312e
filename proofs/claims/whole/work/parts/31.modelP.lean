def fX3_offAt (u : zc_M) (a1 : Int64) : Option (Int64) := zc_let (a1 - (u.1 0 5)) fun (x1 : Int64) => some ((u.1 0 7) - ((((u.1 0 6) * x1) * x1) / (100 : Int64)))
theorem iX3_offAt_X3 : ∀ w ∈ wsX30, w ∈ wsX3_offAt := fun _ h => List.mem_cons_of_mem _ (List.mem_append_right _ h)
set_option maxHeartbeats 4000000 in
set_option maxRecDepth 100000 in
theorem kX3_offAt (l : Launch) (G : zc_G) (ma : Nat → Nat) {u : zc_M} {a1 : Int64} {r0 : Int64} (hF : fX3_offAt u a1 = some r0) : Met l yX3_offAt wsX3_offAt ({ frames := 0, cells := 0, slots := 0, locals := 0 }) (zc_Pp G [.ref (ma 0), .long a1] (zc_mo G ma u)) (vp_Sl (fun r => r = r0)) 0 0 (fun _ => False) := by
  refine Met.ofW (cc := cX3_offAt) (maxL := 5) (ret := (some .long)) (by decide) rfl ?_
  intro p e s m args below meth c s₁ B hml hv
  obtain ⟨rfl, hP, hK⟩ := hv
  have hx := B.exec
  have hb := B.bytes
  have hr := B.returns
  have hts := atoms_spec (ws := wsX3_offAt) B.pre
  have hown : s.vm.findClass RX3 = some m.cls := findClass_of_methodNamed B.named
  have hlocks := B.notSynchronized
  have hl := lv_entry ([.ref (ma 0), .long a1]) (n := 5) (Nat.le_of_ble_eq_true rfl)
  rw [lg_entry_eq]
  generalize (lg_sl ([.ref (ma 0), .long a1]) ++ List.replicate (5 - (lg_sl ([.ref (ma 0), .long a1])).length) Slot.unset).toArray = ls at hl ⊢
  have hl : lv_has ls 5 [(0, .ref (ma 0)), (1, .long a1)] := hl
  refine lv_lload_n hx hb dX3_offAt_0 rfl (lv_at hl 1 rfl) ?_
  refine lv_aload_n hx hb dX3_offAt_1 rfl (lv_at hl 0 rfl) ?_
  refine va_get (D := G.1) (ci := 3) (C := RX3) (T := TX3) (N := 8) hx hb hts iX3_offAt_X3 hown hK.1 hP 0 rfl rfl 0 (by decide) (hts (.fieldLink RX3 7 "BoardClockModel" "st" "[J") (List.mem_of_getElem? (i := 1) rfl)) (fun _ h9 => h9) rfl dX3_offAt_2 ?_
  refine lv_iconst (v := (5 : Int32)) hx hb dX3_offAt_5 (by decide) ?_
  refine zc_lald hx hb hK.1 hP 1 1 rfl rfl (j := 5) (zc_vin (by decide)) (by decide) dX3_offAt_6 ?_
  refine lv_lsub hx hb dX3_offAt_7 ?_
  refine lv_topl (fun x1 ex1 => ?_)
  have hF := zc_letE ex1 hF
  refine lv_lstore_n (lv' := [(3, .long x1), (0, .ref (ma 0)), (1, .long a1)]) hx hb dX3_offAt_8 rfl hl (by decide) rfl (fun ls hl => ?_)
  refine lv_aload_n hx hb dX3_offAt_9 rfl (lv_at hl 1 rfl) ?_
  refine va_get (D := G.1) (ci := 3) (C := RX3) (T := TX3) (N := 8) hx hb hts iX3_offAt_X3 hown hK.1 hP 0 rfl rfl 0 (by decide) (hts (.fieldLink RX3 7 "BoardClockModel" "st" "[J") (List.mem_of_getElem? (i := 1) rfl)) (fun _ h9 => h9) rfl dX3_offAt_10 ?_
  refine lv_bipush (v := (7 : Int32)) hx hb dX3_offAt_13 (by decide) ?_
  refine zc_lald hx hb hK.1 hP 1 1 rfl rfl (j := 7) (zc_vin (by decide)) (by decide) dX3_offAt_15 ?_
  refine lv_aload_n hx hb dX3_offAt_16 rfl (lv_at hl 1 rfl) ?_
  refine va_get (D := G.1) (ci := 3) (C := RX3) (T := TX3) (N := 8) hx hb hts iX3_offAt_X3 hown hK.1 hP 0 rfl rfl 0 (by decide) (hts (.fieldLink RX3 7 "BoardClockModel" "st" "[J") (List.mem_of_getElem? (i := 1) rfl)) (fun _ h9 => h9) rfl dX3_offAt_17 ?_
  refine lv_bipush (v := (6 : Int32)) hx hb dX3_offAt_20 (by decide) ?_
  refine zc_lald hx hb hK.1 hP 1 1 rfl rfl (j := 6) (zc_vin (by decide)) (by decide) dX3_offAt_22 ?_
  refine lv_lload_n hx hb dX3_offAt_23 rfl (lv_at hl 0 rfl) ?_
  refine lv_lmul hx hb dX3_offAt_24 ?_
  refine lv_lload_n hx hb dX3_offAt_25 rfl (lv_at hl 0 rfl) ?_
  refine lv_lmul hx hb dX3_offAt_26 ?_
  refine lv_ldc2 hx hb hown (hts (.constantLong RX3 37 (100)) (List.mem_of_getElem? (i := 2) rfl)) dX3_offAt_27 ?_
  refine lv_ldiv hx hb dX3_offAt_30 (by decide) ?_
  refine lv_lsub hx hb dX3_offAt_31 ?_
  exact W.lret hx hb hr (fun t ht hW => ⟨_, rfl, Option.some.inj hF, ht⟩) (fun _ h => by cases h) dX3_offAt_32
def fX3_spanNow (u : zc_M) : Option (Int32) := some ((((u.1 0 4) + (20 : Int64)) / (10 : Int64))).toInt32
theorem iX3_spanNow_X3 : ∀ w ∈ wsX30, w ∈ wsX3_spanNow := fun _ h => List.mem_cons_of_mem _ (List.mem_append_right _ h)
set_option maxHeartbeats 4000000 in
set_option maxRecDepth 100000 in
theorem kX3_spanNow (l : Launch) (G : zc_G) (ma : Nat → Nat) {u : zc_M} {r0 : Int32} (hF : fX3_spanNow u = some r0) : Met l yX3_spanNow wsX3_spanNow ({ frames := 0, cells := 0, slots := 0, locals := 0 }) (zc_Pp G [.ref (ma 0)] (zc_mo G ma u)) (vp_Si (fun r => r = r0)) 0 0 (fun _ => False) := by
  refine Met.ofW (cc := cX3_spanNow) (maxL := 1) (ret := (some .int)) (by decide) rfl ?_
  intro p e s m args below meth c s₁ B hml hv
  obtain ⟨rfl, hP, hK⟩ := hv
  have hx := B.exec
  have hb := B.bytes
  have hr := B.returns
  have hts := atoms_spec (ws := wsX3_spanNow) B.pre
  have hown : s.vm.findClass RX3 = some m.cls := findClass_of_methodNamed B.named
  have hlocks := B.notSynchronized
  have hl := lv_entry ([.ref (ma 0)]) (n := 1) (Nat.le_of_ble_eq_true rfl)
  rw [lg_entry_eq]
  generalize (lg_sl ([.ref (ma 0)]) ++ List.replicate (1 - (lg_sl ([.ref (ma 0)])).length) Slot.unset).toArray = ls at hl ⊢
  have hl : lv_has ls 1 [(0, .ref (ma 0))] := hl
  refine lv_aload_n hx hb dX3_spanNow_0 rfl (lv_at hl 0 rfl) ?_
  refine va_get (D := G.1) (ci := 3) (C := RX3) (T := TX3) (N := 8) hx hb hts iX3_spanNow_X3 hown hK.1 hP 0 rfl rfl 0 (by decide) (hts (.fieldLink RX3 7 "BoardClockModel" "st" "[J") (List.mem_of_getElem? (i := 1) rfl)) (fun _ h9 => h9) rfl dX3_spanNow_1 ?_
  refine lv_iconst (v := (4 : Int32)) hx hb dX3_spanNow_4 (by decide) ?_
  refine zc_lald hx hb hK.1 hP 1 1 rfl rfl (j := 4) (zc_vin (by decide)) (by decide) dX3_spanNow_5 ?_
  refine lv_ldc2 hx hb hown (hts (.constantLong RX3 31 (20)) (List.mem_of_getElem? (i := 2) rfl)) dX3_spanNow_6 ?_
  refine lv_ladd hx hb dX3_spanNow_9 ?_
  refine lv_ldc2 hx hb hown (hts (.constantLong RX3 39 (10)) (List.mem_of_getElem? (i := 3) rfl)) dX3_spanNow_10 ?_
  refine lv_ldiv hx hb dX3_spanNow_13 (by decide) ?_
  refine lv_l2i hx hb dX3_spanNow_14 rfl ?_
  exact W.iret hx hb hr (fun t ht hW => ⟨_, rfl, Option.some.inj hF, ht⟩) (fun _ h => by cases h) dX3_spanNow_15
def fX3_aim (u : zc_M) : Option (Int64) := some ((u.1 0 1) + (u.1 0 2))
theorem iX3_aim_X3 : ∀ w ∈ wsX30, w ∈ wsX3_aim := fun _ h => List.mem_cons_of_mem _ (List.mem_append_right _ h)
set_option maxHeartbeats 4000000 in
set_option maxRecDepth 100000 in
theorem kX3_aim (l : Launch) (G : zc_G) (ma : Nat → Nat) {u : zc_M} {r0 : Int64} (hF : fX3_aim u = some r0) : Met l yX3_aim wsX3_aim ({ frames := 0, cells := 0, slots := 0, locals := 0 }) (zc_Pp G [.ref (ma 0)] (zc_mo G ma u)) (vp_Sl (fun r => r = r0)) 0 0 (fun _ => False) := by
  refine Met.ofW (cc := cX3_aim) (maxL := 1) (ret := (some .long)) (by decide) rfl ?_
  intro p e s m args below meth c s₁ B hml hv
  obtain ⟨rfl, hP, hK⟩ := hv
  have hx := B.exec
  have hb := B.bytes
  have hr := B.returns
  have hts := atoms_spec (ws := wsX3_aim) B.pre
  have hown : s.vm.findClass RX3 = some m.cls := findClass_of_methodNamed B.named
  have hlocks := B.notSynchronized
  have hl := lv_entry ([.ref (ma 0)]) (n := 1) (Nat.le_of_ble_eq_true rfl)
  rw [lg_entry_eq]
  generalize (lg_sl ([.ref (ma 0)]) ++ List.replicate (1 - (lg_sl ([.ref (ma 0)])).length) Slot.unset).toArray = ls at hl ⊢
  have hl : lv_has ls 1 [(0, .ref (ma 0))] := hl
  refine lv_aload_n hx hb dX3_aim_0 rfl (lv_at hl 0 rfl) ?_
  refine va_get (D := G.1) (ci := 3) (C := RX3) (T := TX3) (N := 8) hx hb hts iX3_aim_X3 hown hK.1 hP 0 rfl rfl 0 (by decide) (hts (.fieldLink RX3 7 "BoardClockModel" "st" "[J") (List.mem_of_getElem? (i := 1) rfl)) (fun _ h9 => h9) rfl dX3_aim_1 ?_
  refine lv_iconst (v := (1 : Int32)) hx hb dX3_aim_4 (by decide) ?_
  refine zc_lald hx hb hK.1 hP 1 1 rfl rfl (j := 1) (zc_vin (by decide)) (by decide) dX3_aim_5 ?_
  refine lv_aload_n hx hb dX3_aim_6 rfl (lv_at hl 0 rfl) ?_
  refine va_get (D := G.1) (ci := 3) (C := RX3) (T := TX3) (N := 8) hx hb hts iX3_aim_X3 hown hK.1 hP 0 rfl rfl 0 (by decide) (hts (.fieldLink RX3 7 "BoardClockModel" "st" "[J") (List.mem_of_getElem? (i := 1) rfl)) (fun _ h9 => h9) rfl dX3_aim_7 ?_
  refine lv_iconst (v := (2 : Int32)) hx hb dX3_aim_10 (by decide) ?_
  refine zc_lald hx hb hK.1 hP 1 1 rfl rfl (j := 2) (zc_vin (by decide)) (by decide) dX3_aim_11 ?_
  refine lv_ladd hx hb dX3_aim_12 ?_
  exact W.lret hx hb hr (fun t ht hW => ⟨_, rfl, Option.some.inj hF, ht⟩) (fun _ h => by cases h) dX3_aim_13
def fX3_spread (u : zc_M) (a1 : Int32) : Option (Int64) := Option.bind (fX3_spanNow u) fun (r1 : Int32) => zc_in ((15 : Int32) + r1) 49 (Option.bind (fX3_down ((u.1 0 8) - (a1.toInt64 * (u.1 0 (((15 : Int32) + r1)).toNatClampNeg))) (16 : Int64)) fun (r3 : Int64) => some r3)
theorem iX3_spread_X3 : ∀ w ∈ wsX30, w ∈ wsX3_spread := fun _ h => List.mem_cons_of_mem _ (List.mem_append_right _ h)
set_option maxHeartbeats 4000000 in
set_option maxRecDepth 100000 in
theorem kX3_spread (l : Launch) (G : zc_G) (ma : Nat → Nat) {u : zc_M} {a1 : Int32} {r0 : Int64} (hF : fX3_spread u a1 = some r0) : Met l yX3_spread wsX3_spread ({ frames := 1, cells := 0, slots := 0, locals := 25 }) (zc_Pp G [.ref (ma 0), .int a1] (zc_mo G ma u)) (vp_Sl (fun r => r = r0)) 0 0 (fun _ => False) := by
  refine Met.ofW (cc := cX3_spread) (maxL := 2) (ret := (some .long)) (by decide) rfl ?_
  intro p e s m args below meth c s₁ B hml hv
  obtain ⟨rfl, hP, hK⟩ := hv
  have hx := B.exec
  have hb := B.bytes
  have hr := B.returns
  have hts := atoms_spec (ws := wsX3_spread) B.pre
  have hown : s.vm.findClass RX3 = some m.cls := findClass_of_methodNamed B.named
  have hlocks := B.notSynchronized
  have hl := lv_entry ([.ref (ma 0), .int a1]) (n := 2) (Nat.le_of_ble_eq_true rfl)
  rw [lg_entry_eq]
  generalize (lg_sl ([.ref (ma 0), .int a1]) ++ List.replicate (2 - (lg_sl ([.ref (ma 0), .int a1])).length) Slot.unset).toArray = ls at hl ⊢
  have hl : lv_has ls 2 [(0, .ref (ma 0)), (1, .int a1)] := hl
  refine lv_aload_n hx hb dX3_spread_0 rfl (lv_at hl 0 rfl) ?_
  refine va_get (D := G.1) (ci := 3) (C := RX3) (T := TX3) (N := 8) hx hb hts iX3_spread_X3 hown hK.1 hP 0 rfl rfl 0 (by decide) (hts (.fieldLink RX3 7 "BoardClockModel" "st" "[J") (List.mem_of_getElem? (i := 1) rfl)) (fun _ h9 => h9) rfl dX3_spread_1 ?_
  refine lv_bipush (v := (8 : Int32)) hx hb dX3_spread_4 (by decide) ?_
  refine zc_lald hx hb hK.1 hP 1 1 rfl rfl (j := 8) (zc_vin (by decide)) (by decide) dX3_spread_6 ?_
  refine lv_iload_n hx hb dX3_spread_7 rfl (lv_at hl 1 rfl) ?_
  refine lv_i2l hx hb dX3_spread_8 rfl ?_
  refine lv_aload_n hx hb dX3_spread_9 rfl (lv_at hl 0 rfl) ?_
  refine va_get (D := G.1) (ci := 3) (C := RX3) (T := TX3) (N := 8) hx hb hts iX3_spread_X3 hown hK.1 hP 0 rfl rfl 0 (by decide) (hts (.fieldLink RX3 7 "BoardClockModel" "st" "[J") (List.mem_of_getElem? (i := 1) rfl)) (fun _ h9 => h9) rfl dX3_spread_10 ?_
  refine lv_bipush (v := (15 : Int32)) hx hb dX3_spread_13 (by decide) ?_
  refine lv_aload_n hx hb dX3_spread_15 rfl (lv_at hl 0 rfl) ?_
  obtain ⟨r1, er1, hF⟩ := zc_bind hF
  refine zc_ci (va_runV (As := []) ⟨hx, hb, hml, hown, hts⟩ (kX3_spanNow l G ma er1) (cwV 0 hts gX3_spread_X3_spanNow rfl rfl rfl (by decide +kernel) ⟨Nat.le_of_ble_eq_true rfl, Nat.le_of_ble_eq_true rfl⟩) (zc_preV hK hP 0 rfl rfl) rfl rfl hl.1 rfl (lv_room (Nat.le_of_ble_eq_true rfl)) dX3_spread_16 ⟨Nat.le_of_ble_eq_true rfl, Nat.le_of_ble_eq_true rfl⟩) ?_
  refine lv_iadd hx hb dX3_spread_19 ?_
  obtain ⟨hi2, hF⟩ := zc_inE hF
  refine zc_lald hx hb hK.1 hP 1 1 rfl rfl hi2 rfl dX3_spread_20 ?_
  refine lv_lmul hx hb dX3_spread_21 ?_
  refine lv_lsub hx hb dX3_spread_22 ?_
  refine lv_ldc2 hx hb hown (hts (.constantLong RX3 45 (16)) (List.mem_of_getElem? (i := 2) rfl)) dX3_spread_23 ?_
  obtain ⟨r3, er3, hF⟩ := zc_bind hF
  refine zc_cl (va_runS (As := [.long _, .long _]) ⟨hx, hb, hml, hown, hts⟩ (kX3_down l G er3) (va_cwS 2 hts gX3_spread_X3_down rfl rfl rfl (by decide +kernel) ⟨Nat.le_of_ble_eq_true rfl, Nat.le_of_ble_eq_true rfl⟩) (zc_preS hK (show va_P G.1 vwCl [] _ from fun k q h => by simp at h)) rfl rfl hl.1 rfl (lv_room (Nat.le_of_ble_eq_true rfl)) dX3_spread_26 ⟨Nat.le_of_ble_eq_true rfl, Nat.le_of_ble_eq_true rfl⟩) ?_
  exact W.lret hx hb hr (fun t ht hW => ⟨_, rfl, Option.some.inj hF, ht⟩) (fun _ h => by cases h) dX3_spread_29
def fX3_restAfter (u : zc_M) (a1 : Int32) : Option (Int64) := Option.bind (fX3_spanNow u) fun (r1 : Int32) => zc_in ((15 : Int32) + r1) 49 (Option.bind (fX3_spread u a1) fun (r3 : Int64) => some (((u.1 0 8) - (a1.toInt64 * (u.1 0 (((15 : Int32) + r1)).toNatClampNeg))) - ((16 : Int64) * r3)))
theorem iX3_restAfter_X3 : ∀ w ∈ wsX30, w ∈ wsX3_restAfter := fun _ h => List.mem_cons_of_mem _ (List.mem_append_right _ h)
set_option maxHeartbeats 4000000 in
set_option maxRecDepth 100000 in
theorem kX3_restAfter (l : Launch) (G : zc_G) (ma : Nat → Nat) {u : zc_M} {a1 : Int32} {r0 : Int64} (hF : fX3_restAfter u a1 = some r0) : Met l yX3_restAfter wsX3_restAfter ({ frames := 2, cells := 0, slots := 0, locals := 46 }) (zc_Pp G [.ref (ma 0), .int a1] (zc_mo G ma u)) (vp_Sl (fun r => r = r0)) 0 0 (fun _ => False) := by
  refine Met.ofW (cc := cX3_restAfter) (maxL := 2) (ret := (some .long)) (by decide) rfl ?_
  intro p e s m args below meth c s₁ B hml hv
  obtain ⟨rfl, hP, hK⟩ := hv
  have hx := B.exec
  have hb := B.bytes
  have hr := B.returns
  have hts := atoms_spec (ws := wsX3_restAfter) B.pre
  have hown : s.vm.findClass RX3 = some m.cls := findClass_of_methodNamed B.named
  have hlocks := B.notSynchronized
  have hl := lv_entry ([.ref (ma 0), .int a1]) (n := 2) (Nat.le_of_ble_eq_true rfl)
  rw [lg_entry_eq]
  generalize (lg_sl ([.ref (ma 0), .int a1]) ++ List.replicate (2 - (lg_sl ([.ref (ma 0), .int a1])).length) Slot.unset).toArray = ls at hl ⊢
  have hl : lv_has ls 2 [(0, .ref (ma 0)), (1, .int a1)] := hl
  refine lv_aload_n hx hb dX3_restAfter_0 rfl (lv_at hl 0 rfl) ?_
  refine va_get (D := G.1) (ci := 3) (C := RX3) (T := TX3) (N := 8) hx hb hts iX3_restAfter_X3 hown hK.1 hP 0 rfl rfl 0 (by decide) (hts (.fieldLink RX3 7 "BoardClockModel" "st" "[J") (List.mem_of_getElem? (i := 1) rfl)) (fun _ h9 => h9) rfl dX3_restAfter_1 ?_
  refine lv_bipush (v := (8 : Int32)) hx hb dX3_restAfter_4 (by decide) ?_
  refine zc_lald hx hb hK.1 hP 1 1 rfl rfl (j := 8) (zc_vin (by decide)) (by decide) dX3_restAfter_6 ?_
  refine lv_iload_n hx hb dX3_restAfter_7 rfl (lv_at hl 1 rfl) ?_
  refine lv_i2l hx hb dX3_restAfter_8 rfl ?_
  refine lv_aload_n hx hb dX3_restAfter_9 rfl (lv_at hl 0 rfl) ?_
  refine va_get (D := G.1) (ci := 3) (C := RX3) (T := TX3) (N := 8) hx hb hts iX3_restAfter_X3 hown hK.1 hP 0 rfl rfl 0 (by decide) (hts (.fieldLink RX3 7 "BoardClockModel" "st" "[J") (List.mem_of_getElem? (i := 1) rfl)) (fun _ h9 => h9) rfl dX3_restAfter_10 ?_
  refine lv_bipush (v := (15 : Int32)) hx hb dX3_restAfter_13 (by decide) ?_
  refine lv_aload_n hx hb dX3_restAfter_15 rfl (lv_at hl 0 rfl) ?_
  obtain ⟨r1, er1, hF⟩ := zc_bind hF
  refine zc_ci (va_runV (As := []) ⟨hx, hb, hml, hown, hts⟩ (kX3_spanNow l G ma er1) (cwV 0 hts gX3_restAfter_X3_spanNow rfl rfl rfl (by decide +kernel) ⟨Nat.le_of_ble_eq_true rfl, Nat.le_of_ble_eq_true rfl⟩) (zc_preV hK hP 0 rfl rfl) rfl rfl hl.1 rfl (lv_room (Nat.le_of_ble_eq_true rfl)) dX3_restAfter_16 ⟨Nat.le_of_ble_eq_true rfl, Nat.le_of_ble_eq_true rfl⟩) ?_
  refine lv_iadd hx hb dX3_restAfter_19 ?_
  obtain ⟨hi2, hF⟩ := zc_inE hF
  refine zc_lald hx hb hK.1 hP 1 1 rfl rfl hi2 rfl dX3_restAfter_20 ?_
  refine lv_lmul hx hb dX3_restAfter_21 ?_
  refine lv_lsub hx hb dX3_restAfter_22 ?_
  refine lv_ldc2 hx hb hown (hts (.constantLong RX3 45 (16)) (List.mem_of_getElem? (i := 2) rfl)) dX3_restAfter_23 ?_
  refine lv_aload_n hx hb dX3_restAfter_26 rfl (lv_at hl 0 rfl) ?_
  refine lv_iload_n hx hb dX3_restAfter_27 rfl (lv_at hl 1 rfl) ?_
  obtain ⟨r3, er3, hF⟩ := zc_bind hF
  refine zc_cl (va_runV (As := [.int _]) ⟨hx, hb, hml, hown, hts⟩ (kX3_spread l G ma er3) (cwV 1 hts gX3_restAfter_X3_spread rfl rfl rfl (by decide +kernel) ⟨Nat.le_of_ble_eq_true rfl, Nat.le_of_ble_eq_true rfl⟩) (zc_preV hK hP 0 rfl rfl) rfl rfl hl.1 rfl (lv_room (Nat.le_of_ble_eq_true rfl)) dX3_restAfter_28 ⟨Nat.le_of_ble_eq_true rfl, Nat.le_of_ble_eq_true rfl⟩) ?_
  refine lv_lmul hx hb dX3_restAfter_31 ?_
  refine lv_lsub hx hb dX3_restAfter_32 ?_
  exact W.lret hx hb hr (fun t ht hW => ⟨_, rfl, Option.some.inj hF, ht⟩) (fun _ h => by cases h) dX3_restAfter_33
def fX3_gone (u : zc_M) (a1 : Int32) : Option (Int64) := Option.bind (fX3_size (u.1 0 2)) fun (r1 : Int64) => Option.bind (fX3_lesser r1 (a1.toInt64 * (u.1 0 9))) fun (r2 : Int64) => if 0 ≤ (lg_cmp (u.1 0 2) (0 : Int64)) then (some r2) else (some (-r2))
theorem iX3_gone_X3 : ∀ w ∈ wsX30, w ∈ wsX3_gone := fun _ h => List.mem_cons_of_mem _ (List.mem_append_right _ h)
set_option maxHeartbeats 4000000 in
set_option maxRecDepth 100000 in
theorem kX3_gone (l : Launch) (G : zc_G) (ma : Nat → Nat) {u : zc_M} {a1 : Int32} {r0 : Int64} (hF : fX3_gone u a1 = some r0) : Met l yX3_gone wsX3_gone ({ frames := 1, cells := 0, slots := 0, locals := 23 }) (zc_Pp G [.ref (ma 0), .int a1] (zc_mo G ma u)) (vp_Sl (fun r => r = r0)) 0 0 (fun _ => False) := by
  refine Met.ofW (cc := cX3_gone) (maxL := 4) (ret := (some .long)) (by decide) rfl ?_
  intro p e s m args below meth c s₁ B hml hv
  obtain ⟨rfl, hP, hK⟩ := hv
  have hx := B.exec
  have hb := B.bytes
  have hr := B.returns
  have hts := atoms_spec (ws := wsX3_gone) B.pre
  have hown : s.vm.findClass RX3 = some m.cls := findClass_of_methodNamed B.named
  have hlocks := B.notSynchronized
  have hl := lv_entry ([.ref (ma 0), .int a1]) (n := 4) (Nat.le_of_ble_eq_true rfl)
  rw [lg_entry_eq]
  generalize (lg_sl ([.ref (ma 0), .int a1]) ++ List.replicate (4 - (lg_sl ([.ref (ma 0), .int a1])).length) Slot.unset).toArray = ls at hl ⊢
  have hl : lv_has ls 4 [(0, .ref (ma 0)), (1, .int a1)] := hl
  refine lv_aload_n hx hb dX3_gone_0 rfl (lv_at hl 0 rfl) ?_
  refine va_get (D := G.1) (ci := 3) (C := RX3) (T := TX3) (N := 8) hx hb hts iX3_gone_X3 hown hK.1 hP 0 rfl rfl 0 (by decide) (hts (.fieldLink RX3 7 "BoardClockModel" "st" "[J") (List.mem_of_getElem? (i := 1) rfl)) (fun _ h9 => h9) rfl dX3_gone_1 ?_
  refine lv_iconst (v := (2 : Int32)) hx hb dX3_gone_4 (by decide) ?_
  refine zc_lald hx hb hK.1 hP 1 1 rfl rfl (j := 2) (zc_vin (by decide)) (by decide) dX3_gone_5 ?_
  obtain ⟨r1, er1, hF⟩ := zc_bind hF
  refine zc_cl (va_runS (As := [.long _]) ⟨hx, hb, hml, hown, hts⟩ (kX3_size l G er1) (va_cwS 1 hts gX3_gone_X3_size rfl rfl rfl (by decide +kernel) ⟨Nat.le_of_ble_eq_true rfl, Nat.le_of_ble_eq_true rfl⟩) (zc_preS hK (show va_P G.1 vwCl [] _ from fun k q h => by simp at h)) rfl rfl hl.1 rfl (lv_room (Nat.le_of_ble_eq_true rfl)) dX3_gone_6 ⟨Nat.le_of_ble_eq_true rfl, Nat.le_of_ble_eq_true rfl⟩) ?_
  refine lv_iload_n hx hb dX3_gone_9 rfl (lv_at hl 1 rfl) ?_
  refine lv_i2l hx hb dX3_gone_10 rfl ?_
  refine lv_aload_n hx hb dX3_gone_11 rfl (lv_at hl 0 rfl) ?_
  refine va_get (D := G.1) (ci := 3) (C := RX3) (T := TX3) (N := 8) hx hb hts iX3_gone_X3 hown hK.1 hP 0 rfl rfl 0 (by decide) (hts (.fieldLink RX3 7 "BoardClockModel" "st" "[J") (List.mem_of_getElem? (i := 1) rfl)) (fun _ h9 => h9) rfl dX3_gone_12 ?_
  refine lv_bipush (v := (9 : Int32)) hx hb dX3_gone_15 (by decide) ?_
  refine zc_lald hx hb hK.1 hP 1 1 rfl rfl (j := 9) (zc_vin (by decide)) (by decide) dX3_gone_17 ?_
  refine lv_lmul hx hb dX3_gone_18 ?_
  obtain ⟨r2, er2, hF⟩ := zc_bind hF
  refine zc_cl (va_runS (As := [.long _, .long _]) ⟨hx, hb, hml, hown, hts⟩ (kX3_lesser l G er2) (va_cwS 2 hts gX3_gone_X3_lesser rfl rfl rfl (by decide +kernel) ⟨Nat.le_of_ble_eq_true rfl, Nat.le_of_ble_eq_true rfl⟩) (zc_preS hK (show va_P G.1 vwCl [] _ from fun k q h => by simp at h)) rfl rfl hl.1 rfl (lv_room (Nat.le_of_ble_eq_true rfl)) dX3_gone_19 ⟨Nat.le_of_ble_eq_true rfl, Nat.le_of_ble_eq_true rfl⟩) ?_
  refine lv_lstore_n (lv' := [(2, .long r2), (0, .ref (ma 0)), (1, .int a1)]) hx hb dX3_gone_22 rfl hl (by decide) rfl (fun ls hl => ?_)
  refine lv_aload_n hx hb dX3_gone_23 rfl (lv_at hl 1 rfl) ?_
  refine va_get (D := G.1) (ci := 3) (C := RX3) (T := TX3) (N := 8) hx hb hts iX3_gone_X3 hown hK.1 hP 0 rfl rfl 0 (by decide) (hts (.fieldLink RX3 7 "BoardClockModel" "st" "[J") (List.mem_of_getElem? (i := 1) rfl)) (fun _ h9 => h9) rfl dX3_gone_24 ?_
  refine lv_iconst (v := (2 : Int32)) hx hb dX3_gone_27 (by decide) ?_
  refine zc_lald hx hb hK.1 hP 1 1 rfl rfl (j := 2) (zc_vin (by decide)) (by decide) dX3_gone_28 ?_
  refine lv_lconst (v := (0 : Int64)) hx hb dX3_gone_29 (by decide) ?_
  refine W.lcmp hx hb dX3_gone_30 ?_
  refine lv_if_ge (tgt := 39) hx hb dX3_gone_31 (by decide) (fun c3 => ?_) (fun c3 => ?_)
  · have hF := zc_pos c3 hF
    refine lv_lload_n hx hb dX3_gone_39 rfl (lv_at hl 0 rfl) ?_
    exact W.lret hx hb hr (fun t ht hW => ⟨_, rfl, Option.some.inj hF, ht⟩) (fun _ h => by cases h) dX3_gone_40
  · have hF := zc_neg c3 hF
    refine lv_lload_n hx hb dX3_gone_34 rfl (lv_at hl 0 rfl) ?_
    refine lv_lneg hx hb dX3_gone_35 ?_
    refine lv_goto (tgt := 40) hx hb dX3_gone_36 (by decide) ?_
    exact W.lret hx hb hr (fun t ht hW => ⟨_, rfl, Option.some.inj hF, ht⟩) (fun _ h => by cases h) dX3_gone_40
def fX3_boardAfter (u : zc_M) (a1 : Int32) : Option (Int64) := Option.bind (fX3_offAt u (u.1 0 4)) fun (r1 : Int64) => zc_let ((u.1 0 1) + (a1.toInt64 * ((60000 : Int64) + r1))) fun (x2 : Int64) => if (lg_cmp (u.1 0 11) (1 : Int64)) = 0 then (Option.bind (fX3_spread u a1) fun (r4 : Int64) => Option.bind (fX3_gone u a1) fun (r5 : Int64) => some ((x2 + r4) + r5)) else (some x2)
theorem iX3_boardAfter_X3 : ∀ w ∈ wsX30, w ∈ wsX3_boardAfter := fun _ h => List.mem_cons_of_mem _ (List.mem_append_right _ h)
set_option maxHeartbeats 4000000 in
set_option maxRecDepth 100000 in
theorem kX3_boardAfter (l : Launch) (G : zc_G) (ma : Nat → Nat) {u : zc_M} {a1 : Int32} {r0 : Int64} (hF : fX3_boardAfter u a1 = some r0) : Met l yX3_boardAfter wsX3_boardAfter ({ frames := 2, cells := 0, slots := 0, locals := 46 }) (zc_Pp G [.ref (ma 0), .int a1] (zc_mo G ma u)) (vp_Sl (fun r => r = r0)) 0 0 (fun _ => False) := by
  refine Met.ofW (cc := cX3_boardAfter) (maxL := 4) (ret := (some .long)) (by decide) rfl ?_
  intro p e s m args below meth c s₁ B hml hv
  obtain ⟨rfl, hP, hK⟩ := hv
  have hx := B.exec
  have hb := B.bytes
  have hr := B.returns
  have hts := atoms_spec (ws := wsX3_boardAfter) B.pre
  have hown : s.vm.findClass RX3 = some m.cls := findClass_of_methodNamed B.named
  have hlocks := B.notSynchronized
  have hl := lv_entry ([.ref (ma 0), .int a1]) (n := 4) (Nat.le_of_ble_eq_true rfl)
  rw [lg_entry_eq]
  generalize (lg_sl ([.ref (ma 0), .int a1]) ++ List.replicate (4 - (lg_sl ([.ref (ma 0), .int a1])).length) Slot.unset).toArray = ls at hl ⊢
  have hl : lv_has ls 4 [(0, .ref (ma 0)), (1, .int a1)] := hl
  refine lv_aload_n hx hb dX3_boardAfter_0 rfl (lv_at hl 0 rfl) ?_
  refine va_get (D := G.1) (ci := 3) (C := RX3) (T := TX3) (N := 8) hx hb hts iX3_boardAfter_X3 hown hK.1 hP 0 rfl rfl 0 (by decide) (hts (.fieldLink RX3 7 "BoardClockModel" "st" "[J") (List.mem_of_getElem? (i := 1) rfl)) (fun _ h9 => h9) rfl dX3_boardAfter_1 ?_
  refine lv_iconst (v := (1 : Int32)) hx hb dX3_boardAfter_4 (by decide) ?_
  refine zc_lald hx hb hK.1 hP 1 1 rfl rfl (j := 1) (zc_vin (by decide)) (by decide) dX3_boardAfter_5 ?_
  refine lv_iload_n hx hb dX3_boardAfter_6 rfl (lv_at hl 1 rfl) ?_
  refine lv_i2l hx hb dX3_boardAfter_7 rfl ?_
  refine lv_ldc2 hx hb hown (hts (.constantLong RX3 62 (60000)) (List.mem_of_getElem? (i := 2) rfl)) dX3_boardAfter_8 ?_
  refine lv_aload_n hx hb dX3_boardAfter_11 rfl (lv_at hl 0 rfl) ?_
  refine lv_aload_n hx hb dX3_boardAfter_12 rfl (lv_at hl 0 rfl) ?_
  refine va_get (D := G.1) (ci := 3) (C := RX3) (T := TX3) (N := 8) hx hb hts iX3_boardAfter_X3 hown hK.1 hP 0 rfl rfl 0 (by decide) (hts (.fieldLink RX3 7 "BoardClockModel" "st" "[J") (List.mem_of_getElem? (i := 1) rfl)) (fun _ h9 => h9) rfl dX3_boardAfter_13 ?_
  refine lv_iconst (v := (4 : Int32)) hx hb dX3_boardAfter_16 (by decide) ?_
  refine zc_lald hx hb hK.1 hP 1 1 rfl rfl (j := 4) (zc_vin (by decide)) (by decide) dX3_boardAfter_17 ?_
  obtain ⟨r1, er1, hF⟩ := zc_bind hF
  refine zc_cl (va_runV (As := [.long _]) ⟨hx, hb, hml, hown, hts⟩ (kX3_offAt l G ma er1) (cwV 1 hts gX3_boardAfter_X3_offAt rfl rfl rfl (by decide +kernel) ⟨Nat.le_of_ble_eq_true rfl, Nat.le_of_ble_eq_true rfl⟩) (zc_preV hK hP 0 rfl rfl) rfl rfl hl.1 rfl (lv_room (Nat.le_of_ble_eq_true rfl)) dX3_boardAfter_18 ⟨Nat.le_of_ble_eq_true rfl, Nat.le_of_ble_eq_true rfl⟩) ?_
  refine lv_ladd hx hb dX3_boardAfter_21 ?_
  refine lv_lmul hx hb dX3_boardAfter_22 ?_
  refine lv_ladd hx hb dX3_boardAfter_23 ?_
  refine lv_topl (fun x2 ex2 => ?_)
  have hF := zc_letE ex2 hF
  refine lv_lstore_n (lv' := [(2, .long x2), (0, .ref (ma 0)), (1, .int a1)]) hx hb dX3_boardAfter_24 rfl hl (by decide) rfl (fun ls hl => ?_)
  refine lv_aload_n hx hb dX3_boardAfter_25 rfl (lv_at hl 1 rfl) ?_
  refine va_get (D := G.1) (ci := 3) (C := RX3) (T := TX3) (N := 8) hx hb hts iX3_boardAfter_X3 hown hK.1 hP 0 rfl rfl 0 (by decide) (hts (.fieldLink RX3 7 "BoardClockModel" "st" "[J") (List.mem_of_getElem? (i := 1) rfl)) (fun _ h9 => h9) rfl dX3_boardAfter_26 ?_
  refine lv_bipush (v := (11 : Int32)) hx hb dX3_boardAfter_29 (by decide) ?_
  refine zc_lald hx hb hK.1 hP 1 1 rfl rfl (j := 11) (zc_vin (by decide)) (by decide) dX3_boardAfter_31 ?_
  refine lv_lconst (v := (1 : Int64)) hx hb dX3_boardAfter_32 (by decide) ?_
  refine W.lcmp hx hb dX3_boardAfter_33 ?_
  refine lv_if_ne (tgt := 53) hx hb dX3_boardAfter_34 (by decide) (fun c3 => ?_) (fun c3 => ?_)
  · have hF := zc_neg c3 hF
    refine lv_lload_n hx hb dX3_boardAfter_53 rfl (lv_at hl 0 rfl) ?_
    exact W.lret hx hb hr (fun t ht hW => ⟨_, rfl, Option.some.inj hF, ht⟩) (fun _ h => by cases h) dX3_boardAfter_54
  · have hF := zc_pos c3 hF
    refine lv_lload_n hx hb dX3_boardAfter_37 rfl (lv_at hl 0 rfl) ?_
    refine lv_aload_n hx hb dX3_boardAfter_38 rfl (lv_at hl 1 rfl) ?_
    refine lv_iload_n hx hb dX3_boardAfter_39 rfl (lv_at hl 2 rfl) ?_
    obtain ⟨r4, er4, hF⟩ := zc_bind hF
    refine zc_cl (va_runV (As := [.int _]) ⟨hx, hb, hml, hown, hts⟩ (kX3_spread l G ma er4) (cwV 1 hts gX3_boardAfter_X3_spread rfl rfl rfl (by decide +kernel) ⟨Nat.le_of_ble_eq_true rfl, Nat.le_of_ble_eq_true rfl⟩) (zc_preV hK hP 0 rfl rfl) rfl rfl hl.1 rfl (lv_room (Nat.le_of_ble_eq_true rfl)) dX3_boardAfter_40 ⟨Nat.le_of_ble_eq_true rfl, Nat.le_of_ble_eq_true rfl⟩) ?_
    refine lv_ladd hx hb dX3_boardAfter_43 ?_
    refine lv_aload_n hx hb dX3_boardAfter_44 rfl (lv_at hl 1 rfl) ?_
    refine lv_iload_n hx hb dX3_boardAfter_45 rfl (lv_at hl 2 rfl) ?_
    obtain ⟨r5, er5, hF⟩ := zc_bind hF
    refine zc_cl (va_runV (As := [.int _]) ⟨hx, hb, hml, hown, hts⟩ (kX3_gone l G ma er5) (cwV 1 hts gX3_boardAfter_X3_gone rfl rfl rfl (by decide +kernel) ⟨Nat.le_of_ble_eq_true rfl, Nat.le_of_ble_eq_true rfl⟩) (zc_preV hK hP 0 rfl rfl) rfl rfl hl.1 rfl (lv_room (Nat.le_of_ble_eq_true rfl)) dX3_boardAfter_46 ⟨Nat.le_of_ble_eq_true rfl, Nat.le_of_ble_eq_true rfl⟩) ?_
    refine lv_ladd hx hb dX3_boardAfter_49 ?_
    refine lv_goto (tgt := 54) hx hb dX3_boardAfter_50 (by decide) ?_
    exact W.lret hx hb hr (fun t ht hW => ⟨_, rfl, Option.some.inj hF, ht⟩) (fun _ h => by cases h) dX3_boardAfter_54
def fX3_wider (u : zc_M) : Option (Int64) := if (lg_cmp (u.1 0 11) (1 : Int64)) = 0 then (some (u.1 0 10)) else (some ((4 : Int64) * (u.1 0 10)))
theorem iX3_wider_X3 : ∀ w ∈ wsX30, w ∈ wsX3_wider := fun _ h => List.mem_cons_of_mem _ (List.mem_append_right _ h)
set_option maxHeartbeats 4000000 in
set_option maxRecDepth 100000 in
theorem kX3_wider (l : Launch) (G : zc_G) (ma : Nat → Nat) {u : zc_M} {r0 : Int64} (hF : fX3_wider u = some r0) : Met l yX3_wider wsX3_wider ({ frames := 0, cells := 0, slots := 0, locals := 0 }) (zc_Pp G [.ref (ma 0)] (zc_mo G ma u)) (vp_Sl (fun r => r = r0)) 0 0 (fun _ => False) := by
  refine Met.ofW (cc := cX3_wider) (maxL := 1) (ret := (some .long)) (by decide) rfl ?_
  intro p e s m args below meth c s₁ B hml hv
  obtain ⟨rfl, hP, hK⟩ := hv
  have hx := B.exec
  have hb := B.bytes
  have hr := B.returns
  have hts := atoms_spec (ws := wsX3_wider) B.pre
  have hown : s.vm.findClass RX3 = some m.cls := findClass_of_methodNamed B.named
  have hlocks := B.notSynchronized
  have hl := lv_entry ([.ref (ma 0)]) (n := 1) (Nat.le_of_ble_eq_true rfl)
  rw [lg_entry_eq]
  generalize (lg_sl ([.ref (ma 0)]) ++ List.replicate (1 - (lg_sl ([.ref (ma 0)])).length) Slot.unset).toArray = ls at hl ⊢
  have hl : lv_has ls 1 [(0, .ref (ma 0))] := hl
  refine lv_aload_n hx hb dX3_wider_0 rfl (lv_at hl 0 rfl) ?_
  refine va_get (D := G.1) (ci := 3) (C := RX3) (T := TX3) (N := 8) hx hb hts iX3_wider_X3 hown hK.1 hP 0 rfl rfl 0 (by decide) (hts (.fieldLink RX3 7 "BoardClockModel" "st" "[J") (List.mem_of_getElem? (i := 1) rfl)) (fun _ h9 => h9) rfl dX3_wider_1 ?_
  refine lv_bipush (v := (11 : Int32)) hx hb dX3_wider_4 (by decide) ?_
  refine zc_lald hx hb hK.1 hP 1 1 rfl rfl (j := 11) (zc_vin (by decide)) (by decide) dX3_wider_6 ?_
  refine lv_lconst (v := (1 : Int64)) hx hb dX3_wider_7 (by decide) ?_
  refine W.lcmp hx hb dX3_wider_8 ?_
  refine lv_if_ne (tgt := 22) hx hb dX3_wider_9 (by decide) (fun c1 => ?_) (fun c1 => ?_)
  · have hF := zc_neg c1 hF
    refine lv_ldc2 hx hb hown (hts (.constantLong RX3 70 (4)) (List.mem_of_getElem? (i := 2) rfl)) dX3_wider_22 ?_
    refine lv_aload_n hx hb dX3_wider_25 rfl (lv_at hl 0 rfl) ?_
    refine va_get (D := G.1) (ci := 3) (C := RX3) (T := TX3) (N := 8) hx hb hts iX3_wider_X3 hown hK.1 hP 0 rfl rfl 0 (by decide) (hts (.fieldLink RX3 7 "BoardClockModel" "st" "[J") (List.mem_of_getElem? (i := 1) rfl)) (fun _ h9 => h9) rfl dX3_wider_26 ?_
    refine lv_bipush (v := (10 : Int32)) hx hb dX3_wider_29 (by decide) ?_
    refine zc_lald hx hb hK.1 hP 1 1 rfl rfl (j := 10) (zc_vin (by decide)) (by decide) dX3_wider_31 ?_
    refine lv_lmul hx hb dX3_wider_32 ?_
    exact W.lret hx hb hr (fun t ht hW => ⟨_, rfl, Option.some.inj hF, ht⟩) (fun _ h => by cases h) dX3_wider_33
  · have hF := zc_pos c1 hF
    refine lv_aload_n hx hb dX3_wider_12 rfl (lv_at hl 0 rfl) ?_
    refine va_get (D := G.1) (ci := 3) (C := RX3) (T := TX3) (N := 8) hx hb hts iX3_wider_X3 hown hK.1 hP 0 rfl rfl 0 (by decide) (hts (.fieldLink RX3 7 "BoardClockModel" "st" "[J") (List.mem_of_getElem? (i := 1) rfl)) (fun _ h9 => h9) rfl dX3_wider_13 ?_
    refine lv_bipush (v := (10 : Int32)) hx hb dX3_wider_16 (by decide) ?_
    refine zc_lald hx hb hK.1 hP 1 1 rfl rfl (j := 10) (zc_vin (by decide)) (by decide) dX3_wider_18 ?_
    refine lv_goto (tgt := 33) hx hb dX3_wider_19 (by decide) ?_
    exact W.lret hx hb hr (fun t ht hW => ⟨_, rfl, Option.some.inj hF, ht⟩) (fun _ h => by cases h) dX3_wider_33
def fX3_fits (u : zc_M) (a1 : Int32) (a2 : Int64) : Option (Int32) := zc_let ((25 : Int32) + ((4 : Int32) * a1)) fun (x1 : Int32) => zc_in x1 49 (Option.bind (fX3_fitsIn (u.1 0 x1.toNatClampNeg) (a2 - a2 / (60 : Int64) * (60 : Int64))) fun (r3 : Int32) => if r3 = 0 then (some (0 : Int32)) else (zc_in (x1 + (1 : Int32)) 49 (Option.bind (fX3_fitsIn (u.1 0 ((x1 + (1 : Int32))).toNatClampNeg) ((a2 / (60 : Int64)) - (a2 / (60 : Int64)) / (24 : Int64) * (24 : Int64))) fun (r6 : Int32) => if r6 = 0 then (some (0 : Int32)) else (zc_in (x1 + (2 : Int32)) 49 (Option.bind (fX3_fitsIn (u.1 0 ((x1 + (2 : Int32))).toNatClampNeg) ((a2 / (1440 : Int64)) - (a2 / (1440 : Int64)) / (7 : Int64) * (7 : Int64))) fun (r9 : Int32) => if r9 = 0 then (some (0 : Int32)) else (some (1 : Int32)))))))
theorem iX3_fits_X3 : ∀ w ∈ wsX30, w ∈ wsX3_fits := fun _ h => List.mem_cons_of_mem _ (List.mem_append_right _ h)
set_option maxHeartbeats 4000000 in
set_option maxRecDepth 100000 in
theorem kX3_fits (l : Launch) (G : zc_G) (ma : Nat → Nat) {u : zc_M} {a1 : Int32} {a2 : Int64} {r0 : Int32} (hF : fX3_fits u a1 a2 = some r0) : Met l yX3_fits wsX3_fits ({ frames := 1, cells := 0, slots := 0, locals := 23 }) (zc_Pp G [.ref (ma 0), .int a1, .long a2] (zc_mo G ma u)) (vp_Si (fun r => r = r0)) 0 0 (fun _ => False) := by
  refine Met.ofW (cc := cX3_fits) (maxL := 5) (ret := (some .boolean)) (by decide) rfl ?_
  intro p e s m args below meth c s₁ B hml hv
  obtain ⟨rfl, hP, hK⟩ := hv
  have hx := B.exec
  have hb := B.bytes
  have hr := B.returns
  have hts := atoms_spec (ws := wsX3_fits) B.pre
  have hown : s.vm.findClass RX3 = some m.cls := findClass_of_methodNamed B.named
  have hlocks := B.notSynchronized
  have hl := lv_entry ([.ref (ma 0), .int a1, .long a2]) (n := 5) (Nat.le_of_ble_eq_true rfl)
  rw [lg_entry_eq]
  generalize (lg_sl ([.ref (ma 0), .int a1, .long a2]) ++ List.replicate (5 - (lg_sl ([.ref (ma 0), .int a1, .long a2])).length) Slot.unset).toArray = ls at hl ⊢
  have hl : lv_has ls 5 [(0, .ref (ma 0)), (1, .int a1), (2, .long a2)] := hl
  refine lv_bipush (v := (25 : Int32)) hx hb dX3_fits_0 (by decide) ?_
  refine lv_iconst (v := (4 : Int32)) hx hb dX3_fits_2 (by decide) ?_
  refine lv_iload_n hx hb dX3_fits_3 rfl (lv_at hl 1 rfl) ?_
  refine lv_imul hx hb dX3_fits_4 ?_
  refine lv_iadd hx hb dX3_fits_5 ?_
  refine lv_topi (fun x1 ex1 => ?_)
  have hF := zc_letE ex1 hF
  refine lv_istore (lv' := [(4, .int x1), (0, .ref (ma 0)), (1, .int a1), (2, .long a2)]) hx hb dX3_fits_6 hl (by decide) rfl (fun ls hl => ?_)
  refine lv_aload_n hx hb dX3_fits_8 rfl (lv_at hl 1 rfl) ?_
  refine va_get (D := G.1) (ci := 3) (C := RX3) (T := TX3) (N := 8) hx hb hts iX3_fits_X3 hown hK.1 hP 0 rfl rfl 0 (by decide) (hts (.fieldLink RX3 7 "BoardClockModel" "st" "[J") (List.mem_of_getElem? (i := 1) rfl)) (fun _ h9 => h9) rfl dX3_fits_9 ?_
  refine lv_iload hx hb dX3_fits_12 (lv_at hl 0 rfl) ?_
  obtain ⟨hi2, hF⟩ := zc_inE hF
  refine zc_lald hx hb hK.1 hP 1 1 rfl rfl hi2 rfl dX3_fits_14 ?_
  refine lv_lload_n hx hb dX3_fits_15 rfl (lv_at hl 3 rfl) ?_
  refine lv_ldc2 hx hb hown (hts (.constantLong RX3 72 (60)) (List.mem_of_getElem? (i := 2) rfl)) dX3_fits_16 ?_
  refine lv_lrem hx hb dX3_fits_19 (by decide) ?_
  obtain ⟨r3, er3, hF⟩ := zc_bind hF
  refine zc_ci (va_runS (As := [.long _, .long _]) ⟨hx, hb, hml, hown, hts⟩ (kX3_fitsIn l G er3) (va_cwS 2 hts gX3_fits_X3_fitsIn rfl rfl rfl (by decide +kernel) ⟨Nat.le_of_ble_eq_true rfl, Nat.le_of_ble_eq_true rfl⟩) (zc_preS hK (show va_P G.1 vwCl [] _ from fun k q h => by simp at h)) rfl rfl hl.1 rfl (lv_room (Nat.le_of_ble_eq_true rfl)) dX3_fits_20 ⟨Nat.le_of_ble_eq_true rfl, Nat.le_of_ble_eq_true rfl⟩) ?_
  refine lv_if_eq (tgt := 78) hx hb dX3_fits_23 (by decide) (fun c4 => ?_) (fun c4 => ?_)
  · have hF := zc_pos c4 hF
    refine lv_iconst (v := (0 : Int32)) hx hb dX3_fits_78 (by decide) ?_
    exact W.zret hx hb hr (by decide) (fun t ht hW => ⟨_, rfl, Option.some.inj hF, ht⟩) (fun _ h => by cases h) dX3_fits_79
  · have hF := zc_neg c4 hF
    refine lv_aload_n hx hb dX3_fits_26 rfl (lv_at hl 1 rfl) ?_
    refine va_get (D := G.1) (ci := 3) (C := RX3) (T := TX3) (N := 8) hx hb hts iX3_fits_X3 hown hK.1 hP 0 rfl rfl 0 (by decide) (hts (.fieldLink RX3 7 "BoardClockModel" "st" "[J") (List.mem_of_getElem? (i := 1) rfl)) (fun _ h9 => h9) rfl dX3_fits_27 ?_
    refine lv_iload hx hb dX3_fits_30 (lv_at hl 0 rfl) ?_
    refine lv_iconst (v := (1 : Int32)) hx hb dX3_fits_32 (by decide) ?_
    refine lv_iadd hx hb dX3_fits_33 ?_
    obtain ⟨hi5, hF⟩ := zc_inE hF
    refine zc_lald hx hb hK.1 hP 1 1 rfl rfl hi5 rfl dX3_fits_34 ?_
    refine lv_lload_n hx hb dX3_fits_35 rfl (lv_at hl 3 rfl) ?_
    refine lv_ldc2 hx hb hown (hts (.constantLong RX3 72 (60)) (List.mem_of_getElem? (i := 2) rfl)) dX3_fits_36 ?_
    refine lv_ldiv hx hb dX3_fits_39 (by decide) ?_
    refine lv_ldc2 hx hb hown (hts (.constantLong RX3 78 (24)) (List.mem_of_getElem? (i := 3) rfl)) dX3_fits_40 ?_
    refine lv_lrem hx hb dX3_fits_43 (by decide) ?_
    obtain ⟨r6, er6, hF⟩ := zc_bind hF
    refine zc_ci (va_runS (As := [.long _, .long _]) ⟨hx, hb, hml, hown, hts⟩ (kX3_fitsIn l G er6) (va_cwS 2 hts gX3_fits_X3_fitsIn rfl rfl rfl (by decide +kernel) ⟨Nat.le_of_ble_eq_true rfl, Nat.le_of_ble_eq_true rfl⟩) (zc_preS hK (show va_P G.1 vwCl [] _ from fun k q h => by simp at h)) rfl rfl hl.1 rfl (lv_room (Nat.le_of_ble_eq_true rfl)) dX3_fits_44 ⟨Nat.le_of_ble_eq_true rfl, Nat.le_of_ble_eq_true rfl⟩) ?_
    refine lv_if_eq (tgt := 78) hx hb dX3_fits_47 (by decide) (fun c7 => ?_) (fun c7 => ?_)
    · have hF := zc_pos c7 hF
      refine lv_iconst (v := (0 : Int32)) hx hb dX3_fits_78 (by decide) ?_
      exact W.zret hx hb hr (by decide) (fun t ht hW => ⟨_, rfl, Option.some.inj hF, ht⟩) (fun _ h => by cases h) dX3_fits_79
    · have hF := zc_neg c7 hF
      refine lv_aload_n hx hb dX3_fits_50 rfl (lv_at hl 1 rfl) ?_
      refine va_get (D := G.1) (ci := 3) (C := RX3) (T := TX3) (N := 8) hx hb hts iX3_fits_X3 hown hK.1 hP 0 rfl rfl 0 (by decide) (hts (.fieldLink RX3 7 "BoardClockModel" "st" "[J") (List.mem_of_getElem? (i := 1) rfl)) (fun _ h9 => h9) rfl dX3_fits_51 ?_
      refine lv_iload hx hb dX3_fits_54 (lv_at hl 0 rfl) ?_
      refine lv_iconst (v := (2 : Int32)) hx hb dX3_fits_56 (by decide) ?_
      refine lv_iadd hx hb dX3_fits_57 ?_
      obtain ⟨hi8, hF⟩ := zc_inE hF
      refine zc_lald hx hb hK.1 hP 1 1 rfl rfl hi8 rfl dX3_fits_58 ?_
      refine lv_lload_n hx hb dX3_fits_59 rfl (lv_at hl 3 rfl) ?_
      refine lv_ldc2 hx hb hown (hts (.constantLong RX3 80 (1440)) (List.mem_of_getElem? (i := 4) rfl)) dX3_fits_60 ?_
      refine lv_ldiv hx hb dX3_fits_63 (by decide) ?_
      refine lv_ldc2 hx hb hown (hts (.constantLong RX3 82 (7)) (List.mem_of_getElem? (i := 5) rfl)) dX3_fits_64 ?_
      refine lv_lrem hx hb dX3_fits_67 (by decide) ?_
      obtain ⟨r9, er9, hF⟩ := zc_bind hF
      refine zc_ci (va_runS (As := [.long _, .long _]) ⟨hx, hb, hml, hown, hts⟩ (kX3_fitsIn l G er9) (va_cwS 2 hts gX3_fits_X3_fitsIn rfl rfl rfl (by decide +kernel) ⟨Nat.le_of_ble_eq_true rfl, Nat.le_of_ble_eq_true rfl⟩) (zc_preS hK (show va_P G.1 vwCl [] _ from fun k q h => by simp at h)) rfl rfl hl.1 rfl (lv_room (Nat.le_of_ble_eq_true rfl)) dX3_fits_68 ⟨Nat.le_of_ble_eq_true rfl, Nat.le_of_ble_eq_true rfl⟩) ?_
      refine lv_if_eq (tgt := 78) hx hb dX3_fits_71 (by decide) (fun c10 => ?_) (fun c10 => ?_)
      · have hF := zc_pos c10 hF
        refine lv_iconst (v := (0 : Int32)) hx hb dX3_fits_78 (by decide) ?_
        exact W.zret hx hb hr (by decide) (fun t ht hW => ⟨_, rfl, Option.some.inj hF, ht⟩) (fun _ h => by cases h) dX3_fits_79
      · have hF := zc_neg c10 hF
        refine lv_iconst (v := (1 : Int32)) hx hb dX3_fits_74 (by decide) ?_
        refine lv_goto (tgt := 79) hx hb dX3_fits_75 (by decide) ?_
        exact W.zret hx hb hr (by decide) (fun t ht hW => ⟨_, rfl, Option.some.inj hF, ht⟩) (fun _ h => by cases h) dX3_fits_79
def fX3_minuteNow (u : zc_M) : Option (Int64) := some ((u.1 0 1) / (60000 : Int64))
theorem iX3_minuteNow_X3 : ∀ w ∈ wsX30, w ∈ wsX3_minuteNow := fun _ h => List.mem_cons_of_mem _ (List.mem_append_right _ h)
set_option maxHeartbeats 4000000 in
set_option maxRecDepth 100000 in
theorem kX3_minuteNow (l : Launch) (G : zc_G) (ma : Nat → Nat) {u : zc_M} {r0 : Int64} (hF : fX3_minuteNow u = some r0) : Met l yX3_minuteNow wsX3_minuteNow ({ frames := 0, cells := 0, slots := 0, locals := 0 }) (zc_Pp G [.ref (ma 0)] (zc_mo G ma u)) (vp_Sl (fun r => r = r0)) 0 0 (fun _ => False) := by
  refine Met.ofW (cc := cX3_minuteNow) (maxL := 1) (ret := (some .long)) (by decide) rfl ?_
  intro p e s m args below meth c s₁ B hml hv
  obtain ⟨rfl, hP, hK⟩ := hv
  have hx := B.exec
  have hb := B.bytes
  have hr := B.returns
  have hts := atoms_spec (ws := wsX3_minuteNow) B.pre
  have hown : s.vm.findClass RX3 = some m.cls := findClass_of_methodNamed B.named
  have hlocks := B.notSynchronized
  have hl := lv_entry ([.ref (ma 0)]) (n := 1) (Nat.le_of_ble_eq_true rfl)
  rw [lg_entry_eq]
  generalize (lg_sl ([.ref (ma 0)]) ++ List.replicate (1 - (lg_sl ([.ref (ma 0)])).length) Slot.unset).toArray = ls at hl ⊢
  have hl : lv_has ls 1 [(0, .ref (ma 0))] := hl
  refine lv_aload_n hx hb dX3_minuteNow_0 rfl (lv_at hl 0 rfl) ?_
  refine va_get (D := G.1) (ci := 3) (C := RX3) (T := TX3) (N := 8) hx hb hts iX3_minuteNow_X3 hown hK.1 hP 0 rfl rfl 0 (by decide) (hts (.fieldLink RX3 7 "BoardClockModel" "st" "[J") (List.mem_of_getElem? (i := 1) rfl)) (fun _ h9 => h9) rfl dX3_minuteNow_1 ?_
  refine lv_iconst (v := (1 : Int32)) hx hb dX3_minuteNow_4 (by decide) ?_
  refine zc_lald hx hb hK.1 hP 1 1 rfl rfl (j := 1) (zc_vin (by decide)) (by decide) dX3_minuteNow_5 ?_
  refine lv_ldc2 hx hb hown (hts (.constantLong RX3 62 (60000)) (List.mem_of_getElem? (i := 2) rfl)) dX3_minuteNow_6 ?_
  refine lv_ldiv hx hb dX3_minuteNow_9 (by decide) ?_
  exact W.lret hx hb hr (fun t ht hW => ⟨_, rfl, Option.some.inj hF, ht⟩) (fun _ h => by cases h) dX3_minuteNow_10
def fX3_between_L (N : Nat) : Nat → zc_M → Int32 → Int64 → Int64 → Int64 → Option (Int64)
  | 0, _, _, _, _, _ => none
  | n + 1, u, y1, y2, y4, y6 => if 0 < (lg_cmp y6 (y2 / (60000 : Int64))) then (some y4) else (Option.bind (fX3_fits u y1 y6) fun (r4 : Int32) => if r4 = 0 then (zc_let (y4 + (0 : Int64)) fun (x6 : Int64) => zc_let (y6 + (1 : Int64)) fun (x7 : Int64) => fX3_between_L N n u y1 y2 x6 x7) else (zc_let (y4 + (1 : Int64)) fun (x8 : Int64) => zc_let (y6 + (1 : Int64)) fun (x9 : Int64) => fX3_between_L N n u y1 y2 x8 x9))
def fX3_between (N : Nat) (u : zc_M) (a1 : Int32) (a2 : Int64) : Option (Int64) := Option.bind (fX3_minuteNow u) fun (r1 : Int64) => zc_let (r1 + (1 : Int64)) fun (x2 : Int64) => fX3_between_L N N u a1 a2 (0 : Int64) x2
set_option maxHeartbeats 4000000 in
set_option maxRecDepth 100000 in
theorem kX3_between (l : Launch) (G : zc_G) (ma : Nat → Nat) {N : Nat} {u : zc_M} {a1 : Int32} {a2 : Int64} {r0 : Int64} (hF : fX3_between N u a1 a2 = some r0) : Met l yX3_between wsX3_between ({ frames := 2, cells := 0, slots := 0, locals := 47 }) (zc_Pp G [.ref (ma 0), .int a1, .long a2] (zc_mo G ma u)) (vp_Sl (fun r => r = r0)) 0 0 (fun _ => False) := by
  refine Met.ofW (cc := cX3_between) (maxL := 8) (ret := (some .long)) (by decide) rfl ?_
  intro p e s m args below meth c s₁ B hml hv
  obtain ⟨rfl, hP, hK⟩ := hv
  have hx := B.exec
  have hb := B.bytes
  have hr := B.returns
  have hts := atoms_spec (ws := wsX3_between) B.pre
  have hown : s.vm.findClass RX3 = some m.cls := findClass_of_methodNamed B.named
  have hlocks := B.notSynchronized
  have hl := lv_entry ([.ref (ma 0), .int a1, .long a2]) (n := 8) (Nat.le_of_ble_eq_true rfl)
  rw [lg_entry_eq]
  generalize (lg_sl ([.ref (ma 0), .int a1, .long a2]) ++ List.replicate (8 - (lg_sl ([.ref (ma 0), .int a1, .long a2])).length) Slot.unset).toArray = ls at hl ⊢
  have hl : lv_has ls 8 [(0, .ref (ma 0)), (1, .int a1), (2, .long a2)] := hl
  have loop : ∀ (n : Nat) (y1 : Int32) (y2 : Int64) (y4 : Int64) (y6 : Int64) (ls : Array Slot), lv_has ls 8 [(0, .ref (ma 0)), (1, .int y1), (2, .long y2), (4, .long y4), (6, .long y6)] → fX3_between_L N n u y1 y2 y4 y6 = some r0 → W p l e (headSpec wsX3_between ({ frames := 2, cells := 0, slots := 0, locals := 47 })).room s m ([.ref (ma 0), .int a1, .long a2] : List Value).toArray below meth c s.heap [] 0 0 (MQ below (vp_Sl (fun r => r = r0)) ([.ref (ma 0), .int a1, .long a2] : List Value).toArray s 0 0 (fun _ => False)) (F0 m 11 ls []) := by
    intro n
    induction n with
    | zero =>
      intro y1 y2 y4 y6 ls hl hF
      cases hF
    | succ n ih =>
      intro y1 y2 y4 y6 ls hl hF
      rw [fX3_between_L] at hF
      refine lv_lload hx hb dX3_between_11 (lv_at hl 4 rfl) ?_
      refine lv_lload_n hx hb dX3_between_13 rfl (lv_at hl 2 rfl) ?_
      refine lv_ldc2 hx hb hown (hts (.constantLong RX3 62 (60000)) (List.mem_of_getElem? (i := 1) rfl)) dX3_between_14 ?_
      refine lv_ldiv hx hb dX3_between_17 (by decide) ?_
      refine W.lcmp hx hb dX3_between_18 ?_
      refine lv_if_gt (tgt := 51) hx hb dX3_between_19 (by decide) (fun c3 => ?_) (fun c3 => ?_)
      · have hF := zc_pos c3 hF
        refine lv_lload hx hb dX3_between_51 (lv_at hl 3 rfl) ?_
        exact W.lret hx hb hr (fun t ht hW => ⟨_, rfl, Option.some.inj hF, ht⟩) (fun _ h => by cases h) dX3_between_53
      · have hF := zc_neg c3 hF
        refine lv_lload hx hb dX3_between_22 (lv_at hl 3 rfl) ?_
        refine lv_aload_n hx hb dX3_between_24 rfl (lv_at hl 0 rfl) ?_
        refine lv_iload_n hx hb dX3_between_25 rfl (lv_at hl 1 rfl) ?_
        refine lv_lload hx hb dX3_between_26 (lv_at hl 4 rfl) ?_
        obtain ⟨r4, er4, hF⟩ := zc_bind hF
        refine zc_ci (va_runV (As := [.int _, .long _]) ⟨hx, hb, hml, hown, hts⟩ (kX3_fits l G ma er4) (cwV 2 hts gX3_between_X3_fits rfl rfl rfl (by decide +kernel) ⟨Nat.le_of_ble_eq_true rfl, Nat.le_of_ble_eq_true rfl⟩) (zc_preV hK hP 0 rfl rfl) rfl rfl hl.1 rfl (lv_room (Nat.le_of_ble_eq_true rfl)) dX3_between_28 ⟨Nat.le_of_ble_eq_true rfl, Nat.le_of_ble_eq_true rfl⟩) ?_
        refine lv_if_eq (tgt := 38) hx hb dX3_between_31 (by decide) (fun c5 => ?_) (fun c5 => ?_)
        · have hF := zc_pos c5 hF
          refine lv_lconst (v := (0 : Int64)) hx hb dX3_between_38 (by decide) ?_
          refine lv_ladd hx hb dX3_between_39 ?_
          refine lv_topl (fun x6 ex6 => ?_)
          have hF := zc_letE ex6 hF
          refine lv_lstore (lv' := [(4, .long x6), (0, .ref (ma 0)), (1, .int y1), (2, .long y2), (6, .long y6)]) hx hb dX3_between_40 hl (by decide) rfl (fun ls hl => ?_)
          refine lv_lload hx hb dX3_between_42 (lv_at hl 4 rfl) ?_
          refine lv_lconst (v := (1 : Int64)) hx hb dX3_between_44 (by decide) ?_
          refine lv_ladd hx hb dX3_between_45 ?_
          refine lv_topl (fun x7 ex7 => ?_)
          have hF := zc_letE ex7 hF
          refine lv_lstore (lv' := [(6, .long x7), (4, .long x6), (0, .ref (ma 0)), (1, .int y1), (2, .long y2)]) hx hb dX3_between_46 hl (by decide) rfl (fun ls hl => ?_)
          refine lv_goto (tgt := 11) hx hb dX3_between_48 (by decide) ?_
          exact ih y1 y2 x6 x7 ls (lv_sub hl [2, 3, 4, 1, 0] rfl) hF
        · have hF := zc_neg c5 hF
          refine lv_lconst (v := (1 : Int64)) hx hb dX3_between_34 (by decide) ?_
          refine lv_goto (tgt := 39) hx hb dX3_between_35 (by decide) ?_
          refine lv_ladd hx hb dX3_between_39 ?_
          refine lv_topl (fun x8 ex8 => ?_)
          have hF := zc_letE ex8 hF
          refine lv_lstore (lv' := [(4, .long x8), (0, .ref (ma 0)), (1, .int y1), (2, .long y2), (6, .long y6)]) hx hb dX3_between_40 hl (by decide) rfl (fun ls hl => ?_)
          refine lv_lload hx hb dX3_between_42 (lv_at hl 4 rfl) ?_
          refine lv_lconst (v := (1 : Int64)) hx hb dX3_between_44 (by decide) ?_
          refine lv_ladd hx hb dX3_between_45 ?_
          refine lv_topl (fun x9 ex9 => ?_)
          have hF := zc_letE ex9 hF
          refine lv_lstore (lv' := [(6, .long x9), (4, .long x8), (0, .ref (ma 0)), (1, .int y1), (2, .long y2)]) hx hb dX3_between_46 hl (by decide) rfl (fun ls hl => ?_)
          refine lv_goto (tgt := 11) hx hb dX3_between_48 (by decide) ?_
          exact ih y1 y2 x8 x9 ls (lv_sub hl [2, 3, 4, 1, 0] rfl) hF
  refine lv_lconst (v := (0 : Int64)) hx hb dX3_between_0 (by decide) ?_
  refine lv_lstore (lv' := [(4, .long (0 : Int64)), (0, .ref (ma 0)), (1, .int a1), (2, .long a2)]) hx hb dX3_between_1 hl (by decide) rfl (fun ls hl => ?_)
  refine lv_aload_n hx hb dX3_between_3 rfl (lv_at hl 1 rfl) ?_
  obtain ⟨r1, er1, hF⟩ := zc_bind hF
  refine zc_cl (va_runV (As := []) ⟨hx, hb, hml, hown, hts⟩ (kX3_minuteNow l G ma er1) (cwV 0 hts gX3_between_X3_minuteNow rfl rfl rfl (by decide +kernel) ⟨Nat.le_of_ble_eq_true rfl, Nat.le_of_ble_eq_true rfl⟩) (zc_preV hK hP 0 rfl rfl) rfl rfl hl.1 rfl (lv_room (Nat.le_of_ble_eq_true rfl)) dX3_between_4 ⟨Nat.le_of_ble_eq_true rfl, Nat.le_of_ble_eq_true rfl⟩) ?_
  refine lv_lconst (v := (1 : Int64)) hx hb dX3_between_7 (by decide) ?_
  refine lv_ladd hx hb dX3_between_8 ?_
  refine lv_topl (fun x2 ex2 => ?_)
  have hF := zc_letE ex2 hF
  refine lv_lstore (lv' := [(6, .long x2), (4, .long (0 : Int64)), (0, .ref (ma 0)), (1, .int a1), (2, .long a2)]) hx hb dX3_between_9 hl (by decide) rfl (fun ls hl => ?_)
  exact loop N a1 a2 (0 : Int64) x2 ls (lv_sub hl [2, 3, 4, 1, 0] rfl) hF
def fX3_ringsAt (u : zc_M) (a1 : Int32) : Option (Int64) := zc_in (((25 : Int32) + ((4 : Int32) * a1)) + (3 : Int32)) 49 (some (u.1 0 ((((25 : Int32) + ((4 : Int32) * a1)) + (3 : Int32))).toNatClampNeg))
theorem iX3_ringsAt_X3 : ∀ w ∈ wsX30, w ∈ wsX3_ringsAt := fun _ h => List.mem_cons_of_mem _ (List.mem_append_right _ h)
set_option maxHeartbeats 4000000 in
set_option maxRecDepth 100000 in
theorem kX3_ringsAt (l : Launch) (G : zc_G) (ma : Nat → Nat) {u : zc_M} {a1 : Int32} {r0 : Int64} (hF : fX3_ringsAt u a1 = some r0) : Met l yX3_ringsAt wsX3_ringsAt ({ frames := 0, cells := 0, slots := 0, locals := 0 }) (zc_Pp G [.ref (ma 0), .int a1] (zc_mo G ma u)) (vp_Sl (fun r => r = r0)) 0 0 (fun _ => False) := by
  refine Met.ofW (cc := cX3_ringsAt) (maxL := 2) (ret := (some .long)) (by decide) rfl ?_
  intro p e s m args below meth c s₁ B hml hv
  obtain ⟨rfl, hP, hK⟩ := hv
  have hx := B.exec
  have hb := B.bytes
  have hr := B.returns
  have hts := atoms_spec (ws := wsX3_ringsAt) B.pre
  have hown : s.vm.findClass RX3 = some m.cls := findClass_of_methodNamed B.named
  have hlocks := B.notSynchronized
  have hl := lv_entry ([.ref (ma 0), .int a1]) (n := 2) (Nat.le_of_ble_eq_true rfl)
  rw [lg_entry_eq]
  generalize (lg_sl ([.ref (ma 0), .int a1]) ++ List.replicate (2 - (lg_sl ([.ref (ma 0), .int a1])).length) Slot.unset).toArray = ls at hl ⊢
  have hl : lv_has ls 2 [(0, .ref (ma 0)), (1, .int a1)] := hl
  refine lv_aload_n hx hb dX3_ringsAt_0 rfl (lv_at hl 0 rfl) ?_
  refine va_get (D := G.1) (ci := 3) (C := RX3) (T := TX3) (N := 8) hx hb hts iX3_ringsAt_X3 hown hK.1 hP 0 rfl rfl 0 (by decide) (hts (.fieldLink RX3 7 "BoardClockModel" "st" "[J") (List.mem_of_getElem? (i := 1) rfl)) (fun _ h9 => h9) rfl dX3_ringsAt_1 ?_
  refine lv_bipush (v := (25 : Int32)) hx hb dX3_ringsAt_4 (by decide) ?_
  refine lv_iconst (v := (4 : Int32)) hx hb dX3_ringsAt_6 (by decide) ?_
  refine lv_iload_n hx hb dX3_ringsAt_7 rfl (lv_at hl 1 rfl) ?_
  refine lv_imul hx hb dX3_ringsAt_8 ?_
  refine lv_iadd hx hb dX3_ringsAt_9 ?_
  refine lv_iconst (v := (3 : Int32)) hx hb dX3_ringsAt_10 (by decide) ?_
  refine lv_iadd hx hb dX3_ringsAt_11 ?_
  obtain ⟨hi1, hF⟩ := zc_inE hF
  refine zc_lald hx hb hK.1 hP 1 1 rfl rfl hi1 rfl dX3_ringsAt_12 ?_
  exact W.lret hx hb hr (fun t ht hW => ⟨_, rfl, Option.some.inj hF, ht⟩) (fun _ h => by cases h) dX3_ringsAt_13
def fX3_allRings_L (N : Nat) : Nat → zc_M → Int64 → Int32 → Option (Int64)
  | 0, _, _, _ => none
  | n + 1, u, y1, y3 => if 0 ≤ (lg_cmp y3.toInt64 (u.1 0 24)) then (some y1) else (Option.bind (fX3_ringsAt u y3) fun (r2 : Int64) => zc_let (y1 + r2) fun (x3 : Int64) => zc_let (y3 + (1 : Int32)) fun (x4 : Int32) => fX3_allRings_L N n u x3 x4)
def fX3_allRings (N : Nat) (u : zc_M) : Option (Int64) := fX3_allRings_L N N u (0 : Int64) (0 : Int32)
theorem iX3_allRings_X3 : ∀ w ∈ wsX30, w ∈ wsX3_allRings := fun _ h => List.mem_cons_of_mem _ (List.mem_append_right _ h)
set_option maxHeartbeats 4000000 in
set_option maxRecDepth 100000 in
theorem kX3_allRings (l : Launch) (G : zc_G) (ma : Nat → Nat) {N : Nat} {u : zc_M} {r0 : Int64} (hF : fX3_allRings N u = some r0) : Met l yX3_allRings wsX3_allRings ({ frames := 1, cells := 0, slots := 0, locals := 21 }) (zc_Pp G [.ref (ma 0)] (zc_mo G ma u)) (vp_Sl (fun r => r = r0)) 0 0 (fun _ => False) := by
  refine Met.ofW (cc := cX3_allRings) (maxL := 4) (ret := (some .long)) (by decide) rfl ?_
  intro p e s m args below meth c s₁ B hml hv
  obtain ⟨rfl, hP, hK⟩ := hv
  have hx := B.exec
  have hb := B.bytes
  have hr := B.returns
  have hts := atoms_spec (ws := wsX3_allRings) B.pre
  have hown : s.vm.findClass RX3 = some m.cls := findClass_of_methodNamed B.named
  have hlocks := B.notSynchronized
  have hl := lv_entry ([.ref (ma 0)]) (n := 4) (Nat.le_of_ble_eq_true rfl)
  rw [lg_entry_eq]
  generalize (lg_sl ([.ref (ma 0)]) ++ List.replicate (4 - (lg_sl ([.ref (ma 0)])).length) Slot.unset).toArray = ls at hl ⊢
  have hl : lv_has ls 4 [(0, .ref (ma 0))] := hl
  have loop : ∀ (n : Nat) (y1 : Int64) (y3 : Int32) (ls : Array Slot), lv_has ls 4 [(0, .ref (ma 0)), (1, .long y1), (3, .int y3)] → fX3_allRings_L N n u y1 y3 = some r0 → W p l e (headSpec wsX3_allRings ({ frames := 1, cells := 0, slots := 0, locals := 21 })).room s m ([.ref (ma 0)] : List Value).toArray below meth c s.heap [] 0 0 (MQ below (vp_Sl (fun r => r = r0)) ([.ref (ma 0)] : List Value).toArray s 0 0 (fun _ => False)) (F0 m 4 ls []) := by
    intro n
    induction n with
    | zero =>
      intro y1 y3 ls hl hF
      cases hF
    | succ n ih =>
      intro y1 y3 ls hl hF
      rw [fX3_allRings_L] at hF
      refine lv_iload_n hx hb dX3_allRings_4 rfl (lv_at hl 2 rfl) ?_
      refine lv_i2l hx hb dX3_allRings_5 rfl ?_
      refine lv_aload_n hx hb dX3_allRings_6 rfl (lv_at hl 0 rfl) ?_
      refine va_get (D := G.1) (ci := 3) (C := RX3) (T := TX3) (N := 8) hx hb hts iX3_allRings_X3 hown hK.1 hP 0 rfl rfl 0 (by decide) (hts (.fieldLink RX3 7 "BoardClockModel" "st" "[J") (List.mem_of_getElem? (i := 1) rfl)) (fun _ h9 => h9) rfl dX3_allRings_7 ?_
      refine lv_bipush (v := (24 : Int32)) hx hb dX3_allRings_10 (by decide) ?_
      refine zc_lald hx hb hK.1 hP 1 1 rfl rfl (j := 24) (zc_vin (by decide)) (by decide) dX3_allRings_12 ?_
      refine W.lcmp hx hb dX3_allRings_13 ?_
      refine lv_if_ge (tgt := 31) hx hb dX3_allRings_14 (by decide) (fun c1 => ?_) (fun c1 => ?_)
      · have hF := zc_pos c1 hF
        refine lv_lload_n hx hb dX3_allRings_31 rfl (lv_at hl 1 rfl) ?_
        exact W.lret hx hb hr (fun t ht hW => ⟨_, rfl, Option.some.inj hF, ht⟩) (fun _ h => by cases h) dX3_allRings_32
      · have hF := zc_neg c1 hF
        refine lv_lload_n hx hb dX3_allRings_17 rfl (lv_at hl 1 rfl) ?_
        refine lv_aload_n hx hb dX3_allRings_18 rfl (lv_at hl 0 rfl) ?_
        refine lv_iload_n hx hb dX3_allRings_19 rfl (lv_at hl 2 rfl) ?_
        obtain ⟨r2, er2, hF⟩ := zc_bind hF
        refine zc_cl (va_runV (As := [.int _]) ⟨hx, hb, hml, hown, hts⟩ (kX3_ringsAt l G ma er2) (cwV 1 hts gX3_allRings_X3_ringsAt rfl rfl rfl (by decide +kernel) ⟨Nat.le_of_ble_eq_true rfl, Nat.le_of_ble_eq_true rfl⟩) (zc_preV hK hP 0 rfl rfl) rfl rfl hl.1 rfl (lv_room (Nat.le_of_ble_eq_true rfl)) dX3_allRings_20 ⟨Nat.le_of_ble_eq_true rfl, Nat.le_of_ble_eq_true rfl⟩) ?_
        refine lv_ladd hx hb dX3_allRings_23 ?_
        refine lv_topl (fun x3 ex3 => ?_)
        have hF := zc_letE ex3 hF
        refine lv_lstore_n (lv' := [(1, .long x3), (0, .ref (ma 0)), (3, .int y3)]) hx hb dX3_allRings_24 rfl hl (by decide) rfl (fun ls hl => ?_)
        obtain ⟨x4, ex4⟩ : ∃ y : Int32, y = y3 + (1 : Int32) := ⟨_, rfl⟩
        have hF := zc_letE ex4 hF
        refine lv_iinc (v := x4) (lv' := [(3, .int x4), (1, .long x3), (0, .ref (ma 0))]) hx hb dX3_allRings_25 hl (k := 2) rfl (by rw [ex4]; rfl) (by decide) rfl (fun ls hl => ?_)
        refine lv_goto (tgt := 4) hx hb dX3_allRings_28 (by decide) ?_
        exact ih x3 x4 ls (lv_sub hl [2, 1, 0] rfl) hF
  refine lv_lconst (v := (0 : Int64)) hx hb dX3_allRings_0 (by decide) ?_
  refine lv_lstore_n (lv' := [(1, .long (0 : Int64)), (0, .ref (ma 0))]) hx hb dX3_allRings_1 rfl hl (by decide) rfl (fun ls hl => ?_)
  refine lv_iconst (v := (0 : Int32)) hx hb dX3_allRings_2 (by decide) ?_
  refine lv_istore_n (lv' := [(3, .int (0 : Int32)), (1, .long (0 : Int64)), (0, .ref (ma 0))]) hx hb dX3_allRings_3 rfl hl (by decide) rfl (fun ls hl => ?_)
  exact loop N (0 : Int64) (0 : Int32) ls (lv_sub hl [2, 1, 0] rfl) hF
def fX3_untilDone (u : zc_M) : Option (Int32) := Option.bind (fX3_size (u.1 0 2)) fun (r1 : Int64) => if (lg_cmp r1 (0 : Int64)) = 0 then (some (0 : Int32)) else (zc_nzL (u.1 0 9) (zc_let (((r1 + (u.1 0 9)) - (1 : Int64)) / (u.1 0 9)) fun (x4 : Int64) => if (lg_cmp (u.1 0 11) (1 : Int64)) = 0 then (if 0 < (lg_cmp x4 (2000 : Int64)) then (some (-1 : Int32)) else (some (x4).toInt32)) else (some (-1 : Int32))))
theorem iX3_untilDone_X3 : ∀ w ∈ wsX30, w ∈ wsX3_untilDone := fun _ h => List.mem_cons_of_mem _ (List.mem_append_right _ h)
set_option maxHeartbeats 4000000 in
set_option maxRecDepth 100000 in
theorem kX3_untilDone (l : Launch) (G : zc_G) (ma : Nat → Nat) {u : zc_M} {r0 : Int32} (hF : fX3_untilDone u = some r0) : Met l yX3_untilDone wsX3_untilDone ({ frames := 1, cells := 0, slots := 0, locals := 21 }) (zc_Pp G [.ref (ma 0)] (zc_mo G ma u)) (vp_Si (fun r => r = r0)) 0 0 (fun _ => False) := by
  refine Met.ofW (cc := cX3_untilDone) (maxL := 5) (ret := (some .int)) (by decide) rfl ?_
  intro p e s m args below meth c s₁ B hml hv
  obtain ⟨rfl, hP, hK⟩ := hv
  have hx := B.exec
  have hb := B.bytes
  have hr := B.returns
  have hts := atoms_spec (ws := wsX3_untilDone) B.pre
  have hown : s.vm.findClass RX3 = some m.cls := findClass_of_methodNamed B.named
  have hlocks := B.notSynchronized
  have hl := lv_entry ([.ref (ma 0)]) (n := 5) (Nat.le_of_ble_eq_true rfl)
  rw [lg_entry_eq]
  generalize (lg_sl ([.ref (ma 0)]) ++ List.replicate (5 - (lg_sl ([.ref (ma 0)])).length) Slot.unset).toArray = ls at hl ⊢
  have hl : lv_has ls 5 [(0, .ref (ma 0))] := hl
  refine lv_aload_n hx hb dX3_untilDone_0 rfl (lv_at hl 0 rfl) ?_
  refine va_get (D := G.1) (ci := 3) (C := RX3) (T := TX3) (N := 8) hx hb hts iX3_untilDone_X3 hown hK.1 hP 0 rfl rfl 0 (by decide) (hts (.fieldLink RX3 7 "BoardClockModel" "st" "[J") (List.mem_of_getElem? (i := 1) rfl)) (fun _ h9 => h9) rfl dX3_untilDone_1 ?_
  refine lv_iconst (v := (2 : Int32)) hx hb dX3_untilDone_4 (by decide) ?_
  refine zc_lald hx hb hK.1 hP 1 1 rfl rfl (j := 2) (zc_vin (by decide)) (by decide) dX3_untilDone_5 ?_
  obtain ⟨r1, er1, hF⟩ := zc_bind hF
  refine zc_cl (va_runS (As := [.long _]) ⟨hx, hb, hml, hown, hts⟩ (kX3_size l G er1) (va_cwS 1 hts gX3_untilDone_X3_size rfl rfl rfl (by decide +kernel) ⟨Nat.le_of_ble_eq_true rfl, Nat.le_of_ble_eq_true rfl⟩) (zc_preS hK (show va_P G.1 vwCl [] _ from fun k q h => by simp at h)) rfl rfl hl.1 rfl (lv_room (Nat.le_of_ble_eq_true rfl)) dX3_untilDone_6 ⟨Nat.le_of_ble_eq_true rfl, Nat.le_of_ble_eq_true rfl⟩) ?_
  refine lv_lstore_n (lv' := [(1, .long r1), (0, .ref (ma 0))]) hx hb dX3_untilDone_9 rfl hl (by decide) rfl (fun ls hl => ?_)
  refine lv_lload_n hx hb dX3_untilDone_10 rfl (lv_at hl 0 rfl) ?_
  refine lv_lconst (v := (0 : Int64)) hx hb dX3_untilDone_11 (by decide) ?_
  refine W.lcmp hx hb dX3_untilDone_12 ?_
  refine lv_if_ne (tgt := 18) hx hb dX3_untilDone_13 (by decide) (fun c2 => ?_) (fun c2 => ?_)
  · have hF := zc_neg c2 hF
    refine lv_lload_n hx hb dX3_untilDone_18 rfl (lv_at hl 0 rfl) ?_
    refine lv_aload_n hx hb dX3_untilDone_19 rfl (lv_at hl 1 rfl) ?_
    refine va_get (D := G.1) (ci := 3) (C := RX3) (T := TX3) (N := 8) hx hb hts iX3_untilDone_X3 hown hK.1 hP 0 rfl rfl 0 (by decide) (hts (.fieldLink RX3 7 "BoardClockModel" "st" "[J") (List.mem_of_getElem? (i := 1) rfl)) (fun _ h9 => h9) rfl dX3_untilDone_20 ?_
    refine lv_bipush (v := (9 : Int32)) hx hb dX3_untilDone_23 (by decide) ?_
    refine zc_lald hx hb hK.1 hP 1 1 rfl rfl (j := 9) (zc_vin (by decide)) (by decide) dX3_untilDone_25 ?_
    refine lv_ladd hx hb dX3_untilDone_26 ?_
    refine lv_lconst (v := (1 : Int64)) hx hb dX3_untilDone_27 (by decide) ?_
    refine lv_lsub hx hb dX3_untilDone_28 ?_
    refine lv_aload_n hx hb dX3_untilDone_29 rfl (lv_at hl 1 rfl) ?_
    refine va_get (D := G.1) (ci := 3) (C := RX3) (T := TX3) (N := 8) hx hb hts iX3_untilDone_X3 hown hK.1 hP 0 rfl rfl 0 (by decide) (hts (.fieldLink RX3 7 "BoardClockModel" "st" "[J") (List.mem_of_getElem? (i := 1) rfl)) (fun _ h9 => h9) rfl dX3_untilDone_30 ?_
    refine lv_bipush (v := (9 : Int32)) hx hb dX3_untilDone_33 (by decide) ?_
    refine zc_lald hx hb hK.1 hP 1 1 rfl rfl (j := 9) (zc_vin (by decide)) (by decide) dX3_untilDone_35 ?_
    obtain ⟨hnz3, hF⟩ := zc_nzLE hF
    refine lv_ldiv hx hb dX3_untilDone_36 hnz3 ?_
    refine lv_topl (fun x4 ex4 => ?_)
    have hF := zc_letE ex4 hF
    refine lv_lstore_n (lv' := [(3, .long x4), (1, .long r1), (0, .ref (ma 0))]) hx hb dX3_untilDone_37 rfl hl (by decide) rfl (fun ls hl => ?_)
    refine lv_aload_n hx hb dX3_untilDone_38 rfl (lv_at hl 2 rfl) ?_
    refine va_get (D := G.1) (ci := 3) (C := RX3) (T := TX3) (N := 8) hx hb hts iX3_untilDone_X3 hown hK.1 hP 0 rfl rfl 0 (by decide) (hts (.fieldLink RX3 7 "BoardClockModel" "st" "[J") (List.mem_of_getElem? (i := 1) rfl)) (fun _ h9 => h9) rfl dX3_untilDone_39 ?_
    refine lv_bipush (v := (11 : Int32)) hx hb dX3_untilDone_42 (by decide) ?_
    refine zc_lald hx hb hK.1 hP 1 1 rfl rfl (j := 11) (zc_vin (by decide)) (by decide) dX3_untilDone_44 ?_
    refine lv_lconst (v := (1 : Int64)) hx hb dX3_untilDone_45 (by decide) ?_
    refine W.lcmp hx hb dX3_untilDone_46 ?_
    refine lv_if_ne (tgt := 63) hx hb dX3_untilDone_47 (by decide) (fun c5 => ?_) (fun c5 => ?_)
    · have hF := zc_neg c5 hF
      refine lv_iconst (v := (-1 : Int32)) hx hb dX3_untilDone_63 (by decide) ?_
      exact W.iret hx hb hr (fun t ht hW => ⟨_, rfl, Option.some.inj hF, ht⟩) (fun _ h => by cases h) dX3_untilDone_64
    · have hF := zc_pos c5 hF
      refine lv_lload_n hx hb dX3_untilDone_50 rfl (lv_at hl 0 rfl) ?_
      refine lv_ldc2 hx hb hown (hts (.constantLong RX3 132 (2000)) (List.mem_of_getElem? (i := 2) rfl)) dX3_untilDone_51 ?_
      refine W.lcmp hx hb dX3_untilDone_54 ?_
      refine lv_if_gt (tgt := 63) hx hb dX3_untilDone_55 (by decide) (fun c6 => ?_) (fun c6 => ?_)
      · have hF := zc_pos c6 hF
        refine lv_iconst (v := (-1 : Int32)) hx hb dX3_untilDone_63 (by decide) ?_
        exact W.iret hx hb hr (fun t ht hW => ⟨_, rfl, Option.some.inj hF, ht⟩) (fun _ h => by cases h) dX3_untilDone_64
      · have hF := zc_neg c6 hF
        refine lv_lload_n hx hb dX3_untilDone_58 rfl (lv_at hl 0 rfl) ?_
        refine lv_l2i hx hb dX3_untilDone_59 rfl ?_
        refine lv_goto (tgt := 64) hx hb dX3_untilDone_60 (by decide) ?_
        exact W.iret hx hb hr (fun t ht hW => ⟨_, rfl, Option.some.inj hF, ht⟩) (fun _ h => by cases h) dX3_untilDone_64
  · have hF := zc_pos c2 hF
    refine lv_iconst (v := (0 : Int32)) hx hb dX3_untilDone_16 (by decide) ?_
    exact W.iret hx hb hr (fun t ht hW => ⟨_, rfl, Option.some.inj hF, ht⟩) (fun _ h => by cases h) dX3_untilDone_17
def fX3_wrong_L (N : Nat) : Nat → zc_M → Int32 → Option (Int32)
  | 0, _, _ => none
  | n + 1, u, y1 => if (u.2.2.1 1) ≤ y1 then (some (-1 : Int32)) else (zc_in y1 20 (Option.bind (fX3_minuteNow u) fun (r3 : Int64) => if (lg_cmp ((u.2.1 1 y1.toNatClampNeg)).toInt64 r3) = 0 then (zc_let (y1 + (1 : Int32)) fun (x5 : Int32) => fX3_wrong_L N n u x5) else (some y1)))
def fX3_wrong (N : Nat) (u : zc_M) : Option (Int32) := fX3_wrong_L N N u (0 : Int32)
theorem iX3_wrong_X3 : ∀ w ∈ wsX30, w ∈ wsX3_wrong := fun _ h => List.mem_cons_of_mem _ (List.mem_append_right _ h)
set_option maxHeartbeats 4000000 in
set_option maxRecDepth 100000 in
theorem kX3_wrong (l : Launch) (G : zc_G) (ma : Nat → Nat) {N : Nat} {u : zc_M} {r0 : Int32} (hF : fX3_wrong N u = some r0) : Met l yX3_wrong wsX3_wrong ({ frames := 1, cells := 0, slots := 0, locals := 20 }) (zc_Pp G [.ref (ma 0)] (zc_mo G ma u)) (vp_Si (fun r => r = r0)) 0 0 (fun _ => False) := by
  refine Met.ofW (cc := cX3_wrong) (maxL := 2) (ret := (some .int)) (by decide) rfl ?_
  intro p e s m args below meth c s₁ B hml hv
  obtain ⟨rfl, hP, hK⟩ := hv
  have hx := B.exec
  have hb := B.bytes
  have hr := B.returns
  have hts := atoms_spec (ws := wsX3_wrong) B.pre
  have hown : s.vm.findClass RX3 = some m.cls := findClass_of_methodNamed B.named
  have hlocks := B.notSynchronized
  have hl := lv_entry ([.ref (ma 0)]) (n := 2) (Nat.le_of_ble_eq_true rfl)
  rw [lg_entry_eq]
  generalize (lg_sl ([.ref (ma 0)]) ++ List.replicate (2 - (lg_sl ([.ref (ma 0)])).length) Slot.unset).toArray = ls at hl ⊢
  have hl : lv_has ls 2 [(0, .ref (ma 0))] := hl
  have loop : ∀ (n : Nat) (y1 : Int32) (ls : Array Slot), lv_has ls 2 [(0, .ref (ma 0)), (1, .int y1)] → fX3_wrong_L N n u y1 = some r0 → W p l e (headSpec wsX3_wrong ({ frames := 1, cells := 0, slots := 0, locals := 20 })).room s m ([.ref (ma 0)] : List Value).toArray below meth c s.heap [] 0 0 (MQ below (vp_Si (fun r => r = r0)) ([.ref (ma 0)] : List Value).toArray s 0 0 (fun _ => False)) (F0 m 2 ls []) := by
    intro n
    induction n with
    | zero =>
      intro y1 ls hl hF
      cases hF
    | succ n ih =>
      intro y1 ls hl hF
      rw [fX3_wrong_L] at hF
      refine lv_iload_n hx hb dX3_wrong_2 rfl (lv_at hl 1 rfl) ?_
      refine lv_aload_n hx hb dX3_wrong_3 rfl (lv_at hl 0 rfl) ?_
      refine va_get (D := G.1) (ci := 3) (C := RX3) (T := TX3) (N := 8) hx hb hts iX3_wrong_X3 hown hK.1 hP 0 rfl rfl 6 (by decide) (hts (.fieldLink RX3 134 "BoardClockModel" "entries" "I") (List.mem_of_getElem? (i := 1) rfl)) (fun _ h9 => h9) rfl dX3_wrong_4 ?_
      refine lv_icmp_ge (tgt := 33) hx hb dX3_wrong_7 (by decide) (fun c1 => ?_) (fun c1 => ?_)
      · have hF := zc_pos c1 hF
        refine lv_iconst (v := (-1 : Int32)) hx hb dX3_wrong_33 (by decide) ?_
        exact W.iret hx hb hr (fun t ht hW => ⟨_, rfl, Option.some.inj hF, ht⟩) (fun _ h => by cases h) dX3_wrong_34
      · have hF := zc_neg c1 hF
        refine lv_aload_n hx hb dX3_wrong_10 rfl (lv_at hl 0 rfl) ?_
        refine va_get (D := G.1) (ci := 3) (C := RX3) (T := TX3) (N := 8) hx hb hts iX3_wrong_X3 hown hK.1 hP 0 rfl rfl 5 (by decide) (hts (.fieldLink RX3 23 "BoardClockModel" "book" "[I") (List.mem_of_getElem? (i := 2) rfl)) (fun _ h9 => h9) rfl dX3_wrong_11 ?_
        refine lv_iload_n hx hb dX3_wrong_14 rfl (lv_at hl 1 rfl) ?_
        obtain ⟨hi2, hF⟩ := zc_inE hF
        refine zc_iald hx hb hK.1 hP 5 0 rfl rfl hi2 rfl dX3_wrong_15 ?_
        refine lv_i2l hx hb dX3_wrong_16 rfl ?_
        refine lv_aload_n hx hb dX3_wrong_17 rfl (lv_at hl 0 rfl) ?_
        obtain ⟨r3, er3, hF⟩ := zc_bind hF
        refine zc_cl (va_runV (As := []) ⟨hx, hb, hml, hown, hts⟩ (kX3_minuteNow l G ma er3) (cwV 0 hts gX3_wrong_X3_minuteNow rfl rfl rfl (by decide +kernel) ⟨Nat.le_of_ble_eq_true rfl, Nat.le_of_ble_eq_true rfl⟩) (zc_preV hK hP 0 rfl rfl) rfl rfl hl.1 rfl (lv_room (Nat.le_of_ble_eq_true rfl)) dX3_wrong_18 ⟨Nat.le_of_ble_eq_true rfl, Nat.le_of_ble_eq_true rfl⟩) ?_
        refine W.lcmp hx hb dX3_wrong_21 ?_
        refine lv_if_eq (tgt := 27) hx hb dX3_wrong_22 (by decide) (fun c4 => ?_) (fun c4 => ?_)
        · have hF := zc_pos c4 hF
          obtain ⟨x5, ex5⟩ : ∃ y : Int32, y = y1 + (1 : Int32) := ⟨_, rfl⟩
          have hF := zc_letE ex5 hF
          refine lv_iinc (v := x5) (lv' := [(1, .int x5), (0, .ref (ma 0))]) hx hb dX3_wrong_27 hl (k := 1) rfl (by rw [ex5]; rfl) (by decide) rfl (fun ls hl => ?_)
          refine lv_goto (tgt := 2) hx hb dX3_wrong_30 (by decide) ?_
          exact ih x5 ls (lv_sub hl [1, 0] rfl) hF
        · have hF := zc_neg c4 hF
          refine lv_iload_n hx hb dX3_wrong_25 rfl (lv_at hl 1 rfl) ?_
          exact W.iret hx hb hr (fun t ht hW => ⟨_, rfl, Option.some.inj hF, ht⟩) (fun _ h => by cases h) dX3_wrong_26
  refine lv_iconst (v := (0 : Int32)) hx hb dX3_wrong_0 (by decide) ?_
  refine lv_istore_n (lv' := [(1, .int (0 : Int32)), (0, .ref (ma 0))]) hx hb dX3_wrong_1 rfl hl (by decide) rfl (fun ls hl => ?_)
  exact loop N (0 : Int32) ls (lv_sub hl [1, 0] rfl) hF
def fX3_holds (u : zc_M) : Option (Int32) := Option.bind (fX3_aim u) fun (r1 : Int64) => Option.bind (fX3_size ((u.1 0 0) - r1)) fun (r2 : Int64) => if 0 < (lg_cmp ((16 : Int64) * r2) (u.1 0 3)) then (some (0 : Int32)) else (some (1 : Int32))
theorem iX3_holds_X3 : ∀ w ∈ wsX30, w ∈ wsX3_holds := fun _ h => List.mem_cons_of_mem _ (List.mem_append_right _ h)
set_option maxHeartbeats 4000000 in
set_option maxRecDepth 100000 in
theorem kX3_holds (l : Launch) (G : zc_G) (ma : Nat → Nat) {u : zc_M} {r0 : Int32} (hF : fX3_holds u = some r0) : Met l yX3_holds wsX3_holds ({ frames := 1, cells := 0, slots := 0, locals := 21 }) (zc_Pp G [.ref (ma 0)] (zc_mo G ma u)) (vp_Si (fun r => r = r0)) 0 0 (fun _ => False) := by
  refine Met.ofW (cc := cX3_holds) (maxL := 1) (ret := (some .boolean)) (by decide) rfl ?_
  intro p e s m args below meth c s₁ B hml hv
  obtain ⟨rfl, hP, hK⟩ := hv
  have hx := B.exec
  have hb := B.bytes
  have hr := B.returns
  have hts := atoms_spec (ws := wsX3_holds) B.pre
  have hown : s.vm.findClass RX3 = some m.cls := findClass_of_methodNamed B.named
  have hlocks := B.notSynchronized
  have hl := lv_entry ([.ref (ma 0)]) (n := 1) (Nat.le_of_ble_eq_true rfl)
  rw [lg_entry_eq]
  generalize (lg_sl ([.ref (ma 0)]) ++ List.replicate (1 - (lg_sl ([.ref (ma 0)])).length) Slot.unset).toArray = ls at hl ⊢
  have hl : lv_has ls 1 [(0, .ref (ma 0))] := hl
  refine lv_ldc2 hx hb hown (hts (.constantLong RX3 45 (16)) (List.mem_of_getElem? (i := 1) rfl)) dX3_holds_0 ?_
  refine lv_aload_n hx hb dX3_holds_3 rfl (lv_at hl 0 rfl) ?_
  refine va_get (D := G.1) (ci := 3) (C := RX3) (T := TX3) (N := 8) hx hb hts iX3_holds_X3 hown hK.1 hP 0 rfl rfl 0 (by decide) (hts (.fieldLink RX3 7 "BoardClockModel" "st" "[J") (List.mem_of_getElem? (i := 2) rfl)) (fun _ h9 => h9) rfl dX3_holds_4 ?_
  refine lv_iconst (v := (0 : Int32)) hx hb dX3_holds_7 (by decide) ?_
  refine zc_lald hx hb hK.1 hP 1 1 rfl rfl (j := 0) (zc_vin (by decide)) (by decide) dX3_holds_8 ?_
  refine lv_aload_n hx hb dX3_holds_9 rfl (lv_at hl 0 rfl) ?_
  obtain ⟨r1, er1, hF⟩ := zc_bind hF
  refine zc_cl (va_runV (As := []) ⟨hx, hb, hml, hown, hts⟩ (kX3_aim l G ma er1) (cwV 0 hts gX3_holds_X3_aim rfl rfl rfl (by decide +kernel) ⟨Nat.le_of_ble_eq_true rfl, Nat.le_of_ble_eq_true rfl⟩) (zc_preV hK hP 0 rfl rfl) rfl rfl hl.1 rfl (lv_room (Nat.le_of_ble_eq_true rfl)) dX3_holds_10 ⟨Nat.le_of_ble_eq_true rfl, Nat.le_of_ble_eq_true rfl⟩) ?_
  refine lv_lsub hx hb dX3_holds_13 ?_
  obtain ⟨r2, er2, hF⟩ := zc_bind hF
  refine zc_cl (va_runS (As := [.long _]) ⟨hx, hb, hml, hown, hts⟩ (kX3_size l G er2) (va_cwS 1 hts gX3_holds_X3_size rfl rfl rfl (by decide +kernel) ⟨Nat.le_of_ble_eq_true rfl, Nat.le_of_ble_eq_true rfl⟩) (zc_preS hK (show va_P G.1 vwCl [] _ from fun k q h => by simp at h)) rfl rfl hl.1 rfl (lv_room (Nat.le_of_ble_eq_true rfl)) dX3_holds_14 ⟨Nat.le_of_ble_eq_true rfl, Nat.le_of_ble_eq_true rfl⟩) ?_
  refine lv_lmul hx hb dX3_holds_17 ?_
  refine lv_aload_n hx hb dX3_holds_18 rfl (lv_at hl 0 rfl) ?_
  refine va_get (D := G.1) (ci := 3) (C := RX3) (T := TX3) (N := 8) hx hb hts iX3_holds_X3 hown hK.1 hP 0 rfl rfl 0 (by decide) (hts (.fieldLink RX3 7 "BoardClockModel" "st" "[J") (List.mem_of_getElem? (i := 2) rfl)) (fun _ h9 => h9) rfl dX3_holds_19 ?_
  refine lv_iconst (v := (3 : Int32)) hx hb dX3_holds_22 (by decide) ?_
  refine zc_lald hx hb hK.1 hP 1 1 rfl rfl (j := 3) (zc_vin (by decide)) (by decide) dX3_holds_23 ?_
  refine W.lcmp hx hb dX3_holds_24 ?_
  refine lv_if_gt (tgt := 32) hx hb dX3_holds_25 (by decide) (fun c3 => ?_) (fun c3 => ?_)
  · have hF := zc_pos c3 hF
    refine lv_iconst (v := (0 : Int32)) hx hb dX3_holds_32 (by decide) ?_
    exact W.zret hx hb hr (by decide) (fun t ht hW => ⟨_, rfl, Option.some.inj hF, ht⟩) (fun _ h => by cases h) dX3_holds_33
  · have hF := zc_neg c3 hF
    refine lv_iconst (v := (1 : Int32)) hx hb dX3_holds_28 (by decide) ?_
    refine lv_goto (tgt := 33) hx hb dX3_holds_29 (by decide) ?_
    exact W.zret hx hb hr (by decide) (fun t ht hW => ⟨_, rfl, Option.some.inj hF, ht⟩) (fun _ h => by cases h) dX3_holds_33
def fX3_told (N : Nat) (u : zc_M) (a1 : Int32) : Option (Int32) := if a1 = (0 : Int32) then (some (((u.1 0 4)).toInt32 + (20 : Int32))) else (if a1 = (1 : Int32) then (Option.bind (fX3_spanNow u) fun (r3 : Int32) => some r3) else (if a1 = (2 : Int32) then (Option.bind (fX3_offAt u (u.1 0 4)) fun (r5 : Int64) => some ((r5).toInt32 + (10000 : Int32))) else (if a1 = (3 : Int32) then (some ((u.1 0 8)).toInt32) else (if a1 = (4 : Int32) then (if (lg_cmp (u.1 0 2) (0 : Int64)) = 0 then (some (1 : Int32)) else (some (0 : Int32))) else (if a1 = (5 : Int32) then (some ((u.1 0 3)).toInt32) else (if a1 = (6 : Int32) then (some ((u.1 0 9)).toInt32) else (if a1 = (7 : Int32) then (some ((u.1 0 10)).toInt32) else (if a1 = (8 : Int32) then (some ((u.1 0 11)).toInt32) else (if a1 = (9 : Int32) then (some ((u.1 0 12)).toInt32) else (if a1 = (10 : Int32) then (some ((u.1 0 14)).toInt32) else (if a1 = (11 : Int32) then (Option.bind (fX3_holds u) fun (r16 : Int32) => if r16 = 0 then (some (0 : Int32)) else (some (1 : Int32))) else (if a1 = (12 : Int32) then (some ((u.1 0 24)).toInt32) else (if a1 = (13 : Int32) then (Option.bind (fX3_allRings N u) fun (r20 : Int64) => some (r20).toInt32) else (if a1 = (14 : Int32) then (Option.bind (fX3_untilDone u) fun (r22 : Int32) => some r22) else (if a1 = (15 : Int32) then (some (u.2.2.1 1)) else (if a1 = (16 : Int32) then (Option.bind (fX3_wrong N u) fun (r25 : Int32) => some r25) else (if a1 = (17 : Int32) then (some (u.2.2.1 0)) else (some (-1000000002 : Int32)))))))))))))))))))
theorem iX3_told_X3 : ∀ w ∈ wsX30, w ∈ wsX3_told := fun _ h => List.mem_cons_of_mem _ (List.mem_append_right _ h)
set_option maxHeartbeats 4000000 in
set_option maxRecDepth 100000 in
theorem kX3_told (l : Launch) (G : zc_G) (ma : Nat → Nat) {N : Nat} {u : zc_M} {a1 : Int32} {r0 : Int32} (hF : fX3_told N u a1 = some r0) : Met l yX3_told wsX3_told ({ frames := 2, cells := 0, slots := 0, locals := 45 }) (zc_Pp G [.ref (ma 0), .int a1] (zc_mo G ma u)) (vp_Si (fun r => r = r0)) 0 0 (fun _ => False) := by
  refine Met.ofW (cc := cX3_told) (maxL := 2) (ret := (some .int)) (by decide) rfl ?_
  intro p e s m args below meth c s₁ B hml hv
  obtain ⟨rfl, hP, hK⟩ := hv
  have hx := B.exec
  have hb := B.bytes
  have hr := B.returns
  have hts := atoms_spec (ws := wsX3_told) B.pre
  have hown : s.vm.findClass RX3 = some m.cls := findClass_of_methodNamed B.named
  have hlocks := B.notSynchronized
  have hl := lv_entry ([.ref (ma 0), .int a1]) (n := 2) (Nat.le_of_ble_eq_true rfl)
  rw [lg_entry_eq]
  generalize (lg_sl ([.ref (ma 0), .int a1]) ++ List.replicate (2 - (lg_sl ([.ref (ma 0), .int a1])).length) Slot.unset).toArray = ls at hl ⊢
  have hl : lv_has ls 2 [(0, .ref (ma 0)), (1, .int a1)] := hl
  refine lv_iload_n hx hb dX3_told_0 rfl (lv_at hl 1 rfl) ?_
  by_cases c1 : a1 = (0 : Int32)
  · have hF := zc_pos c1 hF
    refine W.eq (g2 := F0 m 1 ls [.int (0 : Int32)]) (by rw [c1]) ?_
    refine lv_tableIn (off := 87) (tgt := 88) hx hb dX3_told_1 (by decide) (by decide) (by decide) (by decide) ?_
    refine lv_aload_n hx hb dX3_told_88 rfl (lv_at hl 0 rfl) ?_
    refine va_get (D := G.1) (ci := 3) (C := RX3) (T := TX3) (N := 8) hx hb hts iX3_told_X3 hown hK.1 hP 0 rfl rfl 0 (by decide) (hts (.fieldLink RX3 7 "BoardClockModel" "st" "[J") (List.mem_of_getElem? (i := 1) rfl)) (fun _ h9 => h9) rfl dX3_told_89 ?_
    refine lv_iconst (v := (4 : Int32)) hx hb dX3_told_92 (by decide) ?_
    refine zc_lald hx hb hK.1 hP 1 1 rfl rfl (j := 4) (zc_vin (by decide)) (by decide) dX3_told_93 ?_
    refine lv_l2i hx hb dX3_told_94 rfl ?_
    refine lv_bipush (v := (20 : Int32)) hx hb dX3_told_95 (by decide) ?_
    refine lv_iadd hx hb dX3_told_97 ?_
    exact W.iret hx hb hr (fun t ht hW => ⟨_, rfl, Option.some.inj hF, ht⟩) (fun _ h => by cases h) dX3_told_98
  · have hF := zc_neg c1 hF
    by_cases c2 : a1 = (1 : Int32)
    · have hF := zc_pos c2 hF
      refine W.eq (g2 := F0 m 1 ls [.int (1 : Int32)]) (by rw [c2]) ?_
      refine lv_tableIn (off := 98) (tgt := 99) hx hb dX3_told_1 (by decide) (by decide) (by decide) (by decide) ?_
      refine lv_aload_n hx hb dX3_told_99 rfl (lv_at hl 0 rfl) ?_
      obtain ⟨r3, er3, hF⟩ := zc_bind hF
      refine zc_ci (va_runV (As := []) ⟨hx, hb, hml, hown, hts⟩ (kX3_spanNow l G ma er3) (cwV 0 hts gX3_told_X3_spanNow rfl rfl rfl (by decide +kernel) ⟨Nat.le_of_ble_eq_true rfl, Nat.le_of_ble_eq_true rfl⟩) (zc_preV hK hP 0 rfl rfl) rfl rfl hl.1 rfl (lv_room (Nat.le_of_ble_eq_true rfl)) dX3_told_100 ⟨Nat.le_of_ble_eq_true rfl, Nat.le_of_ble_eq_true rfl⟩) ?_
      exact W.iret hx hb hr (fun t ht hW => ⟨_, rfl, Option.some.inj hF, ht⟩) (fun _ h => by cases h) dX3_told_103
    · have hF := zc_neg c2 hF
      by_cases c4 : a1 = (2 : Int32)
      · have hF := zc_pos c4 hF
        refine W.eq (g2 := F0 m 1 ls [.int (2 : Int32)]) (by rw [c4]) ?_
        refine lv_tableIn (off := 103) (tgt := 104) hx hb dX3_told_1 (by decide) (by decide) (by decide) (by decide) ?_
        refine lv_aload_n hx hb dX3_told_104 rfl (lv_at hl 0 rfl) ?_
        refine lv_aload_n hx hb dX3_told_105 rfl (lv_at hl 0 rfl) ?_
        refine va_get (D := G.1) (ci := 3) (C := RX3) (T := TX3) (N := 8) hx hb hts iX3_told_X3 hown hK.1 hP 0 rfl rfl 0 (by decide) (hts (.fieldLink RX3 7 "BoardClockModel" "st" "[J") (List.mem_of_getElem? (i := 1) rfl)) (fun _ h9 => h9) rfl dX3_told_106 ?_
        refine lv_iconst (v := (4 : Int32)) hx hb dX3_told_109 (by decide) ?_
        refine zc_lald hx hb hK.1 hP 1 1 rfl rfl (j := 4) (zc_vin (by decide)) (by decide) dX3_told_110 ?_
        obtain ⟨r5, er5, hF⟩ := zc_bind hF
        refine zc_cl (va_runV (As := [.long _]) ⟨hx, hb, hml, hown, hts⟩ (kX3_offAt l G ma er5) (cwV 1 hts gX3_told_X3_offAt rfl rfl rfl (by decide +kernel) ⟨Nat.le_of_ble_eq_true rfl, Nat.le_of_ble_eq_true rfl⟩) (zc_preV hK hP 0 rfl rfl) rfl rfl hl.1 rfl (lv_room (Nat.le_of_ble_eq_true rfl)) dX3_told_111 ⟨Nat.le_of_ble_eq_true rfl, Nat.le_of_ble_eq_true rfl⟩) ?_
        refine lv_l2i hx hb dX3_told_114 rfl ?_
        refine lv_sipush (v := (10000 : Int32)) hx hb dX3_told_115 (by decide) ?_
        refine lv_iadd hx hb dX3_told_118 ?_
        exact W.iret hx hb hr (fun t ht hW => ⟨_, rfl, Option.some.inj hF, ht⟩) (fun _ h => by cases h) dX3_told_119
      · have hF := zc_neg c4 hF
        by_cases c6 : a1 = (3 : Int32)
        · have hF := zc_pos c6 hF
          refine W.eq (g2 := F0 m 1 ls [.int (3 : Int32)]) (by rw [c6]) ?_
          refine lv_tableIn (off := 119) (tgt := 120) hx hb dX3_told_1 (by decide) (by decide) (by decide) (by decide) ?_
          refine lv_aload_n hx hb dX3_told_120 rfl (lv_at hl 0 rfl) ?_
          refine va_get (D := G.1) (ci := 3) (C := RX3) (T := TX3) (N := 8) hx hb hts iX3_told_X3 hown hK.1 hP 0 rfl rfl 0 (by decide) (hts (.fieldLink RX3 7 "BoardClockModel" "st" "[J") (List.mem_of_getElem? (i := 1) rfl)) (fun _ h9 => h9) rfl dX3_told_121 ?_
          refine lv_bipush (v := (8 : Int32)) hx hb dX3_told_124 (by decide) ?_
          refine zc_lald hx hb hK.1 hP 1 1 rfl rfl (j := 8) (zc_vin (by decide)) (by decide) dX3_told_126 ?_
          refine lv_l2i hx hb dX3_told_127 rfl ?_
          exact W.iret hx hb hr (fun t ht hW => ⟨_, rfl, Option.some.inj hF, ht⟩) (fun _ h => by cases h) dX3_told_128
        · have hF := zc_neg c6 hF
          by_cases c7 : a1 = (4 : Int32)
          · have hF := zc_pos c7 hF
            refine W.eq (g2 := F0 m 1 ls [.int (4 : Int32)]) (by rw [c7]) ?_
            refine lv_tableIn (off := 128) (tgt := 129) hx hb dX3_told_1 (by decide) (by decide) (by decide) (by decide) ?_
            refine lv_aload_n hx hb dX3_told_129 rfl (lv_at hl 0 rfl) ?_
            refine va_get (D := G.1) (ci := 3) (C := RX3) (T := TX3) (N := 8) hx hb hts iX3_told_X3 hown hK.1 hP 0 rfl rfl 0 (by decide) (hts (.fieldLink RX3 7 "BoardClockModel" "st" "[J") (List.mem_of_getElem? (i := 1) rfl)) (fun _ h9 => h9) rfl dX3_told_130 ?_
            refine lv_iconst (v := (2 : Int32)) hx hb dX3_told_133 (by decide) ?_
            refine zc_lald hx hb hK.1 hP 1 1 rfl rfl (j := 2) (zc_vin (by decide)) (by decide) dX3_told_134 ?_
            refine lv_lconst (v := (0 : Int64)) hx hb dX3_told_135 (by decide) ?_
            refine W.lcmp hx hb dX3_told_136 ?_
            refine lv_if_ne (tgt := 144) hx hb dX3_told_137 (by decide) (fun c8 => ?_) (fun c8 => ?_)
            · have hF := zc_neg c8 hF
              refine lv_iconst (v := (0 : Int32)) hx hb dX3_told_144 (by decide) ?_
              exact W.iret hx hb hr (fun t ht hW => ⟨_, rfl, Option.some.inj hF, ht⟩) (fun _ h => by cases h) dX3_told_145
            · have hF := zc_pos c8 hF
              refine lv_iconst (v := (1 : Int32)) hx hb dX3_told_140 (by decide) ?_
              refine lv_goto (tgt := 145) hx hb dX3_told_141 (by decide) ?_
              exact W.iret hx hb hr (fun t ht hW => ⟨_, rfl, Option.some.inj hF, ht⟩) (fun _ h => by cases h) dX3_told_145
          · have hF := zc_neg c7 hF
            by_cases c9 : a1 = (5 : Int32)
            · have hF := zc_pos c9 hF
              refine W.eq (g2 := F0 m 1 ls [.int (5 : Int32)]) (by rw [c9]) ?_
              refine lv_tableIn (off := 145) (tgt := 146) hx hb dX3_told_1 (by decide) (by decide) (by decide) (by decide) ?_
              refine lv_aload_n hx hb dX3_told_146 rfl (lv_at hl 0 rfl) ?_
              refine va_get (D := G.1) (ci := 3) (C := RX3) (T := TX3) (N := 8) hx hb hts iX3_told_X3 hown hK.1 hP 0 rfl rfl 0 (by decide) (hts (.fieldLink RX3 7 "BoardClockModel" "st" "[J") (List.mem_of_getElem? (i := 1) rfl)) (fun _ h9 => h9) rfl dX3_told_147 ?_
              refine lv_iconst (v := (3 : Int32)) hx hb dX3_told_150 (by decide) ?_
              refine zc_lald hx hb hK.1 hP 1 1 rfl rfl (j := 3) (zc_vin (by decide)) (by decide) dX3_told_151 ?_
              refine lv_l2i hx hb dX3_told_152 rfl ?_
              exact W.iret hx hb hr (fun t ht hW => ⟨_, rfl, Option.some.inj hF, ht⟩) (fun _ h => by cases h) dX3_told_153
            · have hF := zc_neg c9 hF
              by_cases c10 : a1 = (6 : Int32)
              · have hF := zc_pos c10 hF
                refine W.eq (g2 := F0 m 1 ls [.int (6 : Int32)]) (by rw [c10]) ?_
                refine lv_tableIn (off := 153) (tgt := 154) hx hb dX3_told_1 (by decide) (by decide) (by decide) (by decide) ?_
                refine lv_aload_n hx hb dX3_told_154 rfl (lv_at hl 0 rfl) ?_
                refine va_get (D := G.1) (ci := 3) (C := RX3) (T := TX3) (N := 8) hx hb hts iX3_told_X3 hown hK.1 hP 0 rfl rfl 0 (by decide) (hts (.fieldLink RX3 7 "BoardClockModel" "st" "[J") (List.mem_of_getElem? (i := 1) rfl)) (fun _ h9 => h9) rfl dX3_told_155 ?_
                refine lv_bipush (v := (9 : Int32)) hx hb dX3_told_158 (by decide) ?_
                refine zc_lald hx hb hK.1 hP 1 1 rfl rfl (j := 9) (zc_vin (by decide)) (by decide) dX3_told_160 ?_
                refine lv_l2i hx hb dX3_told_161 rfl ?_
                exact W.iret hx hb hr (fun t ht hW => ⟨_, rfl, Option.some.inj hF, ht⟩) (fun _ h => by cases h) dX3_told_162
              · have hF := zc_neg c10 hF
                by_cases c11 : a1 = (7 : Int32)
                · have hF := zc_pos c11 hF
                  refine W.eq (g2 := F0 m 1 ls [.int (7 : Int32)]) (by rw [c11]) ?_
                  refine lv_tableIn (off := 162) (tgt := 163) hx hb dX3_told_1 (by decide) (by decide) (by decide) (by decide) ?_
                  refine lv_aload_n hx hb dX3_told_163 rfl (lv_at hl 0 rfl) ?_
                  refine va_get (D := G.1) (ci := 3) (C := RX3) (T := TX3) (N := 8) hx hb hts iX3_told_X3 hown hK.1 hP 0 rfl rfl 0 (by decide) (hts (.fieldLink RX3 7 "BoardClockModel" "st" "[J") (List.mem_of_getElem? (i := 1) rfl)) (fun _ h9 => h9) rfl dX3_told_164 ?_
                  refine lv_bipush (v := (10 : Int32)) hx hb dX3_told_167 (by decide) ?_
                  refine zc_lald hx hb hK.1 hP 1 1 rfl rfl (j := 10) (zc_vin (by decide)) (by decide) dX3_told_169 ?_
                  refine lv_l2i hx hb dX3_told_170 rfl ?_
                  exact W.iret hx hb hr (fun t ht hW => ⟨_, rfl, Option.some.inj hF, ht⟩) (fun _ h => by cases h) dX3_told_171
                · have hF := zc_neg c11 hF
                  by_cases c12 : a1 = (8 : Int32)
                  · have hF := zc_pos c12 hF
                    refine W.eq (g2 := F0 m 1 ls [.int (8 : Int32)]) (by rw [c12]) ?_
                    refine lv_tableIn (off := 171) (tgt := 172) hx hb dX3_told_1 (by decide) (by decide) (by decide) (by decide) ?_
                    refine lv_aload_n hx hb dX3_told_172 rfl (lv_at hl 0 rfl) ?_
                    refine va_get (D := G.1) (ci := 3) (C := RX3) (T := TX3) (N := 8) hx hb hts iX3_told_X3 hown hK.1 hP 0 rfl rfl 0 (by decide) (hts (.fieldLink RX3 7 "BoardClockModel" "st" "[J") (List.mem_of_getElem? (i := 1) rfl)) (fun _ h9 => h9) rfl dX3_told_173 ?_
                    refine lv_bipush (v := (11 : Int32)) hx hb dX3_told_176 (by decide) ?_
                    refine zc_lald hx hb hK.1 hP 1 1 rfl rfl (j := 11) (zc_vin (by decide)) (by decide) dX3_told_178 ?_
                    refine lv_l2i hx hb dX3_told_179 rfl ?_
                    exact W.iret hx hb hr (fun t ht hW => ⟨_, rfl, Option.some.inj hF, ht⟩) (fun _ h => by cases h) dX3_told_180
                  · have hF := zc_neg c12 hF
                    by_cases c13 : a1 = (9 : Int32)
                    · have hF := zc_pos c13 hF
                      refine W.eq (g2 := F0 m 1 ls [.int (9 : Int32)]) (by rw [c13]) ?_
                      refine lv_tableIn (off := 180) (tgt := 181) hx hb dX3_told_1 (by decide) (by decide) (by decide) (by decide) ?_
                      refine lv_aload_n hx hb dX3_told_181 rfl (lv_at hl 0 rfl) ?_
                      refine va_get (D := G.1) (ci := 3) (C := RX3) (T := TX3) (N := 8) hx hb hts iX3_told_X3 hown hK.1 hP 0 rfl rfl 0 (by decide) (hts (.fieldLink RX3 7 "BoardClockModel" "st" "[J") (List.mem_of_getElem? (i := 1) rfl)) (fun _ h9 => h9) rfl dX3_told_182 ?_
                      refine lv_bipush (v := (12 : Int32)) hx hb dX3_told_185 (by decide) ?_
                      refine zc_lald hx hb hK.1 hP 1 1 rfl rfl (j := 12) (zc_vin (by decide)) (by decide) dX3_told_187 ?_
                      refine lv_l2i hx hb dX3_told_188 rfl ?_
                      exact W.iret hx hb hr (fun t ht hW => ⟨_, rfl, Option.some.inj hF, ht⟩) (fun _ h => by cases h) dX3_told_189
                    · have hF := zc_neg c13 hF
                      by_cases c14 : a1 = (10 : Int32)
                      · have hF := zc_pos c14 hF
                        refine W.eq (g2 := F0 m 1 ls [.int (10 : Int32)]) (by rw [c14]) ?_
                        refine lv_tableIn (off := 189) (tgt := 190) hx hb dX3_told_1 (by decide) (by decide) (by decide) (by decide) ?_
                        refine lv_aload_n hx hb dX3_told_190 rfl (lv_at hl 0 rfl) ?_
                        refine va_get (D := G.1) (ci := 3) (C := RX3) (T := TX3) (N := 8) hx hb hts iX3_told_X3 hown hK.1 hP 0 rfl rfl 0 (by decide) (hts (.fieldLink RX3 7 "BoardClockModel" "st" "[J") (List.mem_of_getElem? (i := 1) rfl)) (fun _ h9 => h9) rfl dX3_told_191 ?_
                        refine lv_bipush (v := (14 : Int32)) hx hb dX3_told_194 (by decide) ?_
                        refine zc_lald hx hb hK.1 hP 1 1 rfl rfl (j := 14) (zc_vin (by decide)) (by decide) dX3_told_196 ?_
                        refine lv_l2i hx hb dX3_told_197 rfl ?_
                        exact W.iret hx hb hr (fun t ht hW => ⟨_, rfl, Option.some.inj hF, ht⟩) (fun _ h => by cases h) dX3_told_198
                      · have hF := zc_neg c14 hF
                        by_cases c15 : a1 = (11 : Int32)
                        · have hF := zc_pos c15 hF
                          refine W.eq (g2 := F0 m 1 ls [.int (11 : Int32)]) (by rw [c15]) ?_
                          refine lv_tableIn (off := 198) (tgt := 199) hx hb dX3_told_1 (by decide) (by decide) (by decide) (by decide) ?_
                          refine lv_aload_n hx hb dX3_told_199 rfl (lv_at hl 0 rfl) ?_
                          obtain ⟨r16, er16, hF⟩ := zc_bind hF
                          refine zc_ci (va_runV (As := []) ⟨hx, hb, hml, hown, hts⟩ (kX3_holds l G ma er16) (cwV 0 hts gX3_told_X3_holds rfl rfl rfl (by decide +kernel) ⟨Nat.le_of_ble_eq_true rfl, Nat.le_of_ble_eq_true rfl⟩) (zc_preV hK hP 0 rfl rfl) rfl rfl hl.1 rfl (lv_room (Nat.le_of_ble_eq_true rfl)) dX3_told_200 ⟨Nat.le_of_ble_eq_true rfl, Nat.le_of_ble_eq_true rfl⟩) ?_
                          refine lv_if_eq (tgt := 210) hx hb dX3_told_203 (by decide) (fun c17 => ?_) (fun c17 => ?_)
                          · have hF := zc_pos c17 hF
                            refine lv_iconst (v := (0 : Int32)) hx hb dX3_told_210 (by decide) ?_
                            exact W.iret hx hb hr (fun t ht hW => ⟨_, rfl, Option.some.inj hF, ht⟩) (fun _ h => by cases h) dX3_told_211
                          · have hF := zc_neg c17 hF
                            refine lv_iconst (v := (1 : Int32)) hx hb dX3_told_206 (by decide) ?_
                            refine lv_goto (tgt := 211) hx hb dX3_told_207 (by decide) ?_
                            exact W.iret hx hb hr (fun t ht hW => ⟨_, rfl, Option.some.inj hF, ht⟩) (fun _ h => by cases h) dX3_told_211
                        · have hF := zc_neg c15 hF
                          by_cases c18 : a1 = (12 : Int32)
                          · have hF := zc_pos c18 hF
                            refine W.eq (g2 := F0 m 1 ls [.int (12 : Int32)]) (by rw [c18]) ?_
                            refine lv_tableIn (off := 211) (tgt := 212) hx hb dX3_told_1 (by decide) (by decide) (by decide) (by decide) ?_
                            refine lv_aload_n hx hb dX3_told_212 rfl (lv_at hl 0 rfl) ?_
                            refine va_get (D := G.1) (ci := 3) (C := RX3) (T := TX3) (N := 8) hx hb hts iX3_told_X3 hown hK.1 hP 0 rfl rfl 0 (by decide) (hts (.fieldLink RX3 7 "BoardClockModel" "st" "[J") (List.mem_of_getElem? (i := 1) rfl)) (fun _ h9 => h9) rfl dX3_told_213 ?_
                            refine lv_bipush (v := (24 : Int32)) hx hb dX3_told_216 (by decide) ?_
                            refine zc_lald hx hb hK.1 hP 1 1 rfl rfl (j := 24) (zc_vin (by decide)) (by decide) dX3_told_218 ?_
                            refine lv_l2i hx hb dX3_told_219 rfl ?_
                            exact W.iret hx hb hr (fun t ht hW => ⟨_, rfl, Option.some.inj hF, ht⟩) (fun _ h => by cases h) dX3_told_220
                          · have hF := zc_neg c18 hF
                            by_cases c19 : a1 = (13 : Int32)
                            · have hF := zc_pos c19 hF
                              refine W.eq (g2 := F0 m 1 ls [.int (13 : Int32)]) (by rw [c19]) ?_
                              refine lv_tableIn (off := 220) (tgt := 221) hx hb dX3_told_1 (by decide) (by decide) (by decide) (by decide) ?_
                              refine lv_aload_n hx hb dX3_told_221 rfl (lv_at hl 0 rfl) ?_
                              obtain ⟨r20, er20, hF⟩ := zc_bind hF
                              refine zc_cl (va_runV (As := []) ⟨hx, hb, hml, hown, hts⟩ (kX3_allRings l G ma er20) (cwV 0 hts gX3_told_X3_allRings rfl rfl rfl (by decide +kernel) ⟨Nat.le_of_ble_eq_true rfl, Nat.le_of_ble_eq_true rfl⟩) (zc_preV hK hP 0 rfl rfl) rfl rfl hl.1 rfl (lv_room (Nat.le_of_ble_eq_true rfl)) dX3_told_222 ⟨Nat.le_of_ble_eq_true rfl, Nat.le_of_ble_eq_true rfl⟩) ?_
                              refine lv_l2i hx hb dX3_told_225 rfl ?_
                              exact W.iret hx hb hr (fun t ht hW => ⟨_, rfl, Option.some.inj hF, ht⟩) (fun _ h => by cases h) dX3_told_226
                            · have hF := zc_neg c19 hF
                              by_cases c21 : a1 = (14 : Int32)
                              · have hF := zc_pos c21 hF
                                refine W.eq (g2 := F0 m 1 ls [.int (14 : Int32)]) (by rw [c21]) ?_
                                refine lv_tableIn (off := 226) (tgt := 227) hx hb dX3_told_1 (by decide) (by decide) (by decide) (by decide) ?_
                                refine lv_aload_n hx hb dX3_told_227 rfl (lv_at hl 0 rfl) ?_
                                obtain ⟨r22, er22, hF⟩ := zc_bind hF
                                refine zc_ci (va_runV (As := []) ⟨hx, hb, hml, hown, hts⟩ (kX3_untilDone l G ma er22) (cwV 0 hts gX3_told_X3_untilDone rfl rfl rfl (by decide +kernel) ⟨Nat.le_of_ble_eq_true rfl, Nat.le_of_ble_eq_true rfl⟩) (zc_preV hK hP 0 rfl rfl) rfl rfl hl.1 rfl (lv_room (Nat.le_of_ble_eq_true rfl)) dX3_told_228 ⟨Nat.le_of_ble_eq_true rfl, Nat.le_of_ble_eq_true rfl⟩) ?_
                                exact W.iret hx hb hr (fun t ht hW => ⟨_, rfl, Option.some.inj hF, ht⟩) (fun _ h => by cases h) dX3_told_231
                              · have hF := zc_neg c21 hF
                                by_cases c23 : a1 = (15 : Int32)
                                · have hF := zc_pos c23 hF
                                  refine W.eq (g2 := F0 m 1 ls [.int (15 : Int32)]) (by rw [c23]) ?_
                                  refine lv_tableIn (off := 231) (tgt := 232) hx hb dX3_told_1 (by decide) (by decide) (by decide) (by decide) ?_
                                  refine lv_aload_n hx hb dX3_told_232 rfl (lv_at hl 0 rfl) ?_
                                  refine va_get (D := G.1) (ci := 3) (C := RX3) (T := TX3) (N := 8) hx hb hts iX3_told_X3 hown hK.1 hP 0 rfl rfl 6 (by decide) (hts (.fieldLink RX3 134 "BoardClockModel" "entries" "I") (List.mem_of_getElem? (i := 2) rfl)) (fun _ h9 => h9) rfl dX3_told_233 ?_
                                  exact W.iret hx hb hr (fun t ht hW => ⟨_, rfl, Option.some.inj hF, ht⟩) (fun _ h => by cases h) dX3_told_236
                                · have hF := zc_neg c23 hF
                                  by_cases c24 : a1 = (16 : Int32)
                                  · have hF := zc_pos c24 hF
                                    refine W.eq (g2 := F0 m 1 ls [.int (16 : Int32)]) (by rw [c24]) ?_
                                    refine lv_tableIn (off := 236) (tgt := 237) hx hb dX3_told_1 (by decide) (by decide) (by decide) (by decide) ?_
                                    refine lv_aload_n hx hb dX3_told_237 rfl (lv_at hl 0 rfl) ?_
                                    obtain ⟨r25, er25, hF⟩ := zc_bind hF
                                    refine zc_ci (va_runV (As := []) ⟨hx, hb, hml, hown, hts⟩ (kX3_wrong l G ma er25) (cwV 0 hts gX3_told_X3_wrong rfl rfl rfl (by decide +kernel) ⟨Nat.le_of_ble_eq_true rfl, Nat.le_of_ble_eq_true rfl⟩) (zc_preV hK hP 0 rfl rfl) rfl rfl hl.1 rfl (lv_room (Nat.le_of_ble_eq_true rfl)) dX3_told_238 ⟨Nat.le_of_ble_eq_true rfl, Nat.le_of_ble_eq_true rfl⟩) ?_
                                    exact W.iret hx hb hr (fun t ht hW => ⟨_, rfl, Option.some.inj hF, ht⟩) (fun _ h => by cases h) dX3_told_241
                                  · have hF := zc_neg c24 hF
                                    by_cases c26 : a1 = (17 : Int32)
                                    · have hF := zc_pos c26 hF
                                      refine W.eq (g2 := F0 m 1 ls [.int (17 : Int32)]) (by rw [c26]) ?_
                                      refine lv_tableIn (off := 241) (tgt := 242) hx hb dX3_told_1 (by decide) (by decide) (by decide) (by decide) ?_
                                      refine lv_aload_n hx hb dX3_told_242 rfl (lv_at hl 0 rfl) ?_
                                      refine va_get (D := G.1) (ci := 3) (C := RX3) (T := TX3) (N := 8) hx hb hts iX3_told_X3 hown hK.1 hP 0 rfl rfl 2 (by decide) (hts (.fieldLink RX3 151 "BoardClockModel" "deeds" "I") (List.mem_of_getElem? (i := 3) rfl)) (fun _ h9 => h9) rfl dX3_told_243 ?_
                                      exact W.iret hx hb hr (fun t ht hW => ⟨_, rfl, Option.some.inj hF, ht⟩) (fun _ h => by cases h) dX3_told_246
                                    · have hF := zc_neg c26 hF
                                      have t0_1 := lv_neT (a := 0) c1 (by decide)
                                      have t1_1 := lv_neT (a := 1) c2 (by decide)
                                      have t2_1 := lv_neT (a := 2) c4 (by decide)
                                      have t3_1 := lv_neT (a := 3) c6 (by decide)
                                      have t4_1 := lv_neT (a := 4) c7 (by decide)
                                      have t5_1 := lv_neT (a := 5) c9 (by decide)
                                      have t6_1 := lv_neT (a := 6) c10 (by decide)
                                      have t7_1 := lv_neT (a := 7) c11 (by decide)
                                      have t8_1 := lv_neT (a := 8) c12 (by decide)
                                      have t9_1 := lv_neT (a := 9) c13 (by decide)
                                      have t10_1 := lv_neT (a := 10) c14 (by decide)
                                      have t11_1 := lv_neT (a := 11) c15 (by decide)
                                      have t12_1 := lv_neT (a := 12) c18 (by decide)
                                      have t13_1 := lv_neT (a := 13) c19 (by decide)
                                      have t14_1 := lv_neT (a := 14) c21 (by decide)
                                      have t15_1 := lv_neT (a := 15) c23 (by decide)
                                      have t16_1 := lv_neT (a := 16) c24 (by decide)
                                      have t17_1 := lv_neT (a := 17) c26 (by decide)
                                      refine lv_tableOut (tgt := 247) hx hb dX3_told_1 (by omega) (by decide) ?_
                                      refine lv_ldc hx hb hown (hts (.constant RX3 154 (-1000000002)) (List.mem_of_getElem? (i := 4) rfl)) dX3_told_247 ?_
                                      exact W.iret hx hb hr (fun t ht hW => ⟨_, rfl, Option.some.inj hF, ht⟩) (fun _ h => by cases h) dX3_told_249
def fX3_time (u : zc_M) (a1 : Int32) : Option (Int64) := if a1 = (0 : Int32) then (some (u.1 0 0)) else (if a1 = (1 : Int32) then (some (u.1 0 1)) else (if a1 = (2 : Int32) then (Option.bind (fX3_aim u) fun (r4 : Int64) => some r4) else (some (-1 : Int64))))
theorem iX3_time_X3 : ∀ w ∈ wsX30, w ∈ wsX3_time := fun _ h => List.mem_cons_of_mem _ (List.mem_append_right _ h)
set_option maxHeartbeats 4000000 in
set_option maxRecDepth 100000 in
theorem kX3_time (l : Launch) (G : zc_G) (ma : Nat → Nat) {u : zc_M} {a1 : Int32} {r0 : Int64} (hF : fX3_time u a1 = some r0) : Met l yX3_time wsX3_time ({ frames := 1, cells := 0, slots := 0, locals := 20 }) (zc_Pp G [.ref (ma 0), .int a1] (zc_mo G ma u)) (vp_Sl (fun r => r = r0)) 0 0 (fun _ => False) := by
  refine Met.ofW (cc := cX3_time) (maxL := 2) (ret := (some .long)) (by decide) rfl ?_
  intro p e s m args below meth c s₁ B hml hv
  obtain ⟨rfl, hP, hK⟩ := hv
  have hx := B.exec
  have hb := B.bytes
  have hr := B.returns
  have hts := atoms_spec (ws := wsX3_time) B.pre
  have hown : s.vm.findClass RX3 = some m.cls := findClass_of_methodNamed B.named
  have hlocks := B.notSynchronized
  have hl := lv_entry ([.ref (ma 0), .int a1]) (n := 2) (Nat.le_of_ble_eq_true rfl)
  rw [lg_entry_eq]
  generalize (lg_sl ([.ref (ma 0), .int a1]) ++ List.replicate (2 - (lg_sl ([.ref (ma 0), .int a1])).length) Slot.unset).toArray = ls at hl ⊢
  have hl : lv_has ls 2 [(0, .ref (ma 0)), (1, .int a1)] := hl
  refine lv_iload_n hx hb dX3_time_0 rfl (lv_at hl 1 rfl) ?_
  by_cases c1 : a1 = (0 : Int32)
  · have hF := zc_pos c1 hF
    refine W.eq (g2 := F0 m 1 ls [.int (0 : Int32)]) (by rw [c1]) ?_
    refine lv_tableIn (off := 27) (tgt := 28) hx hb dX3_time_1 (by decide) (by decide) (by decide) (by decide) ?_
    refine lv_aload_n hx hb dX3_time_28 rfl (lv_at hl 0 rfl) ?_
    refine va_get (D := G.1) (ci := 3) (C := RX3) (T := TX3) (N := 8) hx hb hts iX3_time_X3 hown hK.1 hP 0 rfl rfl 0 (by decide) (hts (.fieldLink RX3 7 "BoardClockModel" "st" "[J") (List.mem_of_getElem? (i := 1) rfl)) (fun _ h9 => h9) rfl dX3_time_29 ?_
    refine lv_iconst (v := (0 : Int32)) hx hb dX3_time_32 (by decide) ?_
    refine zc_lald hx hb hK.1 hP 1 1 rfl rfl (j := 0) (zc_vin (by decide)) (by decide) dX3_time_33 ?_
    exact W.lret hx hb hr (fun t ht hW => ⟨_, rfl, Option.some.inj hF, ht⟩) (fun _ h => by cases h) dX3_time_34
  · have hF := zc_neg c1 hF
    by_cases c2 : a1 = (1 : Int32)
    · have hF := zc_pos c2 hF
      refine W.eq (g2 := F0 m 1 ls [.int (1 : Int32)]) (by rw [c2]) ?_
      refine lv_tableIn (off := 34) (tgt := 35) hx hb dX3_time_1 (by decide) (by decide) (by decide) (by decide) ?_
      refine lv_aload_n hx hb dX3_time_35 rfl (lv_at hl 0 rfl) ?_
      refine va_get (D := G.1) (ci := 3) (C := RX3) (T := TX3) (N := 8) hx hb hts iX3_time_X3 hown hK.1 hP 0 rfl rfl 0 (by decide) (hts (.fieldLink RX3 7 "BoardClockModel" "st" "[J") (List.mem_of_getElem? (i := 1) rfl)) (fun _ h9 => h9) rfl dX3_time_36 ?_
      refine lv_iconst (v := (1 : Int32)) hx hb dX3_time_39 (by decide) ?_
      refine zc_lald hx hb hK.1 hP 1 1 rfl rfl (j := 1) (zc_vin (by decide)) (by decide) dX3_time_40 ?_
      exact W.lret hx hb hr (fun t ht hW => ⟨_, rfl, Option.some.inj hF, ht⟩) (fun _ h => by cases h) dX3_time_41
    · have hF := zc_neg c2 hF
      by_cases c3 : a1 = (2 : Int32)
      · have hF := zc_pos c3 hF
        refine W.eq (g2 := F0 m 1 ls [.int (2 : Int32)]) (by rw [c3]) ?_
        refine lv_tableIn (off := 41) (tgt := 42) hx hb dX3_time_1 (by decide) (by decide) (by decide) (by decide) ?_
        refine lv_aload_n hx hb dX3_time_42 rfl (lv_at hl 0 rfl) ?_
        obtain ⟨r4, er4, hF⟩ := zc_bind hF
        refine zc_cl (va_runV (As := []) ⟨hx, hb, hml, hown, hts⟩ (kX3_aim l G ma er4) (cwV 0 hts gX3_time_X3_aim rfl rfl rfl (by decide +kernel) ⟨Nat.le_of_ble_eq_true rfl, Nat.le_of_ble_eq_true rfl⟩) (zc_preV hK hP 0 rfl rfl) rfl rfl hl.1 rfl (lv_room (Nat.le_of_ble_eq_true rfl)) dX3_time_43 ⟨Nat.le_of_ble_eq_true rfl, Nat.le_of_ble_eq_true rfl⟩) ?_
        exact W.lret hx hb hr (fun t ht hW => ⟨_, rfl, Option.some.inj hF, ht⟩) (fun _ h => by cases h) dX3_time_46
      · have hF := zc_neg c3 hF
        have t0_1 := lv_neT (a := 0) c1 (by decide)
        have t1_1 := lv_neT (a := 1) c2 (by decide)
        have t2_1 := lv_neT (a := 2) c3 (by decide)
        refine lv_tableOut (tgt := 47) hx hb dX3_time_1 (by omega) (by decide) ?_
        refine lv_ldc2 hx hb hown (hts (.constantLong RX3 35 (-1)) (List.mem_of_getElem? (i := 2) rfl)) dX3_time_47 ?_
        exact W.lret hx hb hr (fun t ht hW => ⟨_, rfl, Option.some.inj hF, ht⟩) (fun _ h => by cases h) dX3_time_50
def fX3_calendar (u : zc_M) (a1 : Int32) : Option (Int32) := Option.bind (fX3_minuteNow u) fun (r1 : Int64) => zc_let (r1).toInt32 fun (x2 : Int32) => if a1 = (0 : Int32) then (some x2) else (if a1 = (1 : Int32) then (some (x2 - x2 / (60 : Int32) * (60 : Int32))) else (if a1 = (2 : Int32) then (some ((x2 / (60 : Int32)) - (x2 / (60 : Int32)) / (24 : Int32) * (24 : Int32))) else (if a1 = (3 : Int32) then (some ((x2 / (1440 : Int32)) - (x2 / (1440 : Int32)) / (7 : Int32) * (7 : Int32))) else (some (-1000000002 : Int32)))))
set_option maxHeartbeats 4000000 in
set_option maxRecDepth 100000 in
theorem kX3_calendar (l : Launch) (G : zc_G) (ma : Nat → Nat) {u : zc_M} {a1 : Int32} {r0 : Int32} (hF : fX3_calendar u a1 = some r0) : Met l yX3_calendar wsX3_calendar ({ frames := 1, cells := 0, slots := 0, locals := 20 }) (zc_Pp G [.ref (ma 0), .int a1] (zc_mo G ma u)) (vp_Si (fun r => r = r0)) 0 0 (fun _ => False) := by
  refine Met.ofW (cc := cX3_calendar) (maxL := 3) (ret := (some .int)) (by decide) rfl ?_
  intro p e s m args below meth c s₁ B hml hv
  obtain ⟨rfl, hP, hK⟩ := hv
  have hx := B.exec
  have hb := B.bytes
  have hr := B.returns
  have hts := atoms_spec (ws := wsX3_calendar) B.pre
  have hown : s.vm.findClass RX3 = some m.cls := findClass_of_methodNamed B.named
  have hlocks := B.notSynchronized
  have hl := lv_entry ([.ref (ma 0), .int a1]) (n := 3) (Nat.le_of_ble_eq_true rfl)
  rw [lg_entry_eq]
  generalize (lg_sl ([.ref (ma 0), .int a1]) ++ List.replicate (3 - (lg_sl ([.ref (ma 0), .int a1])).length) Slot.unset).toArray = ls at hl ⊢
  have hl : lv_has ls 3 [(0, .ref (ma 0)), (1, .int a1)] := hl
  refine lv_aload_n hx hb dX3_calendar_0 rfl (lv_at hl 0 rfl) ?_
  obtain ⟨r1, er1, hF⟩ := zc_bind hF
  refine zc_cl (va_runV (As := []) ⟨hx, hb, hml, hown, hts⟩ (kX3_minuteNow l G ma er1) (cwV 0 hts gX3_calendar_X3_minuteNow rfl rfl rfl (by decide +kernel) ⟨Nat.le_of_ble_eq_true rfl, Nat.le_of_ble_eq_true rfl⟩) (zc_preV hK hP 0 rfl rfl) rfl rfl hl.1 rfl (lv_room (Nat.le_of_ble_eq_true rfl)) dX3_calendar_1 ⟨Nat.le_of_ble_eq_true rfl, Nat.le_of_ble_eq_true rfl⟩) ?_
  refine lv_l2i hx hb dX3_calendar_4 rfl ?_
  refine lv_topi (fun x2 ex2 => ?_)
  have hF := zc_letE ex2 hF
  refine lv_istore_n (lv' := [(2, .int x2), (0, .ref (ma 0)), (1, .int a1)]) hx hb dX3_calendar_5 rfl hl (by decide) rfl (fun ls hl => ?_)
  refine lv_iload_n hx hb dX3_calendar_6 rfl (lv_at hl 2 rfl) ?_
  by_cases c3 : a1 = (0 : Int32)
  · have hF := zc_pos c3 hF
    refine W.eq (g2 := F0 m 7 ls [.int (0 : Int32)]) (by rw [c3]) ?_
    refine lv_tableIn (off := 29) (tgt := 36) hx hb dX3_calendar_7 (by decide) (by decide) (by decide) (by decide) ?_
    refine lv_iload_n hx hb dX3_calendar_36 rfl (lv_at hl 0 rfl) ?_
    exact W.iret hx hb hr (fun t ht hW => ⟨_, rfl, Option.some.inj hF, ht⟩) (fun _ h => by cases h) dX3_calendar_37
  · have hF := zc_neg c3 hF
    by_cases c4 : a1 = (1 : Int32)
    · have hF := zc_pos c4 hF
      refine W.eq (g2 := F0 m 7 ls [.int (1 : Int32)]) (by rw [c4]) ?_
      refine lv_tableIn (off := 31) (tgt := 38) hx hb dX3_calendar_7 (by decide) (by decide) (by decide) (by decide) ?_
      refine lv_iload_n hx hb dX3_calendar_38 rfl (lv_at hl 0 rfl) ?_
      refine lv_bipush (v := (60 : Int32)) hx hb dX3_calendar_39 (by decide) ?_
      refine lv_irem hx hb dX3_calendar_41 (by decide) ?_
      exact W.iret hx hb hr (fun t ht hW => ⟨_, rfl, Option.some.inj hF, ht⟩) (fun _ h => by cases h) dX3_calendar_42
    · have hF := zc_neg c4 hF
      by_cases c5 : a1 = (2 : Int32)
      · have hF := zc_pos c5 hF
        refine W.eq (g2 := F0 m 7 ls [.int (2 : Int32)]) (by rw [c5]) ?_
        refine lv_tableIn (off := 36) (tgt := 43) hx hb dX3_calendar_7 (by decide) (by decide) (by decide) (by decide) ?_
        refine lv_iload_n hx hb dX3_calendar_43 rfl (lv_at hl 0 rfl) ?_
        refine lv_bipush (v := (60 : Int32)) hx hb dX3_calendar_44 (by decide) ?_
        refine lv_idiv hx hb dX3_calendar_46 (by decide) ?_
        refine lv_bipush (v := (24 : Int32)) hx hb dX3_calendar_47 (by decide) ?_
        refine lv_irem hx hb dX3_calendar_49 (by decide) ?_
        exact W.iret hx hb hr (fun t ht hW => ⟨_, rfl, Option.some.inj hF, ht⟩) (fun _ h => by cases h) dX3_calendar_50
      · have hF := zc_neg c5 hF
        by_cases c6 : a1 = (3 : Int32)
        · have hF := zc_pos c6 hF
          refine W.eq (g2 := F0 m 7 ls [.int (3 : Int32)]) (by rw [c6]) ?_
          refine lv_tableIn (off := 44) (tgt := 51) hx hb dX3_calendar_7 (by decide) (by decide) (by decide) (by decide) ?_
          refine lv_iload_n hx hb dX3_calendar_51 rfl (lv_at hl 0 rfl) ?_
          refine lv_sipush (v := (1440 : Int32)) hx hb dX3_calendar_52 (by decide) ?_
          refine lv_idiv hx hb dX3_calendar_55 (by decide) ?_
          refine lv_bipush (v := (7 : Int32)) hx hb dX3_calendar_56 (by decide) ?_
          refine lv_irem hx hb dX3_calendar_58 (by decide) ?_
          exact W.iret hx hb hr (fun t ht hW => ⟨_, rfl, Option.some.inj hF, ht⟩) (fun _ h => by cases h) dX3_calendar_59
        · have hF := zc_neg c6 hF
          have t0_7 := lv_neT (a := 0) c3 (by decide)
          have t1_7 := lv_neT (a := 1) c4 (by decide)
          have t2_7 := lv_neT (a := 2) c5 (by decide)
          have t3_7 := lv_neT (a := 3) c6 (by decide)
          refine lv_tableOut (tgt := 60) hx hb dX3_calendar_7 (by omega) (by decide) ?_
          refine lv_ldc hx hb hown (hts (.constant RX3 154 (-1000000002)) (List.mem_of_getElem? (i := 1) rfl)) dX3_calendar_60 ?_
          exact W.iret hx hb hr (fun t ht hW => ⟨_, rfl, Option.some.inj hF, ht⟩) (fun _ h => by cases h) dX3_calendar_62
def fX3_span (u : zc_M) (a1 : Int32) (a2 : Int32) : Option (Int32) := Option.bind (fX3_in a1.toInt64 (0 : Int64) (8 : Int64)) fun (r1 : Int32) => if r1 = 0 then (some (-1000000001 : Int32)) else (Option.bind (fX3_in a2.toInt64 (0 : Int64) (1 : Int64)) fun (r3 : Int32) => if r3 = 0 then (some (-1000000002 : Int32)) else (zc_in ((15 : Int32) + a1) 49 (zc_let (u.1 0 (((15 : Int32) + a1)).toNatClampNeg) fun (x6 : Int64) => if a2 = 0 then (some ((x6 + (10000 : Int64))).toInt32) else (Option.bind (fX3_offAt u (((10 : Int64) * a1.toInt64) - (15 : Int64))) fun (r8 : Int64) => some (((x6 - ((16 : Int64) * r8)) + (100000 : Int64))).toInt32))))
theorem iX3_span_X3 : ∀ w ∈ wsX30, w ∈ wsX3_span := fun _ h => List.mem_cons_of_mem _ (List.mem_append_right _ h)
set_option maxHeartbeats 4000000 in
set_option maxRecDepth 100000 in
theorem kX3_span (l : Launch) (G : zc_G) (ma : Nat → Nat) {u : zc_M} {a1 : Int32} {a2 : Int32} {r0 : Int32} (hF : fX3_span u a1 a2 = some r0) : Met l yX3_span wsX3_span ({ frames := 1, cells := 0, slots := 0, locals := 25 }) (zc_Pp G [.ref (ma 0), .int a1, .int a2] (zc_mo G ma u)) (vp_Si (fun r => r = r0)) 0 0 (fun _ => False) := by
  refine Met.ofW (cc := cX3_span) (maxL := 5) (ret := (some .int)) (by decide) rfl ?_
  intro p e s m args below meth c s₁ B hml hv
  obtain ⟨rfl, hP, hK⟩ := hv
  have hx := B.exec
  have hb := B.bytes
  have hr := B.returns
  have hts := atoms_spec (ws := wsX3_span) B.pre
  have hown : s.vm.findClass RX3 = some m.cls := findClass_of_methodNamed B.named
  have hlocks := B.notSynchronized
  have hl := lv_entry ([.ref (ma 0), .int a1, .int a2]) (n := 5) (Nat.le_of_ble_eq_true rfl)
  rw [lg_entry_eq]
  generalize (lg_sl ([.ref (ma 0), .int a1, .int a2]) ++ List.replicate (5 - (lg_sl ([.ref (ma 0), .int a1, .int a2])).length) Slot.unset).toArray = ls at hl ⊢
  have hl : lv_has ls 5 [(0, .ref (ma 0)), (1, .int a1), (2, .int a2)] := hl
  refine lv_iload_n hx hb dX3_span_0 rfl (lv_at hl 1 rfl) ?_
  refine lv_i2l hx hb dX3_span_1 rfl ?_
  refine lv_lconst (v := (0 : Int64)) hx hb dX3_span_2 (by decide) ?_
  refine lv_ldc2 hx hb hown (hts (.constantLong RX3 155 (8)) (List.mem_of_getElem? (i := 1) rfl)) dX3_span_3 ?_
  obtain ⟨r1, er1, hF⟩ := zc_bind hF
  refine zc_ci (va_runS (As := [.long _, .long _, .long _]) ⟨hx, hb, hml, hown, hts⟩ (kX3_in l G er1) (va_cwS 3 hts gX3_span_X3_in rfl rfl rfl (by decide +kernel) ⟨Nat.le_of_ble_eq_true rfl, Nat.le_of_ble_eq_true rfl⟩) (zc_preS hK (show va_P G.1 vwCl [] _ from fun k q h => by simp at h)) rfl rfl hl.1 rfl (lv_room (Nat.le_of_ble_eq_true rfl)) dX3_span_6 ⟨Nat.le_of_ble_eq_true rfl, Nat.le_of_ble_eq_true rfl⟩) ?_
  refine lv_if_ne (tgt := 15) hx hb dX3_span_9 (by decide) (fun c2 => ?_) (fun c2 => ?_)
  · have hF := zc_neg c2 hF
    refine lv_iload_n hx hb dX3_span_15 rfl (lv_at hl 2 rfl) ?_
    refine lv_i2l hx hb dX3_span_16 rfl ?_
    refine lv_lconst (v := (0 : Int64)) hx hb dX3_span_17 (by decide) ?_
    refine lv_lconst (v := (1 : Int64)) hx hb dX3_span_18 (by decide) ?_
    obtain ⟨r3, er3, hF⟩ := zc_bind hF
    refine zc_ci (va_runS (As := [.long _, .long _, .long _]) ⟨hx, hb, hml, hown, hts⟩ (kX3_in l G er3) (va_cwS 3 hts gX3_span_X3_in rfl rfl rfl (by decide +kernel) ⟨Nat.le_of_ble_eq_true rfl, Nat.le_of_ble_eq_true rfl⟩) (zc_preS hK (show va_P G.1 vwCl [] _ from fun k q h => by simp at h)) rfl rfl hl.1 rfl (lv_room (Nat.le_of_ble_eq_true rfl)) dX3_span_19 ⟨Nat.le_of_ble_eq_true rfl, Nat.le_of_ble_eq_true rfl⟩) ?_
    refine lv_if_ne (tgt := 28) hx hb dX3_span_22 (by decide) (fun c4 => ?_) (fun c4 => ?_)
    · have hF := zc_neg c4 hF
      refine lv_aload_n hx hb dX3_span_28 rfl (lv_at hl 0 rfl) ?_
      refine va_get (D := G.1) (ci := 3) (C := RX3) (T := TX3) (N := 8) hx hb hts iX3_span_X3 hown hK.1 hP 0 rfl rfl 0 (by decide) (hts (.fieldLink RX3 7 "BoardClockModel" "st" "[J") (List.mem_of_getElem? (i := 4) rfl)) (fun _ h9 => h9) rfl dX3_span_29 ?_
      refine lv_bipush (v := (15 : Int32)) hx hb dX3_span_32 (by decide) ?_
      refine lv_iload_n hx hb dX3_span_34 rfl (lv_at hl 1 rfl) ?_
      refine lv_iadd hx hb dX3_span_35 ?_
      obtain ⟨hi5, hF⟩ := zc_inE hF
      refine zc_lald hx hb hK.1 hP 1 1 rfl rfl hi5 rfl dX3_span_36 ?_
      refine lv_topl (fun x6 ex6 => ?_)
      have hF := zc_letE ex6 hF
      refine lv_lstore_n (lv' := [(3, .long x6), (0, .ref (ma 0)), (1, .int a1), (2, .int a2)]) hx hb dX3_span_37 rfl hl (by decide) rfl (fun ls hl => ?_)
      refine lv_iload_n hx hb dX3_span_38 rfl (lv_at hl 3 rfl) ?_
      refine lv_if_ne (tgt := 50) hx hb dX3_span_39 (by decide) (fun c7 => ?_) (fun c7 => ?_)
      · have hF := zc_neg c7 hF
        refine lv_lload_n hx hb dX3_span_50 rfl (lv_at hl 0 rfl) ?_
        refine lv_ldc2 hx hb hown (hts (.constantLong RX3 45 (16)) (List.mem_of_getElem? (i := 6) rfl)) dX3_span_51 ?_
        refine lv_aload_n hx hb dX3_span_54 rfl (lv_at hl 1 rfl) ?_
        refine lv_ldc2 hx hb hown (hts (.constantLong RX3 39 (10)) (List.mem_of_getElem? (i := 7) rfl)) dX3_span_55 ?_
        refine lv_iload_n hx hb dX3_span_58 rfl (lv_at hl 2 rfl) ?_
        refine lv_i2l hx hb dX3_span_59 rfl ?_
        refine lv_lmul hx hb dX3_span_60 ?_
        refine lv_ldc2 hx hb hown (hts (.constantLong RX3 164 (15)) (List.mem_of_getElem? (i := 8) rfl)) dX3_span_61 ?_
        refine lv_lsub hx hb dX3_span_64 ?_
        obtain ⟨r8, er8, hF⟩ := zc_bind hF
        refine zc_cl (va_runV (As := [.long _]) ⟨hx, hb, hml, hown, hts⟩ (kX3_offAt l G ma er8) (cwV 1 hts gX3_span_X3_offAt rfl rfl rfl (by decide +kernel) ⟨Nat.le_of_ble_eq_true rfl, Nat.le_of_ble_eq_true rfl⟩) (zc_preV hK hP 0 rfl rfl) rfl rfl hl.1 rfl (lv_room (Nat.le_of_ble_eq_true rfl)) dX3_span_65 ⟨Nat.le_of_ble_eq_true rfl, Nat.le_of_ble_eq_true rfl⟩) ?_
        refine lv_lmul hx hb dX3_span_68 ?_
        refine lv_lsub hx hb dX3_span_69 ?_
        refine lv_ldc2 hx hb hown (hts (.constantLong RX3 166 (100000)) (List.mem_of_getElem? (i := 9) rfl)) dX3_span_70 ?_
        refine lv_ladd hx hb dX3_span_73 ?_
        refine lv_l2i hx hb dX3_span_74 rfl ?_
        exact W.iret hx hb hr (fun t ht hW => ⟨_, rfl, Option.some.inj hF, ht⟩) (fun _ h => by cases h) dX3_span_75
      · have hF := zc_pos c7 hF
        refine lv_lload_n hx hb dX3_span_42 rfl (lv_at hl 0 rfl) ?_
        refine lv_ldc2 hx hb hown (hts (.constantLong RX3 162 (10000)) (List.mem_of_getElem? (i := 5) rfl)) dX3_span_43 ?_
        refine lv_ladd hx hb dX3_span_46 ?_
        refine lv_goto (tgt := 74) hx hb dX3_span_47 (by decide) ?_
        refine lv_l2i hx hb dX3_span_74 rfl ?_
        exact W.iret hx hb hr (fun t ht hW => ⟨_, rfl, Option.some.inj hF, ht⟩) (fun _ h => by cases h) dX3_span_75
    · have hF := zc_pos c4 hF
      refine lv_ldc hx hb hown (hts (.constant RX3 154 (-1000000002)) (List.mem_of_getElem? (i := 3) rfl)) dX3_span_25 ?_
      exact W.iret hx hb hr (fun t ht hW => ⟨_, rfl, Option.some.inj hF, ht⟩) (fun _ h => by cases h) dX3_span_27
  · have hF := zc_pos c2 hF
    refine lv_ldc hx hb hown (hts (.constant RX3 161 (-1000000001)) (List.mem_of_getElem? (i := 2) rfl)) dX3_span_12 ?_
    exact W.iret hx hb hr (fun t ht hW => ⟨_, rfl, Option.some.inj hF, ht⟩) (fun _ h => by cases h) dX3_span_14
def fX3_next_L (N : Nat) : Nat → zc_M → Int32 → Int64 → Int32 → Option (Int64)
  | 0, _, _, _, _ => none
  | n + 1, u, y1, y2, y4 => if (10080 : Int32) ≤ y4 then (some y2) else (Option.bind (fX3_fits u y1 y2) fun (r4 : Int32) => if r4 = 0 then (zc_let (y2 + (1 : Int64)) fun (x6 : Int64) => zc_let (y4 + (1 : Int32)) fun (x7 : Int32) => fX3_next_L N n u y1 x6 x7) else (some y2))
def fX3_next (N : Nat) (u : zc_M) (a1 : Int32) : Option (Int64) := Option.bind (fX3_minuteNow u) fun (r1 : Int64) => zc_let (r1 + (1 : Int64)) fun (x2 : Int64) => fX3_next_L N N u a1 x2 (0 : Int32)
set_option maxHeartbeats 4000000 in
set_option maxRecDepth 100000 in
theorem kX3_next (l : Launch) (G : zc_G) (ma : Nat → Nat) {N : Nat} {u : zc_M} {a1 : Int32} {r0 : Int64} (hF : fX3_next N u a1 = some r0) : Met l yX3_next wsX3_next ({ frames := 2, cells := 0, slots := 0, locals := 47 }) (zc_Pp G [.ref (ma 0), .int a1] (zc_mo G ma u)) (vp_Sl (fun r => r = r0)) 0 0 (fun _ => False) := by
  refine Met.ofW (cc := cX3_next) (maxL := 5) (ret := (some .long)) (by decide) rfl ?_
  intro p e s m args below meth c s₁ B hml hv
  obtain ⟨rfl, hP, hK⟩ := hv
  have hx := B.exec
  have hb := B.bytes
  have hr := B.returns
  have hts := atoms_spec (ws := wsX3_next) B.pre
  have hown : s.vm.findClass RX3 = some m.cls := findClass_of_methodNamed B.named
  have hlocks := B.notSynchronized
  have hl := lv_entry ([.ref (ma 0), .int a1]) (n := 5) (Nat.le_of_ble_eq_true rfl)
  rw [lg_entry_eq]
  generalize (lg_sl ([.ref (ma 0), .int a1]) ++ List.replicate (5 - (lg_sl ([.ref (ma 0), .int a1])).length) Slot.unset).toArray = ls at hl ⊢
  have hl : lv_has ls 5 [(0, .ref (ma 0)), (1, .int a1)] := hl
  have loop : ∀ (n : Nat) (y1 : Int32) (y2 : Int64) (y4 : Int32) (ls : Array Slot), lv_has ls 5 [(0, .ref (ma 0)), (1, .int y1), (2, .long y2), (4, .int y4)] → fX3_next_L N n u y1 y2 y4 = some r0 → W p l e (headSpec wsX3_next ({ frames := 2, cells := 0, slots := 0, locals := 47 })).room s m ([.ref (ma 0), .int a1] : List Value).toArray below meth c s.heap [] 0 0 (MQ below (vp_Sl (fun r => r = r0)) ([.ref (ma 0), .int a1] : List Value).toArray s 0 0 (fun _ => False)) (F0 m 10 ls []) := by
    intro n
    induction n with
    | zero =>
      intro y1 y2 y4 ls hl hF
      cases hF
    | succ n ih =>
      intro y1 y2 y4 ls hl hF
      rw [fX3_next_L] at hF
      refine lv_iload hx hb dX3_next_10 (lv_at hl 3 rfl) ?_
      refine lv_sipush (v := (10080 : Int32)) hx hb dX3_next_12 (by decide) ?_
      refine lv_icmp_ge (tgt := 37) hx hb dX3_next_15 (by decide) (fun c3 => ?_) (fun c3 => ?_)
      · have hF := zc_pos c3 hF
        refine lv_lload_n hx hb dX3_next_37 rfl (lv_at hl 2 rfl) ?_
        exact W.lret hx hb hr (fun t ht hW => ⟨_, rfl, Option.some.inj hF, ht⟩) (fun _ h => by cases h) dX3_next_38
      · have hF := zc_neg c3 hF
        refine lv_aload_n hx hb dX3_next_18 rfl (lv_at hl 0 rfl) ?_
        refine lv_iload_n hx hb dX3_next_19 rfl (lv_at hl 1 rfl) ?_
        refine lv_lload_n hx hb dX3_next_20 rfl (lv_at hl 2 rfl) ?_
        obtain ⟨r4, er4, hF⟩ := zc_bind hF
        refine zc_ci (va_runV (As := [.int _, .long _]) ⟨hx, hb, hml, hown, hts⟩ (kX3_fits l G ma er4) (cwV 2 hts gX3_next_X3_fits rfl rfl rfl (by decide +kernel) ⟨Nat.le_of_ble_eq_true rfl, Nat.le_of_ble_eq_true rfl⟩) (zc_preV hK hP 0 rfl rfl) rfl rfl hl.1 rfl (lv_room (Nat.le_of_ble_eq_true rfl)) dX3_next_21 ⟨Nat.le_of_ble_eq_true rfl, Nat.le_of_ble_eq_true rfl⟩) ?_
        refine lv_if_ne (tgt := 37) hx hb dX3_next_24 (by decide) (fun c5 => ?_) (fun c5 => ?_)
        · have hF := zc_neg c5 hF
          refine lv_lload_n hx hb dX3_next_37 rfl (lv_at hl 2 rfl) ?_
          exact W.lret hx hb hr (fun t ht hW => ⟨_, rfl, Option.some.inj hF, ht⟩) (fun _ h => by cases h) dX3_next_38
        · have hF := zc_pos c5 hF
          refine lv_lload_n hx hb dX3_next_27 rfl (lv_at hl 2 rfl) ?_
          refine lv_lconst (v := (1 : Int64)) hx hb dX3_next_28 (by decide) ?_
          refine lv_ladd hx hb dX3_next_29 ?_
          refine lv_topl (fun x6 ex6 => ?_)
          have hF := zc_letE ex6 hF
          refine lv_lstore_n (lv' := [(2, .long x6), (0, .ref (ma 0)), (1, .int y1), (4, .int y4)]) hx hb dX3_next_30 rfl hl (by decide) rfl (fun ls hl => ?_)
          obtain ⟨x7, ex7⟩ : ∃ y : Int32, y = y4 + (1 : Int32) := ⟨_, rfl⟩
          have hF := zc_letE ex7 hF
          refine lv_iinc (v := x7) (lv' := [(4, .int x7), (2, .long x6), (0, .ref (ma 0)), (1, .int y1)]) hx hb dX3_next_31 hl (k := 3) rfl (by rw [ex7]; rfl) (by decide) rfl (fun ls hl => ?_)
          refine lv_goto (tgt := 10) hx hb dX3_next_34 (by decide) ?_
          exact ih y1 x6 x7 ls (lv_sub hl [2, 3, 1, 0] rfl) hF
  refine lv_aload_n hx hb dX3_next_0 rfl (lv_at hl 0 rfl) ?_
  obtain ⟨r1, er1, hF⟩ := zc_bind hF
  refine zc_cl (va_runV (As := []) ⟨hx, hb, hml, hown, hts⟩ (kX3_minuteNow l G ma er1) (cwV 0 hts gX3_next_X3_minuteNow rfl rfl rfl (by decide +kernel) ⟨Nat.le_of_ble_eq_true rfl, Nat.le_of_ble_eq_true rfl⟩) (zc_preV hK hP 0 rfl rfl) rfl rfl hl.1 rfl (lv_room (Nat.le_of_ble_eq_true rfl)) dX3_next_1 ⟨Nat.le_of_ble_eq_true rfl, Nat.le_of_ble_eq_true rfl⟩) ?_
  refine lv_lconst (v := (1 : Int64)) hx hb dX3_next_4 (by decide) ?_
  refine lv_ladd hx hb dX3_next_5 ?_
  refine lv_topl (fun x2 ex2 => ?_)
  have hF := zc_letE ex2 hF
  refine lv_lstore_n (lv' := [(2, .long x2), (0, .ref (ma 0)), (1, .int a1)]) hx hb dX3_next_6 rfl hl (by decide) rfl (fun ls hl => ?_)
  refine lv_iconst (v := (0 : Int32)) hx hb dX3_next_7 (by decide) ?_
  refine lv_istore (lv' := [(4, .int (0 : Int32)), (2, .long x2), (0, .ref (ma 0)), (1, .int a1)]) hx hb dX3_next_8 hl (by decide) rfl (fun ls hl => ?_)
  exact loop N a1 x2 (0 : Int32) ls (lv_sub hl [2, 3, 1, 0] rfl) hF
def fX3_isAlarm (u : zc_M) (a1 : Int32) : Option (Int32) := Option.bind (fX3_in a1.toInt64 (0 : Int64) ((u.1 0 24) - (1 : Int64))) fun (r1 : Int32) => zc_z r1 (some r1)
theorem iX3_isAlarm_X3 : ∀ w ∈ wsX30, w ∈ wsX3_isAlarm := fun _ h => List.mem_cons_of_mem _ (List.mem_append_right _ h)
set_option maxHeartbeats 4000000 in
set_option maxRecDepth 100000 in
theorem kX3_isAlarm (l : Launch) (G : zc_G) (ma : Nat → Nat) {u : zc_M} {a1 : Int32} {r0 : Int32} (hF : fX3_isAlarm u a1 = some r0) : Met l yX3_isAlarm wsX3_isAlarm ({ frames := 1, cells := 0, slots := 0, locals := 25 }) (zc_Pp G [.ref (ma 0), .int a1] (zc_mo G ma u)) (vp_Si (fun r => r = r0)) 0 0 (fun _ => False) := by
  refine Met.ofW (cc := cX3_isAlarm) (maxL := 2) (ret := (some .boolean)) (by decide) rfl ?_
  intro p e s m args below meth c s₁ B hml hv
  obtain ⟨rfl, hP, hK⟩ := hv
  have hx := B.exec
  have hb := B.bytes
  have hr := B.returns
  have hts := atoms_spec (ws := wsX3_isAlarm) B.pre
  have hown : s.vm.findClass RX3 = some m.cls := findClass_of_methodNamed B.named
  have hlocks := B.notSynchronized
  have hl := lv_entry ([.ref (ma 0), .int a1]) (n := 2) (Nat.le_of_ble_eq_true rfl)
  rw [lg_entry_eq]
  generalize (lg_sl ([.ref (ma 0), .int a1]) ++ List.replicate (2 - (lg_sl ([.ref (ma 0), .int a1])).length) Slot.unset).toArray = ls at hl ⊢
  have hl : lv_has ls 2 [(0, .ref (ma 0)), (1, .int a1)] := hl
  refine lv_iload_n hx hb dX3_isAlarm_0 rfl (lv_at hl 1 rfl) ?_
  refine lv_i2l hx hb dX3_isAlarm_1 rfl ?_
  refine lv_lconst (v := (0 : Int64)) hx hb dX3_isAlarm_2 (by decide) ?_
  refine lv_aload_n hx hb dX3_isAlarm_3 rfl (lv_at hl 0 rfl) ?_
  refine va_get (D := G.1) (ci := 3) (C := RX3) (T := TX3) (N := 8) hx hb hts iX3_isAlarm_X3 hown hK.1 hP 0 rfl rfl 0 (by decide) (hts (.fieldLink RX3 7 "BoardClockModel" "st" "[J") (List.mem_of_getElem? (i := 1) rfl)) (fun _ h9 => h9) rfl dX3_isAlarm_4 ?_
  refine lv_bipush (v := (24 : Int32)) hx hb dX3_isAlarm_7 (by decide) ?_
  refine zc_lald hx hb hK.1 hP 1 1 rfl rfl (j := 24) (zc_vin (by decide)) (by decide) dX3_isAlarm_9 ?_
  refine lv_lconst (v := (1 : Int64)) hx hb dX3_isAlarm_10 (by decide) ?_
  refine lv_lsub hx hb dX3_isAlarm_11 ?_
  obtain ⟨r1, er1, hF⟩ := zc_bind hF
  refine zc_ci (va_runS (As := [.long _, .long _, .long _]) ⟨hx, hb, hml, hown, hts⟩ (kX3_in l G er1) (va_cwS 3 hts gX3_isAlarm_X3_in rfl rfl rfl (by decide +kernel) ⟨Nat.le_of_ble_eq_true rfl, Nat.le_of_ble_eq_true rfl⟩) (zc_preS hK (show va_P G.1 vwCl [] _ from fun k q h => by simp at h)) rfl rfl hl.1 rfl (lv_room (Nat.le_of_ble_eq_true rfl)) dX3_isAlarm_12 ⟨Nat.le_of_ble_eq_true rfl, Nat.le_of_ble_eq_true rfl⟩) ?_
  obtain ⟨hz2, hF⟩ := zc_zE hF
  exact W.zret hx hb hr hz2.1 (fun t ht hW => ⟨_, rfl, Option.some.inj hF, ht⟩) (fun _ h => by cases h) dX3_isAlarm_15
def fX3_alarmAt (N : Nat) (u : zc_M) (a1 : Int32) (a2 : Int32) : Option (Int32) := Option.bind (fX3_isAlarm u a1) fun (r1 : Int32) => if r1 = 0 then (some (-1000000001 : Int32)) else (Option.bind (fX3_in a2.toInt64 (0 : Int64) (4 : Int64)) fun (r3 : Int32) => if r3 = 0 then (some (-1000000002 : Int32)) else (if a2 = (4 : Int32) then (Option.bind (fX3_next N u a1) fun (r7 : Int64) => some (r7).toInt32) else (zc_in (((25 : Int32) + ((4 : Int32) * a1)) + a2) 49 (some ((u.1 0 ((((25 : Int32) + ((4 : Int32) * a1)) + a2)).toNatClampNeg)).toInt32))))
theorem iX3_alarmAt_X3 : ∀ w ∈ wsX30, w ∈ wsX3_alarmAt := fun _ h => List.mem_cons_of_mem _ (List.mem_append_right _ h)
set_option maxHeartbeats 4000000 in
set_option maxRecDepth 100000 in
theorem kX3_alarmAt (l : Launch) (G : zc_G) (ma : Nat → Nat) {N : Nat} {u : zc_M} {a1 : Int32} {a2 : Int32} {r0 : Int32} (hF : fX3_alarmAt N u a1 a2 = some r0) : Met l yX3_alarmAt wsX3_alarmAt ({ frames := 3, cells := 0, slots := 0, locals := 71 }) (zc_Pp G [.ref (ma 0), .int a1, .int a2] (zc_mo G ma u)) (vp_Si (fun r => r = r0)) 0 0 (fun _ => False) := by
  refine Met.ofW (cc := cX3_alarmAt) (maxL := 3) (ret := (some .int)) (by decide) rfl ?_
  intro p e s m args below meth c s₁ B hml hv
  obtain ⟨rfl, hP, hK⟩ := hv
  have hx := B.exec
  have hb := B.bytes
  have hr := B.returns
  have hts := atoms_spec (ws := wsX3_alarmAt) B.pre
  have hown : s.vm.findClass RX3 = some m.cls := findClass_of_methodNamed B.named
  have hlocks := B.notSynchronized
  have hl := lv_entry ([.ref (ma 0), .int a1, .int a2]) (n := 3) (Nat.le_of_ble_eq_true rfl)
  rw [lg_entry_eq]
  generalize (lg_sl ([.ref (ma 0), .int a1, .int a2]) ++ List.replicate (3 - (lg_sl ([.ref (ma 0), .int a1, .int a2])).length) Slot.unset).toArray = ls at hl ⊢
  have hl : lv_has ls 3 [(0, .ref (ma 0)), (1, .int a1), (2, .int a2)] := hl
  refine lv_aload_n hx hb dX3_alarmAt_0 rfl (lv_at hl 0 rfl) ?_
  refine lv_iload_n hx hb dX3_alarmAt_1 rfl (lv_at hl 1 rfl) ?_
  obtain ⟨r1, er1, hF⟩ := zc_bind hF
  refine zc_ci (va_runV (As := [.int _]) ⟨hx, hb, hml, hown, hts⟩ (kX3_isAlarm l G ma er1) (cwV 1 hts gX3_alarmAt_X3_isAlarm rfl rfl rfl (by decide +kernel) ⟨Nat.le_of_ble_eq_true rfl, Nat.le_of_ble_eq_true rfl⟩) (zc_preV hK hP 0 rfl rfl) rfl rfl hl.1 rfl (lv_room (Nat.le_of_ble_eq_true rfl)) dX3_alarmAt_2 ⟨Nat.le_of_ble_eq_true rfl, Nat.le_of_ble_eq_true rfl⟩) ?_
  refine lv_if_ne (tgt := 11) hx hb dX3_alarmAt_5 (by decide) (fun c2 => ?_) (fun c2 => ?_)
  · have hF := zc_neg c2 hF
    refine lv_iload_n hx hb dX3_alarmAt_11 rfl (lv_at hl 2 rfl) ?_
    refine lv_i2l hx hb dX3_alarmAt_12 rfl ?_
    refine lv_lconst (v := (0 : Int64)) hx hb dX3_alarmAt_13 (by decide) ?_
    refine lv_ldc2 hx hb hown (hts (.constantLong RX3 70 (4)) (List.mem_of_getElem? (i := 2) rfl)) dX3_alarmAt_14 ?_
    obtain ⟨r3, er3, hF⟩ := zc_bind hF
    refine zc_ci (va_runS (As := [.long _, .long _, .long _]) ⟨hx, hb, hml, hown, hts⟩ (kX3_in l G er3) (va_cwS 3 hts gX3_alarmAt_X3_in rfl rfl rfl (by decide +kernel) ⟨Nat.le_of_ble_eq_true rfl, Nat.le_of_ble_eq_true rfl⟩) (zc_preS hK (show va_P G.1 vwCl [] _ from fun k q h => by simp at h)) rfl rfl hl.1 rfl (lv_room (Nat.le_of_ble_eq_true rfl)) dX3_alarmAt_17 ⟨Nat.le_of_ble_eq_true rfl, Nat.le_of_ble_eq_true rfl⟩) ?_
    refine lv_if_ne (tgt := 26) hx hb dX3_alarmAt_20 (by decide) (fun c4 => ?_) (fun c4 => ?_)
    · have hF := zc_neg c4 hF
      refine lv_iload_n hx hb dX3_alarmAt_26 rfl (lv_at hl 2 rfl) ?_
      refine lv_iconst (v := (4 : Int32)) hx hb dX3_alarmAt_27 (by decide) ?_
      refine lv_icmp_ne (tgt := 39) hx hb dX3_alarmAt_28 (by decide) (fun c5 => ?_) (fun c5 => ?_)
      · have hF := zc_neg c5 hF
        refine lv_aload_n hx hb dX3_alarmAt_39 rfl (lv_at hl 0 rfl) ?_
        refine va_get (D := G.1) (ci := 3) (C := RX3) (T := TX3) (N := 8) hx hb hts iX3_alarmAt_X3 hown hK.1 hP 0 rfl rfl 0 (by decide) (hts (.fieldLink RX3 7 "BoardClockModel" "st" "[J") (List.mem_of_getElem? (i := 4) rfl)) (fun _ h9 => h9) rfl dX3_alarmAt_40 ?_
        refine lv_bipush (v := (25 : Int32)) hx hb dX3_alarmAt_43 (by decide) ?_
        refine lv_iconst (v := (4 : Int32)) hx hb dX3_alarmAt_45 (by decide) ?_
        refine lv_iload_n hx hb dX3_alarmAt_46 rfl (lv_at hl 1 rfl) ?_
        refine lv_imul hx hb dX3_alarmAt_47 ?_
        refine lv_iadd hx hb dX3_alarmAt_48 ?_
        refine lv_iload_n hx hb dX3_alarmAt_49 rfl (lv_at hl 2 rfl) ?_
        refine lv_iadd hx hb dX3_alarmAt_50 ?_
        obtain ⟨hi6, hF⟩ := zc_inE hF
        refine zc_lald hx hb hK.1 hP 1 1 rfl rfl hi6 rfl dX3_alarmAt_51 ?_
        refine lv_l2i hx hb dX3_alarmAt_52 rfl ?_
        exact W.iret hx hb hr (fun t ht hW => ⟨_, rfl, Option.some.inj hF, ht⟩) (fun _ h => by cases h) dX3_alarmAt_53
      · have hF := zc_pos c5 hF
        refine lv_aload_n hx hb dX3_alarmAt_31 rfl (lv_at hl 0 rfl) ?_
        refine lv_iload_n hx hb dX3_alarmAt_32 rfl (lv_at hl 1 rfl) ?_
        obtain ⟨r7, er7, hF⟩ := zc_bind hF
        refine zc_cl (va_runV (As := [.int _]) ⟨hx, hb, hml, hown, hts⟩ (kX3_next l G ma er7) (cwV 1 hts gX3_alarmAt_X3_next rfl rfl rfl (by decide +kernel) ⟨Nat.le_of_ble_eq_true rfl, Nat.le_of_ble_eq_true rfl⟩) (zc_preV hK hP 0 rfl rfl) rfl rfl hl.1 rfl (lv_room (Nat.le_of_ble_eq_true rfl)) dX3_alarmAt_33 ⟨Nat.le_of_ble_eq_true rfl, Nat.le_of_ble_eq_true rfl⟩) ?_
        refine lv_goto (tgt := 52) hx hb dX3_alarmAt_36 (by decide) ?_
        refine lv_l2i hx hb dX3_alarmAt_52 rfl ?_
        exact W.iret hx hb hr (fun t ht hW => ⟨_, rfl, Option.some.inj hF, ht⟩) (fun _ h => by cases h) dX3_alarmAt_53
    · have hF := zc_pos c4 hF
      refine lv_ldc hx hb hown (hts (.constant RX3 154 (-1000000002)) (List.mem_of_getElem? (i := 3) rfl)) dX3_alarmAt_23 ?_
      exact W.iret hx hb hr (fun t ht hW => ⟨_, rfl, Option.some.inj hF, ht⟩) (fun _ h => by cases h) dX3_alarmAt_25
  · have hF := zc_pos c2 hF
    refine lv_ldc hx hb hown (hts (.constant RX3 161 (-1000000001)) (List.mem_of_getElem? (i := 1) rfl)) dX3_alarmAt_8 ?_
    exact W.iret hx hb hr (fun t ht hW => ⟨_, rfl, Option.some.inj hF, ht⟩) (fun _ h => by cases h) dX3_alarmAt_10
def fX3_evenly (u : zc_M) (a1 : Int32) (a2 : Int32) (a3 : Int32) : Option (Int32) := Option.bind (fX3_in a1.toInt64 (1 : Int64) (999 : Int64)) fun (r1 : Int32) => if r1 = 0 then (some (-1000000002 : Int32)) else (Option.bind (fX3_in a2.toInt64 (0 : Int64) a1.toInt64) fun (r3 : Int32) => if r3 = 0 then (some (-1000000002 : Int32)) else (Option.bind (fX3_in a3.toInt64 (0 : Int64) ((a1 - (1 : Int32))).toInt64) fun (r5 : Int32) => if r5 = 0 then (some (-1000000002 : Int32)) else (zc_nz a1 (if (((a3 * a2) - (a3 * a2) / a1 * a1) + a2) < a1 then (some (0 : Int32)) else (some (1 : Int32))))))
set_option maxHeartbeats 4000000 in
set_option maxRecDepth 100000 in
theorem kX3_evenly (l : Launch) (G : zc_G) (ma : Nat → Nat) {u : zc_M} {a1 : Int32} {a2 : Int32} {a3 : Int32} {r0 : Int32} (hF : fX3_evenly u a1 a2 a3 = some r0) : Met l yX3_evenly wsX3_evenly ({ frames := 1, cells := 0, slots := 0, locals := 25 }) (zc_Pp G [.ref (ma 0), .int a1, .int a2, .int a3] (zc_mo G ma u)) (vp_Si (fun r => r = r0)) 0 0 (fun _ => False) := by
  refine Met.ofW (cc := cX3_evenly) (maxL := 4) (ret := (some .int)) (by decide) rfl ?_
  intro p e s m args below meth c s₁ B hml hv
  obtain ⟨rfl, hP, hK⟩ := hv
  have hx := B.exec
  have hb := B.bytes
  have hr := B.returns
  have hts := atoms_spec (ws := wsX3_evenly) B.pre
  have hown : s.vm.findClass RX3 = some m.cls := findClass_of_methodNamed B.named
  have hlocks := B.notSynchronized
  have hl := lv_entry ([.ref (ma 0), .int a1, .int a2, .int a3]) (n := 4) (Nat.le_of_ble_eq_true rfl)
  rw [lg_entry_eq]
  generalize (lg_sl ([.ref (ma 0), .int a1, .int a2, .int a3]) ++ List.replicate (4 - (lg_sl ([.ref (ma 0), .int a1, .int a2, .int a3])).length) Slot.unset).toArray = ls at hl ⊢
  have hl : lv_has ls 4 [(0, .ref (ma 0)), (1, .int a1), (2, .int a2), (3, .int a3)] := hl
  refine lv_iload_n hx hb dX3_evenly_0 rfl (lv_at hl 1 rfl) ?_
  refine lv_i2l hx hb dX3_evenly_1 rfl ?_
  refine lv_lconst (v := (1 : Int64)) hx hb dX3_evenly_2 (by decide) ?_
  refine lv_ldc2 hx hb hown (hts (.constantLong RX3 196 (999)) (List.mem_of_getElem? (i := 1) rfl)) dX3_evenly_3 ?_
  obtain ⟨r1, er1, hF⟩ := zc_bind hF
  refine zc_ci (va_runS (As := [.long _, .long _, .long _]) ⟨hx, hb, hml, hown, hts⟩ (kX3_in l G er1) (va_cwS 3 hts gX3_evenly_X3_in rfl rfl rfl (by decide +kernel) ⟨Nat.le_of_ble_eq_true rfl, Nat.le_of_ble_eq_true rfl⟩) (zc_preS hK (show va_P G.1 vwCl [] _ from fun k q h => by simp at h)) rfl rfl hl.1 rfl (lv_room (Nat.le_of_ble_eq_true rfl)) dX3_evenly_6 ⟨Nat.le_of_ble_eq_true rfl, Nat.le_of_ble_eq_true rfl⟩) ?_
  refine lv_if_eq (tgt := 36) hx hb dX3_evenly_9 (by decide) (fun c2 => ?_) (fun c2 => ?_)
  · have hF := zc_pos c2 hF
    refine lv_ldc hx hb hown (hts (.constant RX3 154 (-1000000002)) (List.mem_of_getElem? (i := 2) rfl)) dX3_evenly_36 ?_
    exact W.iret hx hb hr (fun t ht hW => ⟨_, rfl, Option.some.inj hF, ht⟩) (fun _ h => by cases h) dX3_evenly_38
  · have hF := zc_neg c2 hF
    refine lv_iload_n hx hb dX3_evenly_12 rfl (lv_at hl 2 rfl) ?_
    refine lv_i2l hx hb dX3_evenly_13 rfl ?_
    refine lv_lconst (v := (0 : Int64)) hx hb dX3_evenly_14 (by decide) ?_
    refine lv_iload_n hx hb dX3_evenly_15 rfl (lv_at hl 1 rfl) ?_
    refine lv_i2l hx hb dX3_evenly_16 rfl ?_
    obtain ⟨r3, er3, hF⟩ := zc_bind hF
    refine zc_ci (va_runS (As := [.long _, .long _, .long _]) ⟨hx, hb, hml, hown, hts⟩ (kX3_in l G er3) (va_cwS 3 hts gX3_evenly_X3_in rfl rfl rfl (by decide +kernel) ⟨Nat.le_of_ble_eq_true rfl, Nat.le_of_ble_eq_true rfl⟩) (zc_preS hK (show va_P G.1 vwCl [] _ from fun k q h => by simp at h)) rfl rfl hl.1 rfl (lv_room (Nat.le_of_ble_eq_true rfl)) dX3_evenly_17 ⟨Nat.le_of_ble_eq_true rfl, Nat.le_of_ble_eq_true rfl⟩) ?_
    refine lv_if_eq (tgt := 36) hx hb dX3_evenly_20 (by decide) (fun c4 => ?_) (fun c4 => ?_)
    · have hF := zc_pos c4 hF
      refine lv_ldc hx hb hown (hts (.constant RX3 154 (-1000000002)) (List.mem_of_getElem? (i := 2) rfl)) dX3_evenly_36 ?_
      exact W.iret hx hb hr (fun t ht hW => ⟨_, rfl, Option.some.inj hF, ht⟩) (fun _ h => by cases h) dX3_evenly_38
    · have hF := zc_neg c4 hF
      refine lv_iload_n hx hb dX3_evenly_23 rfl (lv_at hl 3 rfl) ?_
      refine lv_i2l hx hb dX3_evenly_24 rfl ?_
      refine lv_lconst (v := (0 : Int64)) hx hb dX3_evenly_25 (by decide) ?_
      refine lv_iload_n hx hb dX3_evenly_26 rfl (lv_at hl 1 rfl) ?_
      refine lv_iconst (v := (1 : Int32)) hx hb dX3_evenly_27 (by decide) ?_
      refine lv_isub hx hb dX3_evenly_28 ?_
      refine lv_i2l hx hb dX3_evenly_29 rfl ?_
      obtain ⟨r5, er5, hF⟩ := zc_bind hF
      refine zc_ci (va_runS (As := [.long _, .long _, .long _]) ⟨hx, hb, hml, hown, hts⟩ (kX3_in l G er5) (va_cwS 3 hts gX3_evenly_X3_in rfl rfl rfl (by decide +kernel) ⟨Nat.le_of_ble_eq_true rfl, Nat.le_of_ble_eq_true rfl⟩) (zc_preS hK (show va_P G.1 vwCl [] _ from fun k q h => by simp at h)) rfl rfl hl.1 rfl (lv_room (Nat.le_of_ble_eq_true rfl)) dX3_evenly_30 ⟨Nat.le_of_ble_eq_true rfl, Nat.le_of_ble_eq_true rfl⟩) ?_
      refine lv_if_ne (tgt := 39) hx hb dX3_evenly_33 (by decide) (fun c6 => ?_) (fun c6 => ?_)
      · have hF := zc_neg c6 hF
        refine lv_iload_n hx hb dX3_evenly_39 rfl (lv_at hl 3 rfl) ?_
        refine lv_iload_n hx hb dX3_evenly_40 rfl (lv_at hl 2 rfl) ?_
        refine lv_imul hx hb dX3_evenly_41 ?_
        refine lv_iload_n hx hb dX3_evenly_42 rfl (lv_at hl 1 rfl) ?_
        obtain ⟨hnz7, hF⟩ := zc_nzE hF
        refine lv_irem hx hb dX3_evenly_43 hnz7 ?_
        refine lv_iload_n hx hb dX3_evenly_44 rfl (lv_at hl 2 rfl) ?_
        refine lv_iadd hx hb dX3_evenly_45 ?_
        refine lv_iload_n hx hb dX3_evenly_46 rfl (lv_at hl 1 rfl) ?_
        refine lv_icmp_lt (tgt := 54) hx hb dX3_evenly_47 (by decide) (fun c8 => ?_) (fun c8 => ?_)
        · have hF := zc_pos c8 hF
          refine lv_iconst (v := (0 : Int32)) hx hb dX3_evenly_54 (by decide) ?_
          exact W.iret hx hb hr (fun t ht hW => ⟨_, rfl, Option.some.inj hF, ht⟩) (fun _ h => by cases h) dX3_evenly_55
        · have hF := zc_neg c8 hF
          refine lv_iconst (v := (1 : Int32)) hx hb dX3_evenly_50 (by decide) ?_
          refine lv_goto (tgt := 55) hx hb dX3_evenly_51 (by decide) ?_
          exact W.iret hx hb hr (fun t ht hW => ⟨_, rfl, Option.some.inj hF, ht⟩) (fun _ h => by cases h) dX3_evenly_55
      · have hF := zc_pos c6 hF
        refine lv_ldc hx hb hown (hts (.constant RX3 154 (-1000000002)) (List.mem_of_getElem? (i := 2) rfl)) dX3_evenly_36 ?_
        exact W.iret hx hb hr (fun t ht hW => ⟨_, rfl, Option.some.inj hF, ht⟩) (fun _ h => by cases h) dX3_evenly_38
def fX3_after (u : zc_M) (a1 : Int32) : Option (Int64) := Option.bind (fX3_in a1.toInt64 (0 : Int64) (2000 : Int64)) fun (r1 : Int32) => if r1 = 0 then (some (-1 : Int64)) else (Option.bind (fX3_boardAfter u a1) fun (r3 : Int64) => some r3)
set_option maxHeartbeats 4000000 in
set_option maxRecDepth 100000 in
theorem kX3_after (l : Launch) (G : zc_G) (ma : Nat → Nat) {u : zc_M} {a1 : Int32} {r0 : Int64} (hF : fX3_after u a1 = some r0) : Met l yX3_after wsX3_after ({ frames := 3, cells := 0, slots := 0, locals := 69 }) (zc_Pp G [.ref (ma 0), .int a1] (zc_mo G ma u)) (vp_Sl (fun r => r = r0)) 0 0 (fun _ => False) := by
  refine Met.ofW (cc := cX3_after) (maxL := 2) (ret := (some .long)) (by decide) rfl ?_
  intro p e s m args below meth c s₁ B hml hv
  obtain ⟨rfl, hP, hK⟩ := hv
  have hx := B.exec
  have hb := B.bytes
  have hr := B.returns
  have hts := atoms_spec (ws := wsX3_after) B.pre
  have hown : s.vm.findClass RX3 = some m.cls := findClass_of_methodNamed B.named
  have hlocks := B.notSynchronized
  have hl := lv_entry ([.ref (ma 0), .int a1]) (n := 2) (Nat.le_of_ble_eq_true rfl)
  rw [lg_entry_eq]
  generalize (lg_sl ([.ref (ma 0), .int a1]) ++ List.replicate (2 - (lg_sl ([.ref (ma 0), .int a1])).length) Slot.unset).toArray = ls at hl ⊢
  have hl : lv_has ls 2 [(0, .ref (ma 0)), (1, .int a1)] := hl
  refine lv_iload_n hx hb dX3_after_0 rfl (lv_at hl 1 rfl) ?_
  refine lv_i2l hx hb dX3_after_1 rfl ?_
  refine lv_lconst (v := (0 : Int64)) hx hb dX3_after_2 (by decide) ?_
  refine lv_ldc2 hx hb hown (hts (.constantLong RX3 132 (2000)) (List.mem_of_getElem? (i := 1) rfl)) dX3_after_3 ?_
  obtain ⟨r1, er1, hF⟩ := zc_bind hF
  refine zc_ci (va_runS (As := [.long _, .long _, .long _]) ⟨hx, hb, hml, hown, hts⟩ (kX3_in l G er1) (va_cwS 3 hts gX3_after_X3_in rfl rfl rfl (by decide +kernel) ⟨Nat.le_of_ble_eq_true rfl, Nat.le_of_ble_eq_true rfl⟩) (zc_preS hK (show va_P G.1 vwCl [] _ from fun k q h => by simp at h)) rfl rfl hl.1 rfl (lv_room (Nat.le_of_ble_eq_true rfl)) dX3_after_6 ⟨Nat.le_of_ble_eq_true rfl, Nat.le_of_ble_eq_true rfl⟩) ?_
  refine lv_if_eq (tgt := 20) hx hb dX3_after_9 (by decide) (fun c2 => ?_) (fun c2 => ?_)
  · have hF := zc_pos c2 hF
    refine lv_ldc2 hx hb hown (hts (.constantLong RX3 35 (-1)) (List.mem_of_getElem? (i := 2) rfl)) dX3_after_20 ?_
    exact W.lret hx hb hr (fun t ht hW => ⟨_, rfl, Option.some.inj hF, ht⟩) (fun _ h => by cases h) dX3_after_23
  · have hF := zc_neg c2 hF
    refine lv_aload_n hx hb dX3_after_12 rfl (lv_at hl 0 rfl) ?_
    refine lv_iload_n hx hb dX3_after_13 rfl (lv_at hl 1 rfl) ?_
    obtain ⟨r3, er3, hF⟩ := zc_bind hF
    refine zc_cl (va_runV (As := [.int _]) ⟨hx, hb, hml, hown, hts⟩ (kX3_boardAfter l G ma er3) (cwV 1 hts gX3_after_X3_boardAfter rfl rfl rfl (by decide +kernel) ⟨Nat.le_of_ble_eq_true rfl, Nat.le_of_ble_eq_true rfl⟩) (zc_preV hK hP 0 rfl rfl) rfl rfl hl.1 rfl (lv_room (Nat.le_of_ble_eq_true rfl)) dX3_after_14 ⟨Nat.le_of_ble_eq_true rfl, Nat.le_of_ble_eq_true rfl⟩) ?_
    refine lv_goto (tgt := 23) hx hb dX3_after_17 (by decide) ?_
    exact W.lret hx hb hr (fun t ht hW => ⟨_, rfl, Option.some.inj hF, ht⟩) (fun _ h => by cases h) dX3_after_23
def fX3_rings_L (N : Nat) : Nat → zc_M → Int32 → Int64 → Int64 → Int32 → Option (Int32)
  | 0, _, _, _, _, _ => none
  | n + 1, u, y1, y2, y4, y6 => if 0 ≤ (lg_cmp y6.toInt64 (u.1 0 24)) then (some (y4).toInt32) else (Option.bind (fX3_ringsAt u y6) fun (r5 : Int64) => Option.bind (fX3_between N u y6 y2) fun (r6 : Int64) => Option.bind (fX3_lesser ((99999 : Int64) - r5) r6) fun (r7 : Int64) => zc_let (y4 + r7) fun (x8 : Int64) => zc_let (y6 + (1 : Int32)) fun (x9 : Int32) => fX3_rings_L N n u y1 y2 x8 x9)
def fX3_rings (N : Nat) (u : zc_M) (a1 : Int32) : Option (Int32) := Option.bind (fX3_in a1.toInt64 (0 : Int64) (2000 : Int64)) fun (r1 : Int32) => if r1 = 0 then (some (-1000000002 : Int32)) else (Option.bind (fX3_boardAfter u a1) fun (r3 : Int64) => fX3_rings_L N N u a1 r3 (0 : Int64) (0 : Int32))
theorem iX3_rings_X3 : ∀ w ∈ wsX30, w ∈ wsX3_rings := fun _ h => List.mem_cons_of_mem _ (List.mem_append_right _ h)
set_option maxHeartbeats 4000000 in
set_option maxRecDepth 100000 in
theorem kX3_rings (l : Launch) (G : zc_G) (ma : Nat → Nat) {N : Nat} {u : zc_M} {a1 : Int32} {r0 : Int32} (hF : fX3_rings N u a1 = some r0) : Met l yX3_rings wsX3_rings ({ frames := 3, cells := 0, slots := 0, locals := 74 }) (zc_Pp G [.ref (ma 0), .int a1] (zc_mo G ma u)) (vp_Si (fun r => r = r0)) 0 0 (fun _ => False) := by
  refine Met.ofW (cc := cX3_rings) (maxL := 7) (ret := (some .int)) (by decide) rfl ?_
  intro p e s m args below meth c s₁ B hml hv
  obtain ⟨rfl, hP, hK⟩ := hv
  have hx := B.exec
  have hb := B.bytes
  have hr := B.returns
  have hts := atoms_spec (ws := wsX3_rings) B.pre
  have hown : s.vm.findClass RX3 = some m.cls := findClass_of_methodNamed B.named
  have hlocks := B.notSynchronized
  have hl := lv_entry ([.ref (ma 0), .int a1]) (n := 7) (Nat.le_of_ble_eq_true rfl)
  rw [lg_entry_eq]
  generalize (lg_sl ([.ref (ma 0), .int a1]) ++ List.replicate (7 - (lg_sl ([.ref (ma 0), .int a1])).length) Slot.unset).toArray = ls at hl ⊢
  have hl : lv_has ls 7 [(0, .ref (ma 0)), (1, .int a1)] := hl
  have loop : ∀ (n : Nat) (y1 : Int32) (y2 : Int64) (y4 : Int64) (y6 : Int32) (ls : Array Slot), lv_has ls 7 [(0, .ref (ma 0)), (1, .int y1), (2, .long y2), (4, .long y4), (6, .int y6)] → fX3_rings_L N n u y1 y2 y4 y6 = some r0 → W p l e (headSpec wsX3_rings ({ frames := 3, cells := 0, slots := 0, locals := 74 })).room s m ([.ref (ma 0), .int a1] : List Value).toArray below meth c s.heap [] 0 0 (MQ below (vp_Si (fun r => r = r0)) ([.ref (ma 0), .int a1] : List Value).toArray s 0 0 (fun _ => False)) (F0 m 27 ls []) := by
    intro n
    induction n with
    | zero =>
      intro y1 y2 y4 y6 ls hl hF
      cases hF
    | succ n ih =>
      intro y1 y2 y4 y6 ls hl hF
      rw [fX3_rings_L] at hF
      refine lv_iload hx hb dX3_rings_27 (lv_at hl 4 rfl) ?_
      refine lv_i2l hx hb dX3_rings_29 rfl ?_
      refine lv_aload_n hx hb dX3_rings_30 rfl (lv_at hl 0 rfl) ?_
      refine va_get (D := G.1) (ci := 3) (C := RX3) (T := TX3) (N := 8) hx hb hts iX3_rings_X3 hown hK.1 hP 0 rfl rfl 0 (by decide) (hts (.fieldLink RX3 7 "BoardClockModel" "st" "[J") (List.mem_of_getElem? (i := 3) rfl)) (fun _ h9 => h9) rfl dX3_rings_31 ?_
      refine lv_bipush (v := (24 : Int32)) hx hb dX3_rings_34 (by decide) ?_
      refine zc_lald hx hb hK.1 hP 1 1 rfl rfl (j := 24) (zc_vin (by decide)) (by decide) dX3_rings_36 ?_
      refine W.lcmp hx hb dX3_rings_37 ?_
      refine lv_if_ge (tgt := 72) hx hb dX3_rings_38 (by decide) (fun c4 => ?_) (fun c4 => ?_)
      · have hF := zc_pos c4 hF
        refine lv_lload hx hb dX3_rings_72 (lv_at hl 3 rfl) ?_
        refine lv_l2i hx hb dX3_rings_74 rfl ?_
        exact W.iret hx hb hr (fun t ht hW => ⟨_, rfl, Option.some.inj hF, ht⟩) (fun _ h => by cases h) dX3_rings_75
      · have hF := zc_neg c4 hF
        refine lv_lload hx hb dX3_rings_41 (lv_at hl 3 rfl) ?_
        refine lv_ldc2 hx hb hown (hts (.constantLong RX3 99 (99999)) (List.mem_of_getElem? (i := 4) rfl)) dX3_rings_43 ?_
        refine lv_aload_n hx hb dX3_rings_46 rfl (lv_at hl 0 rfl) ?_
        refine lv_iload hx hb dX3_rings_47 (lv_at hl 4 rfl) ?_
        obtain ⟨r5, er5, hF⟩ := zc_bind hF
        refine zc_cl (va_runV (As := [.int _]) ⟨hx, hb, hml, hown, hts⟩ (kX3_ringsAt l G ma er5) (cwV 1 hts gX3_rings_X3_ringsAt rfl rfl rfl (by decide +kernel) ⟨Nat.le_of_ble_eq_true rfl, Nat.le_of_ble_eq_true rfl⟩) (zc_preV hK hP 0 rfl rfl) rfl rfl hl.1 rfl (lv_room (Nat.le_of_ble_eq_true rfl)) dX3_rings_49 ⟨Nat.le_of_ble_eq_true rfl, Nat.le_of_ble_eq_true rfl⟩) ?_
        refine lv_lsub hx hb dX3_rings_52 ?_
        refine lv_aload_n hx hb dX3_rings_53 rfl (lv_at hl 0 rfl) ?_
        refine lv_iload hx hb dX3_rings_54 (lv_at hl 4 rfl) ?_
        refine lv_lload_n hx hb dX3_rings_56 rfl (lv_at hl 2 rfl) ?_
        obtain ⟨r6, er6, hF⟩ := zc_bind hF
        refine zc_cl (va_runV (As := [.int _, .long _]) ⟨hx, hb, hml, hown, hts⟩ (kX3_between l G ma er6) (cwV 2 hts gX3_rings_X3_between rfl rfl rfl (by decide +kernel) ⟨Nat.le_of_ble_eq_true rfl, Nat.le_of_ble_eq_true rfl⟩) (zc_preV hK hP 0 rfl rfl) rfl rfl hl.1 rfl (lv_room (Nat.le_of_ble_eq_true rfl)) dX3_rings_57 ⟨Nat.le_of_ble_eq_true rfl, Nat.le_of_ble_eq_true rfl⟩) ?_
        obtain ⟨r7, er7, hF⟩ := zc_bind hF
        refine zc_cl (va_runS (As := [.long _, .long _]) ⟨hx, hb, hml, hown, hts⟩ (kX3_lesser l G er7) (va_cwS 2 hts gX3_rings_X3_lesser rfl rfl rfl (by decide +kernel) ⟨Nat.le_of_ble_eq_true rfl, Nat.le_of_ble_eq_true rfl⟩) (zc_preS hK (show va_P G.1 vwCl [] _ from fun k q h => by simp at h)) rfl rfl hl.1 rfl (lv_room (Nat.le_of_ble_eq_true rfl)) dX3_rings_60 ⟨Nat.le_of_ble_eq_true rfl, Nat.le_of_ble_eq_true rfl⟩) ?_
        refine lv_ladd hx hb dX3_rings_63 ?_
        refine lv_topl (fun x8 ex8 => ?_)
        have hF := zc_letE ex8 hF
        refine lv_lstore (lv' := [(4, .long x8), (0, .ref (ma 0)), (1, .int y1), (2, .long y2), (6, .int y6)]) hx hb dX3_rings_64 hl (by decide) rfl (fun ls hl => ?_)
        obtain ⟨x9, ex9⟩ : ∃ y : Int32, y = y6 + (1 : Int32) := ⟨_, rfl⟩
        have hF := zc_letE ex9 hF
        refine lv_iinc (v := x9) (lv' := [(6, .int x9), (4, .long x8), (0, .ref (ma 0)), (1, .int y1), (2, .long y2)]) hx hb dX3_rings_66 hl (k := 4) rfl (by rw [ex9]; rfl) (by decide) rfl (fun ls hl => ?_)
        refine lv_goto (tgt := 27) hx hb dX3_rings_69 (by decide) ?_
        exact ih y1 y2 x8 x9 ls (lv_sub hl [2, 3, 4, 1, 0] rfl) hF
  refine lv_iload_n hx hb dX3_rings_0 rfl (lv_at hl 1 rfl) ?_
  refine lv_i2l hx hb dX3_rings_1 rfl ?_
  refine lv_lconst (v := (0 : Int64)) hx hb dX3_rings_2 (by decide) ?_
  refine lv_ldc2 hx hb hown (hts (.constantLong RX3 132 (2000)) (List.mem_of_getElem? (i := 1) rfl)) dX3_rings_3 ?_
  obtain ⟨r1, er1, hF⟩ := zc_bind hF
  refine zc_ci (va_runS (As := [.long _, .long _, .long _]) ⟨hx, hb, hml, hown, hts⟩ (kX3_in l G er1) (va_cwS 3 hts gX3_rings_X3_in rfl rfl rfl (by decide +kernel) ⟨Nat.le_of_ble_eq_true rfl, Nat.le_of_ble_eq_true rfl⟩) (zc_preS hK (show va_P G.1 vwCl [] _ from fun k q h => by simp at h)) rfl rfl hl.1 rfl (lv_room (Nat.le_of_ble_eq_true rfl)) dX3_rings_6 ⟨Nat.le_of_ble_eq_true rfl, Nat.le_of_ble_eq_true rfl⟩) ?_
  refine lv_if_ne (tgt := 15) hx hb dX3_rings_9 (by decide) (fun c2 => ?_) (fun c2 => ?_)
  · have hF := zc_neg c2 hF
    refine lv_aload_n hx hb dX3_rings_15 rfl (lv_at hl 0 rfl) ?_
    refine lv_iload_n hx hb dX3_rings_16 rfl (lv_at hl 1 rfl) ?_
    obtain ⟨r3, er3, hF⟩ := zc_bind hF
    refine zc_cl (va_runV (As := [.int _]) ⟨hx, hb, hml, hown, hts⟩ (kX3_boardAfter l G ma er3) (cwV 1 hts gX3_rings_X3_boardAfter rfl rfl rfl (by decide +kernel) ⟨Nat.le_of_ble_eq_true rfl, Nat.le_of_ble_eq_true rfl⟩) (zc_preV hK hP 0 rfl rfl) rfl rfl hl.1 rfl (lv_room (Nat.le_of_ble_eq_true rfl)) dX3_rings_17 ⟨Nat.le_of_ble_eq_true rfl, Nat.le_of_ble_eq_true rfl⟩) ?_
    refine lv_lstore_n (lv' := [(2, .long r3), (0, .ref (ma 0)), (1, .int a1)]) hx hb dX3_rings_20 rfl hl (by decide) rfl (fun ls hl => ?_)
    refine lv_lconst (v := (0 : Int64)) hx hb dX3_rings_21 (by decide) ?_
    refine lv_lstore (lv' := [(4, .long (0 : Int64)), (2, .long r3), (0, .ref (ma 0)), (1, .int a1)]) hx hb dX3_rings_22 hl (by decide) rfl (fun ls hl => ?_)
    refine lv_iconst (v := (0 : Int32)) hx hb dX3_rings_24 (by decide) ?_
    refine lv_istore (lv' := [(6, .int (0 : Int32)), (4, .long (0 : Int64)), (2, .long r3), (0, .ref (ma 0)), (1, .int a1)]) hx hb dX3_rings_25 hl (by decide) rfl (fun ls hl => ?_)
    exact loop N a1 r3 (0 : Int64) (0 : Int32) ls (lv_sub hl [3, 4, 2, 1, 0] rfl) hF
  · have hF := zc_pos c2 hF
    refine lv_ldc hx hb hown (hts (.constant RX3 154 (-1000000002)) (List.mem_of_getElem? (i := 2) rfl)) dX3_rings_12 ?_
    exact W.iret hx hb hr (fun t ht hW => ⟨_, rfl, Option.some.inj hF, ht⟩) (fun _ h => by cases h) dX3_rings_14
def fX3_untilWide (u : zc_M) (a1 : Int32) : Option (Int32) := Option.bind (fX3_in a1.toInt64 (0 : Int64) (99999 : Int64)) fun (r1 : Int32) => if r1 = 0 then (some (-1000000002 : Int32)) else (zc_let (((16 : Int64) * a1.toInt64) - (u.1 0 3)) fun (x3 : Int64) => if 0 ≤ (lg_cmp x3 (0 : Int64)) then (Option.bind (fX3_wider u) fun (r5 : Int64) => if (lg_cmp r5 (0 : Int64)) = 0 then (some (-1 : Int32)) else (Option.bind (fX3_wider u) fun (r7 : Int64) => zc_nzL r7 (some (((x3 / r7)).toInt32 + (1 : Int32))))) else (some (0 : Int32)))
theorem iX3_untilWide_X3 : ∀ w ∈ wsX30, w ∈ wsX3_untilWide := fun _ h => List.mem_cons_of_mem _ (List.mem_append_right _ h)
set_option maxHeartbeats 4000000 in
set_option maxRecDepth 100000 in
theorem kX3_untilWide (l : Launch) (G : zc_G) (ma : Nat → Nat) {u : zc_M} {a1 : Int32} {r0 : Int32} (hF : fX3_untilWide u a1 = some r0) : Met l yX3_untilWide wsX3_untilWide ({ frames := 1, cells := 0, slots := 0, locals := 25 }) (zc_Pp G [.ref (ma 0), .int a1] (zc_mo G ma u)) (vp_Si (fun r => r = r0)) 0 0 (fun _ => False) := by
  refine Met.ofW (cc := cX3_untilWide) (maxL := 4) (ret := (some .int)) (by decide) rfl ?_
  intro p e s m args below meth c s₁ B hml hv
  obtain ⟨rfl, hP, hK⟩ := hv
  have hx := B.exec
  have hb := B.bytes
  have hr := B.returns
  have hts := atoms_spec (ws := wsX3_untilWide) B.pre
  have hown : s.vm.findClass RX3 = some m.cls := findClass_of_methodNamed B.named
  have hlocks := B.notSynchronized
  have hl := lv_entry ([.ref (ma 0), .int a1]) (n := 4) (Nat.le_of_ble_eq_true rfl)
  rw [lg_entry_eq]
  generalize (lg_sl ([.ref (ma 0), .int a1]) ++ List.replicate (4 - (lg_sl ([.ref (ma 0), .int a1])).length) Slot.unset).toArray = ls at hl ⊢
  have hl : lv_has ls 4 [(0, .ref (ma 0)), (1, .int a1)] := hl
  refine lv_iload_n hx hb dX3_untilWide_0 rfl (lv_at hl 1 rfl) ?_
  refine lv_i2l hx hb dX3_untilWide_1 rfl ?_
  refine lv_lconst (v := (0 : Int64)) hx hb dX3_untilWide_2 (by decide) ?_
  refine lv_ldc2 hx hb hown (hts (.constantLong RX3 99 (99999)) (List.mem_of_getElem? (i := 1) rfl)) dX3_untilWide_3 ?_
  obtain ⟨r1, er1, hF⟩ := zc_bind hF
  refine zc_ci (va_runS (As := [.long _, .long _, .long _]) ⟨hx, hb, hml, hown, hts⟩ (kX3_in l G er1) (va_cwS 3 hts gX3_untilWide_X3_in rfl rfl rfl (by decide +kernel) ⟨Nat.le_of_ble_eq_true rfl, Nat.le_of_ble_eq_true rfl⟩) (zc_preS hK (show va_P G.1 vwCl [] _ from fun k q h => by simp at h)) rfl rfl hl.1 rfl (lv_room (Nat.le_of_ble_eq_true rfl)) dX3_untilWide_6 ⟨Nat.le_of_ble_eq_true rfl, Nat.le_of_ble_eq_true rfl⟩) ?_
  refine lv_if_ne (tgt := 15) hx hb dX3_untilWide_9 (by decide) (fun c2 => ?_) (fun c2 => ?_)
  · have hF := zc_neg c2 hF
    refine lv_ldc2 hx hb hown (hts (.constantLong RX3 45 (16)) (List.mem_of_getElem? (i := 3) rfl)) dX3_untilWide_15 ?_
    refine lv_iload_n hx hb dX3_untilWide_18 rfl (lv_at hl 1 rfl) ?_
    refine lv_i2l hx hb dX3_untilWide_19 rfl ?_
    refine lv_lmul hx hb dX3_untilWide_20 ?_
    refine lv_aload_n hx hb dX3_untilWide_21 rfl (lv_at hl 0 rfl) ?_
    refine va_get (D := G.1) (ci := 3) (C := RX3) (T := TX3) (N := 8) hx hb hts iX3_untilWide_X3 hown hK.1 hP 0 rfl rfl 0 (by decide) (hts (.fieldLink RX3 7 "BoardClockModel" "st" "[J") (List.mem_of_getElem? (i := 4) rfl)) (fun _ h9 => h9) rfl dX3_untilWide_22 ?_
    refine lv_iconst (v := (3 : Int32)) hx hb dX3_untilWide_25 (by decide) ?_
    refine zc_lald hx hb hK.1 hP 1 1 rfl rfl (j := 3) (zc_vin (by decide)) (by decide) dX3_untilWide_26 ?_
    refine lv_lsub hx hb dX3_untilWide_27 ?_
    refine lv_topl (fun x3 ex3 => ?_)
    have hF := zc_letE ex3 hF
    refine lv_lstore_n (lv' := [(2, .long x3), (0, .ref (ma 0)), (1, .int a1)]) hx hb dX3_untilWide_28 rfl hl (by decide) rfl (fun ls hl => ?_)
    refine lv_lload_n hx hb dX3_untilWide_29 rfl (lv_at hl 0 rfl) ?_
    refine lv_lconst (v := (0 : Int64)) hx hb dX3_untilWide_30 (by decide) ?_
    refine W.lcmp hx hb dX3_untilWide_31 ?_
    refine lv_if_ge (tgt := 37) hx hb dX3_untilWide_32 (by decide) (fun c4 => ?_) (fun c4 => ?_)
    · have hF := zc_pos c4 hF
      refine lv_aload_n hx hb dX3_untilWide_37 rfl (lv_at hl 1 rfl) ?_
      obtain ⟨r5, er5, hF⟩ := zc_bind hF
      refine zc_cl (va_runV (As := []) ⟨hx, hb, hml, hown, hts⟩ (kX3_wider l G ma er5) (cwV 0 hts gX3_untilWide_X3_wider rfl rfl rfl (by decide +kernel) ⟨Nat.le_of_ble_eq_true rfl, Nat.le_of_ble_eq_true rfl⟩) (zc_preV hK hP 0 rfl rfl) rfl rfl hl.1 rfl (lv_room (Nat.le_of_ble_eq_true rfl)) dX3_untilWide_38 ⟨Nat.le_of_ble_eq_true rfl, Nat.le_of_ble_eq_true rfl⟩) ?_
      refine lv_lconst (v := (0 : Int64)) hx hb dX3_untilWide_41 (by decide) ?_
      refine W.lcmp hx hb dX3_untilWide_42 ?_
      refine lv_if_ne (tgt := 50) hx hb dX3_untilWide_43 (by decide) (fun c6 => ?_) (fun c6 => ?_)
      · have hF := zc_neg c6 hF
        refine lv_lload_n hx hb dX3_untilWide_50 rfl (lv_at hl 0 rfl) ?_
        refine lv_aload_n hx hb dX3_untilWide_51 rfl (lv_at hl 1 rfl) ?_
        obtain ⟨r7, er7, hF⟩ := zc_bind hF
        refine zc_cl (va_runV (As := []) ⟨hx, hb, hml, hown, hts⟩ (kX3_wider l G ma er7) (cwV 0 hts gX3_untilWide_X3_wider rfl rfl rfl (by decide +kernel) ⟨Nat.le_of_ble_eq_true rfl, Nat.le_of_ble_eq_true rfl⟩) (zc_preV hK hP 0 rfl rfl) rfl rfl hl.1 rfl (lv_room (Nat.le_of_ble_eq_true rfl)) dX3_untilWide_52 ⟨Nat.le_of_ble_eq_true rfl, Nat.le_of_ble_eq_true rfl⟩) ?_
        obtain ⟨hnz8, hF⟩ := zc_nzLE hF
        refine lv_ldiv hx hb dX3_untilWide_55 hnz8 ?_
        refine lv_l2i hx hb dX3_untilWide_56 rfl ?_
        refine lv_iconst (v := (1 : Int32)) hx hb dX3_untilWide_57 (by decide) ?_
        refine lv_iadd hx hb dX3_untilWide_58 ?_
        exact W.iret hx hb hr (fun t ht hW => ⟨_, rfl, Option.some.inj hF, ht⟩) (fun _ h => by cases h) dX3_untilWide_59
      · have hF := zc_pos c6 hF
        refine lv_iconst (v := (-1 : Int32)) hx hb dX3_untilWide_46 (by decide) ?_
        refine lv_goto (tgt := 59) hx hb dX3_untilWide_47 (by decide) ?_
        exact W.iret hx hb hr (fun t ht hW => ⟨_, rfl, Option.some.inj hF, ht⟩) (fun _ h => by cases h) dX3_untilWide_59
    · have hF := zc_neg c4 hF
      refine lv_iconst (v := (0 : Int32)) hx hb dX3_untilWide_35 (by decide) ?_
      exact W.iret hx hb hr (fun t ht hW => ⟨_, rfl, Option.some.inj hF, ht⟩) (fun _ h => by cases h) dX3_untilWide_36
  · have hF := zc_pos c2 hF
    refine lv_ldc hx hb hown (hts (.constant RX3 154 (-1000000002)) (List.mem_of_getElem? (i := 2) rfl)) dX3_untilWide_12 ?_
    exact W.iret hx hb hr (fun t ht hW => ⟨_, rfl, Option.some.inj hF, ht⟩) (fun _ h => by cases h) dX3_untilWide_14
