def fX1_aim (v : zc_S) : Option (Int64) := some ((v.1 1) + (v.1 2))
theorem iX1_aim_X1 : ∀ w ∈ wsX10, w ∈ wsX1_aim := fun _ h => List.mem_cons_of_mem _ (List.mem_append_right _ h)
set_option maxHeartbeats 4000000 in
set_option maxRecDepth 100000 in
theorem kX1_aim (l : Launch) (G : zc_G) (ad : Nat → Nat) {v : zc_S} {r0 : Int64} (hF : fX1_aim v = some r0) : Met l yX1_aim wsX1_aim ({ frames := 0, cells := 0, slots := 0, locals := 0 }) (zc_Pp G [.ref (ad 0)] (zc_st G ad v)) (vp_Sl (fun r => r = r0)) 0 0 (fun _ => False) := by
  refine Met.ofW (cc := cX1_aim) (maxL := 1) (ret := (some .long)) (by decide) rfl ?_
  intro p e s m args below meth c s₁ B hml hv
  obtain ⟨rfl, hP, hK⟩ := hv
  have hx := B.exec
  have hb := B.bytes
  have hr := B.returns
  have hts := atoms_spec (ws := wsX1_aim) B.pre
  have hown : s.vm.findClass RX1 = some m.cls := findClass_of_methodNamed B.named
  have hlocks := B.notSynchronized
  have hl := lv_entry ([.ref (ad 0)]) (n := 1) (Nat.le_of_ble_eq_true rfl)
  rw [lg_entry_eq]
  generalize (lg_sl ([.ref (ad 0)]) ++ List.replicate (1 - (lg_sl ([.ref (ad 0)])).length) Slot.unset).toArray = ls at hl ⊢
  have hl : lv_has ls 1 [(0, .ref (ad 0))] := hl
  refine lv_aload_n hx hb dX1_aim_0 rfl (lv_at hl 0 rfl) ?_
  refine va_get (D := G.1) (ci := 1) (C := RX1) (T := TX1) (N := 18) hx hb hts iX1_aim_X1 hown hK.1 hP 0 rfl rfl 1 (by decide) (hts (.fieldLink RX1 15 "BoardClock$State" "boardTime" "J") (List.mem_of_getElem? (i := 1) rfl)) (fun _ h9 => h9) rfl dX1_aim_1 ?_
  refine lv_aload_n hx hb dX1_aim_4 rfl (lv_at hl 0 rfl) ?_
  refine va_get (D := G.1) (ci := 1) (C := RX1) (T := TX1) (N := 18) hx hb hts iX1_aim_X1 hown hK.1 hP 0 rfl rfl 2 (by decide) (hts (.fieldLink RX1 18 "BoardClock$State" "ahead" "J") (List.mem_of_getElem? (i := 2) rfl)) (fun _ h9 => h9) rfl dX1_aim_5 ?_
  refine lv_ladd hx hb dX1_aim_8 ?_
  exact W.lret hx hb hr (fun t ht hW => ⟨_, rfl, Option.some.inj hF, ht⟩) (fun _ h => by cases h) dX1_aim_9
def fX1_minuteNumber (v : zc_S) : Option (Int64) := some ((v.1 1) / (60000 : Int64))
theorem iX1_minuteNumber_X1 : ∀ w ∈ wsX10, w ∈ wsX1_minuteNumber := fun _ h => List.mem_cons_of_mem _ (List.mem_append_right _ h)
set_option maxHeartbeats 4000000 in
set_option maxRecDepth 100000 in
theorem kX1_minuteNumber (l : Launch) (G : zc_G) (ad : Nat → Nat) {v : zc_S} {r0 : Int64} (hF : fX1_minuteNumber v = some r0) : Met l yX1_minuteNumber wsX1_minuteNumber ({ frames := 0, cells := 0, slots := 0, locals := 0 }) (zc_Pp G [.ref (ad 0)] (zc_st G ad v)) (vp_Sl (fun r => r = r0)) 0 0 (fun _ => False) := by
  refine Met.ofW (cc := cX1_minuteNumber) (maxL := 1) (ret := (some .long)) (by decide) rfl ?_
  intro p e s m args below meth c s₁ B hml hv
  obtain ⟨rfl, hP, hK⟩ := hv
  have hx := B.exec
  have hb := B.bytes
  have hr := B.returns
  have hts := atoms_spec (ws := wsX1_minuteNumber) B.pre
  have hown : s.vm.findClass RX1 = some m.cls := findClass_of_methodNamed B.named
  have hlocks := B.notSynchronized
  have hl := lv_entry ([.ref (ad 0)]) (n := 1) (Nat.le_of_ble_eq_true rfl)
  rw [lg_entry_eq]
  generalize (lg_sl ([.ref (ad 0)]) ++ List.replicate (1 - (lg_sl ([.ref (ad 0)])).length) Slot.unset).toArray = ls at hl ⊢
  have hl : lv_has ls 1 [(0, .ref (ad 0))] := hl
  refine lv_aload_n hx hb dX1_minuteNumber_0 rfl (lv_at hl 0 rfl) ?_
  refine va_get (D := G.1) (ci := 1) (C := RX1) (T := TX1) (N := 18) hx hb hts iX1_minuteNumber_X1 hown hK.1 hP 0 rfl rfl 1 (by decide) (hts (.fieldLink RX1 15 "BoardClock$State" "boardTime" "J") (List.mem_of_getElem? (i := 1) rfl)) (fun _ h9 => h9) rfl dX1_minuteNumber_1 ?_
  refine lv_ldc2 hx hb hown (hts (.constantLong RX1 83 (60000)) (List.mem_of_getElem? (i := 2) rfl)) dX1_minuteNumber_4 ?_
  refine lv_ldiv hx hb dX1_minuteNumber_7 (by decide) ?_
  exact W.lret hx hb hr (fun t ht hW => ⟨_, rfl, Option.some.inj hF, ht⟩) (fun _ h => by cases h) dX1_minuteNumber_8
def fX1_offAt (v : zc_S) (a1 : Int32) : Option (Int32) := zc_let (a1 - (v.2.1 4)) fun (x1 : Int32) => some ((v.2.1 6) - ((((v.2.1 5) * x1) * x1) / (100 : Int32)))
theorem iX1_offAt_X1 : ∀ w ∈ wsX10, w ∈ wsX1_offAt := fun _ h => List.mem_cons_of_mem _ (List.mem_append_right _ h)
set_option maxHeartbeats 4000000 in
set_option maxRecDepth 100000 in
theorem kX1_offAt (l : Launch) (G : zc_G) (ad : Nat → Nat) {v : zc_S} {a1 : Int32} {r0 : Int32} (hF : fX1_offAt v a1 = some r0) : Met l yX1_offAt wsX1_offAt ({ frames := 0, cells := 0, slots := 0, locals := 0 }) (zc_Pp G [.ref (ad 0), .int a1] (zc_st G ad v)) (vp_Si (fun r => r = r0)) 0 0 (fun _ => False) := by
  refine Met.ofW (cc := cX1_offAt) (maxL := 3) (ret := (some .int)) (by decide) rfl ?_
  intro p e s m args below meth c s₁ B hml hv
  obtain ⟨rfl, hP, hK⟩ := hv
  have hx := B.exec
  have hb := B.bytes
  have hr := B.returns
  have hts := atoms_spec (ws := wsX1_offAt) B.pre
  have hown : s.vm.findClass RX1 = some m.cls := findClass_of_methodNamed B.named
  have hlocks := B.notSynchronized
  have hl := lv_entry ([.ref (ad 0), .int a1]) (n := 3) (Nat.le_of_ble_eq_true rfl)
  rw [lg_entry_eq]
  generalize (lg_sl ([.ref (ad 0), .int a1]) ++ List.replicate (3 - (lg_sl ([.ref (ad 0), .int a1])).length) Slot.unset).toArray = ls at hl ⊢
  have hl : lv_has ls 3 [(0, .ref (ad 0)), (1, .int a1)] := hl
  refine lv_iload_n hx hb dX1_offAt_0 rfl (lv_at hl 1 rfl) ?_
  refine lv_aload_n hx hb dX1_offAt_1 rfl (lv_at hl 0 rfl) ?_
  refine va_get (D := G.1) (ci := 1) (C := RX1) (T := TX1) (N := 18) hx hb hts iX1_offAt_X1 hown hK.1 hP 0 rfl rfl 4 (by decide) (hts (.fieldLink RX1 25 "BoardClock$State" "top" "I") (List.mem_of_getElem? (i := 1) rfl)) (fun _ h9 => h9) rfl dX1_offAt_2 ?_
  refine lv_isub hx hb dX1_offAt_5 ?_
  refine lv_topi (fun x1 ex1 => ?_)
  have hF := zc_letE ex1 hF
  refine lv_istore_n (lv' := [(2, .int x1), (0, .ref (ad 0)), (1, .int a1)]) hx hb dX1_offAt_6 rfl hl (by decide) rfl (fun ls hl => ?_)
  refine lv_aload_n hx hb dX1_offAt_7 rfl (lv_at hl 1 rfl) ?_
  refine va_get (D := G.1) (ci := 1) (C := RX1) (T := TX1) (N := 18) hx hb hts iX1_offAt_X1 hown hK.1 hP 0 rfl rfl 6 (by decide) (hts (.fieldLink RX1 31 "BoardClock$State" "base" "I") (List.mem_of_getElem? (i := 2) rfl)) (fun _ h9 => h9) rfl dX1_offAt_8 ?_
  refine lv_aload_n hx hb dX1_offAt_11 rfl (lv_at hl 1 rfl) ?_
  refine va_get (D := G.1) (ci := 1) (C := RX1) (T := TX1) (N := 18) hx hb hts iX1_offAt_X1 hown hK.1 hP 0 rfl rfl 5 (by decide) (hts (.fieldLink RX1 28 "BoardClock$State" "curve" "I") (List.mem_of_getElem? (i := 3) rfl)) (fun _ h9 => h9) rfl dX1_offAt_12 ?_
  refine lv_iload_n hx hb dX1_offAt_15 rfl (lv_at hl 0 rfl) ?_
  refine lv_imul hx hb dX1_offAt_16 ?_
  refine lv_iload_n hx hb dX1_offAt_17 rfl (lv_at hl 0 rfl) ?_
  refine lv_imul hx hb dX1_offAt_18 ?_
  refine lv_bipush (v := (100 : Int32)) hx hb dX1_offAt_19 (by decide) ?_
  refine lv_idiv hx hb dX1_offAt_21 (by decide) ?_
  refine lv_isub hx hb dX1_offAt_22 ?_
  exact W.iret hx hb hr (fun t ht hW => ⟨_, rfl, Option.some.inj hF, ht⟩) (fun _ h => by cases h) dX1_offAt_23
def fX1_learnedOf (v : zc_S) (a1 : Int32) : Option (Int32) := Option.bind (fX2_isSpan a1) fun (r1 : Int32) => if r1 = 0 then (some (0 : Int32)) else (zc_in a1 9 (some (v.2.2.1 a1.toNatClampNeg)))
theorem iX1_learnedOf_X1 : ∀ w ∈ wsX10, w ∈ wsX1_learnedOf := fun _ h => List.mem_cons_of_mem _ (List.mem_append_right _ h)
set_option maxHeartbeats 4000000 in
set_option maxRecDepth 100000 in
theorem kX1_learnedOf (l : Launch) (G : zc_G) (ad : Nat → Nat) {v : zc_S} {a1 : Int32} {r0 : Int32} (hF : fX1_learnedOf v a1 = some r0) : Met l yX1_learnedOf wsX1_learnedOf ({ frames := 1, cells := 0, slots := 0, locals := 20 }) (zc_Pp G [.ref (ad 0), .int a1] (zc_st G ad v)) (vp_Si (fun r => r = r0)) 0 0 (fun _ => False) := by
  refine Met.ofW (cc := cX1_learnedOf) (maxL := 2) (ret := (some .int)) (by decide) rfl ?_
  intro p e s m args below meth c s₁ B hml hv
  obtain ⟨rfl, hP, hK⟩ := hv
  have hx := B.exec
  have hb := B.bytes
  have hr := B.returns
  have hts := atoms_spec (ws := wsX1_learnedOf) B.pre
  have hown : s.vm.findClass RX1 = some m.cls := findClass_of_methodNamed B.named
  have hlocks := B.notSynchronized
  have hl := lv_entry ([.ref (ad 0), .int a1]) (n := 2) (Nat.le_of_ble_eq_true rfl)
  rw [lg_entry_eq]
  generalize (lg_sl ([.ref (ad 0), .int a1]) ++ List.replicate (2 - (lg_sl ([.ref (ad 0), .int a1])).length) Slot.unset).toArray = ls at hl ⊢
  have hl : lv_has ls 2 [(0, .ref (ad 0)), (1, .int a1)] := hl
  refine lv_iload_n hx hb dX1_learnedOf_0 rfl (lv_at hl 1 rfl) ?_
  obtain ⟨r1, er1, hF⟩ := zc_bind hF
  refine zc_ci (va_runSN (As := [.int _]) ⟨hx, hb, hml, hown, hts⟩ (kX2_isSpan l G er1) ⟨va_cnB 1 hts gX1_learnedOf_X2_isSpan_n92 rfl rfl rfl hK.2.2.2.1 (hts (.initialized RX2) (List.mem_of_getElem? (i := 3) rfl)) (by decide +kernel) ⟨Nat.le_of_ble_eq_true rfl, Nat.le_of_ble_eq_true rfl⟩, (hts (.static yX2_isSpan) (List.mem_of_getElem? (i := 2) rfl)), trivial⟩ (zc_preS hK (show va_P G.1 vwCl [] _ from fun k q h => by simp at h)) rfl rfl hl.1 rfl (lv_room (Nat.le_of_ble_eq_true rfl)) dX1_learnedOf_1 ⟨Nat.le_of_ble_eq_true rfl, Nat.le_of_ble_eq_true rfl⟩) ?_
  refine lv_if_eq (tgt := 16) hx hb dX1_learnedOf_4 (by decide) (fun c2 => ?_) (fun c2 => ?_)
  · have hF := zc_pos c2 hF
    refine lv_iconst (v := (0 : Int32)) hx hb dX1_learnedOf_16 (by decide) ?_
    exact W.iret hx hb hr (fun t ht hW => ⟨_, rfl, Option.some.inj hF, ht⟩) (fun _ h => by cases h) dX1_learnedOf_17
  · have hF := zc_neg c2 hF
    refine lv_aload_n hx hb dX1_learnedOf_7 rfl (lv_at hl 0 rfl) ?_
    refine va_get (D := G.1) (ci := 1) (C := RX1) (T := TX1) (N := 18) hx hb hts iX1_learnedOf_X1 hown hK.1 hP 0 rfl rfl 16 (by decide) (hts (.fieldLink RX1 62 "BoardClock$State" "learned" "[I") (List.mem_of_getElem? (i := 1) rfl)) (fun _ h9 => h9) rfl dX1_learnedOf_8 ?_
    refine lv_iload_n hx hb dX1_learnedOf_11 rfl (lv_at hl 1 rfl) ?_
    obtain ⟨hi3, hF⟩ := zc_inE hF
    refine zc_iald hx hb hK.1 hP 1 0 rfl rfl hi3 rfl dX1_learnedOf_12 ?_
    refine lv_goto (tgt := 17) hx hb dX1_learnedOf_13 (by decide) ?_
    exact W.iret hx hb hr (fun t ht hW => ⟨_, rfl, Option.some.inj hF, ht⟩) (fun _ h => by cases h) dX1_learnedOf_17
def fX1_fitOf (v : zc_S) (a1 : Int32) : Option (Int32) := zc_let (((-20 : Int32) + (a1 * (10 : Int32))) + (5 : Int32)) fun (x1 : Int32) => Option.bind (fX1_learnedOf v a1) fun (r2 : Int32) => Option.bind (fX1_offAt v x1) fun (r3 : Int32) => some (r2 - ((16 : Int32) * r3))
set_option maxHeartbeats 4000000 in
set_option maxRecDepth 100000 in
theorem kX1_fitOf (l : Launch) (G : zc_G) (ad : Nat → Nat) {v : zc_S} {a1 : Int32} {r0 : Int32} (hF : fX1_fitOf v a1 = some r0) : Met l yX1_fitOf wsX1_fitOf ({ frames := 2, cells := 0, slots := 0, locals := 41 }) (zc_Pp G [.ref (ad 0), .int a1] (zc_st G ad v)) (vp_Si (fun r => r = r0)) 0 0 (fun _ => False) := by
  refine Met.ofW (cc := cX1_fitOf) (maxL := 3) (ret := (some .int)) (by decide) rfl ?_
  intro p e s m args below meth c s₁ B hml hv
  obtain ⟨rfl, hP, hK⟩ := hv
  have hx := B.exec
  have hb := B.bytes
  have hr := B.returns
  have hts := atoms_spec (ws := wsX1_fitOf) B.pre
  have hown : s.vm.findClass RX1 = some m.cls := findClass_of_methodNamed B.named
  have hlocks := B.notSynchronized
  have hl := lv_entry ([.ref (ad 0), .int a1]) (n := 3) (Nat.le_of_ble_eq_true rfl)
  rw [lg_entry_eq]
  generalize (lg_sl ([.ref (ad 0), .int a1]) ++ List.replicate (3 - (lg_sl ([.ref (ad 0), .int a1])).length) Slot.unset).toArray = ls at hl ⊢
  have hl : lv_has ls 3 [(0, .ref (ad 0)), (1, .int a1)] := hl
  refine lv_bipush (v := (-20 : Int32)) hx hb dX1_fitOf_0 (by decide) ?_
  refine lv_iload_n hx hb dX1_fitOf_2 rfl (lv_at hl 1 rfl) ?_
  refine lv_bipush (v := (10 : Int32)) hx hb dX1_fitOf_3 (by decide) ?_
  refine lv_imul hx hb dX1_fitOf_5 ?_
  refine lv_iadd hx hb dX1_fitOf_6 ?_
  refine lv_iconst (v := (5 : Int32)) hx hb dX1_fitOf_7 (by decide) ?_
  refine lv_iadd hx hb dX1_fitOf_8 ?_
  refine lv_topi (fun x1 ex1 => ?_)
  have hF := zc_letE ex1 hF
  refine lv_istore_n (lv' := [(2, .int x1), (0, .ref (ad 0)), (1, .int a1)]) hx hb dX1_fitOf_9 rfl hl (by decide) rfl (fun ls hl => ?_)
  refine lv_aload_n hx hb dX1_fitOf_10 rfl (lv_at hl 1 rfl) ?_
  refine lv_iload_n hx hb dX1_fitOf_11 rfl (lv_at hl 2 rfl) ?_
  obtain ⟨r2, er2, hF⟩ := zc_bind hF
  refine zc_ci (va_runV (As := [.int _]) ⟨hx, hb, hml, hown, hts⟩ (kX1_learnedOf l G ad er2) (cwV 1 hts gX1_fitOf_X1_learnedOf rfl rfl rfl (by decide +kernel) ⟨Nat.le_of_ble_eq_true rfl, Nat.le_of_ble_eq_true rfl⟩) (zc_preV hK hP 0 rfl rfl) rfl rfl hl.1 rfl (lv_room (Nat.le_of_ble_eq_true rfl)) dX1_fitOf_12 ⟨Nat.le_of_ble_eq_true rfl, Nat.le_of_ble_eq_true rfl⟩) ?_
  refine lv_bipush (v := (16 : Int32)) hx hb dX1_fitOf_15 (by decide) ?_
  refine lv_aload_n hx hb dX1_fitOf_17 rfl (lv_at hl 1 rfl) ?_
  refine lv_iload_n hx hb dX1_fitOf_18 rfl (lv_at hl 0 rfl) ?_
  obtain ⟨r3, er3, hF⟩ := zc_bind hF
  refine zc_ci (va_runV (As := [.int _]) ⟨hx, hb, hml, hown, hts⟩ (kX1_offAt l G ad er3) (cwV 1 hts gX1_fitOf_X1_offAt rfl rfl rfl (by decide +kernel) ⟨Nat.le_of_ble_eq_true rfl, Nat.le_of_ble_eq_true rfl⟩) (zc_preV hK hP 0 rfl rfl) rfl rfl hl.1 rfl (lv_room (Nat.le_of_ble_eq_true rfl)) dX1_fitOf_19 ⟨Nat.le_of_ble_eq_true rfl, Nat.le_of_ble_eq_true rfl⟩) ?_
  refine lv_imul hx hb dX1_fitOf_22 ?_
  refine lv_isub hx hb dX1_fitOf_23 ?_
  exact W.iret hx hb hr (fun t ht hW => ⟨_, rfl, Option.some.inj hF, ht⟩) (fun _ h => by cases h) dX1_fitOf_24
def fX1_isWithinBounds (v : zc_S) : Option (Int32) := Option.bind (fX1_aim v) fun (r1 : Int64) => if 0 < (lg_cmp ((if 0 < ((v.1 0) - r1) then ((v.1 0) - r1) else -((v.1 0) - r1)) * (16 : Int64)) ((v.2.1 9)).toInt64) then (some (0 : Int32)) else (some (1 : Int32))
theorem iX1_isWithinBounds_X1 : ∀ w ∈ wsX10, w ∈ wsX1_isWithinBounds := fun _ h => List.mem_cons_of_mem _ (List.mem_append_right _ h)
set_option maxHeartbeats 4000000 in
set_option maxRecDepth 100000 in
theorem kX1_isWithinBounds (l : Launch) (G : zc_G) (ad : Nat → Nat) {v : zc_S} {r0 : Int32} (hF : fX1_isWithinBounds v = some r0) : Met l yX1_isWithinBounds wsX1_isWithinBounds ({ frames := 1, cells := 0, slots := 0, locals := 25 }) (zc_Pp G [.ref (ad 0)] (zc_st G ad v)) (vp_Si (fun r => r = r0)) 0 0 (fun _ => False) := by
  refine Met.ofW (cc := cX1_isWithinBounds) (maxL := 1) (ret := (some .boolean)) (by decide) rfl ?_
  intro p e s m args below meth c s₁ B hml hv
  obtain ⟨rfl, hP, hK⟩ := hv
  have hx := B.exec
  have hb := B.bytes
  have hr := B.returns
  have hts := atoms_spec (ws := wsX1_isWithinBounds) B.pre
  have hown : s.vm.findClass RX1 = some m.cls := findClass_of_methodNamed B.named
  have hlocks := B.notSynchronized
  have hl := lv_entry ([.ref (ad 0)]) (n := 1) (Nat.le_of_ble_eq_true rfl)
  rw [lg_entry_eq]
  generalize (lg_sl ([.ref (ad 0)]) ++ List.replicate (1 - (lg_sl ([.ref (ad 0)])).length) Slot.unset).toArray = ls at hl ⊢
  have hl : lv_has ls 1 [(0, .ref (ad 0))] := hl
  refine lv_aload_n hx hb dX1_isWithinBounds_0 rfl (lv_at hl 0 rfl) ?_
  refine va_get (D := G.1) (ci := 1) (C := RX1) (T := TX1) (N := 18) hx hb hts iX1_isWithinBounds_X1 hown hK.1 hP 0 rfl rfl 0 (by decide) (hts (.fieldLink RX1 9 "BoardClock$State" "trueTime" "J") (List.mem_of_getElem? (i := 1) rfl)) (fun _ h9 => h9) rfl dX1_isWithinBounds_1 ?_
  refine lv_aload_n hx hb dX1_isWithinBounds_4 rfl (lv_at hl 0 rfl) ?_
  obtain ⟨r1, er1, hF⟩ := zc_bind hF
  refine zc_cl (va_runV (As := []) ⟨hx, hb, hml, hown, hts⟩ (kX1_aim l G ad er1) (cwV 0 hts gX1_isWithinBounds_X1_aim rfl rfl rfl (by decide +kernel) ⟨Nat.le_of_ble_eq_true rfl, Nat.le_of_ble_eq_true rfl⟩) (zc_preV hK hP 0 rfl rfl) rfl rfl hl.1 rfl (lv_room (Nat.le_of_ble_eq_true rfl)) dX1_isWithinBounds_5 ⟨Nat.le_of_ble_eq_true rfl, Nat.le_of_ble_eq_true rfl⟩) ?_
  refine lv_lsub hx hb dX1_isWithinBounds_8 ?_
  refine va_mabs_long hx hb (hml.trans hl.1.symm) hown (hts (.methodLink RX1 100 Lib.MathLoose.abs_long.x) (List.mem_of_getElem? (i := 2) rfl)) (hts (.static Lib.MathLoose.abs_long.x) (List.mem_of_getElem? (i := 3) rfl)) (hts (.initialized "java/lang/Math") (List.mem_of_getElem? (i := 4) rfl)) (hts (.code Lib.MathLoose.abs_long.x Lib.MathLoose.abs_long.code 2 (some .long)) (List.mem_of_getElem? (i := 5) rfl)) (Nat.le_of_ble_eq_true rfl) (Nat.le_of_ble_eq_true rfl) (Nat.zero_le _) (Nat.zero_le _) dX1_isWithinBounds_9 ?_
  refine lv_ldc2 hx hb hown (hts (.constantLong RX1 106 (16)) (List.mem_of_getElem? (i := 6) rfl)) dX1_isWithinBounds_12 ?_
  refine lv_lmul hx hb dX1_isWithinBounds_15 ?_
  refine lv_aload_n hx hb dX1_isWithinBounds_16 rfl (lv_at hl 0 rfl) ?_
  refine va_get (D := G.1) (ci := 1) (C := RX1) (T := TX1) (N := 18) hx hb hts iX1_isWithinBounds_X1 hown hK.1 hP 0 rfl rfl 9 (by decide) (hts (.fieldLink RX1 40 "BoardClock$State" "width" "I") (List.mem_of_getElem? (i := 7) rfl)) (fun _ h9 => h9) rfl dX1_isWithinBounds_17 ?_
  refine lv_i2l hx hb dX1_isWithinBounds_20 rfl ?_
  refine W.lcmp hx hb dX1_isWithinBounds_21 ?_
  refine lv_if_gt (tgt := 29) hx hb dX1_isWithinBounds_22 (by decide) (fun c2 => ?_) (fun c2 => ?_)
  · have hF := zc_pos c2 hF
    refine lv_iconst (v := (0 : Int32)) hx hb dX1_isWithinBounds_29 (by decide) ?_
    exact W.zret hx hb hr (by decide) (fun t ht hW => ⟨_, rfl, Option.some.inj hF, ht⟩) (fun _ h => by cases h) dX1_isWithinBounds_30
  · have hF := zc_neg c2 hF
    refine lv_iconst (v := (1 : Int32)) hx hb dX1_isWithinBounds_25 (by decide) ?_
    refine lv_goto (tgt := 30) hx hb dX1_isWithinBounds_26 (by decide) ?_
    exact W.zret hx hb hr (by decide) (fun t ht hW => ⟨_, rfl, Option.some.inj hF, ht⟩) (fun _ h => by cases h) dX1_isWithinBounds_30
def fX1_sixteenthsAfter (v : zc_S) (a1 : Int32) : Option (Int64) := Option.bind (fX2_spanOf (v.2.1 3)) fun (r1 : Int32) => Option.bind (fX1_learnedOf v r1) fun (r2 : Int32) => some (((v.2.1 7)).toInt64 - (a1.toInt64 * r2.toInt64))
theorem iX1_sixteenthsAfter_X1 : ∀ w ∈ wsX10, w ∈ wsX1_sixteenthsAfter := fun _ h => List.mem_cons_of_mem _ (List.mem_append_right _ h)
set_option maxHeartbeats 4000000 in
set_option maxRecDepth 100000 in
theorem kX1_sixteenthsAfter (l : Launch) (G : zc_G) (ad : Nat → Nat) {v : zc_S} {a1 : Int32} {r0 : Int64} (hF : fX1_sixteenthsAfter v a1 = some r0) : Met l yX1_sixteenthsAfter wsX1_sixteenthsAfter ({ frames := 2, cells := 0, slots := 0, locals := 41 }) (zc_Pp G [.ref (ad 0), .int a1] (zc_st G ad v)) (vp_Sl (fun r => r = r0)) 0 0 (fun _ => False) := by
  refine Met.ofW (cc := cX1_sixteenthsAfter) (maxL := 2) (ret := (some .long)) (by decide) rfl ?_
  intro p e s m args below meth c s₁ B hml hv
  obtain ⟨rfl, hP, hK⟩ := hv
  have hx := B.exec
  have hb := B.bytes
  have hr := B.returns
  have hts := atoms_spec (ws := wsX1_sixteenthsAfter) B.pre
  have hown : s.vm.findClass RX1 = some m.cls := findClass_of_methodNamed B.named
  have hlocks := B.notSynchronized
  have hl := lv_entry ([.ref (ad 0), .int a1]) (n := 2) (Nat.le_of_ble_eq_true rfl)
  rw [lg_entry_eq]
  generalize (lg_sl ([.ref (ad 0), .int a1]) ++ List.replicate (2 - (lg_sl ([.ref (ad 0), .int a1])).length) Slot.unset).toArray = ls at hl ⊢
  have hl : lv_has ls 2 [(0, .ref (ad 0)), (1, .int a1)] := hl
  refine lv_aload_n hx hb dX1_sixteenthsAfter_0 rfl (lv_at hl 0 rfl) ?_
  refine va_get (D := G.1) (ci := 1) (C := RX1) (T := TX1) (N := 18) hx hb hts iX1_sixteenthsAfter_X1 hown hK.1 hP 0 rfl rfl 7 (by decide) (hts (.fieldLink RX1 34 "BoardClock$State" "rest" "I") (List.mem_of_getElem? (i := 1) rfl)) (fun _ h9 => h9) rfl dX1_sixteenthsAfter_1 ?_
  refine lv_i2l hx hb dX1_sixteenthsAfter_4 rfl ?_
  refine lv_iload_n hx hb dX1_sixteenthsAfter_5 rfl (lv_at hl 1 rfl) ?_
  refine lv_i2l hx hb dX1_sixteenthsAfter_6 rfl ?_
  refine lv_aload_n hx hb dX1_sixteenthsAfter_7 rfl (lv_at hl 0 rfl) ?_
  refine lv_aload_n hx hb dX1_sixteenthsAfter_8 rfl (lv_at hl 0 rfl) ?_
  refine va_get (D := G.1) (ci := 1) (C := RX1) (T := TX1) (N := 18) hx hb hts iX1_sixteenthsAfter_X1 hown hK.1 hP 0 rfl rfl 3 (by decide) (hts (.fieldLink RX1 21 "BoardClock$State" "warmth" "I") (List.mem_of_getElem? (i := 2) rfl)) (fun _ h9 => h9) rfl dX1_sixteenthsAfter_9 ?_
  obtain ⟨r1, er1, hF⟩ := zc_bind hF
  refine zc_ci (va_runSN (As := [.int _]) ⟨hx, hb, hml, hown, hts⟩ (kX2_spanOf l G er1) ⟨va_cnB 1 hts gX1_sixteenthsAfter_X2_spanOf_n108 rfl rfl rfl hK.2.2.2.2.2.2.2.1 (hts (.initialized RX2) (List.mem_of_getElem? (i := 4) rfl)) (by decide +kernel) ⟨Nat.le_of_ble_eq_true rfl, Nat.le_of_ble_eq_true rfl⟩, (hts (.static yX2_spanOf) (List.mem_of_getElem? (i := 3) rfl)), trivial⟩ (zc_preS hK (show va_P G.1 vwCl [] _ from fun k q h => by simp at h)) rfl rfl hl.1 rfl (lv_room (Nat.le_of_ble_eq_true rfl)) dX1_sixteenthsAfter_12 ⟨Nat.le_of_ble_eq_true rfl, Nat.le_of_ble_eq_true rfl⟩) ?_
  obtain ⟨r2, er2, hF⟩ := zc_bind hF
  refine zc_ci (va_runV (As := [.int _]) ⟨hx, hb, hml, hown, hts⟩ (kX1_learnedOf l G ad er2) (cwV 1 hts gX1_sixteenthsAfter_X1_learnedOf rfl rfl rfl (by decide +kernel) ⟨Nat.le_of_ble_eq_true rfl, Nat.le_of_ble_eq_true rfl⟩) (zc_preV hK hP 0 rfl rfl) rfl rfl hl.1 rfl (lv_room (Nat.le_of_ble_eq_true rfl)) dX1_sixteenthsAfter_15 ⟨Nat.le_of_ble_eq_true rfl, Nat.le_of_ble_eq_true rfl⟩) ?_
  refine lv_i2l hx hb dX1_sixteenthsAfter_18 rfl ?_
  refine lv_lmul hx hb dX1_sixteenthsAfter_19 ?_
  refine lv_lsub hx hb dX1_sixteenthsAfter_20 ?_
  exact W.lret hx hb hr (fun t ht hW => ⟨_, rfl, Option.some.inj hF, ht⟩) (fun _ h => by cases h) dX1_sixteenthsAfter_21
def fX1_stepsAfter (v : zc_S) (a1 : Int32) : Option (Int64) := zc_let (a1.toInt64 * ((v.2.1 8)).toInt64) fun (x1 : Int64) => Option.bind (fX2_heldBetween (v.1 2) (-x1) x1) fun (r2 : Int64) => some r2
theorem iX1_stepsAfter_X1 : ∀ w ∈ wsX10, w ∈ wsX1_stepsAfter := fun _ h => List.mem_cons_of_mem _ (List.mem_append_right _ h)
set_option maxHeartbeats 4000000 in
set_option maxRecDepth 100000 in
theorem kX1_stepsAfter (l : Launch) (G : zc_G) (ad : Nat → Nat) {v : zc_S} {a1 : Int32} {r0 : Int64} (hF : fX1_stepsAfter v a1 = some r0) : Met l yX1_stepsAfter wsX1_stepsAfter ({ frames := 2, cells := 0, slots := 0, locals := 50 }) (zc_Pp G [.ref (ad 0), .int a1] (zc_st G ad v)) (vp_Sl (fun r => r = r0)) 0 0 (fun _ => False) := by
  refine Met.ofW (cc := cX1_stepsAfter) (maxL := 4) (ret := (some .long)) (by decide) rfl ?_
  intro p e s m args below meth c s₁ B hml hv
  obtain ⟨rfl, hP, hK⟩ := hv
  have hx := B.exec
  have hb := B.bytes
  have hr := B.returns
  have hts := atoms_spec (ws := wsX1_stepsAfter) B.pre
  have hown : s.vm.findClass RX1 = some m.cls := findClass_of_methodNamed B.named
  have hlocks := B.notSynchronized
  have hl := lv_entry ([.ref (ad 0), .int a1]) (n := 4) (Nat.le_of_ble_eq_true rfl)
  rw [lg_entry_eq]
  generalize (lg_sl ([.ref (ad 0), .int a1]) ++ List.replicate (4 - (lg_sl ([.ref (ad 0), .int a1])).length) Slot.unset).toArray = ls at hl ⊢
  have hl : lv_has ls 4 [(0, .ref (ad 0)), (1, .int a1)] := hl
  refine lv_iload_n hx hb dX1_stepsAfter_0 rfl (lv_at hl 1 rfl) ?_
  refine lv_i2l hx hb dX1_stepsAfter_1 rfl ?_
  refine lv_aload_n hx hb dX1_stepsAfter_2 rfl (lv_at hl 0 rfl) ?_
  refine va_get (D := G.1) (ci := 1) (C := RX1) (T := TX1) (N := 18) hx hb hts iX1_stepsAfter_X1 hown hK.1 hP 0 rfl rfl 8 (by decide) (hts (.fieldLink RX1 37 "BoardClock$State" "step" "I") (List.mem_of_getElem? (i := 1) rfl)) (fun _ h9 => h9) rfl dX1_stepsAfter_3 ?_
  refine lv_i2l hx hb dX1_stepsAfter_6 rfl ?_
  refine lv_lmul hx hb dX1_stepsAfter_7 ?_
  refine lv_topl (fun x1 ex1 => ?_)
  have hF := zc_letE ex1 hF
  refine lv_lstore_n (lv' := [(2, .long x1), (0, .ref (ad 0)), (1, .int a1)]) hx hb dX1_stepsAfter_8 rfl hl (by decide) rfl (fun ls hl => ?_)
  refine lv_aload_n hx hb dX1_stepsAfter_9 rfl (lv_at hl 1 rfl) ?_
  refine va_get (D := G.1) (ci := 1) (C := RX1) (T := TX1) (N := 18) hx hb hts iX1_stepsAfter_X1 hown hK.1 hP 0 rfl rfl 2 (by decide) (hts (.fieldLink RX1 18 "BoardClock$State" "ahead" "J") (List.mem_of_getElem? (i := 2) rfl)) (fun _ h9 => h9) rfl dX1_stepsAfter_10 ?_
  refine lv_lload_n hx hb dX1_stepsAfter_13 rfl (lv_at hl 0 rfl) ?_
  refine lv_lneg hx hb dX1_stepsAfter_14 ?_
  refine lv_lload_n hx hb dX1_stepsAfter_15 rfl (lv_at hl 0 rfl) ?_
  obtain ⟨r2, er2, hF⟩ := zc_bind hF
  refine zc_cl (va_runSN (As := [.long _, .long _, .long _]) ⟨hx, hb, hml, hown, hts⟩ (kX2_heldBetween l G er2) ⟨va_cnB 3 hts gX1_stepsAfter_X2_heldBetween_n111 rfl rfl rfl hK.2.2.2.2.2.2.2.2.1 (hts (.initialized RX2) (List.mem_of_getElem? (i := 4) rfl)) (by decide +kernel) ⟨Nat.le_of_ble_eq_true rfl, Nat.le_of_ble_eq_true rfl⟩, (hts (.static yX2_heldBetween) (List.mem_of_getElem? (i := 3) rfl)), trivial⟩ (zc_preS hK (show va_P G.1 vwCl [] _ from fun k q h => by simp at h)) rfl rfl hl.1 rfl (lv_room (Nat.le_of_ble_eq_true rfl)) dX1_stepsAfter_16 ⟨Nat.le_of_ble_eq_true rfl, Nat.le_of_ble_eq_true rfl⟩) ?_
  exact W.lret hx hb hr (fun t ht hW => ⟨_, rfl, Option.some.inj hF, ht⟩) (fun _ h => by cases h) dX1_stepsAfter_19
def fX1_boardTimeAfter (v : zc_S) (a1 : Int32) : Option (Int64) := Option.bind (fX1_offAt v (v.2.1 3)) fun (r1 : Int32) => zc_let ((v.1 1) + (a1.toInt64 * ((60000 : Int64) + r1.toInt64))) fun (x2 : Int64) => if (v.2.1 11) = 0 then (some x2) else (Option.bind (fX1_sixteenthsAfter v a1) fun (r4 : Int64) => Option.bind (fJ9_floorDiv_f86c9 r4 (16 : Int64)) fun (r5 : Int64) => Option.bind (fX1_stepsAfter v a1) fun (r6 : Int64) => some ((x2 + r5) + r6))
theorem iX1_boardTimeAfter_X1 : ∀ w ∈ wsX10, w ∈ wsX1_boardTimeAfter := fun _ h => List.mem_cons_of_mem _ (List.mem_append_right _ h)
set_option maxHeartbeats 4000000 in
set_option maxRecDepth 100000 in
theorem kX1_boardTimeAfter (l : Launch) (G : zc_G) (ad : Nat → Nat) {v : zc_S} {a1 : Int32} {r0 : Int64} (hF : fX1_boardTimeAfter v a1 = some r0) : Met l yX1_boardTimeAfter wsX1_boardTimeAfter ({ frames := 3, cells := 0, slots := 0, locals := 73 }) (zc_Pp G [.ref (ad 0), .int a1] (zc_st G ad v)) (vp_Sl (fun r => r = r0)) 0 0 (fun _ => False) := by
  refine Met.ofW (cc := cX1_boardTimeAfter) (maxL := 4) (ret := (some .long)) (by decide) rfl ?_
  intro p e s m args below meth c s₁ B hml hv
  obtain ⟨rfl, hP, hK⟩ := hv
  have hx := B.exec
  have hb := B.bytes
  have hr := B.returns
  have hts := atoms_spec (ws := wsX1_boardTimeAfter) B.pre
  have hown : s.vm.findClass RX1 = some m.cls := findClass_of_methodNamed B.named
  have hlocks := B.notSynchronized
  have hl := lv_entry ([.ref (ad 0), .int a1]) (n := 4) (Nat.le_of_ble_eq_true rfl)
  rw [lg_entry_eq]
  generalize (lg_sl ([.ref (ad 0), .int a1]) ++ List.replicate (4 - (lg_sl ([.ref (ad 0), .int a1])).length) Slot.unset).toArray = ls at hl ⊢
  have hl : lv_has ls 4 [(0, .ref (ad 0)), (1, .int a1)] := hl
  refine lv_aload_n hx hb dX1_boardTimeAfter_0 rfl (lv_at hl 0 rfl) ?_
  refine va_get (D := G.1) (ci := 1) (C := RX1) (T := TX1) (N := 18) hx hb hts iX1_boardTimeAfter_X1 hown hK.1 hP 0 rfl rfl 1 (by decide) (hts (.fieldLink RX1 15 "BoardClock$State" "boardTime" "J") (List.mem_of_getElem? (i := 1) rfl)) (fun _ h9 => h9) rfl dX1_boardTimeAfter_1 ?_
  refine lv_iload_n hx hb dX1_boardTimeAfter_4 rfl (lv_at hl 1 rfl) ?_
  refine lv_i2l hx hb dX1_boardTimeAfter_5 rfl ?_
  refine lv_ldc2 hx hb hown (hts (.constantLong RX1 83 (60000)) (List.mem_of_getElem? (i := 2) rfl)) dX1_boardTimeAfter_6 ?_
  refine lv_aload_n hx hb dX1_boardTimeAfter_9 rfl (lv_at hl 0 rfl) ?_
  refine lv_aload_n hx hb dX1_boardTimeAfter_10 rfl (lv_at hl 0 rfl) ?_
  refine va_get (D := G.1) (ci := 1) (C := RX1) (T := TX1) (N := 18) hx hb hts iX1_boardTimeAfter_X1 hown hK.1 hP 0 rfl rfl 3 (by decide) (hts (.fieldLink RX1 21 "BoardClock$State" "warmth" "I") (List.mem_of_getElem? (i := 3) rfl)) (fun _ h9 => h9) rfl dX1_boardTimeAfter_11 ?_
  obtain ⟨r1, er1, hF⟩ := zc_bind hF
  refine zc_ci (va_runV (As := [.int _]) ⟨hx, hb, hml, hown, hts⟩ (kX1_offAt l G ad er1) (cwV 1 hts gX1_boardTimeAfter_X1_offAt rfl rfl rfl (by decide +kernel) ⟨Nat.le_of_ble_eq_true rfl, Nat.le_of_ble_eq_true rfl⟩) (zc_preV hK hP 0 rfl rfl) rfl rfl hl.1 rfl (lv_room (Nat.le_of_ble_eq_true rfl)) dX1_boardTimeAfter_14 ⟨Nat.le_of_ble_eq_true rfl, Nat.le_of_ble_eq_true rfl⟩) ?_
  refine lv_i2l hx hb dX1_boardTimeAfter_17 rfl ?_
  refine lv_ladd hx hb dX1_boardTimeAfter_18 ?_
  refine lv_lmul hx hb dX1_boardTimeAfter_19 ?_
  refine lv_ladd hx hb dX1_boardTimeAfter_20 ?_
  refine lv_topl (fun x2 ex2 => ?_)
  have hF := zc_letE ex2 hF
  refine lv_lstore_n (lv' := [(2, .long x2), (0, .ref (ad 0)), (1, .int a1)]) hx hb dX1_boardTimeAfter_21 rfl hl (by decide) rfl (fun ls hl => ?_)
  refine lv_aload_n hx hb dX1_boardTimeAfter_22 rfl (lv_at hl 1 rfl) ?_
  refine va_get (D := G.1) (ci := 1) (C := RX1) (T := TX1) (N := 18) hx hb hts iX1_boardTimeAfter_X1 hown hK.1 hP 0 rfl rfl 11 (by decide) (hts (.fieldLink RX1 46 "BoardClock$State" "powered" "Z") (List.mem_of_getElem? (i := 4) rfl)) (fun _ h9 => h9) rfl dX1_boardTimeAfter_23 ?_
  refine lv_if_ne (tgt := 31) hx hb dX1_boardTimeAfter_26 (by decide) (fun c3 => ?_) (fun c3 => ?_)
  · have hF := zc_neg c3 hF
    refine lv_lload_n hx hb dX1_boardTimeAfter_31 rfl (lv_at hl 0 rfl) ?_
    refine lv_aload_n hx hb dX1_boardTimeAfter_32 rfl (lv_at hl 1 rfl) ?_
    refine lv_iload_n hx hb dX1_boardTimeAfter_33 rfl (lv_at hl 2 rfl) ?_
    obtain ⟨r4, er4, hF⟩ := zc_bind hF
    refine zc_cl (va_runV (As := [.int _]) ⟨hx, hb, hml, hown, hts⟩ (kX1_sixteenthsAfter l G ad er4) (cwV 1 hts gX1_boardTimeAfter_X1_sixteenthsAfter rfl rfl rfl (by decide +kernel) ⟨Nat.le_of_ble_eq_true rfl, Nat.le_of_ble_eq_true rfl⟩) (zc_preV hK hP 0 rfl rfl) rfl rfl hl.1 rfl (lv_room (Nat.le_of_ble_eq_true rfl)) dX1_boardTimeAfter_34 ⟨Nat.le_of_ble_eq_true rfl, Nat.le_of_ble_eq_true rfl⟩) ?_
    refine lv_ldc2 hx hb hown (hts (.constantLong RX1 106 (16)) (List.mem_of_getElem? (i := 5) rfl)) dX1_boardTimeAfter_37 ?_
    obtain ⟨r5, er5, hF⟩ := zc_bind hF
    refine zc_cl (va_runS (As := [.long _, .long _]) ⟨hx, hb, hml, hown, hts⟩ (kJ9_floorDiv_f86c9 l G er5) (va_cwS 2 hts gX1_boardTimeAfter_J9_floorDiv_f86c9 rfl rfl rfl (by decide +kernel) ⟨Nat.le_of_ble_eq_true rfl, Nat.le_of_ble_eq_true rfl⟩) (zc_preS hK (show va_P G.1 vwCl [] _ from fun k q h => by simp at h)) rfl rfl hl.1 rfl (lv_room (Nat.le_of_ble_eq_true rfl)) dX1_boardTimeAfter_40 ⟨Nat.le_of_ble_eq_true rfl, Nat.le_of_ble_eq_true rfl⟩) ?_
    refine lv_ladd hx hb dX1_boardTimeAfter_43 ?_
    refine lv_aload_n hx hb dX1_boardTimeAfter_44 rfl (lv_at hl 1 rfl) ?_
    refine lv_iload_n hx hb dX1_boardTimeAfter_45 rfl (lv_at hl 2 rfl) ?_
    obtain ⟨r6, er6, hF⟩ := zc_bind hF
    refine zc_cl (va_runV (As := [.int _]) ⟨hx, hb, hml, hown, hts⟩ (kX1_stepsAfter l G ad er6) (cwV 1 hts gX1_boardTimeAfter_X1_stepsAfter rfl rfl rfl (by decide +kernel) ⟨Nat.le_of_ble_eq_true rfl, Nat.le_of_ble_eq_true rfl⟩) (zc_preV hK hP 0 rfl rfl) rfl rfl hl.1 rfl (lv_room (Nat.le_of_ble_eq_true rfl)) dX1_boardTimeAfter_46 ⟨Nat.le_of_ble_eq_true rfl, Nat.le_of_ble_eq_true rfl⟩) ?_
    refine lv_ladd hx hb dX1_boardTimeAfter_49 ?_
    exact W.lret hx hb hr (fun t ht hW => ⟨_, rfl, Option.some.inj hF, ht⟩) (fun _ h => by cases h) dX1_boardTimeAfter_50
  · have hF := zc_pos c3 hF
    refine lv_lload_n hx hb dX1_boardTimeAfter_29 rfl (lv_at hl 0 rfl) ?_
    exact W.lret hx hb hr (fun t ht hW => ⟨_, rfl, Option.some.inj hF, ht⟩) (fun _ h => by cases h) dX1_boardTimeAfter_30
def fX1_widthPerTick (v : zc_S) : Option (Int32) := if (v.2.1 11) = 0 then (some ((4 : Int32) * (v.2.1 10))) else (some (v.2.1 10))
theorem iX1_widthPerTick_X1 : ∀ w ∈ wsX10, w ∈ wsX1_widthPerTick := fun _ h => List.mem_cons_of_mem _ (List.mem_append_right _ h)
set_option maxHeartbeats 4000000 in
set_option maxRecDepth 100000 in
theorem kX1_widthPerTick (l : Launch) (G : zc_G) (ad : Nat → Nat) {v : zc_S} {r0 : Int32} (hF : fX1_widthPerTick v = some r0) : Met l yX1_widthPerTick wsX1_widthPerTick ({ frames := 0, cells := 0, slots := 0, locals := 0 }) (zc_Pp G [.ref (ad 0)] (zc_st G ad v)) (vp_Si (fun r => r = r0)) 0 0 (fun _ => False) := by
  refine Met.ofW (cc := cX1_widthPerTick) (maxL := 1) (ret := (some .int)) (by decide) rfl ?_
  intro p e s m args below meth c s₁ B hml hv
  obtain ⟨rfl, hP, hK⟩ := hv
  have hx := B.exec
  have hb := B.bytes
  have hr := B.returns
  have hts := atoms_spec (ws := wsX1_widthPerTick) B.pre
  have hown : s.vm.findClass RX1 = some m.cls := findClass_of_methodNamed B.named
  have hlocks := B.notSynchronized
  have hl := lv_entry ([.ref (ad 0)]) (n := 1) (Nat.le_of_ble_eq_true rfl)
  rw [lg_entry_eq]
  generalize (lg_sl ([.ref (ad 0)]) ++ List.replicate (1 - (lg_sl ([.ref (ad 0)])).length) Slot.unset).toArray = ls at hl ⊢
  have hl : lv_has ls 1 [(0, .ref (ad 0))] := hl
  refine lv_aload_n hx hb dX1_widthPerTick_0 rfl (lv_at hl 0 rfl) ?_
  refine va_get (D := G.1) (ci := 1) (C := RX1) (T := TX1) (N := 18) hx hb hts iX1_widthPerTick_X1 hown hK.1 hP 0 rfl rfl 11 (by decide) (hts (.fieldLink RX1 46 "BoardClock$State" "powered" "Z") (List.mem_of_getElem? (i := 1) rfl)) (fun _ h9 => h9) rfl dX1_widthPerTick_1 ?_
  refine lv_if_eq (tgt := 14) hx hb dX1_widthPerTick_4 (by decide) (fun c1 => ?_) (fun c1 => ?_)
  · have hF := zc_pos c1 hF
    refine lv_iconst (v := (4 : Int32)) hx hb dX1_widthPerTick_14 (by decide) ?_
    refine lv_aload_n hx hb dX1_widthPerTick_15 rfl (lv_at hl 0 rfl) ?_
    refine va_get (D := G.1) (ci := 1) (C := RX1) (T := TX1) (N := 18) hx hb hts iX1_widthPerTick_X1 hown hK.1 hP 0 rfl rfl 10 (by decide) (hts (.fieldLink RX1 43 "BoardClock$State" "wider" "I") (List.mem_of_getElem? (i := 2) rfl)) (fun _ h9 => h9) rfl dX1_widthPerTick_16 ?_
    refine lv_imul hx hb dX1_widthPerTick_19 ?_
    exact W.iret hx hb hr (fun t ht hW => ⟨_, rfl, Option.some.inj hF, ht⟩) (fun _ h => by cases h) dX1_widthPerTick_20
  · have hF := zc_neg c1 hF
    refine lv_aload_n hx hb dX1_widthPerTick_7 rfl (lv_at hl 0 rfl) ?_
    refine va_get (D := G.1) (ci := 1) (C := RX1) (T := TX1) (N := 18) hx hb hts iX1_widthPerTick_X1 hown hK.1 hP 0 rfl rfl 10 (by decide) (hts (.fieldLink RX1 43 "BoardClock$State" "wider" "I") (List.mem_of_getElem? (i := 2) rfl)) (fun _ h9 => h9) rfl dX1_widthPerTick_8 ?_
    refine lv_goto (tgt := 20) hx hb dX1_widthPerTick_11 (by decide) ?_
    exact W.iret hx hb hr (fun t ht hW => ⟨_, rfl, Option.some.inj hF, ht⟩) (fun _ h => by cases h) dX1_widthPerTick_20
def fX1_ticksUntilDone (v : zc_S) : Option (Int32) := if (lg_cmp (v.1 2) (0 : Int64)) = 0 then (some (0 : Int32)) else (if (v.2.1 11) = 0 then (some (-1 : Int32)) else (if (1 : Int32) ≤ (v.2.1 8) then (zc_nzL ((v.2.1 8)).toInt64 (zc_let ((((if 0 < (v.1 2) then (v.1 2) else -(v.1 2)) + ((v.2.1 8)).toInt64) - (1 : Int64)) / ((v.2.1 8)).toInt64) fun (x5 : Int64) => if 0 < (lg_cmp x5 (2000 : Int64)) then (some (-1 : Int32)) else (some (x5).toInt32))) else (some (-1 : Int32))))
theorem iX1_ticksUntilDone_X1 : ∀ w ∈ wsX10, w ∈ wsX1_ticksUntilDone := fun _ h => List.mem_cons_of_mem _ (List.mem_append_right _ h)
set_option maxHeartbeats 4000000 in
set_option maxRecDepth 100000 in
theorem kX1_ticksUntilDone (l : Launch) (G : zc_G) (ad : Nat → Nat) {v : zc_S} {r0 : Int32} (hF : fX1_ticksUntilDone v = some r0) : Met l yX1_ticksUntilDone wsX1_ticksUntilDone ({ frames := 1, cells := 0, slots := 0, locals := 25 }) (zc_Pp G [.ref (ad 0)] (zc_st G ad v)) (vp_Si (fun r => r = r0)) 0 0 (fun _ => False) := by
  refine Met.ofW (cc := cX1_ticksUntilDone) (maxL := 3) (ret := (some .int)) (by decide) rfl ?_
  intro p e s m args below meth c s₁ B hml hv
  obtain ⟨rfl, hP, hK⟩ := hv
  have hx := B.exec
  have hb := B.bytes
  have hr := B.returns
  have hts := atoms_spec (ws := wsX1_ticksUntilDone) B.pre
  have hown : s.vm.findClass RX1 = some m.cls := findClass_of_methodNamed B.named
  have hlocks := B.notSynchronized
  have hl := lv_entry ([.ref (ad 0)]) (n := 3) (Nat.le_of_ble_eq_true rfl)
  rw [lg_entry_eq]
  generalize (lg_sl ([.ref (ad 0)]) ++ List.replicate (3 - (lg_sl ([.ref (ad 0)])).length) Slot.unset).toArray = ls at hl ⊢
  have hl : lv_has ls 3 [(0, .ref (ad 0))] := hl
  refine lv_aload_n hx hb dX1_ticksUntilDone_0 rfl (lv_at hl 0 rfl) ?_
  refine va_get (D := G.1) (ci := 1) (C := RX1) (T := TX1) (N := 18) hx hb hts iX1_ticksUntilDone_X1 hown hK.1 hP 0 rfl rfl 2 (by decide) (hts (.fieldLink RX1 18 "BoardClock$State" "ahead" "J") (List.mem_of_getElem? (i := 1) rfl)) (fun _ h9 => h9) rfl dX1_ticksUntilDone_1 ?_
  refine lv_lconst (v := (0 : Int64)) hx hb dX1_ticksUntilDone_4 (by decide) ?_
  refine W.lcmp hx hb dX1_ticksUntilDone_5 ?_
  refine lv_if_ne (tgt := 11) hx hb dX1_ticksUntilDone_6 (by decide) (fun c1 => ?_) (fun c1 => ?_)
  · have hF := zc_neg c1 hF
    refine lv_aload_n hx hb dX1_ticksUntilDone_11 rfl (lv_at hl 0 rfl) ?_
    refine va_get (D := G.1) (ci := 1) (C := RX1) (T := TX1) (N := 18) hx hb hts iX1_ticksUntilDone_X1 hown hK.1 hP 0 rfl rfl 11 (by decide) (hts (.fieldLink RX1 46 "BoardClock$State" "powered" "Z") (List.mem_of_getElem? (i := 2) rfl)) (fun _ h9 => h9) rfl dX1_ticksUntilDone_12 ?_
    refine lv_if_eq (tgt := 26) hx hb dX1_ticksUntilDone_15 (by decide) (fun c2 => ?_) (fun c2 => ?_)
    · have hF := zc_pos c2 hF
      refine lv_iconst (v := (-1 : Int32)) hx hb dX1_ticksUntilDone_26 (by decide) ?_
      exact W.iret hx hb hr (fun t ht hW => ⟨_, rfl, Option.some.inj hF, ht⟩) (fun _ h => by cases h) dX1_ticksUntilDone_27
    · have hF := zc_neg c2 hF
      refine lv_aload_n hx hb dX1_ticksUntilDone_18 rfl (lv_at hl 0 rfl) ?_
      refine va_get (D := G.1) (ci := 1) (C := RX1) (T := TX1) (N := 18) hx hb hts iX1_ticksUntilDone_X1 hown hK.1 hP 0 rfl rfl 8 (by decide) (hts (.fieldLink RX1 37 "BoardClock$State" "step" "I") (List.mem_of_getElem? (i := 3) rfl)) (fun _ h9 => h9) rfl dX1_ticksUntilDone_19 ?_
      refine lv_iconst (v := (1 : Int32)) hx hb dX1_ticksUntilDone_22 (by decide) ?_
      refine lv_icmp_ge (tgt := 28) hx hb dX1_ticksUntilDone_23 (by decide) (fun c3 => ?_) (fun c3 => ?_)
      · have hF := zc_pos c3 hF
        refine lv_aload_n hx hb dX1_ticksUntilDone_28 rfl (lv_at hl 0 rfl) ?_
        refine va_get (D := G.1) (ci := 1) (C := RX1) (T := TX1) (N := 18) hx hb hts iX1_ticksUntilDone_X1 hown hK.1 hP 0 rfl rfl 2 (by decide) (hts (.fieldLink RX1 18 "BoardClock$State" "ahead" "J") (List.mem_of_getElem? (i := 1) rfl)) (fun _ h9 => h9) rfl dX1_ticksUntilDone_29 ?_
        refine va_mabs_long hx hb (hml.trans hl.1.symm) hown (hts (.methodLink RX1 100 Lib.MathLoose.abs_long.x) (List.mem_of_getElem? (i := 4) rfl)) (hts (.static Lib.MathLoose.abs_long.x) (List.mem_of_getElem? (i := 5) rfl)) (hts (.initialized "java/lang/Math") (List.mem_of_getElem? (i := 6) rfl)) (hts (.code Lib.MathLoose.abs_long.x Lib.MathLoose.abs_long.code 2 (some .long)) (List.mem_of_getElem? (i := 7) rfl)) (Nat.le_of_ble_eq_true rfl) (Nat.le_of_ble_eq_true rfl) (Nat.zero_le _) (Nat.zero_le _) dX1_ticksUntilDone_32 ?_
        refine lv_aload_n hx hb dX1_ticksUntilDone_35 rfl (lv_at hl 0 rfl) ?_
        refine va_get (D := G.1) (ci := 1) (C := RX1) (T := TX1) (N := 18) hx hb hts iX1_ticksUntilDone_X1 hown hK.1 hP 0 rfl rfl 8 (by decide) (hts (.fieldLink RX1 37 "BoardClock$State" "step" "I") (List.mem_of_getElem? (i := 3) rfl)) (fun _ h9 => h9) rfl dX1_ticksUntilDone_36 ?_
        refine lv_i2l hx hb dX1_ticksUntilDone_39 rfl ?_
        refine lv_ladd hx hb dX1_ticksUntilDone_40 ?_
        refine lv_lconst (v := (1 : Int64)) hx hb dX1_ticksUntilDone_41 (by decide) ?_
        refine lv_lsub hx hb dX1_ticksUntilDone_42 ?_
        refine lv_aload_n hx hb dX1_ticksUntilDone_43 rfl (lv_at hl 0 rfl) ?_
        refine va_get (D := G.1) (ci := 1) (C := RX1) (T := TX1) (N := 18) hx hb hts iX1_ticksUntilDone_X1 hown hK.1 hP 0 rfl rfl 8 (by decide) (hts (.fieldLink RX1 37 "BoardClock$State" "step" "I") (List.mem_of_getElem? (i := 3) rfl)) (fun _ h9 => h9) rfl dX1_ticksUntilDone_44 ?_
        refine lv_i2l hx hb dX1_ticksUntilDone_47 rfl ?_
        obtain ⟨hnz4, hF⟩ := zc_nzLE hF
        refine lv_ldiv hx hb dX1_ticksUntilDone_48 hnz4 ?_
        refine lv_topl (fun x5 ex5 => ?_)
        have hF := zc_letE ex5 hF
        refine lv_lstore_n (lv' := [(1, .long x5), (0, .ref (ad 0))]) hx hb dX1_ticksUntilDone_49 rfl hl (by decide) rfl (fun ls hl => ?_)
        refine lv_lload_n hx hb dX1_ticksUntilDone_50 rfl (lv_at hl 0 rfl) ?_
        refine lv_ldc2 hx hb hown (hts (.constantLong RX1 171 (2000)) (List.mem_of_getElem? (i := 8) rfl)) dX1_ticksUntilDone_51 ?_
        refine W.lcmp hx hb dX1_ticksUntilDone_54 ?_
        refine lv_if_gt (tgt := 63) hx hb dX1_ticksUntilDone_55 (by decide) (fun c6 => ?_) (fun c6 => ?_)
        · have hF := zc_pos c6 hF
          refine lv_iconst (v := (-1 : Int32)) hx hb dX1_ticksUntilDone_63 (by decide) ?_
          exact W.iret hx hb hr (fun t ht hW => ⟨_, rfl, Option.some.inj hF, ht⟩) (fun _ h => by cases h) dX1_ticksUntilDone_64
        · have hF := zc_neg c6 hF
          refine lv_lload_n hx hb dX1_ticksUntilDone_58 rfl (lv_at hl 0 rfl) ?_
          refine lv_l2i hx hb dX1_ticksUntilDone_59 rfl ?_
          refine lv_goto (tgt := 64) hx hb dX1_ticksUntilDone_60 (by decide) ?_
          exact W.iret hx hb hr (fun t ht hW => ⟨_, rfl, Option.some.inj hF, ht⟩) (fun _ h => by cases h) dX1_ticksUntilDone_64
      · have hF := zc_neg c3 hF
        refine lv_iconst (v := (-1 : Int32)) hx hb dX1_ticksUntilDone_26 (by decide) ?_
        exact W.iret hx hb hr (fun t ht hW => ⟨_, rfl, Option.some.inj hF, ht⟩) (fun _ h => by cases h) dX1_ticksUntilDone_27
  · have hF := zc_pos c1 hF
    refine lv_iconst (v := (0 : Int32)) hx hb dX1_ticksUntilDone_9 (by decide) ?_
    exact W.iret hx hb hr (fun t ht hW => ⟨_, rfl, Option.some.inj hF, ht⟩) (fun _ h => by cases h) dX1_ticksUntilDone_10
def fX1_ticksUntilWide (v : zc_S) (a1 : Int64) : Option (Int32) := if (lg_cmp ((v.2.1 9)).toInt64 a1) ≤ 0 then (Option.bind (fX1_widthPerTick v) fun (r2 : Int32) => if 0 < r2 then (zc_nzL r2.toInt64 (some ((((a1 - ((v.2.1 9)).toInt64) / r2.toInt64)).toInt32 + (1 : Int32)))) else (some (-1 : Int32))) else (some (0 : Int32))
theorem iX1_ticksUntilWide_X1 : ∀ w ∈ wsX10, w ∈ wsX1_ticksUntilWide := fun _ h => List.mem_cons_of_mem _ (List.mem_append_right _ h)
set_option maxHeartbeats 4000000 in
set_option maxRecDepth 100000 in
theorem kX1_ticksUntilWide (l : Launch) (G : zc_G) (ad : Nat → Nat) {v : zc_S} {a1 : Int64} {r0 : Int32} (hF : fX1_ticksUntilWide v a1 = some r0) : Met l yX1_ticksUntilWide wsX1_ticksUntilWide ({ frames := 1, cells := 0, slots := 0, locals := 20 }) (zc_Pp G [.ref (ad 0), .long a1] (zc_st G ad v)) (vp_Si (fun r => r = r0)) 0 0 (fun _ => False) := by
  refine Met.ofW (cc := cX1_ticksUntilWide) (maxL := 4) (ret := (some .int)) (by decide) rfl ?_
  intro p e s m args below meth c s₁ B hml hv
  obtain ⟨rfl, hP, hK⟩ := hv
  have hx := B.exec
  have hb := B.bytes
  have hr := B.returns
  have hts := atoms_spec (ws := wsX1_ticksUntilWide) B.pre
  have hown : s.vm.findClass RX1 = some m.cls := findClass_of_methodNamed B.named
  have hlocks := B.notSynchronized
  have hl := lv_entry ([.ref (ad 0), .long a1]) (n := 4) (Nat.le_of_ble_eq_true rfl)
  rw [lg_entry_eq]
  generalize (lg_sl ([.ref (ad 0), .long a1]) ++ List.replicate (4 - (lg_sl ([.ref (ad 0), .long a1])).length) Slot.unset).toArray = ls at hl ⊢
  have hl : lv_has ls 4 [(0, .ref (ad 0)), (1, .long a1)] := hl
  refine lv_aload_n hx hb dX1_ticksUntilWide_0 rfl (lv_at hl 0 rfl) ?_
  refine va_get (D := G.1) (ci := 1) (C := RX1) (T := TX1) (N := 18) hx hb hts iX1_ticksUntilWide_X1 hown hK.1 hP 0 rfl rfl 9 (by decide) (hts (.fieldLink RX1 40 "BoardClock$State" "width" "I") (List.mem_of_getElem? (i := 1) rfl)) (fun _ h9 => h9) rfl dX1_ticksUntilWide_1 ?_
  refine lv_i2l hx hb dX1_ticksUntilWide_4 rfl ?_
  refine lv_lload_n hx hb dX1_ticksUntilWide_5 rfl (lv_at hl 1 rfl) ?_
  refine W.lcmp hx hb dX1_ticksUntilWide_6 ?_
  refine lv_if_le (tgt := 12) hx hb dX1_ticksUntilWide_7 (by decide) (fun c1 => ?_) (fun c1 => ?_)
  · have hF := zc_pos c1 hF
    refine lv_aload_n hx hb dX1_ticksUntilWide_12 rfl (lv_at hl 0 rfl) ?_
    obtain ⟨r2, er2, hF⟩ := zc_bind hF
    refine zc_ci (va_runV (As := []) ⟨hx, hb, hml, hown, hts⟩ (kX1_widthPerTick l G ad er2) (cwV 0 hts gX1_ticksUntilWide_X1_widthPerTick rfl rfl rfl (by decide +kernel) ⟨Nat.le_of_ble_eq_true rfl, Nat.le_of_ble_eq_true rfl⟩) (zc_preV hK hP 0 rfl rfl) rfl rfl hl.1 rfl (lv_room (Nat.le_of_ble_eq_true rfl)) dX1_ticksUntilWide_13 ⟨Nat.le_of_ble_eq_true rfl, Nat.le_of_ble_eq_true rfl⟩) ?_
    refine lv_istore_n (lv' := [(3, .int r2), (0, .ref (ad 0)), (1, .long a1)]) hx hb dX1_ticksUntilWide_16 rfl hl (by decide) rfl (fun ls hl => ?_)
    refine lv_iload_n hx hb dX1_ticksUntilWide_17 rfl (lv_at hl 0 rfl) ?_
    refine lv_if_gt (tgt := 23) hx hb dX1_ticksUntilWide_18 (by decide) (fun c3 => ?_) (fun c3 => ?_)
    · have hF := zc_pos c3 hF
      refine lv_lload_n hx hb dX1_ticksUntilWide_23 rfl (lv_at hl 2 rfl) ?_
      refine lv_aload_n hx hb dX1_ticksUntilWide_24 rfl (lv_at hl 1 rfl) ?_
      refine va_get (D := G.1) (ci := 1) (C := RX1) (T := TX1) (N := 18) hx hb hts iX1_ticksUntilWide_X1 hown hK.1 hP 0 rfl rfl 9 (by decide) (hts (.fieldLink RX1 40 "BoardClock$State" "width" "I") (List.mem_of_getElem? (i := 1) rfl)) (fun _ h9 => h9) rfl dX1_ticksUntilWide_25 ?_
      refine lv_i2l hx hb dX1_ticksUntilWide_28 rfl ?_
      refine lv_lsub hx hb dX1_ticksUntilWide_29 ?_
      refine lv_iload_n hx hb dX1_ticksUntilWide_30 rfl (lv_at hl 0 rfl) ?_
      refine lv_i2l hx hb dX1_ticksUntilWide_31 rfl ?_
      obtain ⟨hnz4, hF⟩ := zc_nzLE hF
      refine lv_ldiv hx hb dX1_ticksUntilWide_32 hnz4 ?_
      refine lv_l2i hx hb dX1_ticksUntilWide_33 rfl ?_
      refine lv_iconst (v := (1 : Int32)) hx hb dX1_ticksUntilWide_34 (by decide) ?_
      refine lv_iadd hx hb dX1_ticksUntilWide_35 ?_
      exact W.iret hx hb hr (fun t ht hW => ⟨_, rfl, Option.some.inj hF, ht⟩) (fun _ h => by cases h) dX1_ticksUntilWide_36
    · have hF := zc_neg c3 hF
      refine lv_iconst (v := (-1 : Int32)) hx hb dX1_ticksUntilWide_21 (by decide) ?_
      exact W.iret hx hb hr (fun t ht hW => ⟨_, rfl, Option.some.inj hF, ht⟩) (fun _ h => by cases h) dX1_ticksUntilWide_22
  · have hF := zc_neg c1 hF
    refine lv_iconst (v := (0 : Int32)) hx hb dX1_ticksUntilWide_10 (by decide) ?_
    exact W.iret hx hb hr (fun t ht hW => ⟨_, rfl, Option.some.inj hF, ht⟩) (fun _ h => by cases h) dX1_ticksUntilWide_11
