def fX0_has (q : zc_Q) (a1 : Int32) : Option (Int32) := if a1 < 0 then (some (0 : Int32)) else (if (q.1) ≤ a1 then (some (0 : Int32)) else (if (6 : Int32) ≤ a1 then (some (0 : Int32)) else (some (1 : Int32))))
theorem iX0_has_X0 : ∀ w ∈ wsX00, w ∈ wsX0_has := fun _ h => List.mem_cons_of_mem _ (List.mem_append_right _ h)
set_option maxHeartbeats 4000000 in
set_option maxRecDepth 100000 in
theorem kX0_has (l : Launch) (G : zc_G) (ad : Nat → Nat) {q : zc_Q} {a1 : Int32} {r0 : Int32} (hF : fX0_has q a1 = some r0) : Met l yX0_has wsX0_has ({ frames := 0, cells := 0, slots := 0, locals := 0 }) (zc_Pp G [.ref (ad 2), .int a1] (zc_al G ad q)) (vp_Si (fun r => r = r0)) 0 0 (fun _ => False) := by
  refine Met.ofW (cc := cX0_has) (maxL := 2) (ret := (some .boolean)) (by decide) rfl ?_
  intro p e s m args below meth c s₁ B hml hv
  obtain ⟨rfl, hP, hK⟩ := hv
  have hx := B.exec
  have hb := B.bytes
  have hr := B.returns
  have hts := atoms_spec (ws := wsX0_has) B.pre
  have hown : s.vm.findClass RX0 = some m.cls := findClass_of_methodNamed B.named
  have hlocks := B.notSynchronized
  have hl := lv_entry ([.ref (ad 2), .int a1]) (n := 2) (Nat.le_of_ble_eq_true rfl)
  rw [lg_entry_eq]
  generalize (lg_sl ([.ref (ad 2), .int a1]) ++ List.replicate (2 - (lg_sl ([.ref (ad 2), .int a1])).length) Slot.unset).toArray = ls at hl ⊢
  have hl : lv_has ls 2 [(0, .ref (ad 2)), (1, .int a1)] := hl
  refine lv_iload_n hx hb dX0_has_0 rfl (lv_at hl 1 rfl) ?_
  refine lv_if_lt (tgt := 22) hx hb dX0_has_1 (by decide) (fun c1 => ?_) (fun c1 => ?_)
  · have hF := zc_pos c1 hF
    refine lv_iconst (v := (0 : Int32)) hx hb dX0_has_22 (by decide) ?_
    exact W.zret hx hb hr (by decide) (fun t ht hW => ⟨_, rfl, Option.some.inj hF, ht⟩) (fun _ h => by cases h) dX0_has_23
  · have hF := zc_neg c1 hF
    refine lv_iload_n hx hb dX0_has_4 rfl (lv_at hl 1 rfl) ?_
    refine lv_aload_n hx hb dX0_has_5 rfl (lv_at hl 0 rfl) ?_
    refine va_get (D := G.1) (ci := 0) (C := RX0) (T := TX0) (N := 5) hx hb hts iX0_has_X0 hown hK.1 hP 0 rfl rfl 0 (by decide) (hts (.fieldLink RX0 9 "BoardClock$Alarms" "count" "I") (List.mem_of_getElem? (i := 1) rfl)) (fun _ h9 => h9) rfl dX0_has_6 ?_
    refine lv_icmp_ge (tgt := 22) hx hb dX0_has_9 (by decide) (fun c2 => ?_) (fun c2 => ?_)
    · have hF := zc_pos c2 hF
      refine lv_iconst (v := (0 : Int32)) hx hb dX0_has_22 (by decide) ?_
      exact W.zret hx hb hr (by decide) (fun t ht hW => ⟨_, rfl, Option.some.inj hF, ht⟩) (fun _ h => by cases h) dX0_has_23
    · have hF := zc_neg c2 hF
      refine lv_iload_n hx hb dX0_has_12 rfl (lv_at hl 1 rfl) ?_
      refine lv_bipush (v := (6 : Int32)) hx hb dX0_has_13 (by decide) ?_
      refine lv_icmp_ge (tgt := 22) hx hb dX0_has_15 (by decide) (fun c3 => ?_) (fun c3 => ?_)
      · have hF := zc_pos c3 hF
        refine lv_iconst (v := (0 : Int32)) hx hb dX0_has_22 (by decide) ?_
        exact W.zret hx hb hr (by decide) (fun t ht hW => ⟨_, rfl, Option.some.inj hF, ht⟩) (fun _ h => by cases h) dX0_has_23
      · have hF := zc_neg c3 hF
        refine lv_iconst (v := (1 : Int32)) hx hb dX0_has_18 (by decide) ?_
        refine lv_goto (tgt := 23) hx hb dX0_has_19 (by decide) ?_
        exact W.zret hx hb hr (by decide) (fun t ht hW => ⟨_, rfl, Option.some.inj hF, ht⟩) (fun _ h => by cases h) dX0_has_23
def fX0_fits (q : zc_Q) (a1 : Int32) (a2 : Int32) : Option (Int32) := if a1 = (-1 : Int32) then (some (1 : Int32)) else (if a1 = a2 then (some (1 : Int32)) else (some (0 : Int32)))
set_option maxHeartbeats 4000000 in
set_option maxRecDepth 100000 in
theorem kX0_fits (l : Launch) (G : zc_G) (ad : Nat → Nat) {q : zc_Q} {a1 : Int32} {a2 : Int32} {r0 : Int32} (hF : fX0_fits q a1 a2 = some r0) : Met l yX0_fits wsX0_fits ({ frames := 0, cells := 0, slots := 0, locals := 0 }) (zc_Pp G [.ref (ad 2), .int a1, .int a2] (zc_al G ad q)) (vp_Si (fun r => r = r0)) 0 0 (fun _ => False) := by
  refine Met.ofW (cc := cX0_fits) (maxL := 3) (ret := (some .boolean)) (by decide) rfl ?_
  intro p e s m args below meth c s₁ B hml hv
  obtain ⟨rfl, hP, hK⟩ := hv
  have hx := B.exec
  have hb := B.bytes
  have hr := B.returns
  have hts := atoms_spec (ws := wsX0_fits) B.pre
  have hown : s.vm.findClass RX0 = some m.cls := findClass_of_methodNamed B.named
  have hlocks := B.notSynchronized
  have hl := lv_entry ([.ref (ad 2), .int a1, .int a2]) (n := 3) (Nat.le_of_ble_eq_true rfl)
  rw [lg_entry_eq]
  generalize (lg_sl ([.ref (ad 2), .int a1, .int a2]) ++ List.replicate (3 - (lg_sl ([.ref (ad 2), .int a1, .int a2])).length) Slot.unset).toArray = ls at hl ⊢
  have hl : lv_has ls 3 [(0, .ref (ad 2)), (1, .int a1), (2, .int a2)] := hl
  refine lv_iload_n hx hb dX0_fits_0 rfl (lv_at hl 1 rfl) ?_
  refine lv_iconst (v := (-1 : Int32)) hx hb dX0_fits_1 (by decide) ?_
  refine lv_icmp_eq (tgt := 10) hx hb dX0_fits_2 (by decide) (fun c1 => ?_) (fun c1 => ?_)
  · have hF := zc_pos c1 hF
    refine lv_iconst (v := (1 : Int32)) hx hb dX0_fits_10 (by decide) ?_
    refine lv_goto (tgt := 15) hx hb dX0_fits_11 (by decide) ?_
    exact W.zret hx hb hr (by decide) (fun t ht hW => ⟨_, rfl, Option.some.inj hF, ht⟩) (fun _ h => by cases h) dX0_fits_15
  · have hF := zc_neg c1 hF
    refine lv_iload_n hx hb dX0_fits_5 rfl (lv_at hl 1 rfl) ?_
    refine lv_iload_n hx hb dX0_fits_6 rfl (lv_at hl 2 rfl) ?_
    refine lv_icmp_ne (tgt := 14) hx hb dX0_fits_7 (by decide) (fun c2 => ?_) (fun c2 => ?_)
    · have hF := zc_neg c2 hF
      refine lv_iconst (v := (0 : Int32)) hx hb dX0_fits_14 (by decide) ?_
      exact W.zret hx hb hr (by decide) (fun t ht hW => ⟨_, rfl, Option.some.inj hF, ht⟩) (fun _ h => by cases h) dX0_fits_15
    · have hF := zc_pos c2 hF
      refine lv_iconst (v := (1 : Int32)) hx hb dX0_fits_10 (by decide) ?_
      refine lv_goto (tgt := 15) hx hb dX0_fits_11 (by decide) ?_
      exact W.zret hx hb hr (by decide) (fun t ht hW => ⟨_, rfl, Option.some.inj hF, ht⟩) (fun _ h => by cases h) dX0_fits_15
def fX0_fittingBelow (q : zc_Q) (a1 : Int32) (a2 : Int64) : Option (Int64) := if a1 = (-1 : Int32) then (some a2) else (if 0 ≤ (lg_cmp a1.toInt64 a2) then (some (0 : Int64)) else (some (1 : Int64)))
set_option maxHeartbeats 4000000 in
set_option maxRecDepth 100000 in
theorem kX0_fittingBelow (l : Launch) (G : zc_G) (ad : Nat → Nat) {q : zc_Q} {a1 : Int32} {a2 : Int64} {r0 : Int64} (hF : fX0_fittingBelow q a1 a2 = some r0) : Met l yX0_fittingBelow wsX0_fittingBelow ({ frames := 0, cells := 0, slots := 0, locals := 0 }) (zc_Pp G [.ref (ad 2), .int a1, .long a2] (zc_al G ad q)) (vp_Sl (fun r => r = r0)) 0 0 (fun _ => False) := by
  refine Met.ofW (cc := cX0_fittingBelow) (maxL := 4) (ret := (some .long)) (by decide) rfl ?_
  intro p e s m args below meth c s₁ B hml hv
  obtain ⟨rfl, hP, hK⟩ := hv
  have hx := B.exec
  have hb := B.bytes
  have hr := B.returns
  have hts := atoms_spec (ws := wsX0_fittingBelow) B.pre
  have hown : s.vm.findClass RX0 = some m.cls := findClass_of_methodNamed B.named
  have hlocks := B.notSynchronized
  have hl := lv_entry ([.ref (ad 2), .int a1, .long a2]) (n := 4) (Nat.le_of_ble_eq_true rfl)
  rw [lg_entry_eq]
  generalize (lg_sl ([.ref (ad 2), .int a1, .long a2]) ++ List.replicate (4 - (lg_sl ([.ref (ad 2), .int a1, .long a2])).length) Slot.unset).toArray = ls at hl ⊢
  have hl : lv_has ls 4 [(0, .ref (ad 2)), (1, .int a1), (2, .long a2)] := hl
  refine lv_iload_n hx hb dX0_fittingBelow_0 rfl (lv_at hl 1 rfl) ?_
  refine lv_iconst (v := (-1 : Int32)) hx hb dX0_fittingBelow_1 (by decide) ?_
  refine lv_icmp_ne (tgt := 7) hx hb dX0_fittingBelow_2 (by decide) (fun c1 => ?_) (fun c1 => ?_)
  · have hF := zc_neg c1 hF
    refine lv_iload_n hx hb dX0_fittingBelow_7 rfl (lv_at hl 1 rfl) ?_
    refine lv_i2l hx hb dX0_fittingBelow_8 rfl ?_
    refine lv_lload_n hx hb dX0_fittingBelow_9 rfl (lv_at hl 2 rfl) ?_
    refine W.lcmp hx hb dX0_fittingBelow_10 ?_
    refine lv_if_ge (tgt := 18) hx hb dX0_fittingBelow_11 (by decide) (fun c2 => ?_) (fun c2 => ?_)
    · have hF := zc_pos c2 hF
      refine lv_lconst (v := (0 : Int64)) hx hb dX0_fittingBelow_18 (by decide) ?_
      exact W.lret hx hb hr (fun t ht hW => ⟨_, rfl, Option.some.inj hF, ht⟩) (fun _ h => by cases h) dX0_fittingBelow_19
    · have hF := zc_neg c2 hF
      refine lv_lconst (v := (1 : Int64)) hx hb dX0_fittingBelow_14 (by decide) ?_
      refine lv_goto (tgt := 19) hx hb dX0_fittingBelow_15 (by decide) ?_
      exact W.lret hx hb hr (fun t ht hW => ⟨_, rfl, Option.some.inj hF, ht⟩) (fun _ h => by cases h) dX0_fittingBelow_19
  · have hF := zc_pos c1 hF
    refine lv_lload_n hx hb dX0_fittingBelow_5 rfl (lv_at hl 2 rfl) ?_
    exact W.lret hx hb hr (fun t ht hW => ⟨_, rfl, Option.some.inj hF, ht⟩) (fun _ h => by cases h) dX0_fittingBelow_6
def fX0_fittingAheadOf (q : zc_Q) (a1 : Int32) (a2 : Int64) : Option (Int64) := Option.bind (fX0_has q a1) fun (r1 : Int32) => if r1 = 0 then (some (0 : Int64)) else (zc_let (a2 / (1440 : Int64)) fun (x3 : Int64) => zc_in a1 6 (Option.bind (fX0_fittingBelow q (q.2 0 a1.toNatClampNeg) (60 : Int64)) fun (r5 : Int64) => zc_in a1 6 (Option.bind (fX0_fittingBelow q (q.2 1 a1.toNatClampNeg) (24 : Int64)) fun (r7 : Int64) => zc_let (r7 * r5) fun (x8 : Int64) => zc_in a1 6 (Option.bind (fX0_fittingBelow q (q.2 2 a1.toNatClampNeg) (7 : Int64)) fun (r10 : Int64) => zc_in a1 6 (Option.bind (fX0_fittingBelow q (q.2 2 a1.toNatClampNeg) (x3 - x3 / (7 : Int64) * (7 : Int64))) fun (r12 : Int64) => zc_let (((x3 / (7 : Int64)) * r10) + r12) fun (x13 : Int64) => zc_let (x13 * x8) fun (x14 : Int64) => zc_in a1 6 (Option.bind (fX2_weekdayOf a2) fun (r16 : Int32) => Option.bind (fX0_fits q (q.2 2 a1.toNatClampNeg) r16) fun (r17 : Int32) => if r17 = 0 then (some x14) else (zc_in a1 6 (Option.bind (fX2_hourOf a2) fun (r20 : Int32) => Option.bind (fX0_fittingBelow q (q.2 1 a1.toNatClampNeg) r20.toInt64) fun (r21 : Int64) => zc_let (x14 + (r21 * r5)) fun (x22 : Int64) => zc_in a1 6 (Option.bind (fX2_hourOf a2) fun (r24 : Int32) => Option.bind (fX0_fits q (q.2 1 a1.toNatClampNeg) r24) fun (r25 : Int32) => if r25 = 0 then (some x22) else (zc_in a1 6 (Option.bind (fX2_minuteOf a2) fun (r28 : Int32) => Option.bind (fX0_fittingBelow q (q.2 0 a1.toNatClampNeg) r28.toInt64) fun (r29 : Int64) => zc_let (x22 + r29) fun (x30 : Int64) => some x30)))))))))))
theorem iX0_fittingAheadOf_X0 : ∀ w ∈ wsX00, w ∈ wsX0_fittingAheadOf := fun _ h => List.mem_cons_of_mem _ (List.mem_append_right _ h)
set_option maxHeartbeats 4000000 in
set_option maxRecDepth 100000 in
theorem kX0_fittingAheadOf (l : Launch) (G : zc_G) (ad : Nat → Nat) {q : zc_Q} {a1 : Int32} {a2 : Int64} {r0 : Int64} (hF : fX0_fittingAheadOf q a1 a2 = some r0) : Met l yX0_fittingAheadOf wsX0_fittingAheadOf ({ frames := 1, cells := 0, slots := 0, locals := 23 }) (zc_Pp G [.ref (ad 2), .int a1, .long a2] (zc_al G ad q)) (vp_Sl (fun r => r = r0)) 0 0 (fun _ => False) := by
  refine Met.ofW (cc := cX0_fittingAheadOf) (maxL := 14) (ret := (some .long)) (by decide) rfl ?_
  intro p e s m args below meth c s₁ B hml hv
  obtain ⟨rfl, hP, hK⟩ := hv
  have hx := B.exec
  have hb := B.bytes
  have hr := B.returns
  have hts := atoms_spec (ws := wsX0_fittingAheadOf) B.pre
  have hown : s.vm.findClass RX0 = some m.cls := findClass_of_methodNamed B.named
  have hlocks := B.notSynchronized
  have hl := lv_entry ([.ref (ad 2), .int a1, .long a2]) (n := 14) (Nat.le_of_ble_eq_true rfl)
  rw [lg_entry_eq]
  generalize (lg_sl ([.ref (ad 2), .int a1, .long a2]) ++ List.replicate (14 - (lg_sl ([.ref (ad 2), .int a1, .long a2])).length) Slot.unset).toArray = ls at hl ⊢
  have hl : lv_has ls 14 [(0, .ref (ad 2)), (1, .int a1), (2, .long a2)] := hl
  refine lv_aload_n hx hb dX0_fittingAheadOf_0 rfl (lv_at hl 0 rfl) ?_
  refine lv_iload_n hx hb dX0_fittingAheadOf_1 rfl (lv_at hl 1 rfl) ?_
  obtain ⟨r1, er1, hF⟩ := zc_bind hF
  refine zc_ci (va_runV (As := [.int _]) ⟨hx, hb, hml, hown, hts⟩ (kX0_has l G ad er1) (cwV 1 hts gX0_fittingAheadOf_X0_has rfl rfl rfl (by decide +kernel) ⟨Nat.le_of_ble_eq_true rfl, Nat.le_of_ble_eq_true rfl⟩) (zc_preV hK hP 0 rfl rfl) rfl rfl hl.1 rfl (lv_room (Nat.le_of_ble_eq_true rfl)) dX0_fittingAheadOf_2 ⟨Nat.le_of_ble_eq_true rfl, Nat.le_of_ble_eq_true rfl⟩) ?_
  refine lv_if_ne (tgt := 10) hx hb dX0_fittingAheadOf_5 (by decide) (fun c2 => ?_) (fun c2 => ?_)
  · have hF := zc_neg c2 hF
    refine lv_lload_n hx hb dX0_fittingAheadOf_10 rfl (lv_at hl 2 rfl) ?_
    refine lv_ldc2 hx hb hown (hts (.constantLong RX0 54 (1440)) (List.mem_of_getElem? (i := 1) rfl)) dX0_fittingAheadOf_11 ?_
    refine lv_ldiv hx hb dX0_fittingAheadOf_14 (by decide) ?_
    refine lv_topl (fun x3 ex3 => ?_)
    have hF := zc_letE ex3 hF
    refine lv_lstore (lv' := [(4, .long x3), (0, .ref (ad 2)), (1, .int a1), (2, .long a2)]) hx hb dX0_fittingAheadOf_15 hl (by decide) rfl (fun ls hl => ?_)
    refine lv_aload_n hx hb dX0_fittingAheadOf_17 rfl (lv_at hl 1 rfl) ?_
    refine lv_aload_n hx hb dX0_fittingAheadOf_18 rfl (lv_at hl 1 rfl) ?_
    refine va_get (D := G.1) (ci := 0) (C := RX0) (T := TX0) (N := 5) hx hb hts iX0_fittingAheadOf_X0 hown hK.1 hP 0 rfl rfl 1 (by decide) (hts (.fieldLink RX0 15 "BoardClock$Alarms" "minutes" "[I") (List.mem_of_getElem? (i := 2) rfl)) (fun _ h9 => h9) rfl dX0_fittingAheadOf_19 ?_
    refine lv_iload_n hx hb dX0_fittingAheadOf_22 rfl (lv_at hl 2 rfl) ?_
    obtain ⟨hi4, hF⟩ := zc_inE hF
    refine zc_iald hx hb hK.1 hP 1 0 rfl rfl hi4 rfl dX0_fittingAheadOf_23 ?_
    refine lv_ldc2 hx hb hown (hts (.constantLong RX0 56 (60)) (List.mem_of_getElem? (i := 3) rfl)) dX0_fittingAheadOf_24 ?_
    obtain ⟨r5, er5, hF⟩ := zc_bind hF
    refine zc_cl (va_runV (As := [.int _, .long _]) ⟨hx, hb, hml, hown, hts⟩ (kX0_fittingBelow l G ad er5) (cwV 2 hts gX0_fittingAheadOf_X0_fittingBelow rfl rfl rfl (by decide +kernel) ⟨Nat.le_of_ble_eq_true rfl, Nat.le_of_ble_eq_true rfl⟩) (zc_preV hK hP 0 rfl rfl) rfl rfl hl.1 rfl (lv_room (Nat.le_of_ble_eq_true rfl)) dX0_fittingAheadOf_27 ⟨Nat.le_of_ble_eq_true rfl, Nat.le_of_ble_eq_true rfl⟩) ?_
    refine lv_lstore (lv' := [(6, .long r5), (4, .long x3), (0, .ref (ad 2)), (1, .int a1), (2, .long a2)]) hx hb dX0_fittingAheadOf_30 hl (by decide) rfl (fun ls hl => ?_)
    refine lv_aload_n hx hb dX0_fittingAheadOf_32 rfl (lv_at hl 2 rfl) ?_
    refine lv_aload_n hx hb dX0_fittingAheadOf_33 rfl (lv_at hl 2 rfl) ?_
    refine va_get (D := G.1) (ci := 0) (C := RX0) (T := TX0) (N := 5) hx hb hts iX0_fittingAheadOf_X0 hown hK.1 hP 0 rfl rfl 2 (by decide) (hts (.fieldLink RX0 19 "BoardClock$Alarms" "hours" "[I") (List.mem_of_getElem? (i := 4) rfl)) (fun _ h9 => h9) rfl dX0_fittingAheadOf_34 ?_
    refine lv_iload_n hx hb dX0_fittingAheadOf_37 rfl (lv_at hl 3 rfl) ?_
    obtain ⟨hi6, hF⟩ := zc_inE hF
    refine zc_iald hx hb hK.1 hP 2 0 rfl rfl hi6 rfl dX0_fittingAheadOf_38 ?_
    refine lv_ldc2 hx hb hown (hts (.constantLong RX0 61 (24)) (List.mem_of_getElem? (i := 5) rfl)) dX0_fittingAheadOf_39 ?_
    obtain ⟨r7, er7, hF⟩ := zc_bind hF
    refine zc_cl (va_runV (As := [.int _, .long _]) ⟨hx, hb, hml, hown, hts⟩ (kX0_fittingBelow l G ad er7) (cwV 2 hts gX0_fittingAheadOf_X0_fittingBelow rfl rfl rfl (by decide +kernel) ⟨Nat.le_of_ble_eq_true rfl, Nat.le_of_ble_eq_true rfl⟩) (zc_preV hK hP 0 rfl rfl) rfl rfl hl.1 rfl (lv_room (Nat.le_of_ble_eq_true rfl)) dX0_fittingAheadOf_42 ⟨Nat.le_of_ble_eq_true rfl, Nat.le_of_ble_eq_true rfl⟩) ?_
    refine lv_lload hx hb dX0_fittingAheadOf_45 (lv_at hl 0 rfl) ?_
    refine lv_lmul hx hb dX0_fittingAheadOf_47 ?_
    refine lv_topl (fun x8 ex8 => ?_)
    have hF := zc_letE ex8 hF
    refine lv_lstore (lv' := [(8, .long x8), (6, .long r5), (4, .long x3), (0, .ref (ad 2)), (1, .int a1), (2, .long a2)]) hx hb dX0_fittingAheadOf_48 hl (by decide) rfl (fun ls hl => ?_)
    refine lv_lload hx hb dX0_fittingAheadOf_50 (lv_at hl 2 rfl) ?_
    refine lv_ldc2 hx hb hown (hts (.constantLong RX0 63 (7)) (List.mem_of_getElem? (i := 6) rfl)) dX0_fittingAheadOf_52 ?_
    refine lv_ldiv hx hb dX0_fittingAheadOf_55 (by decide) ?_
    refine lv_aload_n hx hb dX0_fittingAheadOf_56 rfl (lv_at hl 3 rfl) ?_
    refine lv_aload_n hx hb dX0_fittingAheadOf_57 rfl (lv_at hl 3 rfl) ?_
    refine va_get (D := G.1) (ci := 0) (C := RX0) (T := TX0) (N := 5) hx hb hts iX0_fittingAheadOf_X0 hown hK.1 hP 0 rfl rfl 3 (by decide) (hts (.fieldLink RX0 22 "BoardClock$Alarms" "weekdays" "[I") (List.mem_of_getElem? (i := 7) rfl)) (fun _ h9 => h9) rfl dX0_fittingAheadOf_58 ?_
    refine lv_iload_n hx hb dX0_fittingAheadOf_61 rfl (lv_at hl 4 rfl) ?_
    obtain ⟨hi9, hF⟩ := zc_inE hF
    refine zc_iald hx hb hK.1 hP 3 0 rfl rfl hi9 rfl dX0_fittingAheadOf_62 ?_
    refine lv_ldc2 hx hb hown (hts (.constantLong RX0 63 (7)) (List.mem_of_getElem? (i := 6) rfl)) dX0_fittingAheadOf_63 ?_
    obtain ⟨r10, er10, hF⟩ := zc_bind hF
    refine zc_cl (va_runV (As := [.int _, .long _]) ⟨hx, hb, hml, hown, hts⟩ (kX0_fittingBelow l G ad er10) (cwV 2 hts gX0_fittingAheadOf_X0_fittingBelow rfl rfl rfl (by decide +kernel) ⟨Nat.le_of_ble_eq_true rfl, Nat.le_of_ble_eq_true rfl⟩) (zc_preV hK hP 0 rfl rfl) rfl rfl hl.1 rfl (lv_room (Nat.le_of_ble_eq_true rfl)) dX0_fittingAheadOf_66 ⟨Nat.le_of_ble_eq_true rfl, Nat.le_of_ble_eq_true rfl⟩) ?_
    refine lv_lmul hx hb dX0_fittingAheadOf_69 ?_
    refine lv_aload_n hx hb dX0_fittingAheadOf_70 rfl (lv_at hl 3 rfl) ?_
    refine lv_aload_n hx hb dX0_fittingAheadOf_71 rfl (lv_at hl 3 rfl) ?_
    refine va_get (D := G.1) (ci := 0) (C := RX0) (T := TX0) (N := 5) hx hb hts iX0_fittingAheadOf_X0 hown hK.1 hP 0 rfl rfl 3 (by decide) (hts (.fieldLink RX0 22 "BoardClock$Alarms" "weekdays" "[I") (List.mem_of_getElem? (i := 7) rfl)) (fun _ h9 => h9) rfl dX0_fittingAheadOf_72 ?_
    refine lv_iload_n hx hb dX0_fittingAheadOf_75 rfl (lv_at hl 4 rfl) ?_
    obtain ⟨hi11, hF⟩ := zc_inE hF
    refine zc_iald hx hb hK.1 hP 3 0 rfl rfl hi11 rfl dX0_fittingAheadOf_76 ?_
    refine lv_lload hx hb dX0_fittingAheadOf_77 (lv_at hl 2 rfl) ?_
    refine lv_ldc2 hx hb hown (hts (.constantLong RX0 63 (7)) (List.mem_of_getElem? (i := 6) rfl)) dX0_fittingAheadOf_79 ?_
    refine lv_lrem hx hb dX0_fittingAheadOf_82 (by decide) ?_
    obtain ⟨r12, er12, hF⟩ := zc_bind hF
    refine zc_cl (va_runV (As := [.int _, .long _]) ⟨hx, hb, hml, hown, hts⟩ (kX0_fittingBelow l G ad er12) (cwV 2 hts gX0_fittingAheadOf_X0_fittingBelow rfl rfl rfl (by decide +kernel) ⟨Nat.le_of_ble_eq_true rfl, Nat.le_of_ble_eq_true rfl⟩) (zc_preV hK hP 0 rfl rfl) rfl rfl hl.1 rfl (lv_room (Nat.le_of_ble_eq_true rfl)) dX0_fittingAheadOf_83 ⟨Nat.le_of_ble_eq_true rfl, Nat.le_of_ble_eq_true rfl⟩) ?_
    refine lv_ladd hx hb dX0_fittingAheadOf_86 ?_
    refine lv_topl (fun x13 ex13 => ?_)
    have hF := zc_letE ex13 hF
    refine lv_lstore (lv' := [(10, .long x13), (8, .long x8), (6, .long r5), (4, .long x3), (0, .ref (ad 2)), (1, .int a1), (2, .long a2)]) hx hb dX0_fittingAheadOf_87 hl (by decide) rfl (fun ls hl => ?_)
    refine lv_lload hx hb dX0_fittingAheadOf_89 (lv_at hl 0 rfl) ?_
    refine lv_lload hx hb dX0_fittingAheadOf_91 (lv_at hl 1 rfl) ?_
    refine lv_lmul hx hb dX0_fittingAheadOf_93 ?_
    refine lv_topl (fun x14 ex14 => ?_)
    have hF := zc_letE ex14 hF
    refine lv_lstore (lv' := [(12, .long x14), (10, .long x13), (8, .long x8), (6, .long r5), (4, .long x3), (0, .ref (ad 2)), (1, .int a1), (2, .long a2)]) hx hb dX0_fittingAheadOf_94 hl (by decide) rfl (fun ls hl => ?_)
    refine lv_aload_n hx hb dX0_fittingAheadOf_96 rfl (lv_at hl 5 rfl) ?_
    refine lv_aload_n hx hb dX0_fittingAheadOf_97 rfl (lv_at hl 5 rfl) ?_
    refine va_get (D := G.1) (ci := 0) (C := RX0) (T := TX0) (N := 5) hx hb hts iX0_fittingAheadOf_X0 hown hK.1 hP 0 rfl rfl 3 (by decide) (hts (.fieldLink RX0 22 "BoardClock$Alarms" "weekdays" "[I") (List.mem_of_getElem? (i := 7) rfl)) (fun _ h9 => h9) rfl dX0_fittingAheadOf_98 ?_
    refine lv_iload_n hx hb dX0_fittingAheadOf_101 rfl (lv_at hl 6 rfl) ?_
    obtain ⟨hi15, hF⟩ := zc_inE hF
    refine zc_iald hx hb hK.1 hP 3 0 rfl rfl hi15 rfl dX0_fittingAheadOf_102 ?_
    refine lv_lload_n hx hb dX0_fittingAheadOf_103 rfl (lv_at hl 7 rfl) ?_
    obtain ⟨r16, er16, hF⟩ := zc_bind hF
    refine zc_ci (va_runSN (As := [.long _]) ⟨hx, hb, hml, hown, hts⟩ (kX2_weekdayOf l G er16) ⟨va_cnB 1 hts gX0_fittingAheadOf_X2_weekdayOf_n65 rfl rfl rfl hK.2.2.2.2.1 (hts (.initialized RX2) (List.mem_of_getElem? (i := 19) rfl)) (by decide +kernel) ⟨Nat.le_of_ble_eq_true rfl, Nat.le_of_ble_eq_true rfl⟩, (hts (.static yX2_weekdayOf) (List.mem_of_getElem? (i := 18) rfl)), trivial⟩ (zc_preS hK (show va_P G.1 vwCl [] _ from fun k q h => by simp at h)) rfl rfl hl.1 rfl (lv_room (Nat.le_of_ble_eq_true rfl)) dX0_fittingAheadOf_104 ⟨Nat.le_of_ble_eq_true rfl, Nat.le_of_ble_eq_true rfl⟩) ?_
    obtain ⟨r17, er17, hF⟩ := zc_bind hF
    refine zc_ci (va_runV (As := [.int _, .int _]) ⟨hx, hb, hml, hown, hts⟩ (kX0_fits l G ad er17) (cwV 2 hts gX0_fittingAheadOf_X0_fits rfl rfl rfl (by decide +kernel) ⟨Nat.le_of_ble_eq_true rfl, Nat.le_of_ble_eq_true rfl⟩) (zc_preV hK hP 0 rfl rfl) rfl rfl hl.1 rfl (lv_room (Nat.le_of_ble_eq_true rfl)) dX0_fittingAheadOf_107 ⟨Nat.le_of_ble_eq_true rfl, Nat.le_of_ble_eq_true rfl⟩) ?_
    refine lv_if_eq (tgt := 173) hx hb dX0_fittingAheadOf_110 (by decide) (fun c18 => ?_) (fun c18 => ?_)
    · have hF := zc_pos c18 hF
      refine lv_lload hx hb dX0_fittingAheadOf_173 (lv_at hl 0 rfl) ?_
      exact W.lret hx hb hr (fun t ht hW => ⟨_, rfl, Option.some.inj hF, ht⟩) (fun _ h => by cases h) dX0_fittingAheadOf_175
    · have hF := zc_neg c18 hF
      refine lv_lload hx hb dX0_fittingAheadOf_113 (lv_at hl 0 rfl) ?_
      refine lv_aload_n hx hb dX0_fittingAheadOf_115 rfl (lv_at hl 5 rfl) ?_
      refine lv_aload_n hx hb dX0_fittingAheadOf_116 rfl (lv_at hl 5 rfl) ?_
      refine va_get (D := G.1) (ci := 0) (C := RX0) (T := TX0) (N := 5) hx hb hts iX0_fittingAheadOf_X0 hown hK.1 hP 0 rfl rfl 2 (by decide) (hts (.fieldLink RX0 19 "BoardClock$Alarms" "hours" "[I") (List.mem_of_getElem? (i := 4) rfl)) (fun _ h9 => h9) rfl dX0_fittingAheadOf_117 ?_
      refine lv_iload_n hx hb dX0_fittingAheadOf_120 rfl (lv_at hl 6 rfl) ?_
      obtain ⟨hi19, hF⟩ := zc_inE hF
      refine zc_iald hx hb hK.1 hP 2 0 rfl rfl hi19 rfl dX0_fittingAheadOf_121 ?_
      refine lv_lload_n hx hb dX0_fittingAheadOf_122 rfl (lv_at hl 7 rfl) ?_
      obtain ⟨r20, er20, hF⟩ := zc_bind hF
      refine zc_ci (va_runSN (As := [.long _]) ⟨hx, hb, hml, hown, hts⟩ (kX2_hourOf l G er20) ⟨va_cnB 1 hts gX0_fittingAheadOf_X2_hourOf_n73 rfl rfl rfl hK.2.2.2.2.2.1 (hts (.initialized RX2) (List.mem_of_getElem? (i := 19) rfl)) (by decide +kernel) ⟨Nat.le_of_ble_eq_true rfl, Nat.le_of_ble_eq_true rfl⟩, (hts (.static yX2_hourOf) (List.mem_of_getElem? (i := 27) rfl)), trivial⟩ (zc_preS hK (show va_P G.1 vwCl [] _ from fun k q h => by simp at h)) rfl rfl hl.1 rfl (lv_room (Nat.le_of_ble_eq_true rfl)) dX0_fittingAheadOf_123 ⟨Nat.le_of_ble_eq_true rfl, Nat.le_of_ble_eq_true rfl⟩) ?_
      refine lv_i2l hx hb dX0_fittingAheadOf_126 rfl ?_
      obtain ⟨r21, er21, hF⟩ := zc_bind hF
      refine zc_cl (va_runV (As := [.int _, .long _]) ⟨hx, hb, hml, hown, hts⟩ (kX0_fittingBelow l G ad er21) (cwV 2 hts gX0_fittingAheadOf_X0_fittingBelow rfl rfl rfl (by decide +kernel) ⟨Nat.le_of_ble_eq_true rfl, Nat.le_of_ble_eq_true rfl⟩) (zc_preV hK hP 0 rfl rfl) rfl rfl hl.1 rfl (lv_room (Nat.le_of_ble_eq_true rfl)) dX0_fittingAheadOf_127 ⟨Nat.le_of_ble_eq_true rfl, Nat.le_of_ble_eq_true rfl⟩) ?_
      refine lv_lload hx hb dX0_fittingAheadOf_130 (lv_at hl 3 rfl) ?_
      refine lv_lmul hx hb dX0_fittingAheadOf_132 ?_
      refine lv_ladd hx hb dX0_fittingAheadOf_133 ?_
      refine lv_topl (fun x22 ex22 => ?_)
      have hF := zc_letE ex22 hF
      refine lv_lstore (lv' := [(12, .long x22), (10, .long x13), (8, .long x8), (6, .long r5), (4, .long x3), (0, .ref (ad 2)), (1, .int a1), (2, .long a2)]) hx hb dX0_fittingAheadOf_134 hl (by decide) rfl (fun ls hl => ?_)
      refine lv_aload_n hx hb dX0_fittingAheadOf_136 rfl (lv_at hl 5 rfl) ?_
      refine lv_aload_n hx hb dX0_fittingAheadOf_137 rfl (lv_at hl 5 rfl) ?_
      refine va_get (D := G.1) (ci := 0) (C := RX0) (T := TX0) (N := 5) hx hb hts iX0_fittingAheadOf_X0 hown hK.1 hP 0 rfl rfl 2 (by decide) (hts (.fieldLink RX0 19 "BoardClock$Alarms" "hours" "[I") (List.mem_of_getElem? (i := 4) rfl)) (fun _ h9 => h9) rfl dX0_fittingAheadOf_138 ?_
      refine lv_iload_n hx hb dX0_fittingAheadOf_141 rfl (lv_at hl 6 rfl) ?_
      obtain ⟨hi23, hF⟩ := zc_inE hF
      refine zc_iald hx hb hK.1 hP 2 0 rfl rfl hi23 rfl dX0_fittingAheadOf_142 ?_
      refine lv_lload_n hx hb dX0_fittingAheadOf_143 rfl (lv_at hl 7 rfl) ?_
      obtain ⟨r24, er24, hF⟩ := zc_bind hF
      refine zc_ci (va_runSN (As := [.long _]) ⟨hx, hb, hml, hown, hts⟩ (kX2_hourOf l G er24) ⟨va_cnB 1 hts gX0_fittingAheadOf_X2_hourOf_n73 rfl rfl rfl hK.2.2.2.2.2.1 (hts (.initialized RX2) (List.mem_of_getElem? (i := 19) rfl)) (by decide +kernel) ⟨Nat.le_of_ble_eq_true rfl, Nat.le_of_ble_eq_true rfl⟩, (hts (.static yX2_hourOf) (List.mem_of_getElem? (i := 27) rfl)), trivial⟩ (zc_preS hK (show va_P G.1 vwCl [] _ from fun k q h => by simp at h)) rfl rfl hl.1 rfl (lv_room (Nat.le_of_ble_eq_true rfl)) dX0_fittingAheadOf_144 ⟨Nat.le_of_ble_eq_true rfl, Nat.le_of_ble_eq_true rfl⟩) ?_
      obtain ⟨r25, er25, hF⟩ := zc_bind hF
      refine zc_ci (va_runV (As := [.int _, .int _]) ⟨hx, hb, hml, hown, hts⟩ (kX0_fits l G ad er25) (cwV 2 hts gX0_fittingAheadOf_X0_fits rfl rfl rfl (by decide +kernel) ⟨Nat.le_of_ble_eq_true rfl, Nat.le_of_ble_eq_true rfl⟩) (zc_preV hK hP 0 rfl rfl) rfl rfl hl.1 rfl (lv_room (Nat.le_of_ble_eq_true rfl)) dX0_fittingAheadOf_147 ⟨Nat.le_of_ble_eq_true rfl, Nat.le_of_ble_eq_true rfl⟩) ?_
      refine lv_if_eq (tgt := 173) hx hb dX0_fittingAheadOf_150 (by decide) (fun c26 => ?_) (fun c26 => ?_)
      · have hF := zc_pos c26 hF
        refine lv_lload hx hb dX0_fittingAheadOf_173 (lv_at hl 0 rfl) ?_
        exact W.lret hx hb hr (fun t ht hW => ⟨_, rfl, Option.some.inj hF, ht⟩) (fun _ h => by cases h) dX0_fittingAheadOf_175
      · have hF := zc_neg c26 hF
        refine lv_lload hx hb dX0_fittingAheadOf_153 (lv_at hl 0 rfl) ?_
        refine lv_aload_n hx hb dX0_fittingAheadOf_155 rfl (lv_at hl 5 rfl) ?_
        refine lv_aload_n hx hb dX0_fittingAheadOf_156 rfl (lv_at hl 5 rfl) ?_
        refine va_get (D := G.1) (ci := 0) (C := RX0) (T := TX0) (N := 5) hx hb hts iX0_fittingAheadOf_X0 hown hK.1 hP 0 rfl rfl 1 (by decide) (hts (.fieldLink RX0 15 "BoardClock$Alarms" "minutes" "[I") (List.mem_of_getElem? (i := 2) rfl)) (fun _ h9 => h9) rfl dX0_fittingAheadOf_157 ?_
        refine lv_iload_n hx hb dX0_fittingAheadOf_160 rfl (lv_at hl 6 rfl) ?_
        obtain ⟨hi27, hF⟩ := zc_inE hF
        refine zc_iald hx hb hK.1 hP 1 0 rfl rfl hi27 rfl dX0_fittingAheadOf_161 ?_
        refine lv_lload_n hx hb dX0_fittingAheadOf_162 rfl (lv_at hl 7 rfl) ?_
        obtain ⟨r28, er28, hF⟩ := zc_bind hF
        refine zc_ci (va_runSN (As := [.long _]) ⟨hx, hb, hml, hown, hts⟩ (kX2_minuteOf l G er28) ⟨va_cnB 1 hts gX0_fittingAheadOf_X2_minuteOf_n76 rfl rfl rfl hK.2.2.2.2.2.2.1 (hts (.initialized RX2) (List.mem_of_getElem? (i := 19) rfl)) (by decide +kernel) ⟨Nat.le_of_ble_eq_true rfl, Nat.le_of_ble_eq_true rfl⟩, (hts (.static yX2_minuteOf) (List.mem_of_getElem? (i := 31) rfl)), trivial⟩ (zc_preS hK (show va_P G.1 vwCl [] _ from fun k q h => by simp at h)) rfl rfl hl.1 rfl (lv_room (Nat.le_of_ble_eq_true rfl)) dX0_fittingAheadOf_163 ⟨Nat.le_of_ble_eq_true rfl, Nat.le_of_ble_eq_true rfl⟩) ?_
        refine lv_i2l hx hb dX0_fittingAheadOf_166 rfl ?_
        obtain ⟨r29, er29, hF⟩ := zc_bind hF
        refine zc_cl (va_runV (As := [.int _, .long _]) ⟨hx, hb, hml, hown, hts⟩ (kX0_fittingBelow l G ad er29) (cwV 2 hts gX0_fittingAheadOf_X0_fittingBelow rfl rfl rfl (by decide +kernel) ⟨Nat.le_of_ble_eq_true rfl, Nat.le_of_ble_eq_true rfl⟩) (zc_preV hK hP 0 rfl rfl) rfl rfl hl.1 rfl (lv_room (Nat.le_of_ble_eq_true rfl)) dX0_fittingAheadOf_167 ⟨Nat.le_of_ble_eq_true rfl, Nat.le_of_ble_eq_true rfl⟩) ?_
        refine lv_ladd hx hb dX0_fittingAheadOf_170 ?_
        refine lv_topl (fun x30 ex30 => ?_)
        have hF := zc_letE ex30 hF
        refine lv_lstore (lv' := [(12, .long x30), (10, .long x13), (8, .long x8), (6, .long r5), (4, .long x3), (0, .ref (ad 2)), (1, .int a1), (2, .long a2)]) hx hb dX0_fittingAheadOf_171 hl (by decide) rfl (fun ls hl => ?_)
        refine lv_lload hx hb dX0_fittingAheadOf_173 (lv_at hl 0 rfl) ?_
        exact W.lret hx hb hr (fun t ht hW => ⟨_, rfl, Option.some.inj hF, ht⟩) (fun _ h => by cases h) dX0_fittingAheadOf_175
  · have hF := zc_pos c2 hF
    refine lv_lconst (v := (0 : Int64)) hx hb dX0_fittingAheadOf_8 (by decide) ?_
    exact W.lret hx hb hr (fun t ht hW => ⟨_, rfl, Option.some.inj hF, ht⟩) (fun _ h => by cases h) dX0_fittingAheadOf_9
def fX0_countFitting (q : zc_Q) (a1 : Int32) (a2 : Int64) (a3 : Int64) : Option (Int32) := Option.bind (fX0_fittingAheadOf q a1 (a3 + (1 : Int64))) fun (r1 : Int64) => Option.bind (fX0_fittingAheadOf q a1 (a2 + (1 : Int64))) fun (r2 : Int64) => some ((r1 - r2)).toInt32
set_option maxHeartbeats 4000000 in
set_option maxRecDepth 100000 in
theorem kX0_countFitting (l : Launch) (G : zc_G) (ad : Nat → Nat) {q : zc_Q} {a1 : Int32} {a2 : Int64} {a3 : Int64} {r0 : Int32} (hF : fX0_countFitting q a1 a2 a3 = some r0) : Met l yX0_countFitting wsX0_countFitting ({ frames := 2, cells := 0, slots := 0, locals := 56 }) (zc_Pp G [.ref (ad 2), .int a1, .long a2, .long a3] (zc_al G ad q)) (vp_Si (fun r => r = r0)) 0 0 (fun _ => False) := by
  refine Met.ofW (cc := cX0_countFitting) (maxL := 6) (ret := (some .int)) (by decide) rfl ?_
  intro p e s m args below meth c s₁ B hml hv
  obtain ⟨rfl, hP, hK⟩ := hv
  have hx := B.exec
  have hb := B.bytes
  have hr := B.returns
  have hts := atoms_spec (ws := wsX0_countFitting) B.pre
  have hown : s.vm.findClass RX0 = some m.cls := findClass_of_methodNamed B.named
  have hlocks := B.notSynchronized
  have hl := lv_entry ([.ref (ad 2), .int a1, .long a2, .long a3]) (n := 6) (Nat.le_of_ble_eq_true rfl)
  rw [lg_entry_eq]
  generalize (lg_sl ([.ref (ad 2), .int a1, .long a2, .long a3]) ++ List.replicate (6 - (lg_sl ([.ref (ad 2), .int a1, .long a2, .long a3])).length) Slot.unset).toArray = ls at hl ⊢
  have hl : lv_has ls 6 [(0, .ref (ad 2)), (1, .int a1), (2, .long a2), (4, .long a3)] := hl
  refine lv_aload_n hx hb dX0_countFitting_0 rfl (lv_at hl 0 rfl) ?_
  refine lv_iload_n hx hb dX0_countFitting_1 rfl (lv_at hl 1 rfl) ?_
  refine lv_lload hx hb dX0_countFitting_2 (lv_at hl 3 rfl) ?_
  refine lv_lconst (v := (1 : Int64)) hx hb dX0_countFitting_4 (by decide) ?_
  refine lv_ladd hx hb dX0_countFitting_5 ?_
  obtain ⟨r1, er1, hF⟩ := zc_bind hF
  refine zc_cl (va_runV (As := [.int _, .long _]) ⟨hx, hb, hml, hown, hts⟩ (kX0_fittingAheadOf l G ad er1) (cwV 2 hts gX0_countFitting_X0_fittingAheadOf rfl rfl rfl (by decide +kernel) ⟨Nat.le_of_ble_eq_true rfl, Nat.le_of_ble_eq_true rfl⟩) (zc_preV hK hP 0 rfl rfl) rfl rfl hl.1 rfl (lv_room (Nat.le_of_ble_eq_true rfl)) dX0_countFitting_6 ⟨Nat.le_of_ble_eq_true rfl, Nat.le_of_ble_eq_true rfl⟩) ?_
  refine lv_aload_n hx hb dX0_countFitting_9 rfl (lv_at hl 0 rfl) ?_
  refine lv_iload_n hx hb dX0_countFitting_10 rfl (lv_at hl 1 rfl) ?_
  refine lv_lload_n hx hb dX0_countFitting_11 rfl (lv_at hl 2 rfl) ?_
  refine lv_lconst (v := (1 : Int64)) hx hb dX0_countFitting_12 (by decide) ?_
  refine lv_ladd hx hb dX0_countFitting_13 ?_
  obtain ⟨r2, er2, hF⟩ := zc_bind hF
  refine zc_cl (va_runV (As := [.int _, .long _]) ⟨hx, hb, hml, hown, hts⟩ (kX0_fittingAheadOf l G ad er2) (cwV 2 hts gX0_countFitting_X0_fittingAheadOf rfl rfl rfl (by decide +kernel) ⟨Nat.le_of_ble_eq_true rfl, Nat.le_of_ble_eq_true rfl⟩) (zc_preV hK hP 0 rfl rfl) rfl rfl hl.1 rfl (lv_room (Nat.le_of_ble_eq_true rfl)) dX0_countFitting_14 ⟨Nat.le_of_ble_eq_true rfl, Nat.le_of_ble_eq_true rfl⟩) ?_
  refine lv_lsub hx hb dX0_countFitting_17 ?_
  refine lv_l2i hx hb dX0_countFitting_18 rfl ?_
  exact W.iret hx hb hr (fun t ht hW => ⟨_, rfl, Option.some.inj hF, ht⟩) (fun _ h => by cases h) dX0_countFitting_19
def fX0_totalRings_L (N : Nat) : Nat → zc_Q → Int32 → Int32 → Option (Int32)
  | 0, _, _, _ => none
  | n + 1, q, y1, y2 => if (q.1) ≤ y2 then (some y1) else (if (6 : Int32) ≤ y2 then (some y1) else (zc_in y2 6 (zc_let (y1 + (q.2 3 y2.toNatClampNeg)) fun (x4 : Int32) => zc_let (y2 + (1 : Int32)) fun (x5 : Int32) => fX0_totalRings_L N n q x4 x5)))
def fX0_totalRings (N : Nat) (q : zc_Q) : Option (Int32) := fX0_totalRings_L N N q (0 : Int32) (0 : Int32)
theorem iX0_totalRings_X0 : ∀ w ∈ wsX00, w ∈ wsX0_totalRings := fun _ h => List.mem_cons_of_mem _ (List.mem_append_right _ h)
set_option maxHeartbeats 4000000 in
set_option maxRecDepth 100000 in
theorem kX0_totalRings (l : Launch) (G : zc_G) (ad : Nat → Nat) {N : Nat} {q : zc_Q} {r0 : Int32} (hF : fX0_totalRings N q = some r0) : Met l yX0_totalRings wsX0_totalRings ({ frames := 0, cells := 0, slots := 0, locals := 0 }) (zc_Pp G [.ref (ad 2)] (zc_al G ad q)) (vp_Si (fun r => r = r0)) 0 0 (fun _ => False) := by
  refine Met.ofW (cc := cX0_totalRings) (maxL := 3) (ret := (some .int)) (by decide) rfl ?_
  intro p e s m args below meth c s₁ B hml hv
  obtain ⟨rfl, hP, hK⟩ := hv
  have hx := B.exec
  have hb := B.bytes
  have hr := B.returns
  have hts := atoms_spec (ws := wsX0_totalRings) B.pre
  have hown : s.vm.findClass RX0 = some m.cls := findClass_of_methodNamed B.named
  have hlocks := B.notSynchronized
  have hl := lv_entry ([.ref (ad 2)]) (n := 3) (Nat.le_of_ble_eq_true rfl)
  rw [lg_entry_eq]
  generalize (lg_sl ([.ref (ad 2)]) ++ List.replicate (3 - (lg_sl ([.ref (ad 2)])).length) Slot.unset).toArray = ls at hl ⊢
  have hl : lv_has ls 3 [(0, .ref (ad 2))] := hl
  have loop : ∀ (n : Nat) (y1 : Int32) (y2 : Int32) (ls : Array Slot), lv_has ls 3 [(0, .ref (ad 2)), (1, .int y1), (2, .int y2)] → fX0_totalRings_L N n q y1 y2 = some r0 → W p l e (headSpec wsX0_totalRings ({ frames := 0, cells := 0, slots := 0, locals := 0 })).room s m ([.ref (ad 2)] : List Value).toArray below meth c s.heap [] 0 0 (MQ below (vp_Si (fun r => r = r0)) ([.ref (ad 2)] : List Value).toArray s 0 0 (fun _ => False)) (F0 m 4 ls []) := by
    intro n
    induction n with
    | zero =>
      intro y1 y2 ls hl hF
      cases hF
    | succ n ih =>
      intro y1 y2 ls hl hF
      rw [fX0_totalRings_L] at hF
      refine lv_iload_n hx hb dX0_totalRings_4 rfl (lv_at hl 2 rfl) ?_
      refine lv_aload_n hx hb dX0_totalRings_5 rfl (lv_at hl 0 rfl) ?_
      refine va_get (D := G.1) (ci := 0) (C := RX0) (T := TX0) (N := 5) hx hb hts iX0_totalRings_X0 hown hK.1 hP 0 rfl rfl 0 (by decide) (hts (.fieldLink RX0 9 "BoardClock$Alarms" "count" "I") (List.mem_of_getElem? (i := 1) rfl)) (fun _ h9 => h9) rfl dX0_totalRings_6 ?_
      refine lv_icmp_ge (tgt := 33) hx hb dX0_totalRings_9 (by decide) (fun c1 => ?_) (fun c1 => ?_)
      · have hF := zc_pos c1 hF
        refine lv_iload_n hx hb dX0_totalRings_33 rfl (lv_at hl 1 rfl) ?_
        exact W.iret hx hb hr (fun t ht hW => ⟨_, rfl, Option.some.inj hF, ht⟩) (fun _ h => by cases h) dX0_totalRings_34
      · have hF := zc_neg c1 hF
        refine lv_iload_n hx hb dX0_totalRings_12 rfl (lv_at hl 2 rfl) ?_
        refine lv_bipush (v := (6 : Int32)) hx hb dX0_totalRings_13 (by decide) ?_
        refine lv_icmp_ge (tgt := 33) hx hb dX0_totalRings_15 (by decide) (fun c2 => ?_) (fun c2 => ?_)
        · have hF := zc_pos c2 hF
          refine lv_iload_n hx hb dX0_totalRings_33 rfl (lv_at hl 1 rfl) ?_
          exact W.iret hx hb hr (fun t ht hW => ⟨_, rfl, Option.some.inj hF, ht⟩) (fun _ h => by cases h) dX0_totalRings_34
        · have hF := zc_neg c2 hF
          refine lv_iload_n hx hb dX0_totalRings_18 rfl (lv_at hl 1 rfl) ?_
          refine lv_aload_n hx hb dX0_totalRings_19 rfl (lv_at hl 0 rfl) ?_
          refine va_get (D := G.1) (ci := 0) (C := RX0) (T := TX0) (N := 5) hx hb hts iX0_totalRings_X0 hown hK.1 hP 0 rfl rfl 4 (by decide) (hts (.fieldLink RX0 25 "BoardClock$Alarms" "rung" "[I") (List.mem_of_getElem? (i := 2) rfl)) (fun _ h9 => h9) rfl dX0_totalRings_20 ?_
          refine lv_iload_n hx hb dX0_totalRings_23 rfl (lv_at hl 2 rfl) ?_
          obtain ⟨hi3, hF⟩ := zc_inE hF
          refine zc_iald hx hb hK.1 hP 4 0 rfl rfl hi3 rfl dX0_totalRings_24 ?_
          refine lv_iadd hx hb dX0_totalRings_25 ?_
          refine lv_topi (fun x4 ex4 => ?_)
          have hF := zc_letE ex4 hF
          refine lv_istore_n (lv' := [(1, .int x4), (0, .ref (ad 2)), (2, .int y2)]) hx hb dX0_totalRings_26 rfl hl (by decide) rfl (fun ls hl => ?_)
          obtain ⟨x5, ex5⟩ : ∃ y : Int32, y = y2 + (1 : Int32) := ⟨_, rfl⟩
          have hF := zc_letE ex5 hF
          refine lv_iinc (v := x5) (lv' := [(2, .int x5), (1, .int x4), (0, .ref (ad 2))]) hx hb dX0_totalRings_27 hl (k := 2) rfl (by rw [ex5]; rfl) (by decide) rfl (fun ls hl => ?_)
          refine lv_goto (tgt := 4) hx hb dX0_totalRings_30 (by decide) ?_
          exact ih x4 x5 ls (lv_sub hl [2, 1, 0] rfl) hF
  refine lv_iconst (v := (0 : Int32)) hx hb dX0_totalRings_0 (by decide) ?_
  refine lv_istore_n (lv' := [(1, .int (0 : Int32)), (0, .ref (ad 2))]) hx hb dX0_totalRings_1 rfl hl (by decide) rfl (fun ls hl => ?_)
  refine lv_iconst (v := (0 : Int32)) hx hb dX0_totalRings_2 (by decide) ?_
  refine lv_istore_n (lv' := [(2, .int (0 : Int32)), (1, .int (0 : Int32)), (0, .ref (ad 2))]) hx hb dX0_totalRings_3 rfl hl (by decide) rfl (fun ls hl => ?_)
  exact loop N (0 : Int32) (0 : Int32) ls (lv_sub hl [2, 1, 0] rfl) hF
def fX0_ringsToCome_L (N : Nat) : Nat → zc_Q → Int64 → Int64 → Int32 → Int32 → Option (Int32)
  | 0, _, _, _, _, _ => none
  | n + 1, q, y1, y3, y5, y6 => if (q.1) ≤ y6 then (some y5) else (if (6 : Int32) ≤ y6 then (some y5) else (Option.bind (fX0_countFitting q y6 y1 y3) fun (r3 : Int32) => zc_in y6 6 (zc_let (y5 + (if ((99999 : Int32) - (q.2 3 y6.toNatClampNeg)) < r3 then ((99999 : Int32) - (q.2 3 y6.toNatClampNeg)) else r3)) fun (x5 : Int32) => zc_let (y6 + (1 : Int32)) fun (x6 : Int32) => fX0_ringsToCome_L N n q y1 y3 x5 x6)))
def fX0_ringsToCome (N : Nat) (q : zc_Q) (a1 : Int64) (a2 : Int64) : Option (Int32) := fX0_ringsToCome_L N N q a1 a2 (0 : Int32) (0 : Int32)
theorem iX0_ringsToCome_X0 : ∀ w ∈ wsX00, w ∈ wsX0_ringsToCome := fun _ h => List.mem_cons_of_mem _ (List.mem_append_right _ h)
set_option maxHeartbeats 4000000 in
set_option maxRecDepth 100000 in
theorem kX0_ringsToCome (l : Launch) (G : zc_G) (ad : Nat → Nat) {N : Nat} {q : zc_Q} {a1 : Int64} {a2 : Int64} {r0 : Int32} (hF : fX0_ringsToCome N q a1 a2 = some r0) : Met l yX0_ringsToCome wsX0_ringsToCome ({ frames := 3, cells := 0, slots := 0, locals := 81 }) (zc_Pp G [.ref (ad 2), .long a1, .long a2] (zc_al G ad q)) (vp_Si (fun r => r = r0)) 0 0 (fun _ => False) := by
  refine Met.ofW (cc := cX0_ringsToCome) (maxL := 7) (ret := (some .int)) (by decide) rfl ?_
  intro p e s m args below meth c s₁ B hml hv
  obtain ⟨rfl, hP, hK⟩ := hv
  have hx := B.exec
  have hb := B.bytes
  have hr := B.returns
  have hts := atoms_spec (ws := wsX0_ringsToCome) B.pre
  have hown : s.vm.findClass RX0 = some m.cls := findClass_of_methodNamed B.named
  have hlocks := B.notSynchronized
  have hl := lv_entry ([.ref (ad 2), .long a1, .long a2]) (n := 7) (Nat.le_of_ble_eq_true rfl)
  rw [lg_entry_eq]
  generalize (lg_sl ([.ref (ad 2), .long a1, .long a2]) ++ List.replicate (7 - (lg_sl ([.ref (ad 2), .long a1, .long a2])).length) Slot.unset).toArray = ls at hl ⊢
  have hl : lv_has ls 7 [(0, .ref (ad 2)), (1, .long a1), (3, .long a2)] := hl
  have loop : ∀ (n : Nat) (y1 : Int64) (y3 : Int64) (y5 : Int32) (y6 : Int32) (ls : Array Slot), lv_has ls 7 [(0, .ref (ad 2)), (1, .long y1), (3, .long y3), (5, .int y5), (6, .int y6)] → fX0_ringsToCome_L N n q y1 y3 y5 y6 = some r0 → W p l e (headSpec wsX0_ringsToCome ({ frames := 3, cells := 0, slots := 0, locals := 81 })).room s m ([.ref (ad 2), .long a1, .long a2] : List Value).toArray below meth c s.heap [] 0 0 (MQ below (vp_Si (fun r => r = r0)) ([.ref (ad 2), .long a1, .long a2] : List Value).toArray s 0 0 (fun _ => False)) (F0 m 6 ls []) := by
    intro n
    induction n with
    | zero =>
      intro y1 y3 y5 y6 ls hl hF
      cases hF
    | succ n ih =>
      intro y1 y3 y5 y6 ls hl hF
      rw [fX0_ringsToCome_L] at hF
      refine lv_iload hx hb dX0_ringsToCome_6 (lv_at hl 4 rfl) ?_
      refine lv_aload_n hx hb dX0_ringsToCome_8 rfl (lv_at hl 0 rfl) ?_
      refine va_get (D := G.1) (ci := 0) (C := RX0) (T := TX0) (N := 5) hx hb hts iX0_ringsToCome_X0 hown hK.1 hP 0 rfl rfl 0 (by decide) (hts (.fieldLink RX0 9 "BoardClock$Alarms" "count" "I") (List.mem_of_getElem? (i := 1) rfl)) (fun _ h9 => h9) rfl dX0_ringsToCome_9 ?_
      refine lv_icmp_ge (tgt := 54) hx hb dX0_ringsToCome_12 (by decide) (fun c1 => ?_) (fun c1 => ?_)
      · have hF := zc_pos c1 hF
        refine lv_iload hx hb dX0_ringsToCome_54 (lv_at hl 3 rfl) ?_
        exact W.iret hx hb hr (fun t ht hW => ⟨_, rfl, Option.some.inj hF, ht⟩) (fun _ h => by cases h) dX0_ringsToCome_56
      · have hF := zc_neg c1 hF
        refine lv_iload hx hb dX0_ringsToCome_15 (lv_at hl 4 rfl) ?_
        refine lv_bipush (v := (6 : Int32)) hx hb dX0_ringsToCome_17 (by decide) ?_
        refine lv_icmp_ge (tgt := 54) hx hb dX0_ringsToCome_19 (by decide) (fun c2 => ?_) (fun c2 => ?_)
        · have hF := zc_pos c2 hF
          refine lv_iload hx hb dX0_ringsToCome_54 (lv_at hl 3 rfl) ?_
          exact W.iret hx hb hr (fun t ht hW => ⟨_, rfl, Option.some.inj hF, ht⟩) (fun _ h => by cases h) dX0_ringsToCome_56
        · have hF := zc_neg c2 hF
          refine lv_iload hx hb dX0_ringsToCome_22 (lv_at hl 3 rfl) ?_
          refine lv_aload_n hx hb dX0_ringsToCome_24 rfl (lv_at hl 0 rfl) ?_
          refine lv_iload hx hb dX0_ringsToCome_25 (lv_at hl 4 rfl) ?_
          refine lv_lload_n hx hb dX0_ringsToCome_27 rfl (lv_at hl 1 rfl) ?_
          refine lv_lload_n hx hb dX0_ringsToCome_28 rfl (lv_at hl 2 rfl) ?_
          obtain ⟨r3, er3, hF⟩ := zc_bind hF
          refine zc_ci (va_runV (As := [.int _, .long _, .long _]) ⟨hx, hb, hml, hown, hts⟩ (kX0_countFitting l G ad er3) (cwV 3 hts gX0_ringsToCome_X0_countFitting rfl rfl rfl (by decide +kernel) ⟨Nat.le_of_ble_eq_true rfl, Nat.le_of_ble_eq_true rfl⟩) (zc_preV hK hP 0 rfl rfl) rfl rfl hl.1 rfl (lv_room (Nat.le_of_ble_eq_true rfl)) dX0_ringsToCome_29 ⟨Nat.le_of_ble_eq_true rfl, Nat.le_of_ble_eq_true rfl⟩) ?_
          refine lv_ldc hx hb hown (hts (.constant RX0 43 (99999)) (List.mem_of_getElem? (i := 2) rfl)) dX0_ringsToCome_32 ?_
          refine lv_aload_n hx hb dX0_ringsToCome_34 rfl (lv_at hl 0 rfl) ?_
          refine va_get (D := G.1) (ci := 0) (C := RX0) (T := TX0) (N := 5) hx hb hts iX0_ringsToCome_X0 hown hK.1 hP 0 rfl rfl 4 (by decide) (hts (.fieldLink RX0 25 "BoardClock$Alarms" "rung" "[I") (List.mem_of_getElem? (i := 3) rfl)) (fun _ h9 => h9) rfl dX0_ringsToCome_35 ?_
          refine lv_iload hx hb dX0_ringsToCome_38 (lv_at hl 4 rfl) ?_
          obtain ⟨hi4, hF⟩ := zc_inE hF
          refine zc_iald hx hb hK.1 hP 4 0 rfl rfl hi4 rfl dX0_ringsToCome_40 ?_
          refine lv_isub hx hb dX0_ringsToCome_41 ?_
          refine va_mmin hx hb (hml.trans hl.1.symm) hown (hts (.methodLink RX0 44 Lib.Math.min.name) (List.mem_of_getElem? (i := 4) rfl)) (hts (.static Lib.Math.min.name) (List.mem_of_getElem? (i := 5) rfl)) (hts (.initialized "java/lang/Math") (List.mem_of_getElem? (i := 6) rfl)) (hts (.code Lib.Math.min.name Lib.Math.min.code 2 (some .int)) (List.mem_of_getElem? (i := 7) rfl)) (Nat.le_of_ble_eq_true rfl) (Nat.le_of_ble_eq_true rfl) (Nat.zero_le _) (Nat.zero_le _) dX0_ringsToCome_42 ?_
          refine lv_iadd hx hb dX0_ringsToCome_45 ?_
          refine lv_topi (fun x5 ex5 => ?_)
          have hF := zc_letE ex5 hF
          refine lv_istore (lv' := [(5, .int x5), (0, .ref (ad 2)), (1, .long y1), (3, .long y3), (6, .int y6)]) hx hb dX0_ringsToCome_46 hl (by decide) rfl (fun ls hl => ?_)
          obtain ⟨x6, ex6⟩ : ∃ y : Int32, y = y6 + (1 : Int32) := ⟨_, rfl⟩
          have hF := zc_letE ex6 hF
          refine lv_iinc (v := x6) (lv' := [(6, .int x6), (5, .int x5), (0, .ref (ad 2)), (1, .long y1), (3, .long y3)]) hx hb dX0_ringsToCome_48 hl (k := 4) rfl (by rw [ex6]; rfl) (by decide) rfl (fun ls hl => ?_)
          refine lv_goto (tgt := 6) hx hb dX0_ringsToCome_51 (by decide) ?_
          exact ih y1 y3 x5 x6 ls (lv_sub hl [2, 3, 4, 1, 0] rfl) hF
  refine lv_iconst (v := (0 : Int32)) hx hb dX0_ringsToCome_0 (by decide) ?_
  refine lv_istore (lv' := [(5, .int (0 : Int32)), (0, .ref (ad 2)), (1, .long a1), (3, .long a2)]) hx hb dX0_ringsToCome_1 hl (by decide) rfl (fun ls hl => ?_)
  refine lv_iconst (v := (0 : Int32)) hx hb dX0_ringsToCome_3 (by decide) ?_
  refine lv_istore (lv' := [(6, .int (0 : Int32)), (5, .int (0 : Int32)), (0, .ref (ad 2)), (1, .long a1), (3, .long a2)]) hx hb dX0_ringsToCome_4 hl (by decide) rfl (fun ls hl => ?_)
  exact loop N a1 a2 (0 : Int32) (0 : Int32) ls (lv_sub hl [2, 3, 4, 1, 0] rfl) hF
def fX0_nextFit_L (N : Nat) : Nat → zc_Q → Int32 → Int64 → Int64 → Int32 → Option (Int64)
  | 0, _, _, _, _, _ => none
  | n + 1, q, y1, y2, y4, y6 => if (1000 : Int32) ≤ y6 then (some (-1 : Int64)) else (zc_in y1 6 (Option.bind (fX2_weekdayOf y4) fun (r6 : Int32) => Option.bind (fX0_fits q (q.2 2 y1.toNatClampNeg) r6) fun (r7 : Int32) => if r7 = 0 then (zc_let (((y4 / (1440 : Int64)) + (1 : Int64)) * (1440 : Int64)) fun (x21 : Int64) => zc_let (y6 + (1 : Int32)) fun (x22 : Int32) => fX0_nextFit_L N n q y1 y2 x21 x22) else (zc_in y1 6 (Option.bind (fX2_hourOf y4) fun (r10 : Int32) => Option.bind (fX0_fits q (q.2 1 y1.toNatClampNeg) r10) fun (r11 : Int32) => if r11 = 0 then (zc_let (((y4 / (60 : Int64)) + (1 : Int64)) * (60 : Int64)) fun (x19 : Int64) => zc_let (y6 + (1 : Int32)) fun (x20 : Int32) => fX0_nextFit_L N n q y1 y2 x19 x20) else (zc_in y1 6 (Option.bind (fX2_minuteOf y4) fun (r14 : Int32) => Option.bind (fX0_fits q (q.2 0 y1.toNatClampNeg) r14) fun (r15 : Int32) => if r15 = 0 then (zc_let (y4 + (1 : Int64)) fun (x17 : Int64) => zc_let (y6 + (1 : Int32)) fun (x18 : Int32) => fX0_nextFit_L N n q y1 y2 x17 x18) else (some y4)))))))
def fX0_nextFit (N : Nat) (q : zc_Q) (a1 : Int32) (a2 : Int64) : Option (Int64) := Option.bind (fX0_has q a1) fun (r1 : Int32) => if r1 = 0 then (some (-1 : Int64)) else (zc_let (a2 + (1 : Int64)) fun (x3 : Int64) => fX0_nextFit_L N N q a1 a2 x3 (0 : Int32))
theorem iX0_nextFit_X0 : ∀ w ∈ wsX00, w ∈ wsX0_nextFit := fun _ h => List.mem_cons_of_mem _ (List.mem_append_right _ h)
set_option maxHeartbeats 4000000 in
set_option maxRecDepth 100000 in
theorem kX0_nextFit (l : Launch) (G : zc_G) (ad : Nat → Nat) {N : Nat} {q : zc_Q} {a1 : Int32} {a2 : Int64} {r0 : Int64} (hF : fX0_nextFit N q a1 a2 = some r0) : Met l yX0_nextFit wsX0_nextFit ({ frames := 1, cells := 0, slots := 0, locals := 22 }) (zc_Pp G [.ref (ad 2), .int a1, .long a2] (zc_al G ad q)) (vp_Sl (fun r => r = r0)) 0 0 (fun _ => False) := by
  refine Met.ofW (cc := cX0_nextFit) (maxL := 7) (ret := (some .long)) (by decide) rfl ?_
  intro p e s m args below meth c s₁ B hml hv
  obtain ⟨rfl, hP, hK⟩ := hv
  have hx := B.exec
  have hb := B.bytes
  have hr := B.returns
  have hts := atoms_spec (ws := wsX0_nextFit) B.pre
  have hown : s.vm.findClass RX0 = some m.cls := findClass_of_methodNamed B.named
  have hlocks := B.notSynchronized
  have hl := lv_entry ([.ref (ad 2), .int a1, .long a2]) (n := 7) (Nat.le_of_ble_eq_true rfl)
  rw [lg_entry_eq]
  generalize (lg_sl ([.ref (ad 2), .int a1, .long a2]) ++ List.replicate (7 - (lg_sl ([.ref (ad 2), .int a1, .long a2])).length) Slot.unset).toArray = ls at hl ⊢
  have hl : lv_has ls 7 [(0, .ref (ad 2)), (1, .int a1), (2, .long a2)] := hl
  have loop : ∀ (n : Nat) (y1 : Int32) (y2 : Int64) (y4 : Int64) (y6 : Int32) (ls : Array Slot), lv_has ls 7 [(0, .ref (ad 2)), (1, .int y1), (2, .long y2), (4, .long y4), (6, .int y6)] → fX0_nextFit_L N n q y1 y2 y4 y6 = some r0 → W p l e (headSpec wsX0_nextFit ({ frames := 1, cells := 0, slots := 0, locals := 22 })).room s m ([.ref (ad 2), .int a1, .long a2] : List Value).toArray below meth c s.heap [] 0 0 (MQ below (vp_Sl (fun r => r = r0)) ([.ref (ad 2), .int a1, .long a2] : List Value).toArray s 0 0 (fun _ => False)) (F0 m 20 ls []) := by
    intro n
    induction n with
    | zero =>
      intro y1 y2 y4 y6 ls hl hF
      cases hF
    | succ n ih =>
      intro y1 y2 y4 y6 ls hl hF
      rw [fX0_nextFit_L] at hF
      refine lv_iload hx hb dX0_nextFit_20 (lv_at hl 4 rfl) ?_
      refine lv_sipush (v := (1000 : Int32)) hx hb dX0_nextFit_22 (by decide) ?_
      refine lv_icmp_ge (tgt := 134) hx hb dX0_nextFit_25 (by decide) (fun c4 => ?_) (fun c4 => ?_)
      · have hF := zc_pos c4 hF
        refine lv_ldc2 hx hb hown (hts (.constantLong RX0 79 (-1)) (List.mem_of_getElem? (i := 1) rfl)) dX0_nextFit_134 ?_
        exact W.lret hx hb hr (fun t ht hW => ⟨_, rfl, Option.some.inj hF, ht⟩) (fun _ h => by cases h) dX0_nextFit_137
      · have hF := zc_neg c4 hF
        refine lv_aload_n hx hb dX0_nextFit_28 rfl (lv_at hl 0 rfl) ?_
        refine lv_aload_n hx hb dX0_nextFit_29 rfl (lv_at hl 0 rfl) ?_
        refine va_get (D := G.1) (ci := 0) (C := RX0) (T := TX0) (N := 5) hx hb hts iX0_nextFit_X0 hown hK.1 hP 0 rfl rfl 3 (by decide) (hts (.fieldLink RX0 22 "BoardClock$Alarms" "weekdays" "[I") (List.mem_of_getElem? (i := 2) rfl)) (fun _ h9 => h9) rfl dX0_nextFit_30 ?_
        refine lv_iload_n hx hb dX0_nextFit_33 rfl (lv_at hl 1 rfl) ?_
        obtain ⟨hi5, hF⟩ := zc_inE hF
        refine zc_iald hx hb hK.1 hP 3 0 rfl rfl hi5 rfl dX0_nextFit_34 ?_
        refine lv_lload hx hb dX0_nextFit_35 (lv_at hl 3 rfl) ?_
        obtain ⟨r6, er6, hF⟩ := zc_bind hF
        refine zc_ci (va_runSN (As := [.long _]) ⟨hx, hb, hml, hown, hts⟩ (kX2_weekdayOf l G er6) ⟨va_cnB 1 hts gX0_nextFit_X2_weekdayOf_n65 rfl rfl rfl hK.2.2.2.2.1 (hts (.initialized RX2) (List.mem_of_getElem? (i := 14) rfl)) (by decide +kernel) ⟨Nat.le_of_ble_eq_true rfl, Nat.le_of_ble_eq_true rfl⟩, (hts (.static yX2_weekdayOf) (List.mem_of_getElem? (i := 13) rfl)), trivial⟩ (zc_preS hK (show va_P G.1 vwCl [] _ from fun k q h => by simp at h)) rfl rfl hl.1 rfl (lv_room (Nat.le_of_ble_eq_true rfl)) dX0_nextFit_37 ⟨Nat.le_of_ble_eq_true rfl, Nat.le_of_ble_eq_true rfl⟩) ?_
        obtain ⟨r7, er7, hF⟩ := zc_bind hF
        refine zc_ci (va_runV (As := [.int _, .int _]) ⟨hx, hb, hml, hown, hts⟩ (kX0_fits l G ad er7) (cwV 2 hts gX0_nextFit_X0_fits rfl rfl rfl (by decide +kernel) ⟨Nat.le_of_ble_eq_true rfl, Nat.le_of_ble_eq_true rfl⟩) (zc_preV hK hP 0 rfl rfl) rfl rfl hl.1 rfl (lv_room (Nat.le_of_ble_eq_true rfl)) dX0_nextFit_40 ⟨Nat.le_of_ble_eq_true rfl, Nat.le_of_ble_eq_true rfl⟩) ?_
        refine lv_if_ne (tgt := 63) hx hb dX0_nextFit_43 (by decide) (fun c8 => ?_) (fun c8 => ?_)
        · have hF := zc_neg c8 hF
          refine lv_aload_n hx hb dX0_nextFit_63 rfl (lv_at hl 0 rfl) ?_
          refine lv_aload_n hx hb dX0_nextFit_64 rfl (lv_at hl 0 rfl) ?_
          refine va_get (D := G.1) (ci := 0) (C := RX0) (T := TX0) (N := 5) hx hb hts iX0_nextFit_X0 hown hK.1 hP 0 rfl rfl 2 (by decide) (hts (.fieldLink RX0 19 "BoardClock$Alarms" "hours" "[I") (List.mem_of_getElem? (i := 4) rfl)) (fun _ h9 => h9) rfl dX0_nextFit_65 ?_
          refine lv_iload_n hx hb dX0_nextFit_68 rfl (lv_at hl 1 rfl) ?_
          obtain ⟨hi9, hF⟩ := zc_inE hF
          refine zc_iald hx hb hK.1 hP 2 0 rfl rfl hi9 rfl dX0_nextFit_69 ?_
          refine lv_lload hx hb dX0_nextFit_70 (lv_at hl 3 rfl) ?_
          obtain ⟨r10, er10, hF⟩ := zc_bind hF
          refine zc_ci (va_runSN (As := [.long _]) ⟨hx, hb, hml, hown, hts⟩ (kX2_hourOf l G er10) ⟨va_cnB 1 hts gX0_nextFit_X2_hourOf_n73 rfl rfl rfl hK.2.2.2.2.2.1 (hts (.initialized RX2) (List.mem_of_getElem? (i := 14) rfl)) (by decide +kernel) ⟨Nat.le_of_ble_eq_true rfl, Nat.le_of_ble_eq_true rfl⟩, (hts (.static yX2_hourOf) (List.mem_of_getElem? (i := 22) rfl)), trivial⟩ (zc_preS hK (show va_P G.1 vwCl [] _ from fun k q h => by simp at h)) rfl rfl hl.1 rfl (lv_room (Nat.le_of_ble_eq_true rfl)) dX0_nextFit_72 ⟨Nat.le_of_ble_eq_true rfl, Nat.le_of_ble_eq_true rfl⟩) ?_
          obtain ⟨r11, er11, hF⟩ := zc_bind hF
          refine zc_ci (va_runV (As := [.int _, .int _]) ⟨hx, hb, hml, hown, hts⟩ (kX0_fits l G ad er11) (cwV 2 hts gX0_nextFit_X0_fits rfl rfl rfl (by decide +kernel) ⟨Nat.le_of_ble_eq_true rfl, Nat.le_of_ble_eq_true rfl⟩) (zc_preV hK hP 0 rfl rfl) rfl rfl hl.1 rfl (lv_room (Nat.le_of_ble_eq_true rfl)) dX0_nextFit_75 ⟨Nat.le_of_ble_eq_true rfl, Nat.le_of_ble_eq_true rfl⟩) ?_
          refine lv_if_ne (tgt := 98) hx hb dX0_nextFit_78 (by decide) (fun c12 => ?_) (fun c12 => ?_)
          · have hF := zc_neg c12 hF
            refine lv_aload_n hx hb dX0_nextFit_98 rfl (lv_at hl 0 rfl) ?_
            refine lv_aload_n hx hb dX0_nextFit_99 rfl (lv_at hl 0 rfl) ?_
            refine va_get (D := G.1) (ci := 0) (C := RX0) (T := TX0) (N := 5) hx hb hts iX0_nextFit_X0 hown hK.1 hP 0 rfl rfl 1 (by decide) (hts (.fieldLink RX0 15 "BoardClock$Alarms" "minutes" "[I") (List.mem_of_getElem? (i := 6) rfl)) (fun _ h9 => h9) rfl dX0_nextFit_100 ?_
            refine lv_iload_n hx hb dX0_nextFit_103 rfl (lv_at hl 1 rfl) ?_
            obtain ⟨hi13, hF⟩ := zc_inE hF
            refine zc_iald hx hb hK.1 hP 1 0 rfl rfl hi13 rfl dX0_nextFit_104 ?_
            refine lv_lload hx hb dX0_nextFit_105 (lv_at hl 3 rfl) ?_
            obtain ⟨r14, er14, hF⟩ := zc_bind hF
            refine zc_ci (va_runSN (As := [.long _]) ⟨hx, hb, hml, hown, hts⟩ (kX2_minuteOf l G er14) ⟨va_cnB 1 hts gX0_nextFit_X2_minuteOf_n76 rfl rfl rfl hK.2.2.2.2.2.2.1 (hts (.initialized RX2) (List.mem_of_getElem? (i := 14) rfl)) (by decide +kernel) ⟨Nat.le_of_ble_eq_true rfl, Nat.le_of_ble_eq_true rfl⟩, (hts (.static yX2_minuteOf) (List.mem_of_getElem? (i := 26) rfl)), trivial⟩ (zc_preS hK (show va_P G.1 vwCl [] _ from fun k q h => by simp at h)) rfl rfl hl.1 rfl (lv_room (Nat.le_of_ble_eq_true rfl)) dX0_nextFit_107 ⟨Nat.le_of_ble_eq_true rfl, Nat.le_of_ble_eq_true rfl⟩) ?_
            obtain ⟨r15, er15, hF⟩ := zc_bind hF
            refine zc_ci (va_runV (As := [.int _, .int _]) ⟨hx, hb, hml, hown, hts⟩ (kX0_fits l G ad er15) (cwV 2 hts gX0_nextFit_X0_fits rfl rfl rfl (by decide +kernel) ⟨Nat.le_of_ble_eq_true rfl, Nat.le_of_ble_eq_true rfl⟩) (zc_preV hK hP 0 rfl rfl) rfl rfl hl.1 rfl (lv_room (Nat.le_of_ble_eq_true rfl)) dX0_nextFit_110 ⟨Nat.le_of_ble_eq_true rfl, Nat.le_of_ble_eq_true rfl⟩) ?_
            refine lv_if_ne (tgt := 125) hx hb dX0_nextFit_113 (by decide) (fun c16 => ?_) (fun c16 => ?_)
            · have hF := zc_neg c16 hF
              refine lv_lload hx hb dX0_nextFit_125 (lv_at hl 3 rfl) ?_
              exact W.lret hx hb hr (fun t ht hW => ⟨_, rfl, Option.some.inj hF, ht⟩) (fun _ h => by cases h) dX0_nextFit_127
            · have hF := zc_pos c16 hF
              refine lv_lload hx hb dX0_nextFit_116 (lv_at hl 3 rfl) ?_
              refine lv_lconst (v := (1 : Int64)) hx hb dX0_nextFit_118 (by decide) ?_
              refine lv_ladd hx hb dX0_nextFit_119 ?_
              refine lv_topl (fun x17 ex17 => ?_)
              have hF := zc_letE ex17 hF
              refine lv_lstore (lv' := [(4, .long x17), (0, .ref (ad 2)), (1, .int y1), (2, .long y2), (6, .int y6)]) hx hb dX0_nextFit_120 hl (by decide) rfl (fun ls hl => ?_)
              refine lv_goto (tgt := 128) hx hb dX0_nextFit_122 (by decide) ?_
              obtain ⟨x18, ex18⟩ : ∃ y : Int32, y = y6 + (1 : Int32) := ⟨_, rfl⟩
              have hF := zc_letE ex18 hF
              refine lv_iinc (v := x18) (lv' := [(6, .int x18), (4, .long x17), (0, .ref (ad 2)), (1, .int y1), (2, .long y2)]) hx hb dX0_nextFit_128 hl (k := 4) rfl (by rw [ex18]; rfl) (by decide) rfl (fun ls hl => ?_)
              refine lv_goto (tgt := 20) hx hb dX0_nextFit_131 (by decide) ?_
              exact ih y1 y2 x17 x18 ls (lv_sub hl [2, 3, 4, 1, 0] rfl) hF
          · have hF := zc_pos c12 hF
            refine lv_lload hx hb dX0_nextFit_81 (lv_at hl 3 rfl) ?_
            refine lv_ldc2 hx hb hown (hts (.constantLong RX0 56 (60)) (List.mem_of_getElem? (i := 5) rfl)) dX0_nextFit_83 ?_
            refine lv_ldiv hx hb dX0_nextFit_86 (by decide) ?_
            refine lv_lconst (v := (1 : Int64)) hx hb dX0_nextFit_87 (by decide) ?_
            refine lv_ladd hx hb dX0_nextFit_88 ?_
            refine lv_ldc2 hx hb hown (hts (.constantLong RX0 56 (60)) (List.mem_of_getElem? (i := 5) rfl)) dX0_nextFit_89 ?_
            refine lv_lmul hx hb dX0_nextFit_92 ?_
            refine lv_topl (fun x19 ex19 => ?_)
            have hF := zc_letE ex19 hF
            refine lv_lstore (lv' := [(4, .long x19), (0, .ref (ad 2)), (1, .int y1), (2, .long y2), (6, .int y6)]) hx hb dX0_nextFit_93 hl (by decide) rfl (fun ls hl => ?_)
            refine lv_goto (tgt := 128) hx hb dX0_nextFit_95 (by decide) ?_
            obtain ⟨x20, ex20⟩ : ∃ y : Int32, y = y6 + (1 : Int32) := ⟨_, rfl⟩
            have hF := zc_letE ex20 hF
            refine lv_iinc (v := x20) (lv' := [(6, .int x20), (4, .long x19), (0, .ref (ad 2)), (1, .int y1), (2, .long y2)]) hx hb dX0_nextFit_128 hl (k := 4) rfl (by rw [ex20]; rfl) (by decide) rfl (fun ls hl => ?_)
            refine lv_goto (tgt := 20) hx hb dX0_nextFit_131 (by decide) ?_
            exact ih y1 y2 x19 x20 ls (lv_sub hl [2, 3, 4, 1, 0] rfl) hF
        · have hF := zc_pos c8 hF
          refine lv_lload hx hb dX0_nextFit_46 (lv_at hl 3 rfl) ?_
          refine lv_ldc2 hx hb hown (hts (.constantLong RX0 54 (1440)) (List.mem_of_getElem? (i := 3) rfl)) dX0_nextFit_48 ?_
          refine lv_ldiv hx hb dX0_nextFit_51 (by decide) ?_
          refine lv_lconst (v := (1 : Int64)) hx hb dX0_nextFit_52 (by decide) ?_
          refine lv_ladd hx hb dX0_nextFit_53 ?_
          refine lv_ldc2 hx hb hown (hts (.constantLong RX0 54 (1440)) (List.mem_of_getElem? (i := 3) rfl)) dX0_nextFit_54 ?_
          refine lv_lmul hx hb dX0_nextFit_57 ?_
          refine lv_topl (fun x21 ex21 => ?_)
          have hF := zc_letE ex21 hF
          refine lv_lstore (lv' := [(4, .long x21), (0, .ref (ad 2)), (1, .int y1), (2, .long y2), (6, .int y6)]) hx hb dX0_nextFit_58 hl (by decide) rfl (fun ls hl => ?_)
          refine lv_goto (tgt := 128) hx hb dX0_nextFit_60 (by decide) ?_
          obtain ⟨x22, ex22⟩ : ∃ y : Int32, y = y6 + (1 : Int32) := ⟨_, rfl⟩
          have hF := zc_letE ex22 hF
          refine lv_iinc (v := x22) (lv' := [(6, .int x22), (4, .long x21), (0, .ref (ad 2)), (1, .int y1), (2, .long y2)]) hx hb dX0_nextFit_128 hl (k := 4) rfl (by rw [ex22]; rfl) (by decide) rfl (fun ls hl => ?_)
          refine lv_goto (tgt := 20) hx hb dX0_nextFit_131 (by decide) ?_
          exact ih y1 y2 x21 x22 ls (lv_sub hl [2, 3, 4, 1, 0] rfl) hF
  refine lv_aload_n hx hb dX0_nextFit_0 rfl (lv_at hl 0 rfl) ?_
  refine lv_iload_n hx hb dX0_nextFit_1 rfl (lv_at hl 1 rfl) ?_
  obtain ⟨r1, er1, hF⟩ := zc_bind hF
  refine zc_ci (va_runV (As := [.int _]) ⟨hx, hb, hml, hown, hts⟩ (kX0_has l G ad er1) (cwV 1 hts gX0_nextFit_X0_has rfl rfl rfl (by decide +kernel) ⟨Nat.le_of_ble_eq_true rfl, Nat.le_of_ble_eq_true rfl⟩) (zc_preV hK hP 0 rfl rfl) rfl rfl hl.1 rfl (lv_room (Nat.le_of_ble_eq_true rfl)) dX0_nextFit_2 ⟨Nat.le_of_ble_eq_true rfl, Nat.le_of_ble_eq_true rfl⟩) ?_
  refine lv_if_ne (tgt := 12) hx hb dX0_nextFit_5 (by decide) (fun c2 => ?_) (fun c2 => ?_)
  · have hF := zc_neg c2 hF
    refine lv_lload_n hx hb dX0_nextFit_12 rfl (lv_at hl 2 rfl) ?_
    refine lv_lconst (v := (1 : Int64)) hx hb dX0_nextFit_13 (by decide) ?_
    refine lv_ladd hx hb dX0_nextFit_14 ?_
    refine lv_topl (fun x3 ex3 => ?_)
    have hF := zc_letE ex3 hF
    refine lv_lstore (lv' := [(4, .long x3), (0, .ref (ad 2)), (1, .int a1), (2, .long a2)]) hx hb dX0_nextFit_15 hl (by decide) rfl (fun ls hl => ?_)
    refine lv_iconst (v := (0 : Int32)) hx hb dX0_nextFit_17 (by decide) ?_
    refine lv_istore (lv' := [(6, .int (0 : Int32)), (4, .long x3), (0, .ref (ad 2)), (1, .int a1), (2, .long a2)]) hx hb dX0_nextFit_18 hl (by decide) rfl (fun ls hl => ?_)
    exact loop N a1 a2 x3 (0 : Int32) ls (lv_sub hl [2, 3, 4, 1, 0] rfl) hF
  · have hF := zc_pos c2 hF
    refine lv_ldc2 hx hb hown (hts (.constantLong RX0 79 (-1)) (List.mem_of_getElem? (i := 1) rfl)) dX0_nextFit_8 ?_
    exact W.lret hx hb hr (fun t ht hW => ⟨_, rfl, Option.some.inj hF, ht⟩) (fun _ h => by cases h) dX0_nextFit_11
