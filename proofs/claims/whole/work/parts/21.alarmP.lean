def fX0_has (q : zc_Q) (a1 : Int32) : Option (Int32) := if a1 < 0 then (some (0 : Int32)) else (if (q.1) ≤ a1 then (some (0 : Int32)) else (if (6 : Int32) ≤ a1 then (some (0 : Int32)) else (some (1 : Int32))))
theorem iX0_has_X0 : ∀ w ∈ wsX00, w ∈ wsX0_has := fun _ h => List.mem_cons_of_mem _ (List.mem_append_right _ h)
set_option maxHeartbeats 4000000 in
set_option maxRecDepth 100000 in
theorem kX0_has (l : Launch) (G : zc_G) (ad : Nat → Nat) {q : zc_Q} {a1 : Int32} {r0 : Int32} (hF : fX0_has q a1 = some r0) : Met l yX0_has wsX0_has ({ frames := 0, cells := 0, slots := 0, locals := 0 }) (zc_Pp G [.ref (ad 2), .int a1] (zc_al G ad q)) (vp_Si (fun r => r = r0)) 0 0 (fun _ => False) := by
  refine Met.ofW (cc := cX0_has) (maxL := 2) (ret := (some .boolean)) (by decide) rfl ?_
  intro p e s m args below meth c s₁ B hml hv
  obtain ⟨rfl, hP, hK⟩ := hv
  have hx := B.exec
  have hb := B.bytes
  have hr := B.returns
  have hts := atoms_spec (ws := wsX0_has) B.pre
  have hown : s.vm.findClass RX0 = some m.cls := findClass_of_methodNamed B.named
  have hlocks := B.notSynchronized
  have hl := lv_entry ([.ref (ad 2), .int a1]) (n := 2) (Nat.le_of_ble_eq_true rfl)
  rw [lg_entry_eq]
  generalize (lg_sl ([.ref (ad 2), .int a1]) ++ List.replicate (2 - (lg_sl ([.ref (ad 2), .int a1])).length) Slot.unset).toArray = ls at hl ⊢
  have hl : lv_has ls 2 [(0, .ref (ad 2)), (1, .int a1)] := hl
  refine lv_iload_n hx hb dX0_has_0 rfl (lv_at hl 1 rfl) ?_
  refine lv_if_lt (tgt := 22) hx hb dX0_has_1 (by decide) (fun c1 => ?_) (fun c1 => ?_)
  · have hF := zc_pos c1 hF
    refine lv_iconst (v := (0 : Int32)) hx hb dX0_has_22 (by decide) ?_
    exact W.zret hx hb hr (by decide) (fun t ht hW => ⟨_, rfl, Option.some.inj hF, ht⟩) (fun _ h => by cases h) dX0_has_23
  · have hF := zc_neg c1 hF
    refine lv_iload_n hx hb dX0_has_4 rfl (lv_at hl 1 rfl) ?_
    refine lv_aload_n hx hb dX0_has_5 rfl (lv_at hl 0 rfl) ?_
    refine va_get (D := G.1) (ci := 0) (C := RX0) (T := TX0) (N := 5) hx hb hts iX0_has_X0 hown hK.1 hP 0 rfl rfl 0 (by decide) (hts (.fieldLink RX0 9 "BoardClock$Alarms" "count" "I") (List.mem_of_getElem? (i := 1) rfl)) (fun _ h9 => h9) rfl dX0_has_6 ?_
    refine lv_icmp_ge (tgt := 22) hx hb dX0_has_9 (by decide) (fun c2 => ?_) (fun c2 => ?_)
    · have hF := zc_pos c2 hF
      refine lv_iconst (v := (0 : Int32)) hx hb dX0_has_22 (by decide) ?_
      exact W.zret hx hb hr (by decide) (fun t ht hW => ⟨_, rfl, Option.some.inj hF, ht⟩) (fun _ h => by cases h) dX0_has_23
    · have hF := zc_neg c2 hF
      refine lv_iload_n hx hb dX0_has_12 rfl (lv_at hl 1 rfl) ?_
      refine lv_bipush (v := (6 : Int32)) hx hb dX0_has_13 (by decide) ?_
      refine lv_icmp_ge (tgt := 22) hx hb dX0_has_15 (by decide) (fun c3 => ?_) (fun c3 => ?_)
      · have hF := zc_pos c3 hF
        refine lv_iconst (v := (0 : Int32)) hx hb dX0_has_22 (by decide) ?_
        exact W.zret hx hb hr (by decide) (fun t ht hW => ⟨_, rfl, Option.some.inj hF, ht⟩) (fun _ h => by cases h) dX0_has_23
      · have hF := zc_neg c3 hF
        refine lv_iconst (v := (1 : Int32)) hx hb dX0_has_18 (by decide) ?_
        refine lv_goto (tgt := 23) hx hb dX0_has_19 (by decide) ?_
        exact W.zret hx hb hr (by decide) (fun t ht hW => ⟨_, rfl, Option.some.inj hF, ht⟩) (fun _ h => by cases h) dX0_has_23
def fX0_fitsDay (q : zc_Q) (a1 : Int32) (a2 : Int64) : Option (Int32) := Option.bind (fX0_has q a1) fun (r1 : Int32) => if r1 = 0 then (some (0 : Int32)) else (zc_in a1 6 (if (q.2 2 a1.toNatClampNeg) = (-1 : Int32) then (some (1 : Int32)) else (zc_in a1 6 (Option.bind (fX2_weekdayOf a2) fun (r6 : Int32) => if (q.2 2 a1.toNatClampNeg) = r6 then (some (1 : Int32)) else (some (0 : Int32))))))
theorem iX0_fitsDay_X0 : ∀ w ∈ wsX00, w ∈ wsX0_fitsDay := fun _ h => List.mem_cons_of_mem _ (List.mem_append_right _ h)
set_option maxHeartbeats 4000000 in
set_option maxRecDepth 100000 in
theorem kX0_fitsDay (l : Launch) (G : zc_G) (ad : Nat → Nat) {q : zc_Q} {a1 : Int32} {a2 : Int64} {r0 : Int32} (hF : fX0_fitsDay q a1 a2 = some r0) : Met l yX0_fitsDay wsX0_fitsDay ({ frames := 1, cells := 0, slots := 0, locals := 21 }) (zc_Pp G [.ref (ad 2), .int a1, .long a2] (zc_al G ad q)) (vp_Si (fun r => r = r0)) 0 0 (fun _ => False) := by
  refine Met.ofW (cc := cX0_fitsDay) (maxL := 4) (ret := (some .boolean)) (by decide) rfl ?_
  intro p e s m args below meth c s₁ B hml hv
  obtain ⟨rfl, hP, hK⟩ := hv
  have hx := B.exec
  have hb := B.bytes
  have hr := B.returns
  have hts := atoms_spec (ws := wsX0_fitsDay) B.pre
  have hown : s.vm.findClass RX0 = some m.cls := findClass_of_methodNamed B.named
  have hlocks := B.notSynchronized
  have hl := lv_entry ([.ref (ad 2), .int a1, .long a2]) (n := 4) (Nat.le_of_ble_eq_true rfl)
  rw [lg_entry_eq]
  generalize (lg_sl ([.ref (ad 2), .int a1, .long a2]) ++ List.replicate (4 - (lg_sl ([.ref (ad 2), .int a1, .long a2])).length) Slot.unset).toArray = ls at hl ⊢
  have hl : lv_has ls 4 [(0, .ref (ad 2)), (1, .int a1), (2, .long a2)] := hl
  refine lv_aload_n hx hb dX0_fitsDay_0 rfl (lv_at hl 0 rfl) ?_
  refine lv_iload_n hx hb dX0_fitsDay_1 rfl (lv_at hl 1 rfl) ?_
  obtain ⟨r1, er1, hF⟩ := zc_bind hF
  refine zc_ci (va_runV (As := [.int _]) ⟨hx, hb, hml, hown, hts⟩ (kX0_has l G ad er1) (cwV 1 hts gX0_fitsDay_X0_has rfl rfl rfl (by decide +kernel) ⟨Nat.le_of_ble_eq_true rfl, Nat.le_of_ble_eq_true rfl⟩) (zc_preV hK hP 0 rfl rfl) rfl rfl hl.1 rfl (lv_room (Nat.le_of_ble_eq_true rfl)) dX0_fitsDay_2 ⟨Nat.le_of_ble_eq_true rfl, Nat.le_of_ble_eq_true rfl⟩) ?_
  refine lv_if_eq (tgt := 35) hx hb dX0_fitsDay_5 (by decide) (fun c2 => ?_) (fun c2 => ?_)
  · have hF := zc_pos c2 hF
    refine lv_iconst (v := (0 : Int32)) hx hb dX0_fitsDay_35 (by decide) ?_
    exact W.zret hx hb hr (by decide) (fun t ht hW => ⟨_, rfl, Option.some.inj hF, ht⟩) (fun _ h => by cases h) dX0_fitsDay_36
  · have hF := zc_neg c2 hF
    refine lv_aload_n hx hb dX0_fitsDay_8 rfl (lv_at hl 0 rfl) ?_
    refine va_get (D := G.1) (ci := 0) (C := RX0) (T := TX0) (N := 5) hx hb hts iX0_fitsDay_X0 hown hK.1 hP 0 rfl rfl 3 (by decide) (hts (.fieldLink RX0 22 "BoardClock$Alarms" "weekdays" "[I") (List.mem_of_getElem? (i := 1) rfl)) (fun _ h9 => h9) rfl dX0_fitsDay_9 ?_
    refine lv_iload_n hx hb dX0_fitsDay_12 rfl (lv_at hl 1 rfl) ?_
    obtain ⟨hi3, hF⟩ := zc_inE hF
    refine zc_iald hx hb hK.1 hP 3 0 rfl rfl hi3 rfl dX0_fitsDay_13 ?_
    refine lv_iconst (v := (-1 : Int32)) hx hb dX0_fitsDay_14 (by decide) ?_
    refine lv_icmp_eq (tgt := 31) hx hb dX0_fitsDay_15 (by decide) (fun c4 => ?_) (fun c4 => ?_)
    · have hF := zc_pos c4 hF
      refine lv_iconst (v := (1 : Int32)) hx hb dX0_fitsDay_31 (by decide) ?_
      refine lv_goto (tgt := 36) hx hb dX0_fitsDay_32 (by decide) ?_
      exact W.zret hx hb hr (by decide) (fun t ht hW => ⟨_, rfl, Option.some.inj hF, ht⟩) (fun _ h => by cases h) dX0_fitsDay_36
    · have hF := zc_neg c4 hF
      refine lv_aload_n hx hb dX0_fitsDay_18 rfl (lv_at hl 0 rfl) ?_
      refine va_get (D := G.1) (ci := 0) (C := RX0) (T := TX0) (N := 5) hx hb hts iX0_fitsDay_X0 hown hK.1 hP 0 rfl rfl 3 (by decide) (hts (.fieldLink RX0 22 "BoardClock$Alarms" "weekdays" "[I") (List.mem_of_getElem? (i := 1) rfl)) (fun _ h9 => h9) rfl dX0_fitsDay_19 ?_
      refine lv_iload_n hx hb dX0_fitsDay_22 rfl (lv_at hl 1 rfl) ?_
      obtain ⟨hi5, hF⟩ := zc_inE hF
      refine zc_iald hx hb hK.1 hP 3 0 rfl rfl hi5 rfl dX0_fitsDay_23 ?_
      refine lv_lload_n hx hb dX0_fitsDay_24 rfl (lv_at hl 2 rfl) ?_
      obtain ⟨r6, er6, hF⟩ := zc_bind hF
      refine zc_ci (va_runSN (As := [.long _]) ⟨hx, hb, hml, hown, hts⟩ (kX2_weekdayOf l G er6) ⟨va_cnB 1 hts gX0_fitsDay_X2_weekdayOf_n66 rfl rfl rfl hK.2.2.2.2.1 (hts (.initialized RX2) (List.mem_of_getElem? (i := 9) rfl)) (by decide +kernel) ⟨Nat.le_of_ble_eq_true rfl, Nat.le_of_ble_eq_true rfl⟩, (hts (.static yX2_weekdayOf) (List.mem_of_getElem? (i := 8) rfl)), trivial⟩ (zc_preS hK (show va_P G.1 vwCl [] _ from fun k q h => by simp at h)) rfl rfl hl.1 rfl (lv_room (Nat.le_of_ble_eq_true rfl)) dX0_fitsDay_25 ⟨Nat.le_of_ble_eq_true rfl, Nat.le_of_ble_eq_true rfl⟩) ?_
      refine lv_icmp_ne (tgt := 35) hx hb dX0_fitsDay_28 (by decide) (fun c7 => ?_) (fun c7 => ?_)
      · have hF := zc_neg c7 hF
        refine lv_iconst (v := (0 : Int32)) hx hb dX0_fitsDay_35 (by decide) ?_
        exact W.zret hx hb hr (by decide) (fun t ht hW => ⟨_, rfl, Option.some.inj hF, ht⟩) (fun _ h => by cases h) dX0_fitsDay_36
      · have hF := zc_pos c7 hF
        refine lv_iconst (v := (1 : Int32)) hx hb dX0_fitsDay_31 (by decide) ?_
        refine lv_goto (tgt := 36) hx hb dX0_fitsDay_32 (by decide) ?_
        exact W.zret hx hb hr (by decide) (fun t ht hW => ⟨_, rfl, Option.some.inj hF, ht⟩) (fun _ h => by cases h) dX0_fitsDay_36
def fX0_fitsHour (q : zc_Q) (a1 : Int32) (a2 : Int64) : Option (Int32) := Option.bind (fX0_has q a1) fun (r1 : Int32) => if r1 = 0 then (some (0 : Int32)) else (zc_in a1 6 (if (q.2 1 a1.toNatClampNeg) = (-1 : Int32) then (some (1 : Int32)) else (zc_in a1 6 (Option.bind (fX2_hourOf a2) fun (r6 : Int32) => if (q.2 1 a1.toNatClampNeg) = r6 then (some (1 : Int32)) else (some (0 : Int32))))))
theorem iX0_fitsHour_X0 : ∀ w ∈ wsX00, w ∈ wsX0_fitsHour := fun _ h => List.mem_cons_of_mem _ (List.mem_append_right _ h)
set_option maxHeartbeats 4000000 in
set_option maxRecDepth 100000 in
theorem kX0_fitsHour (l : Launch) (G : zc_G) (ad : Nat → Nat) {q : zc_Q} {a1 : Int32} {a2 : Int64} {r0 : Int32} (hF : fX0_fitsHour q a1 a2 = some r0) : Met l yX0_fitsHour wsX0_fitsHour ({ frames := 1, cells := 0, slots := 0, locals := 21 }) (zc_Pp G [.ref (ad 2), .int a1, .long a2] (zc_al G ad q)) (vp_Si (fun r => r = r0)) 0 0 (fun _ => False) := by
  refine Met.ofW (cc := cX0_fitsHour) (maxL := 4) (ret := (some .boolean)) (by decide) rfl ?_
  intro p e s m args below meth c s₁ B hml hv
  obtain ⟨rfl, hP, hK⟩ := hv
  have hx := B.exec
  have hb := B.bytes
  have hr := B.returns
  have hts := atoms_spec (ws := wsX0_fitsHour) B.pre
  have hown : s.vm.findClass RX0 = some m.cls := findClass_of_methodNamed B.named
  have hlocks := B.notSynchronized
  have hl := lv_entry ([.ref (ad 2), .int a1, .long a2]) (n := 4) (Nat.le_of_ble_eq_true rfl)
  rw [lg_entry_eq]
  generalize (lg_sl ([.ref (ad 2), .int a1, .long a2]) ++ List.replicate (4 - (lg_sl ([.ref (ad 2), .int a1, .long a2])).length) Slot.unset).toArray = ls at hl ⊢
  have hl : lv_has ls 4 [(0, .ref (ad 2)), (1, .int a1), (2, .long a2)] := hl
  refine lv_aload_n hx hb dX0_fitsHour_0 rfl (lv_at hl 0 rfl) ?_
  refine lv_iload_n hx hb dX0_fitsHour_1 rfl (lv_at hl 1 rfl) ?_
  obtain ⟨r1, er1, hF⟩ := zc_bind hF
  refine zc_ci (va_runV (As := [.int _]) ⟨hx, hb, hml, hown, hts⟩ (kX0_has l G ad er1) (cwV 1 hts gX0_fitsHour_X0_has rfl rfl rfl (by decide +kernel) ⟨Nat.le_of_ble_eq_true rfl, Nat.le_of_ble_eq_true rfl⟩) (zc_preV hK hP 0 rfl rfl) rfl rfl hl.1 rfl (lv_room (Nat.le_of_ble_eq_true rfl)) dX0_fitsHour_2 ⟨Nat.le_of_ble_eq_true rfl, Nat.le_of_ble_eq_true rfl⟩) ?_
  refine lv_if_eq (tgt := 35) hx hb dX0_fitsHour_5 (by decide) (fun c2 => ?_) (fun c2 => ?_)
  · have hF := zc_pos c2 hF
    refine lv_iconst (v := (0 : Int32)) hx hb dX0_fitsHour_35 (by decide) ?_
    exact W.zret hx hb hr (by decide) (fun t ht hW => ⟨_, rfl, Option.some.inj hF, ht⟩) (fun _ h => by cases h) dX0_fitsHour_36
  · have hF := zc_neg c2 hF
    refine lv_aload_n hx hb dX0_fitsHour_8 rfl (lv_at hl 0 rfl) ?_
    refine va_get (D := G.1) (ci := 0) (C := RX0) (T := TX0) (N := 5) hx hb hts iX0_fitsHour_X0 hown hK.1 hP 0 rfl rfl 2 (by decide) (hts (.fieldLink RX0 19 "BoardClock$Alarms" "hours" "[I") (List.mem_of_getElem? (i := 1) rfl)) (fun _ h9 => h9) rfl dX0_fitsHour_9 ?_
    refine lv_iload_n hx hb dX0_fitsHour_12 rfl (lv_at hl 1 rfl) ?_
    obtain ⟨hi3, hF⟩ := zc_inE hF
    refine zc_iald hx hb hK.1 hP 2 0 rfl rfl hi3 rfl dX0_fitsHour_13 ?_
    refine lv_iconst (v := (-1 : Int32)) hx hb dX0_fitsHour_14 (by decide) ?_
    refine lv_icmp_eq (tgt := 31) hx hb dX0_fitsHour_15 (by decide) (fun c4 => ?_) (fun c4 => ?_)
    · have hF := zc_pos c4 hF
      refine lv_iconst (v := (1 : Int32)) hx hb dX0_fitsHour_31 (by decide) ?_
      refine lv_goto (tgt := 36) hx hb dX0_fitsHour_32 (by decide) ?_
      exact W.zret hx hb hr (by decide) (fun t ht hW => ⟨_, rfl, Option.some.inj hF, ht⟩) (fun _ h => by cases h) dX0_fitsHour_36
    · have hF := zc_neg c4 hF
      refine lv_aload_n hx hb dX0_fitsHour_18 rfl (lv_at hl 0 rfl) ?_
      refine va_get (D := G.1) (ci := 0) (C := RX0) (T := TX0) (N := 5) hx hb hts iX0_fitsHour_X0 hown hK.1 hP 0 rfl rfl 2 (by decide) (hts (.fieldLink RX0 19 "BoardClock$Alarms" "hours" "[I") (List.mem_of_getElem? (i := 1) rfl)) (fun _ h9 => h9) rfl dX0_fitsHour_19 ?_
      refine lv_iload_n hx hb dX0_fitsHour_22 rfl (lv_at hl 1 rfl) ?_
      obtain ⟨hi5, hF⟩ := zc_inE hF
      refine zc_iald hx hb hK.1 hP 2 0 rfl rfl hi5 rfl dX0_fitsHour_23 ?_
      refine lv_lload_n hx hb dX0_fitsHour_24 rfl (lv_at hl 2 rfl) ?_
      obtain ⟨r6, er6, hF⟩ := zc_bind hF
      refine zc_ci (va_runSN (As := [.long _]) ⟨hx, hb, hml, hown, hts⟩ (kX2_hourOf l G er6) ⟨va_cnB 1 hts gX0_fitsHour_X2_hourOf_n70 rfl rfl rfl hK.2.2.2.2.2.1 (hts (.initialized RX2) (List.mem_of_getElem? (i := 9) rfl)) (by decide +kernel) ⟨Nat.le_of_ble_eq_true rfl, Nat.le_of_ble_eq_true rfl⟩, (hts (.static yX2_hourOf) (List.mem_of_getElem? (i := 8) rfl)), trivial⟩ (zc_preS hK (show va_P G.1 vwCl [] _ from fun k q h => by simp at h)) rfl rfl hl.1 rfl (lv_room (Nat.le_of_ble_eq_true rfl)) dX0_fitsHour_25 ⟨Nat.le_of_ble_eq_true rfl, Nat.le_of_ble_eq_true rfl⟩) ?_
      refine lv_icmp_ne (tgt := 35) hx hb dX0_fitsHour_28 (by decide) (fun c7 => ?_) (fun c7 => ?_)
      · have hF := zc_neg c7 hF
        refine lv_iconst (v := (0 : Int32)) hx hb dX0_fitsHour_35 (by decide) ?_
        exact W.zret hx hb hr (by decide) (fun t ht hW => ⟨_, rfl, Option.some.inj hF, ht⟩) (fun _ h => by cases h) dX0_fitsHour_36
      · have hF := zc_pos c7 hF
        refine lv_iconst (v := (1 : Int32)) hx hb dX0_fitsHour_31 (by decide) ?_
        refine lv_goto (tgt := 36) hx hb dX0_fitsHour_32 (by decide) ?_
        exact W.zret hx hb hr (by decide) (fun t ht hW => ⟨_, rfl, Option.some.inj hF, ht⟩) (fun _ h => by cases h) dX0_fitsHour_36
def fX0_fitsMinute (q : zc_Q) (a1 : Int32) (a2 : Int64) : Option (Int32) := Option.bind (fX0_has q a1) fun (r1 : Int32) => if r1 = 0 then (some (0 : Int32)) else (zc_in a1 6 (if (q.2 0 a1.toNatClampNeg) = (-1 : Int32) then (some (1 : Int32)) else (zc_in a1 6 (Option.bind (fX2_minuteOf a2) fun (r6 : Int32) => if (q.2 0 a1.toNatClampNeg) = r6 then (some (1 : Int32)) else (some (0 : Int32))))))
theorem iX0_fitsMinute_X0 : ∀ w ∈ wsX00, w ∈ wsX0_fitsMinute := fun _ h => List.mem_cons_of_mem _ (List.mem_append_right _ h)
set_option maxHeartbeats 4000000 in
set_option maxRecDepth 100000 in
theorem kX0_fitsMinute (l : Launch) (G : zc_G) (ad : Nat → Nat) {q : zc_Q} {a1 : Int32} {a2 : Int64} {r0 : Int32} (hF : fX0_fitsMinute q a1 a2 = some r0) : Met l yX0_fitsMinute wsX0_fitsMinute ({ frames := 1, cells := 0, slots := 0, locals := 21 }) (zc_Pp G [.ref (ad 2), .int a1, .long a2] (zc_al G ad q)) (vp_Si (fun r => r = r0)) 0 0 (fun _ => False) := by
  refine Met.ofW (cc := cX0_fitsMinute) (maxL := 4) (ret := (some .boolean)) (by decide) rfl ?_
  intro p e s m args below meth c s₁ B hml hv
  obtain ⟨rfl, hP, hK⟩ := hv
  have hx := B.exec
  have hb := B.bytes
  have hr := B.returns
  have hts := atoms_spec (ws := wsX0_fitsMinute) B.pre
  have hown : s.vm.findClass RX0 = some m.cls := findClass_of_methodNamed B.named
  have hlocks := B.notSynchronized
  have hl := lv_entry ([.ref (ad 2), .int a1, .long a2]) (n := 4) (Nat.le_of_ble_eq_true rfl)
  rw [lg_entry_eq]
  generalize (lg_sl ([.ref (ad 2), .int a1, .long a2]) ++ List.replicate (4 - (lg_sl ([.ref (ad 2), .int a1, .long a2])).length) Slot.unset).toArray = ls at hl ⊢
  have hl : lv_has ls 4 [(0, .ref (ad 2)), (1, .int a1), (2, .long a2)] := hl
  refine lv_aload_n hx hb dX0_fitsMinute_0 rfl (lv_at hl 0 rfl) ?_
  refine lv_iload_n hx hb dX0_fitsMinute_1 rfl (lv_at hl 1 rfl) ?_
  obtain ⟨r1, er1, hF⟩ := zc_bind hF
  refine zc_ci (va_runV (As := [.int _]) ⟨hx, hb, hml, hown, hts⟩ (kX0_has l G ad er1) (cwV 1 hts gX0_fitsMinute_X0_has rfl rfl rfl (by decide +kernel) ⟨Nat.le_of_ble_eq_true rfl, Nat.le_of_ble_eq_true rfl⟩) (zc_preV hK hP 0 rfl rfl) rfl rfl hl.1 rfl (lv_room (Nat.le_of_ble_eq_true rfl)) dX0_fitsMinute_2 ⟨Nat.le_of_ble_eq_true rfl, Nat.le_of_ble_eq_true rfl⟩) ?_
  refine lv_if_eq (tgt := 35) hx hb dX0_fitsMinute_5 (by decide) (fun c2 => ?_) (fun c2 => ?_)
  · have hF := zc_pos c2 hF
    refine lv_iconst (v := (0 : Int32)) hx hb dX0_fitsMinute_35 (by decide) ?_
    exact W.zret hx hb hr (by decide) (fun t ht hW => ⟨_, rfl, Option.some.inj hF, ht⟩) (fun _ h => by cases h) dX0_fitsMinute_36
  · have hF := zc_neg c2 hF
    refine lv_aload_n hx hb dX0_fitsMinute_8 rfl (lv_at hl 0 rfl) ?_
    refine va_get (D := G.1) (ci := 0) (C := RX0) (T := TX0) (N := 5) hx hb hts iX0_fitsMinute_X0 hown hK.1 hP 0 rfl rfl 1 (by decide) (hts (.fieldLink RX0 15 "BoardClock$Alarms" "minutes" "[I") (List.mem_of_getElem? (i := 1) rfl)) (fun _ h9 => h9) rfl dX0_fitsMinute_9 ?_
    refine lv_iload_n hx hb dX0_fitsMinute_12 rfl (lv_at hl 1 rfl) ?_
    obtain ⟨hi3, hF⟩ := zc_inE hF
    refine zc_iald hx hb hK.1 hP 1 0 rfl rfl hi3 rfl dX0_fitsMinute_13 ?_
    refine lv_iconst (v := (-1 : Int32)) hx hb dX0_fitsMinute_14 (by decide) ?_
    refine lv_icmp_eq (tgt := 31) hx hb dX0_fitsMinute_15 (by decide) (fun c4 => ?_) (fun c4 => ?_)
    · have hF := zc_pos c4 hF
      refine lv_iconst (v := (1 : Int32)) hx hb dX0_fitsMinute_31 (by decide) ?_
      refine lv_goto (tgt := 36) hx hb dX0_fitsMinute_32 (by decide) ?_
      exact W.zret hx hb hr (by decide) (fun t ht hW => ⟨_, rfl, Option.some.inj hF, ht⟩) (fun _ h => by cases h) dX0_fitsMinute_36
    · have hF := zc_neg c4 hF
      refine lv_aload_n hx hb dX0_fitsMinute_18 rfl (lv_at hl 0 rfl) ?_
      refine va_get (D := G.1) (ci := 0) (C := RX0) (T := TX0) (N := 5) hx hb hts iX0_fitsMinute_X0 hown hK.1 hP 0 rfl rfl 1 (by decide) (hts (.fieldLink RX0 15 "BoardClock$Alarms" "minutes" "[I") (List.mem_of_getElem? (i := 1) rfl)) (fun _ h9 => h9) rfl dX0_fitsMinute_19 ?_
      refine lv_iload_n hx hb dX0_fitsMinute_22 rfl (lv_at hl 1 rfl) ?_
      obtain ⟨hi5, hF⟩ := zc_inE hF
      refine zc_iald hx hb hK.1 hP 1 0 rfl rfl hi5 rfl dX0_fitsMinute_23 ?_
      refine lv_lload_n hx hb dX0_fitsMinute_24 rfl (lv_at hl 2 rfl) ?_
      obtain ⟨r6, er6, hF⟩ := zc_bind hF
      refine zc_ci (va_runSN (As := [.long _]) ⟨hx, hb, hml, hown, hts⟩ (kX2_minuteOf l G er6) ⟨va_cnB 1 hts gX0_fitsMinute_X2_minuteOf_n73 rfl rfl rfl hK.2.2.2.2.2.2.1 (hts (.initialized RX2) (List.mem_of_getElem? (i := 9) rfl)) (by decide +kernel) ⟨Nat.le_of_ble_eq_true rfl, Nat.le_of_ble_eq_true rfl⟩, (hts (.static yX2_minuteOf) (List.mem_of_getElem? (i := 8) rfl)), trivial⟩ (zc_preS hK (show va_P G.1 vwCl [] _ from fun k q h => by simp at h)) rfl rfl hl.1 rfl (lv_room (Nat.le_of_ble_eq_true rfl)) dX0_fitsMinute_25 ⟨Nat.le_of_ble_eq_true rfl, Nat.le_of_ble_eq_true rfl⟩) ?_
      refine lv_icmp_ne (tgt := 35) hx hb dX0_fitsMinute_28 (by decide) (fun c7 => ?_) (fun c7 => ?_)
      · have hF := zc_neg c7 hF
        refine lv_iconst (v := (0 : Int32)) hx hb dX0_fitsMinute_35 (by decide) ?_
        exact W.zret hx hb hr (by decide) (fun t ht hW => ⟨_, rfl, Option.some.inj hF, ht⟩) (fun _ h => by cases h) dX0_fitsMinute_36
      · have hF := zc_pos c7 hF
        refine lv_iconst (v := (1 : Int32)) hx hb dX0_fitsMinute_31 (by decide) ?_
        refine lv_goto (tgt := 36) hx hb dX0_fitsMinute_32 (by decide) ?_
        exact W.zret hx hb hr (by decide) (fun t ht hW => ⟨_, rfl, Option.some.inj hF, ht⟩) (fun _ h => by cases h) dX0_fitsMinute_36
def fX0_countFitting_L (N : Nat) : Nat → zc_Q → Int32 → Int64 → Int64 → Int32 → Int64 → Option (Int32)
  | 0, _, _, _, _, _, _ => none
  | n + 1, q, y1, y2, y4, y6, y7 => if 0 < (lg_cmp y7 y4) then (some y6) else (Option.bind (fX0_fitsDay q y1 y7) fun (r3 : Int32) => if r3 = 0 then (zc_let (y7 + (1 : Int64)) fun (x5 : Int64) => fX0_countFitting_L N n q y1 y2 y4 y6 x5) else (Option.bind (fX0_fitsHour q y1 y7) fun (r6 : Int32) => if r6 = 0 then (zc_let (y7 + (1 : Int64)) fun (x8 : Int64) => fX0_countFitting_L N n q y1 y2 y4 y6 x8) else (Option.bind (fX0_fitsMinute q y1 y7) fun (r9 : Int32) => if r9 = 0 then (zc_let (y7 + (1 : Int64)) fun (x11 : Int64) => fX0_countFitting_L N n q y1 y2 y4 y6 x11) else (zc_let (y6 + (1 : Int32)) fun (x12 : Int32) => zc_let (y7 + (1 : Int64)) fun (x13 : Int64) => fX0_countFitting_L N n q y1 y2 y4 x12 x13))))
def fX0_countFitting (N : Nat) (q : zc_Q) (a1 : Int32) (a2 : Int64) (a3 : Int64) : Option (Int32) := zc_let (a2 + (1 : Int64)) fun (x1 : Int64) => fX0_countFitting_L N N q a1 a2 a3 (0 : Int32) x1
set_option maxHeartbeats 4000000 in
set_option maxRecDepth 100000 in
theorem kX0_countFitting (l : Launch) (G : zc_G) (ad : Nat → Nat) {N : Nat} {q : zc_Q} {a1 : Int32} {a2 : Int64} {a3 : Int64} {r0 : Int32} (hF : fX0_countFitting N q a1 a2 a3 = some r0) : Met l yX0_countFitting wsX0_countFitting ({ frames := 2, cells := 0, slots := 0, locals := 44 }) (zc_Pp G [.ref (ad 2), .int a1, .long a2, .long a3] (zc_al G ad q)) (vp_Si (fun r => r = r0)) 0 0 (fun _ => False) := by
  refine Met.ofW (cc := cX0_countFitting) (maxL := 9) (ret := (some .int)) (by decide) rfl ?_
  intro p e s m args below meth c s₁ B hml hv
  obtain ⟨rfl, hP, hK⟩ := hv
  have hx := B.exec
  have hb := B.bytes
  have hr := B.returns
  have hts := atoms_spec (ws := wsX0_countFitting) B.pre
  have hown : s.vm.findClass RX0 = some m.cls := findClass_of_methodNamed B.named
  have hlocks := B.notSynchronized
  have hl := lv_entry ([.ref (ad 2), .int a1, .long a2, .long a3]) (n := 9) (Nat.le_of_ble_eq_true rfl)
  rw [lg_entry_eq]
  generalize (lg_sl ([.ref (ad 2), .int a1, .long a2, .long a3]) ++ List.replicate (9 - (lg_sl ([.ref (ad 2), .int a1, .long a2, .long a3])).length) Slot.unset).toArray = ls at hl ⊢
  have hl : lv_has ls 9 [(0, .ref (ad 2)), (1, .int a1), (2, .long a2), (4, .long a3)] := hl
  have loop : ∀ (n : Nat) (y1 : Int32) (y2 : Int64) (y4 : Int64) (y6 : Int32) (y7 : Int64) (ls : Array Slot), lv_has ls 9 [(0, .ref (ad 2)), (1, .int y1), (2, .long y2), (4, .long y4), (6, .int y6), (7, .long y7)] → fX0_countFitting_L N n q y1 y2 y4 y6 y7 = some r0 → W p l e (headSpec wsX0_countFitting ({ frames := 2, cells := 0, slots := 0, locals := 44 })).room s m ([.ref (ad 2), .int a1, .long a2, .long a3] : List Value).toArray below meth c s.heap [] 0 0 (MQ below (vp_Si (fun r => r = r0)) ([.ref (ad 2), .int a1, .long a2, .long a3] : List Value).toArray s 0 0 (fun _ => False)) (F0 m 8 ls []) := by
    intro n
    induction n with
    | zero =>
      intro y1 y2 y4 y6 y7 ls hl hF
      cases hF
    | succ n ih =>
      intro y1 y2 y4 y6 y7 ls hl hF
      rw [fX0_countFitting_L] at hF
      refine lv_lload hx hb dX0_countFitting_8 (lv_at hl 5 rfl) ?_
      refine lv_lload hx hb dX0_countFitting_10 (lv_at hl 3 rfl) ?_
      refine W.lcmp hx hb dX0_countFitting_12 ?_
      refine lv_if_gt (tgt := 58) hx hb dX0_countFitting_13 (by decide) (fun c2 => ?_) (fun c2 => ?_)
      · have hF := zc_pos c2 hF
        refine lv_iload hx hb dX0_countFitting_58 (lv_at hl 4 rfl) ?_
        exact W.iret hx hb hr (fun t ht hW => ⟨_, rfl, Option.some.inj hF, ht⟩) (fun _ h => by cases h) dX0_countFitting_60
      · have hF := zc_neg c2 hF
        refine lv_aload_n hx hb dX0_countFitting_16 rfl (lv_at hl 0 rfl) ?_
        refine lv_iload_n hx hb dX0_countFitting_17 rfl (lv_at hl 1 rfl) ?_
        refine lv_lload hx hb dX0_countFitting_18 (lv_at hl 5 rfl) ?_
        obtain ⟨r3, er3, hF⟩ := zc_bind hF
        refine zc_ci (va_runV (As := [.int _, .long _]) ⟨hx, hb, hml, hown, hts⟩ (kX0_fitsDay l G ad er3) (cwV 2 hts gX0_countFitting_X0_fitsDay rfl rfl rfl (by decide +kernel) ⟨Nat.le_of_ble_eq_true rfl, Nat.le_of_ble_eq_true rfl⟩) (zc_preV hK hP 0 rfl rfl) rfl rfl hl.1 rfl (lv_room (Nat.le_of_ble_eq_true rfl)) dX0_countFitting_20 ⟨Nat.le_of_ble_eq_true rfl, Nat.le_of_ble_eq_true rfl⟩) ?_
        refine lv_if_eq (tgt := 49) hx hb dX0_countFitting_23 (by decide) (fun c4 => ?_) (fun c4 => ?_)
        · have hF := zc_pos c4 hF
          refine lv_lload hx hb dX0_countFitting_49 (lv_at hl 5 rfl) ?_
          refine lv_lconst (v := (1 : Int64)) hx hb dX0_countFitting_51 (by decide) ?_
          refine lv_ladd hx hb dX0_countFitting_52 ?_
          refine lv_topl (fun x5 ex5 => ?_)
          have hF := zc_letE ex5 hF
          refine lv_lstore (lv' := [(7, .long x5), (0, .ref (ad 2)), (1, .int y1), (2, .long y2), (4, .long y4), (6, .int y6)]) hx hb dX0_countFitting_53 hl (by decide) rfl (fun ls hl => ?_)
          refine lv_goto (tgt := 8) hx hb dX0_countFitting_55 (by decide) ?_
          exact ih y1 y2 y4 y6 x5 ls (lv_sub hl [1, 2, 3, 4, 5, 0] rfl) hF
        · have hF := zc_neg c4 hF
          refine lv_aload_n hx hb dX0_countFitting_26 rfl (lv_at hl 0 rfl) ?_
          refine lv_iload_n hx hb dX0_countFitting_27 rfl (lv_at hl 1 rfl) ?_
          refine lv_lload hx hb dX0_countFitting_28 (lv_at hl 5 rfl) ?_
          obtain ⟨r6, er6, hF⟩ := zc_bind hF
          refine zc_ci (va_runV (As := [.int _, .long _]) ⟨hx, hb, hml, hown, hts⟩ (kX0_fitsHour l G ad er6) (cwV 2 hts gX0_countFitting_X0_fitsHour rfl rfl rfl (by decide +kernel) ⟨Nat.le_of_ble_eq_true rfl, Nat.le_of_ble_eq_true rfl⟩) (zc_preV hK hP 0 rfl rfl) rfl rfl hl.1 rfl (lv_room (Nat.le_of_ble_eq_true rfl)) dX0_countFitting_30 ⟨Nat.le_of_ble_eq_true rfl, Nat.le_of_ble_eq_true rfl⟩) ?_
          refine lv_if_eq (tgt := 49) hx hb dX0_countFitting_33 (by decide) (fun c7 => ?_) (fun c7 => ?_)
          · have hF := zc_pos c7 hF
            refine lv_lload hx hb dX0_countFitting_49 (lv_at hl 5 rfl) ?_
            refine lv_lconst (v := (1 : Int64)) hx hb dX0_countFitting_51 (by decide) ?_
            refine lv_ladd hx hb dX0_countFitting_52 ?_
            refine lv_topl (fun x8 ex8 => ?_)
            have hF := zc_letE ex8 hF
            refine lv_lstore (lv' := [(7, .long x8), (0, .ref (ad 2)), (1, .int y1), (2, .long y2), (4, .long y4), (6, .int y6)]) hx hb dX0_countFitting_53 hl (by decide) rfl (fun ls hl => ?_)
            refine lv_goto (tgt := 8) hx hb dX0_countFitting_55 (by decide) ?_
            exact ih y1 y2 y4 y6 x8 ls (lv_sub hl [1, 2, 3, 4, 5, 0] rfl) hF
          · have hF := zc_neg c7 hF
            refine lv_aload_n hx hb dX0_countFitting_36 rfl (lv_at hl 0 rfl) ?_
            refine lv_iload_n hx hb dX0_countFitting_37 rfl (lv_at hl 1 rfl) ?_
            refine lv_lload hx hb dX0_countFitting_38 (lv_at hl 5 rfl) ?_
            obtain ⟨r9, er9, hF⟩ := zc_bind hF
            refine zc_ci (va_runV (As := [.int _, .long _]) ⟨hx, hb, hml, hown, hts⟩ (kX0_fitsMinute l G ad er9) (cwV 2 hts gX0_countFitting_X0_fitsMinute rfl rfl rfl (by decide +kernel) ⟨Nat.le_of_ble_eq_true rfl, Nat.le_of_ble_eq_true rfl⟩) (zc_preV hK hP 0 rfl rfl) rfl rfl hl.1 rfl (lv_room (Nat.le_of_ble_eq_true rfl)) dX0_countFitting_40 ⟨Nat.le_of_ble_eq_true rfl, Nat.le_of_ble_eq_true rfl⟩) ?_
            refine lv_if_eq (tgt := 49) hx hb dX0_countFitting_43 (by decide) (fun c10 => ?_) (fun c10 => ?_)
            · have hF := zc_pos c10 hF
              refine lv_lload hx hb dX0_countFitting_49 (lv_at hl 5 rfl) ?_
              refine lv_lconst (v := (1 : Int64)) hx hb dX0_countFitting_51 (by decide) ?_
              refine lv_ladd hx hb dX0_countFitting_52 ?_
              refine lv_topl (fun x11 ex11 => ?_)
              have hF := zc_letE ex11 hF
              refine lv_lstore (lv' := [(7, .long x11), (0, .ref (ad 2)), (1, .int y1), (2, .long y2), (4, .long y4), (6, .int y6)]) hx hb dX0_countFitting_53 hl (by decide) rfl (fun ls hl => ?_)
              refine lv_goto (tgt := 8) hx hb dX0_countFitting_55 (by decide) ?_
              exact ih y1 y2 y4 y6 x11 ls (lv_sub hl [1, 2, 3, 4, 5, 0] rfl) hF
            · have hF := zc_neg c10 hF
              obtain ⟨x12, ex12⟩ : ∃ y : Int32, y = y6 + (1 : Int32) := ⟨_, rfl⟩
              have hF := zc_letE ex12 hF
              refine lv_iinc (v := x12) (lv' := [(6, .int x12), (0, .ref (ad 2)), (1, .int y1), (2, .long y2), (4, .long y4), (7, .long y7)]) hx hb dX0_countFitting_46 hl (k := 4) rfl (by rw [ex12]; rfl) (by decide) rfl (fun ls hl => ?_)
              refine lv_lload hx hb dX0_countFitting_49 (lv_at hl 5 rfl) ?_
              refine lv_lconst (v := (1 : Int64)) hx hb dX0_countFitting_51 (by decide) ?_
              refine lv_ladd hx hb dX0_countFitting_52 ?_
              refine lv_topl (fun x13 ex13 => ?_)
              have hF := zc_letE ex13 hF
              refine lv_lstore (lv' := [(7, .long x13), (6, .int x12), (0, .ref (ad 2)), (1, .int y1), (2, .long y2), (4, .long y4)]) hx hb dX0_countFitting_53 hl (by decide) rfl (fun ls hl => ?_)
              refine lv_goto (tgt := 8) hx hb dX0_countFitting_55 (by decide) ?_
              exact ih y1 y2 y4 x12 x13 ls (lv_sub hl [2, 3, 4, 5, 1, 0] rfl) hF
  refine lv_iconst (v := (0 : Int32)) hx hb dX0_countFitting_0 (by decide) ?_
  refine lv_istore (lv' := [(6, .int (0 : Int32)), (0, .ref (ad 2)), (1, .int a1), (2, .long a2), (4, .long a3)]) hx hb dX0_countFitting_1 hl (by decide) rfl (fun ls hl => ?_)
  refine lv_lload_n hx hb dX0_countFitting_3 rfl (lv_at hl 3 rfl) ?_
  refine lv_lconst (v := (1 : Int64)) hx hb dX0_countFitting_4 (by decide) ?_
  refine lv_ladd hx hb dX0_countFitting_5 ?_
  refine lv_topl (fun x1 ex1 => ?_)
  have hF := zc_letE ex1 hF
  refine lv_lstore (lv' := [(7, .long x1), (6, .int (0 : Int32)), (0, .ref (ad 2)), (1, .int a1), (2, .long a2), (4, .long a3)]) hx hb dX0_countFitting_6 hl (by decide) rfl (fun ls hl => ?_)
  exact loop N a1 a2 a3 (0 : Int32) x1 ls (lv_sub hl [2, 3, 4, 5, 1, 0] rfl) hF
def fX0_totalRings_L (N : Nat) : Nat → zc_Q → Int32 → Int32 → Option (Int32)
  | 0, _, _, _ => none
  | n + 1, q, y1, y2 => if (q.1) ≤ y2 then (some y1) else (if (6 : Int32) ≤ y2 then (some y1) else (zc_in y2 6 (zc_let (y1 + (q.2 3 y2.toNatClampNeg)) fun (x4 : Int32) => zc_let (y2 + (1 : Int32)) fun (x5 : Int32) => fX0_totalRings_L N n q x4 x5)))
def fX0_totalRings (N : Nat) (q : zc_Q) : Option (Int32) := fX0_totalRings_L N N q (0 : Int32) (0 : Int32)
theorem iX0_totalRings_X0 : ∀ w ∈ wsX00, w ∈ wsX0_totalRings := fun _ h => List.mem_cons_of_mem _ (List.mem_append_right _ h)
set_option maxHeartbeats 4000000 in
set_option maxRecDepth 100000 in
theorem kX0_totalRings (l : Launch) (G : zc_G) (ad : Nat → Nat) {N : Nat} {q : zc_Q} {r0 : Int32} (hF : fX0_totalRings N q = some r0) : Met l yX0_totalRings wsX0_totalRings ({ frames := 0, cells := 0, slots := 0, locals := 0 }) (zc_Pp G [.ref (ad 2)] (zc_al G ad q)) (vp_Si (fun r => r = r0)) 0 0 (fun _ => False) := by
  refine Met.ofW (cc := cX0_totalRings) (maxL := 3) (ret := (some .int)) (by decide) rfl ?_
  intro p e s m args below meth c s₁ B hml hv
  obtain ⟨rfl, hP, hK⟩ := hv
  have hx := B.exec
  have hb := B.bytes
  have hr := B.returns
  have hts := atoms_spec (ws := wsX0_totalRings) B.pre
  have hown : s.vm.findClass RX0 = some m.cls := findClass_of_methodNamed B.named
  have hlocks := B.notSynchronized
  have hl := lv_entry ([.ref (ad 2)]) (n := 3) (Nat.le_of_ble_eq_true rfl)
  rw [lg_entry_eq]
  generalize (lg_sl ([.ref (ad 2)]) ++ List.replicate (3 - (lg_sl ([.ref (ad 2)])).length) Slot.unset).toArray = ls at hl ⊢
  have hl : lv_has ls 3 [(0, .ref (ad 2))] := hl
  have loop : ∀ (n : Nat) (y1 : Int32) (y2 : Int32) (ls : Array Slot), lv_has ls 3 [(0, .ref (ad 2)), (1, .int y1), (2, .int y2)] → fX0_totalRings_L N n q y1 y2 = some r0 → W p l e (headSpec wsX0_totalRings ({ frames := 0, cells := 0, slots := 0, locals := 0 })).room s m ([.ref (ad 2)] : List Value).toArray below meth c s.heap [] 0 0 (MQ below (vp_Si (fun r => r = r0)) ([.ref (ad 2)] : List Value).toArray s 0 0 (fun _ => False)) (F0 m 4 ls []) := by
    intro n
    induction n with
    | zero =>
      intro y1 y2 ls hl hF
      cases hF
    | succ n ih =>
      intro y1 y2 ls hl hF
      rw [fX0_totalRings_L] at hF
      refine lv_iload_n hx hb dX0_totalRings_4 rfl (lv_at hl 2 rfl) ?_
      refine lv_aload_n hx hb dX0_totalRings_5 rfl (lv_at hl 0 rfl) ?_
      refine va_get (D := G.1) (ci := 0) (C := RX0) (T := TX0) (N := 5) hx hb hts iX0_totalRings_X0 hown hK.1 hP 0 rfl rfl 0 (by decide) (hts (.fieldLink RX0 9 "BoardClock$Alarms" "count" "I") (List.mem_of_getElem? (i := 1) rfl)) (fun _ h9 => h9) rfl dX0_totalRings_6 ?_
      refine lv_icmp_ge (tgt := 33) hx hb dX0_totalRings_9 (by decide) (fun c1 => ?_) (fun c1 => ?_)
      · have hF := zc_pos c1 hF
        refine lv_iload_n hx hb dX0_totalRings_33 rfl (lv_at hl 1 rfl) ?_
        exact W.iret hx hb hr (fun t ht hW => ⟨_, rfl, Option.some.inj hF, ht⟩) (fun _ h => by cases h) dX0_totalRings_34
      · have hF := zc_neg c1 hF
        refine lv_iload_n hx hb dX0_totalRings_12 rfl (lv_at hl 2 rfl) ?_
        refine lv_bipush (v := (6 : Int32)) hx hb dX0_totalRings_13 (by decide) ?_
        refine lv_icmp_ge (tgt := 33) hx hb dX0_totalRings_15 (by decide) (fun c2 => ?_) (fun c2 => ?_)
        · have hF := zc_pos c2 hF
          refine lv_iload_n hx hb dX0_totalRings_33 rfl (lv_at hl 1 rfl) ?_
          exact W.iret hx hb hr (fun t ht hW => ⟨_, rfl, Option.some.inj hF, ht⟩) (fun _ h => by cases h) dX0_totalRings_34
        · have hF := zc_neg c2 hF
          refine lv_iload_n hx hb dX0_totalRings_18 rfl (lv_at hl 1 rfl) ?_
          refine lv_aload_n hx hb dX0_totalRings_19 rfl (lv_at hl 0 rfl) ?_
          refine va_get (D := G.1) (ci := 0) (C := RX0) (T := TX0) (N := 5) hx hb hts iX0_totalRings_X0 hown hK.1 hP 0 rfl rfl 4 (by decide) (hts (.fieldLink RX0 25 "BoardClock$Alarms" "rung" "[I") (List.mem_of_getElem? (i := 2) rfl)) (fun _ h9 => h9) rfl dX0_totalRings_20 ?_
          refine lv_iload_n hx hb dX0_totalRings_23 rfl (lv_at hl 2 rfl) ?_
          obtain ⟨hi3, hF⟩ := zc_inE hF
          refine zc_iald hx hb hK.1 hP 4 0 rfl rfl hi3 rfl dX0_totalRings_24 ?_
          refine lv_iadd hx hb dX0_totalRings_25 ?_
          refine lv_topi (fun x4 ex4 => ?_)
          have hF := zc_letE ex4 hF
          refine lv_istore_n (lv' := [(1, .int x4), (0, .ref (ad 2)), (2, .int y2)]) hx hb dX0_totalRings_26 rfl hl (by decide) rfl (fun ls hl => ?_)
          obtain ⟨x5, ex5⟩ : ∃ y : Int32, y = y2 + (1 : Int32) := ⟨_, rfl⟩
          have hF := zc_letE ex5 hF
          refine lv_iinc (v := x5) (lv' := [(2, .int x5), (1, .int x4), (0, .ref (ad 2))]) hx hb dX0_totalRings_27 hl (k := 2) rfl (by rw [ex5]; rfl) (by decide) rfl (fun ls hl => ?_)
          refine lv_goto (tgt := 4) hx hb dX0_totalRings_30 (by decide) ?_
          exact ih x4 x5 ls (lv_sub hl [2, 1, 0] rfl) hF
  refine lv_iconst (v := (0 : Int32)) hx hb dX0_totalRings_0 (by decide) ?_
  refine lv_istore_n (lv' := [(1, .int (0 : Int32)), (0, .ref (ad 2))]) hx hb dX0_totalRings_1 rfl hl (by decide) rfl (fun ls hl => ?_)
  refine lv_iconst (v := (0 : Int32)) hx hb dX0_totalRings_2 (by decide) ?_
  refine lv_istore_n (lv' := [(2, .int (0 : Int32)), (1, .int (0 : Int32)), (0, .ref (ad 2))]) hx hb dX0_totalRings_3 rfl hl (by decide) rfl (fun ls hl => ?_)
  exact loop N (0 : Int32) (0 : Int32) ls (lv_sub hl [2, 1, 0] rfl) hF
def fX0_ringsToCome_L (N : Nat) : Nat → zc_Q → Int64 → Int64 → Int32 → Int32 → Option (Int32)
  | 0, _, _, _, _, _ => none
  | n + 1, q, y1, y3, y5, y6 => if (q.1) ≤ y6 then (some y5) else (if (6 : Int32) ≤ y6 then (some y5) else (Option.bind (fX0_countFitting N q y6 y1 y3) fun (r3 : Int32) => zc_in y6 6 (zc_let (y5 + (if ((99999 : Int32) - (q.2 3 y6.toNatClampNeg)) < r3 then ((99999 : Int32) - (q.2 3 y6.toNatClampNeg)) else r3)) fun (x5 : Int32) => zc_let (y6 + (1 : Int32)) fun (x6 : Int32) => fX0_ringsToCome_L N n q y1 y3 x5 x6)))
def fX0_ringsToCome (N : Nat) (q : zc_Q) (a1 : Int64) (a2 : Int64) : Option (Int32) := fX0_ringsToCome_L N N q a1 a2 (0 : Int32) (0 : Int32)
theorem iX0_ringsToCome_X0 : ∀ w ∈ wsX00, w ∈ wsX0_ringsToCome := fun _ h => List.mem_cons_of_mem _ (List.mem_append_right _ h)
set_option maxHeartbeats 4000000 in
set_option maxRecDepth 100000 in
theorem kX0_ringsToCome (l : Launch) (G : zc_G) (ad : Nat → Nat) {N : Nat} {q : zc_Q} {a1 : Int64} {a2 : Int64} {r0 : Int32} (hF : fX0_ringsToCome N q a1 a2 = some r0) : Met l yX0_ringsToCome wsX0_ringsToCome ({ frames := 3, cells := 0, slots := 0, locals := 72 }) (zc_Pp G [.ref (ad 2), .long a1, .long a2] (zc_al G ad q)) (vp_Si (fun r => r = r0)) 0 0 (fun _ => False) := by
  refine Met.ofW (cc := cX0_ringsToCome) (maxL := 7) (ret := (some .int)) (by decide) rfl ?_
  intro p e s m args below meth c s₁ B hml hv
  obtain ⟨rfl, hP, hK⟩ := hv
  have hx := B.exec
  have hb := B.bytes
  have hr := B.returns
  have hts := atoms_spec (ws := wsX0_ringsToCome) B.pre
  have hown : s.vm.findClass RX0 = some m.cls := findClass_of_methodNamed B.named
  have hlocks := B.notSynchronized
  have hl := lv_entry ([.ref (ad 2), .long a1, .long a2]) (n := 7) (Nat.le_of_ble_eq_true rfl)
  rw [lg_entry_eq]
  generalize (lg_sl ([.ref (ad 2), .long a1, .long a2]) ++ List.replicate (7 - (lg_sl ([.ref (ad 2), .long a1, .long a2])).length) Slot.unset).toArray = ls at hl ⊢
  have hl : lv_has ls 7 [(0, .ref (ad 2)), (1, .long a1), (3, .long a2)] := hl
  have loop : ∀ (n : Nat) (y1 : Int64) (y3 : Int64) (y5 : Int32) (y6 : Int32) (ls : Array Slot), lv_has ls 7 [(0, .ref (ad 2)), (1, .long y1), (3, .long y3), (5, .int y5), (6, .int y6)] → fX0_ringsToCome_L N n q y1 y3 y5 y6 = some r0 → W p l e (headSpec wsX0_ringsToCome ({ frames := 3, cells := 0, slots := 0, locals := 72 })).room s m ([.ref (ad 2), .long a1, .long a2] : List Value).toArray below meth c s.heap [] 0 0 (MQ below (vp_Si (fun r => r = r0)) ([.ref (ad 2), .long a1, .long a2] : List Value).toArray s 0 0 (fun _ => False)) (F0 m 6 ls []) := by
    intro n
    induction n with
    | zero =>
      intro y1 y3 y5 y6 ls hl hF
      cases hF
    | succ n ih =>
      intro y1 y3 y5 y6 ls hl hF
      rw [fX0_ringsToCome_L] at hF
      refine lv_iload hx hb dX0_ringsToCome_6 (lv_at hl 4 rfl) ?_
      refine lv_aload_n hx hb dX0_ringsToCome_8 rfl (lv_at hl 0 rfl) ?_
      refine va_get (D := G.1) (ci := 0) (C := RX0) (T := TX0) (N := 5) hx hb hts iX0_ringsToCome_X0 hown hK.1 hP 0 rfl rfl 0 (by decide) (hts (.fieldLink RX0 9 "BoardClock$Alarms" "count" "I") (List.mem_of_getElem? (i := 1) rfl)) (fun _ h9 => h9) rfl dX0_ringsToCome_9 ?_
      refine lv_icmp_ge (tgt := 54) hx hb dX0_ringsToCome_12 (by decide) (fun c1 => ?_) (fun c1 => ?_)
      · have hF := zc_pos c1 hF
        refine lv_iload hx hb dX0_ringsToCome_54 (lv_at hl 3 rfl) ?_
        exact W.iret hx hb hr (fun t ht hW => ⟨_, rfl, Option.some.inj hF, ht⟩) (fun _ h => by cases h) dX0_ringsToCome_56
      · have hF := zc_neg c1 hF
        refine lv_iload hx hb dX0_ringsToCome_15 (lv_at hl 4 rfl) ?_
        refine lv_bipush (v := (6 : Int32)) hx hb dX0_ringsToCome_17 (by decide) ?_
        refine lv_icmp_ge (tgt := 54) hx hb dX0_ringsToCome_19 (by decide) (fun c2 => ?_) (fun c2 => ?_)
        · have hF := zc_pos c2 hF
          refine lv_iload hx hb dX0_ringsToCome_54 (lv_at hl 3 rfl) ?_
          exact W.iret hx hb hr (fun t ht hW => ⟨_, rfl, Option.some.inj hF, ht⟩) (fun _ h => by cases h) dX0_ringsToCome_56
        · have hF := zc_neg c2 hF
          refine lv_iload hx hb dX0_ringsToCome_22 (lv_at hl 3 rfl) ?_
          refine lv_aload_n hx hb dX0_ringsToCome_24 rfl (lv_at hl 0 rfl) ?_
          refine lv_iload hx hb dX0_ringsToCome_25 (lv_at hl 4 rfl) ?_
          refine lv_lload_n hx hb dX0_ringsToCome_27 rfl (lv_at hl 1 rfl) ?_
          refine lv_lload_n hx hb dX0_ringsToCome_28 rfl (lv_at hl 2 rfl) ?_
          obtain ⟨r3, er3, hF⟩ := zc_bind hF
          refine zc_ci (va_runV (As := [.int _, .long _, .long _]) ⟨hx, hb, hml, hown, hts⟩ (kX0_countFitting l G ad er3) (cwV 3 hts gX0_ringsToCome_X0_countFitting rfl rfl rfl (by decide +kernel) ⟨Nat.le_of_ble_eq_true rfl, Nat.le_of_ble_eq_true rfl⟩) (zc_preV hK hP 0 rfl rfl) rfl rfl hl.1 rfl (lv_room (Nat.le_of_ble_eq_true rfl)) dX0_ringsToCome_29 ⟨Nat.le_of_ble_eq_true rfl, Nat.le_of_ble_eq_true rfl⟩) ?_
          refine lv_ldc hx hb hown (hts (.constant RX0 43 (99999)) (List.mem_of_getElem? (i := 2) rfl)) dX0_ringsToCome_32 ?_
          refine lv_aload_n hx hb dX0_ringsToCome_34 rfl (lv_at hl 0 rfl) ?_
          refine va_get (D := G.1) (ci := 0) (C := RX0) (T := TX0) (N := 5) hx hb hts iX0_ringsToCome_X0 hown hK.1 hP 0 rfl rfl 4 (by decide) (hts (.fieldLink RX0 25 "BoardClock$Alarms" "rung" "[I") (List.mem_of_getElem? (i := 3) rfl)) (fun _ h9 => h9) rfl dX0_ringsToCome_35 ?_
          refine lv_iload hx hb dX0_ringsToCome_38 (lv_at hl 4 rfl) ?_
          obtain ⟨hi4, hF⟩ := zc_inE hF
          refine zc_iald hx hb hK.1 hP 4 0 rfl rfl hi4 rfl dX0_ringsToCome_40 ?_
          refine lv_isub hx hb dX0_ringsToCome_41 ?_
          refine va_mmin hx hb (hml.trans hl.1.symm) hown (hts (.methodLink RX0 44 Lib.Math.min.name) (List.mem_of_getElem? (i := 4) rfl)) (hts (.static Lib.Math.min.name) (List.mem_of_getElem? (i := 5) rfl)) (hts (.initialized "java/lang/Math") (List.mem_of_getElem? (i := 6) rfl)) (hts (.code Lib.Math.min.name Lib.Math.min.code 2 (some .int)) (List.mem_of_getElem? (i := 7) rfl)) (Nat.le_of_ble_eq_true rfl) (Nat.le_of_ble_eq_true rfl) (Nat.zero_le _) (Nat.zero_le _) dX0_ringsToCome_42 ?_
          refine lv_iadd hx hb dX0_ringsToCome_45 ?_
          refine lv_topi (fun x5 ex5 => ?_)
          have hF := zc_letE ex5 hF
          refine lv_istore (lv' := [(5, .int x5), (0, .ref (ad 2)), (1, .long y1), (3, .long y3), (6, .int y6)]) hx hb dX0_ringsToCome_46 hl (by decide) rfl (fun ls hl => ?_)
          obtain ⟨x6, ex6⟩ : ∃ y : Int32, y = y6 + (1 : Int32) := ⟨_, rfl⟩
          have hF := zc_letE ex6 hF
          refine lv_iinc (v := x6) (lv' := [(6, .int x6), (5, .int x5), (0, .ref (ad 2)), (1, .long y1), (3, .long y3)]) hx hb dX0_ringsToCome_48 hl (k := 4) rfl (by rw [ex6]; rfl) (by decide) rfl (fun ls hl => ?_)
          refine lv_goto (tgt := 6) hx hb dX0_ringsToCome_51 (by decide) ?_
          exact ih y1 y3 x5 x6 ls (lv_sub hl [2, 3, 4, 1, 0] rfl) hF
  refine lv_iconst (v := (0 : Int32)) hx hb dX0_ringsToCome_0 (by decide) ?_
  refine lv_istore (lv' := [(5, .int (0 : Int32)), (0, .ref (ad 2)), (1, .long a1), (3, .long a2)]) hx hb dX0_ringsToCome_1 hl (by decide) rfl (fun ls hl => ?_)
  refine lv_iconst (v := (0 : Int32)) hx hb dX0_ringsToCome_3 (by decide) ?_
  refine lv_istore (lv' := [(6, .int (0 : Int32)), (5, .int (0 : Int32)), (0, .ref (ad 2)), (1, .long a1), (3, .long a2)]) hx hb dX0_ringsToCome_4 hl (by decide) rfl (fun ls hl => ?_)
  exact loop N a1 a2 (0 : Int32) (0 : Int32) ls (lv_sub hl [2, 3, 4, 1, 0] rfl) hF
def fX0_nextFit_L (N : Nat) : Nat → zc_Q → Int32 → Int64 → Int64 → Int32 → Option (Int64)
  | 0, _, _, _, _, _ => none
  | n + 1, q, y1, y2, y4, y6 => if (1000 : Int32) ≤ y6 then (some (-1 : Int64)) else (Option.bind (fX0_fitsDay q y1 y4) fun (r3 : Int32) => if r3 = 0 then (zc_let (((y4 / (1440 : Int64)) + (1 : Int64)) * (1440 : Int64)) fun (x13 : Int64) => zc_let (y6 + (1 : Int32)) fun (x14 : Int32) => fX0_nextFit_L N n q y1 y2 x13 x14) else (Option.bind (fX0_fitsHour q y1 y4) fun (r5 : Int32) => if r5 = 0 then (zc_let (((y4 / (60 : Int64)) + (1 : Int64)) * (60 : Int64)) fun (x11 : Int64) => zc_let (y6 + (1 : Int32)) fun (x12 : Int32) => fX0_nextFit_L N n q y1 y2 x11 x12) else (Option.bind (fX0_fitsMinute q y1 y4) fun (r7 : Int32) => if r7 = 0 then (zc_let (y4 + (1 : Int64)) fun (x9 : Int64) => zc_let (y6 + (1 : Int32)) fun (x10 : Int32) => fX0_nextFit_L N n q y1 y2 x9 x10) else (some y4))))
def fX0_nextFit (N : Nat) (q : zc_Q) (a1 : Int32) (a2 : Int64) : Option (Int64) := zc_let (a2 + (1 : Int64)) fun (x1 : Int64) => fX0_nextFit_L N N q a1 a2 x1 (0 : Int32)
set_option maxHeartbeats 4000000 in
set_option maxRecDepth 100000 in
theorem kX0_nextFit (l : Launch) (G : zc_G) (ad : Nat → Nat) {N : Nat} {q : zc_Q} {a1 : Int32} {a2 : Int64} {r0 : Int64} (hF : fX0_nextFit N q a1 a2 = some r0) : Met l yX0_nextFit wsX0_nextFit ({ frames := 2, cells := 0, slots := 0, locals := 44 }) (zc_Pp G [.ref (ad 2), .int a1, .long a2] (zc_al G ad q)) (vp_Sl (fun r => r = r0)) 0 0 (fun _ => False) := by
  refine Met.ofW (cc := cX0_nextFit) (maxL := 7) (ret := (some .long)) (by decide) rfl ?_
  intro p e s m args below meth c s₁ B hml hv
  obtain ⟨rfl, hP, hK⟩ := hv
  have hx := B.exec
  have hb := B.bytes
  have hr := B.returns
  have hts := atoms_spec (ws := wsX0_nextFit) B.pre
  have hown : s.vm.findClass RX0 = some m.cls := findClass_of_methodNamed B.named
  have hlocks := B.notSynchronized
  have hl := lv_entry ([.ref (ad 2), .int a1, .long a2]) (n := 7) (Nat.le_of_ble_eq_true rfl)
  rw [lg_entry_eq]
  generalize (lg_sl ([.ref (ad 2), .int a1, .long a2]) ++ List.replicate (7 - (lg_sl ([.ref (ad 2), .int a1, .long a2])).length) Slot.unset).toArray = ls at hl ⊢
  have hl : lv_has ls 7 [(0, .ref (ad 2)), (1, .int a1), (2, .long a2)] := hl
  have loop : ∀ (n : Nat) (y1 : Int32) (y2 : Int64) (y4 : Int64) (y6 : Int32) (ls : Array Slot), lv_has ls 7 [(0, .ref (ad 2)), (1, .int y1), (2, .long y2), (4, .long y4), (6, .int y6)] → fX0_nextFit_L N n q y1 y2 y4 y6 = some r0 → W p l e (headSpec wsX0_nextFit ({ frames := 2, cells := 0, slots := 0, locals := 44 })).room s m ([.ref (ad 2), .int a1, .long a2] : List Value).toArray below meth c s.heap [] 0 0 (MQ below (vp_Sl (fun r => r = r0)) ([.ref (ad 2), .int a1, .long a2] : List Value).toArray s 0 0 (fun _ => False)) (F0 m 8 ls []) := by
    intro n
    induction n with
    | zero =>
      intro y1 y2 y4 y6 ls hl hF
      cases hF
    | succ n ih =>
      intro y1 y2 y4 y6 ls hl hF
      rw [fX0_nextFit_L] at hF
      refine lv_iload hx hb dX0_nextFit_8 (lv_at hl 4 rfl) ?_
      refine lv_sipush (v := (1000 : Int32)) hx hb dX0_nextFit_10 (by decide) ?_
      refine lv_icmp_ge (tgt := 98) hx hb dX0_nextFit_13 (by decide) (fun c2 => ?_) (fun c2 => ?_)
      · have hF := zc_pos c2 hF
        refine lv_ldc2 hx hb hown (hts (.constantLong RX0 64 (-1)) (List.mem_of_getElem? (i := 3) rfl)) dX0_nextFit_98 ?_
        exact W.lret hx hb hr (fun t ht hW => ⟨_, rfl, Option.some.inj hF, ht⟩) (fun _ h => by cases h) dX0_nextFit_101
      · have hF := zc_neg c2 hF
        refine lv_aload_n hx hb dX0_nextFit_16 rfl (lv_at hl 0 rfl) ?_
        refine lv_iload_n hx hb dX0_nextFit_17 rfl (lv_at hl 1 rfl) ?_
        refine lv_lload hx hb dX0_nextFit_18 (lv_at hl 3 rfl) ?_
        obtain ⟨r3, er3, hF⟩ := zc_bind hF
        refine zc_ci (va_runV (As := [.int _, .long _]) ⟨hx, hb, hml, hown, hts⟩ (kX0_fitsDay l G ad er3) (cwV 2 hts gX0_nextFit_X0_fitsDay rfl rfl rfl (by decide +kernel) ⟨Nat.le_of_ble_eq_true rfl, Nat.le_of_ble_eq_true rfl⟩) (zc_preV hK hP 0 rfl rfl) rfl rfl hl.1 rfl (lv_room (Nat.le_of_ble_eq_true rfl)) dX0_nextFit_20 ⟨Nat.le_of_ble_eq_true rfl, Nat.le_of_ble_eq_true rfl⟩) ?_
        refine lv_if_ne (tgt := 43) hx hb dX0_nextFit_23 (by decide) (fun c4 => ?_) (fun c4 => ?_)
        · have hF := zc_neg c4 hF
          refine lv_aload_n hx hb dX0_nextFit_43 rfl (lv_at hl 0 rfl) ?_
          refine lv_iload_n hx hb dX0_nextFit_44 rfl (lv_at hl 1 rfl) ?_
          refine lv_lload hx hb dX0_nextFit_45 (lv_at hl 3 rfl) ?_
          obtain ⟨r5, er5, hF⟩ := zc_bind hF
          refine zc_ci (va_runV (As := [.int _, .long _]) ⟨hx, hb, hml, hown, hts⟩ (kX0_fitsHour l G ad er5) (cwV 2 hts gX0_nextFit_X0_fitsHour rfl rfl rfl (by decide +kernel) ⟨Nat.le_of_ble_eq_true rfl, Nat.le_of_ble_eq_true rfl⟩) (zc_preV hK hP 0 rfl rfl) rfl rfl hl.1 rfl (lv_room (Nat.le_of_ble_eq_true rfl)) dX0_nextFit_47 ⟨Nat.le_of_ble_eq_true rfl, Nat.le_of_ble_eq_true rfl⟩) ?_
          refine lv_if_ne (tgt := 70) hx hb dX0_nextFit_50 (by decide) (fun c6 => ?_) (fun c6 => ?_)
          · have hF := zc_neg c6 hF
            refine lv_aload_n hx hb dX0_nextFit_70 rfl (lv_at hl 0 rfl) ?_
            refine lv_iload_n hx hb dX0_nextFit_71 rfl (lv_at hl 1 rfl) ?_
            refine lv_lload hx hb dX0_nextFit_72 (lv_at hl 3 rfl) ?_
            obtain ⟨r7, er7, hF⟩ := zc_bind hF
            refine zc_ci (va_runV (As := [.int _, .long _]) ⟨hx, hb, hml, hown, hts⟩ (kX0_fitsMinute l G ad er7) (cwV 2 hts gX0_nextFit_X0_fitsMinute rfl rfl rfl (by decide +kernel) ⟨Nat.le_of_ble_eq_true rfl, Nat.le_of_ble_eq_true rfl⟩) (zc_preV hK hP 0 rfl rfl) rfl rfl hl.1 rfl (lv_room (Nat.le_of_ble_eq_true rfl)) dX0_nextFit_74 ⟨Nat.le_of_ble_eq_true rfl, Nat.le_of_ble_eq_true rfl⟩) ?_
            refine lv_if_ne (tgt := 89) hx hb dX0_nextFit_77 (by decide) (fun c8 => ?_) (fun c8 => ?_)
            · have hF := zc_neg c8 hF
              refine lv_lload hx hb dX0_nextFit_89 (lv_at hl 3 rfl) ?_
              exact W.lret hx hb hr (fun t ht hW => ⟨_, rfl, Option.some.inj hF, ht⟩) (fun _ h => by cases h) dX0_nextFit_91
            · have hF := zc_pos c8 hF
              refine lv_lload hx hb dX0_nextFit_80 (lv_at hl 3 rfl) ?_
              refine lv_lconst (v := (1 : Int64)) hx hb dX0_nextFit_82 (by decide) ?_
              refine lv_ladd hx hb dX0_nextFit_83 ?_
              refine lv_topl (fun x9 ex9 => ?_)
              have hF := zc_letE ex9 hF
              refine lv_lstore (lv' := [(4, .long x9), (0, .ref (ad 2)), (1, .int y1), (2, .long y2), (6, .int y6)]) hx hb dX0_nextFit_84 hl (by decide) rfl (fun ls hl => ?_)
              refine lv_goto (tgt := 92) hx hb dX0_nextFit_86 (by decide) ?_
              obtain ⟨x10, ex10⟩ : ∃ y : Int32, y = y6 + (1 : Int32) := ⟨_, rfl⟩
              have hF := zc_letE ex10 hF
              refine lv_iinc (v := x10) (lv' := [(6, .int x10), (4, .long x9), (0, .ref (ad 2)), (1, .int y1), (2, .long y2)]) hx hb dX0_nextFit_92 hl (k := 4) rfl (by rw [ex10]; rfl) (by decide) rfl (fun ls hl => ?_)
              refine lv_goto (tgt := 8) hx hb dX0_nextFit_95 (by decide) ?_
              exact ih y1 y2 x9 x10 ls (lv_sub hl [2, 3, 4, 1, 0] rfl) hF
          · have hF := zc_pos c6 hF
            refine lv_lload hx hb dX0_nextFit_53 (lv_at hl 3 rfl) ?_
            refine lv_ldc2 hx hb hown (hts (.constantLong RX0 62 (60)) (List.mem_of_getElem? (i := 2) rfl)) dX0_nextFit_55 ?_
            refine lv_ldiv hx hb dX0_nextFit_58 (by decide) ?_
            refine lv_lconst (v := (1 : Int64)) hx hb dX0_nextFit_59 (by decide) ?_
            refine lv_ladd hx hb dX0_nextFit_60 ?_
            refine lv_ldc2 hx hb hown (hts (.constantLong RX0 62 (60)) (List.mem_of_getElem? (i := 2) rfl)) dX0_nextFit_61 ?_
            refine lv_lmul hx hb dX0_nextFit_64 ?_
            refine lv_topl (fun x11 ex11 => ?_)
            have hF := zc_letE ex11 hF
            refine lv_lstore (lv' := [(4, .long x11), (0, .ref (ad 2)), (1, .int y1), (2, .long y2), (6, .int y6)]) hx hb dX0_nextFit_65 hl (by decide) rfl (fun ls hl => ?_)
            refine lv_goto (tgt := 92) hx hb dX0_nextFit_67 (by decide) ?_
            obtain ⟨x12, ex12⟩ : ∃ y : Int32, y = y6 + (1 : Int32) := ⟨_, rfl⟩
            have hF := zc_letE ex12 hF
            refine lv_iinc (v := x12) (lv' := [(6, .int x12), (4, .long x11), (0, .ref (ad 2)), (1, .int y1), (2, .long y2)]) hx hb dX0_nextFit_92 hl (k := 4) rfl (by rw [ex12]; rfl) (by decide) rfl (fun ls hl => ?_)
            refine lv_goto (tgt := 8) hx hb dX0_nextFit_95 (by decide) ?_
            exact ih y1 y2 x11 x12 ls (lv_sub hl [2, 3, 4, 1, 0] rfl) hF
        · have hF := zc_pos c4 hF
          refine lv_lload hx hb dX0_nextFit_26 (lv_at hl 3 rfl) ?_
          refine lv_ldc2 hx hb hown (hts (.constantLong RX0 60 (1440)) (List.mem_of_getElem? (i := 1) rfl)) dX0_nextFit_28 ?_
          refine lv_ldiv hx hb dX0_nextFit_31 (by decide) ?_
          refine lv_lconst (v := (1 : Int64)) hx hb dX0_nextFit_32 (by decide) ?_
          refine lv_ladd hx hb dX0_nextFit_33 ?_
          refine lv_ldc2 hx hb hown (hts (.constantLong RX0 60 (1440)) (List.mem_of_getElem? (i := 1) rfl)) dX0_nextFit_34 ?_
          refine lv_lmul hx hb dX0_nextFit_37 ?_
          refine lv_topl (fun x13 ex13 => ?_)
          have hF := zc_letE ex13 hF
          refine lv_lstore (lv' := [(4, .long x13), (0, .ref (ad 2)), (1, .int y1), (2, .long y2), (6, .int y6)]) hx hb dX0_nextFit_38 hl (by decide) rfl (fun ls hl => ?_)
          refine lv_goto (tgt := 92) hx hb dX0_nextFit_40 (by decide) ?_
          obtain ⟨x14, ex14⟩ : ∃ y : Int32, y = y6 + (1 : Int32) := ⟨_, rfl⟩
          have hF := zc_letE ex14 hF
          refine lv_iinc (v := x14) (lv' := [(6, .int x14), (4, .long x13), (0, .ref (ad 2)), (1, .int y1), (2, .long y2)]) hx hb dX0_nextFit_92 hl (k := 4) rfl (by rw [ex14]; rfl) (by decide) rfl (fun ls hl => ?_)
          refine lv_goto (tgt := 8) hx hb dX0_nextFit_95 (by decide) ?_
          exact ih y1 y2 x13 x14 ls (lv_sub hl [2, 3, 4, 1, 0] rfl) hF
  refine lv_lload_n hx hb dX0_nextFit_0 rfl (lv_at hl 2 rfl) ?_
  refine lv_lconst (v := (1 : Int64)) hx hb dX0_nextFit_1 (by decide) ?_
  refine lv_ladd hx hb dX0_nextFit_2 ?_
  refine lv_topl (fun x1 ex1 => ?_)
  have hF := zc_letE ex1 hF
  refine lv_lstore (lv' := [(4, .long x1), (0, .ref (ad 2)), (1, .int a1), (2, .long a2)]) hx hb dX0_nextFit_3 hl (by decide) rfl (fun ls hl => ?_)
  refine lv_iconst (v := (0 : Int32)) hx hb dX0_nextFit_5 (by decide) ?_
  refine lv_istore (lv' := [(6, .int (0 : Int32)), (4, .long x1), (0, .ref (ad 2)), (1, .int a1), (2, .long a2)]) hx hb dX0_nextFit_6 hl (by decide) rfl (fun ls hl => ?_)
  exact loop N a1 a2 x1 (0 : Int32) ls (lv_sub hl [2, 3, 4, 1, 0] rfl) hF
