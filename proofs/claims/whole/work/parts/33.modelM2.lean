def fX3_tick (N : Nat) (u : zc_M) (a1 : Int32) : Option (Int32 × zc_M) := Option.bind (fX3_in a1.toInt64 (1 : Int64) (2000 : Int64)) fun (r1 : Int32) => if r1 = 0 then (some ((-1000000002 : Int32), u)) else (Option.bind (fX3_notes N u) fun (r3 : zc_M) => Option.bind (fX3_goes N r3 a1) fun (r4 : Int32 × zc_M) => zc_let (r4.2) fun (u5 : zc_M) => some (r4.1, u5))
set_option maxHeartbeats 4000000 in
set_option maxRecDepth 100000 in
theorem kX3_tick (l : Launch) (G : zc_G) (ma : Nat → Nat) (sz : Nat) {N : Nat} {u : zc_M} {a1 : Int32} {r0 : Int32 × zc_M} (hF : fX3_tick N u a1 = some r0) : Met l yX3_tick wsX3_tick ({ frames := 4, cells := 0, slots := 0, locals := 101 }) (zc_Pm G [.ref (ma 0), .int a1] (zc_mo G ma u) sz) (zc_Qi G r0.1 (zc_mo G ma r0.2) (va_A (zc_mo G ma u) sz)) 0 0 (va_A (zc_mo G ma u) sz) := by
  refine Met.ofW (cc := cX3_tick) (maxL := 2) (ret := (some .int)) (by decide) rfl ?_
  intro p e s m args below meth c s₁ B hml hv
  obtain ⟨rfl, hsz, hP, hK, hD0⟩ := hv
  have hx := B.exec
  have hb := B.bytes
  have hr := B.returns
  have hts := atoms_spec (ws := wsX3_tick) B.pre
  have hown : s.vm.findClass RX3 = some m.cls := findClass_of_methodNamed B.named
  have hlocks := B.notSynchronized
  subst hsz
  have hD := hD0.self (sz := s.heap.size)
  generalize hAe : va_A (zc_mo G ma u) s.heap.size = A at hD ⊢
  have hA : ∀ q : Nat, s.heap.size ≤ q → A q := fun q h => by rw [← hAe]; exact Or.inr h
  have hS : va_S A s.heap s.heap [] := va_S.rf
  have hl := lv_entry ([.ref (ma 0), .int a1]) (n := 2) (Nat.le_of_ble_eq_true rfl)
  rw [lg_entry_eq]
  generalize (lg_sl ([.ref (ma 0), .int a1]) ++ List.replicate (2 - (lg_sl ([.ref (ma 0), .int a1])).length) Slot.unset).toArray = ls at hl ⊢
  have hl : lv_has ls 2 [(0, .ref (ma 0)), (1, .int a1)] := hl
  refine lv_iload_n hx hb dX3_tick_0 rfl (lv_at hl 1 rfl) ?_
  refine lv_i2l hx hb dX3_tick_1 rfl ?_
  refine lv_lconst (v := (1 : Int64)) hx hb dX3_tick_2 (by decide) ?_
  refine lv_ldc2 hx hb hown (hts (.constantLong RX3 132 (2000)) (List.mem_of_getElem? (i := 1) rfl)) dX3_tick_3 ?_
  obtain ⟨r1, er1, hF⟩ := zc_bind hF
  refine zc_ci (va_runS (As := [.long _, .long _, .long _]) ⟨hx, hb, hml, hown, hts⟩ (kX3_in l G er1) (va_cwS 3 hts gX3_tick_X3_in rfl rfl rfl (by decide +kernel) ⟨Nat.le_of_ble_eq_true rfl, Nat.le_of_ble_eq_true rfl⟩) (zc_preS hK (show va_P G.1 vwCl [] _ from fun k q h => by simp at h)) rfl rfl hl.1 rfl (lv_room (Nat.le_of_ble_eq_true rfl)) dX3_tick_6 ⟨Nat.le_of_ble_eq_true rfl, Nat.le_of_ble_eq_true rfl⟩) ?_
  refine lv_if_ne (tgt := 15) hx hb dX3_tick_9 (by decide) (fun c2 => ?_) (fun c2 => ?_)
  · have hF := zc_neg c2 hF
    refine lv_aload_n hx hb dX3_tick_15 rfl (lv_at hl 0 rfl) ?_
    obtain ⟨r3, er3, hF⟩ := zc_bind hF
    refine zc_mv (X := zc_mo G ma u) (pl := []) (wc := zc_mo G ma u) (w1 := zc_mo G ma r3) (wr := []) hP hD hS hA [0, 1, 2, 3, 4, 5] [] rfl (by decide) rfl (by decide) (by decide) rfl (va_runV (As := []) ⟨hx, hb, hml, hown, hts⟩ (kX3_notes l G ma _ er3) (cwV 0 hts gX3_tick_X3_notes rfl rfl rfl (by decide +kernel) ⟨Nat.le_of_ble_eq_true rfl, Nat.le_of_ble_eq_true rfl⟩) (zc_preVm hK hP hD 0 rfl rfl) rfl rfl hl.1 rfl (lv_room (Nat.le_of_ble_eq_true rfl)) dX3_tick_16 ⟨Nat.le_of_ble_eq_true rfl, Nat.le_of_ble_eq_true rfl⟩) (fun H locs hP hD hS => ?_)
    have hP : va_P G.1 vwCl (zc_mo G ma r3) H := hP
    have hD : va_D A (zc_mo G ma r3) := hD
    refine lv_aload_n hx hb dX3_tick_19 rfl (lv_at hl 0 rfl) ?_
    refine lv_iload_n hx hb dX3_tick_20 rfl (lv_at hl 1 rfl) ?_
    obtain ⟨r4, er4, hF⟩ := zc_bind hF
    refine zc_mi (X := zc_mo G ma r3) (pl := []) (wc := zc_mo G ma r3) (w1 := zc_mo G ma r4.2) (wr := []) hP hD hS hA [0, 1, 2, 3, 4, 5] [] rfl (by decide) rfl (by decide) (by decide) rfl (va_runV (As := [.int _]) ⟨hx, hb, hml, hown, hts⟩ (kX3_goes l G ma _ er4) (cwV 1 hts gX3_tick_X3_goes rfl rfl rfl (by decide +kernel) ⟨Nat.le_of_ble_eq_true rfl, Nat.le_of_ble_eq_true rfl⟩) (zc_preVm hK hP hD 0 rfl rfl) rfl rfl hl.1 rfl (lv_room (Nat.le_of_ble_eq_true rfl)) dX3_tick_21 ⟨Nat.le_of_ble_eq_true rfl, Nat.le_of_ble_eq_true rfl⟩) (fun H locs hP hD hS => ?_)
    obtain ⟨u5, eu5, hF⟩ := zc_letX hF
    have hP : va_P G.1 vwCl (zc_mo G ma u5) H := by rw [eu5]; exact hP
    have hD : va_D A (zc_mo G ma u5) := zc_Ds hD rfl
    obtain rfl := Option.some.inj hF
    exact W.iret hx hb hr (fun t ht hW => ⟨⟨_, (), rfl, rfl, zc_hp ht hP⟩, hS.F ht⟩) hS.2.2 dX3_tick_24
  · have hF := zc_pos c2 hF
    refine lv_ldc hx hb hown (hts (.constant RX3 154 (-1000000002)) (List.mem_of_getElem? (i := 2) rfl)) dX3_tick_12 ?_
    obtain rfl := Option.some.inj hF
    exact W.iret hx hb hr (fun t ht hW => ⟨⟨_, (), rfl, rfl, zc_hp ht hP⟩, hS.F ht⟩) hS.2.2 dX3_tick_14
def fX3_warm (N : Nat) (u : zc_M) (a1 : Int32) : Option (Int32 × zc_M) := Option.bind (fX3_in a1.toInt64 (-20 : Int64) (69 : Int64)) fun (r1 : Int32) => if r1 = 0 then (some ((-1000000002 : Int32), u)) else (zc_let ((u.1 0 4)).toInt32 fun (x3 : Int32) => Option.bind (fX3_notes N u) fun (r4 : zc_M) => zc_let (zc_mL r4 0 4 a1.toInt64) fun (u5 : zc_M) => some ((x3 + (20 : Int32)), u5))
theorem iX3_warm_X3 : ∀ w ∈ wsX30, w ∈ wsX3_warm := fun _ h => List.mem_cons_of_mem _ (List.mem_append_right _ h)
set_option maxHeartbeats 4000000 in
set_option maxRecDepth 100000 in
theorem kX3_warm (l : Launch) (G : zc_G) (ma : Nat → Nat) (sz : Nat) {N : Nat} {u : zc_M} {a1 : Int32} {r0 : Int32 × zc_M} (hF : fX3_warm N u a1 = some r0) : Met l yX3_warm wsX3_warm ({ frames := 2, cells := 0, slots := 0, locals := 45 }) (zc_Pm G [.ref (ma 0), .int a1] (zc_mo G ma u) sz) (zc_Qi G r0.1 (zc_mo G ma r0.2) (va_A (zc_mo G ma u) sz)) 0 0 (va_A (zc_mo G ma u) sz) := by
  refine Met.ofW (cc := cX3_warm) (maxL := 3) (ret := (some .int)) (by decide) rfl ?_
  intro p e s m args below meth c s₁ B hml hv
  obtain ⟨rfl, hsz, hP, hK, hD0⟩ := hv
  have hx := B.exec
  have hb := B.bytes
  have hr := B.returns
  have hts := atoms_spec (ws := wsX3_warm) B.pre
  have hown : s.vm.findClass RX3 = some m.cls := findClass_of_methodNamed B.named
  have hlocks := B.notSynchronized
  subst hsz
  have hD := hD0.self (sz := s.heap.size)
  generalize hAe : va_A (zc_mo G ma u) s.heap.size = A at hD ⊢
  have hA : ∀ q : Nat, s.heap.size ≤ q → A q := fun q h => by rw [← hAe]; exact Or.inr h
  have hS : va_S A s.heap s.heap [] := va_S.rf
  have hl := lv_entry ([.ref (ma 0), .int a1]) (n := 3) (Nat.le_of_ble_eq_true rfl)
  rw [lg_entry_eq]
  generalize (lg_sl ([.ref (ma 0), .int a1]) ++ List.replicate (3 - (lg_sl ([.ref (ma 0), .int a1])).length) Slot.unset).toArray = ls at hl ⊢
  have hl : lv_has ls 3 [(0, .ref (ma 0)), (1, .int a1)] := hl
  refine lv_iload_n hx hb dX3_warm_0 rfl (lv_at hl 1 rfl) ?_
  refine lv_i2l hx hb dX3_warm_1 rfl ?_
  refine lv_ldc2 hx hb hown (hts (.constantLong RX3 186 (-20)) (List.mem_of_getElem? (i := 1) rfl)) dX3_warm_2 ?_
  refine lv_ldc2 hx hb hown (hts (.constantLong RX3 188 (69)) (List.mem_of_getElem? (i := 2) rfl)) dX3_warm_5 ?_
  obtain ⟨r1, er1, hF⟩ := zc_bind hF
  refine zc_ci (va_runS (As := [.long _, .long _, .long _]) ⟨hx, hb, hml, hown, hts⟩ (kX3_in l G er1) (va_cwS 3 hts gX3_warm_X3_in rfl rfl rfl (by decide +kernel) ⟨Nat.le_of_ble_eq_true rfl, Nat.le_of_ble_eq_true rfl⟩) (zc_preS hK (show va_P G.1 vwCl [] _ from fun k q h => by simp at h)) rfl rfl hl.1 rfl (lv_room (Nat.le_of_ble_eq_true rfl)) dX3_warm_8 ⟨Nat.le_of_ble_eq_true rfl, Nat.le_of_ble_eq_true rfl⟩) ?_
  refine lv_if_ne (tgt := 17) hx hb dX3_warm_11 (by decide) (fun c2 => ?_) (fun c2 => ?_)
  · have hF := zc_neg c2 hF
    refine lv_aload_n hx hb dX3_warm_17 rfl (lv_at hl 0 rfl) ?_
    refine va_get (D := G.1) (ci := 3) (C := RX3) (T := TX3) (N := 8) hx hb hts iX3_warm_X3 hown hK.1 hP 0 rfl rfl 0 (by decide) (hts (.fieldLink RX3 7 "BoardClockModel" "st" "[J") (List.mem_of_getElem? (i := 4) rfl)) (fun _ h9 => h9) rfl dX3_warm_18 ?_
    refine lv_iconst (v := (4 : Int32)) hx hb dX3_warm_21 (by decide) ?_
    refine zc_lald hx hb hK.1 hP 1 1 rfl rfl (j := 4) (zc_vin (by decide)) (by decide) dX3_warm_22 ?_
    refine lv_l2i hx hb dX3_warm_23 rfl ?_
    refine lv_topi (fun x3 ex3 => ?_)
    have hF := zc_letE ex3 hF
    refine lv_istore_n (lv' := [(2, .int x3), (0, .ref (ma 0)), (1, .int a1)]) hx hb dX3_warm_24 rfl hl (by decide) rfl (fun ls hl => ?_)
    refine lv_aload_n hx hb dX3_warm_25 rfl (lv_at hl 1 rfl) ?_
    obtain ⟨r4, er4, hF⟩ := zc_bind hF
    refine zc_mv (X := zc_mo G ma u) (pl := []) (wc := zc_mo G ma u) (w1 := zc_mo G ma r4) (wr := []) hP hD hS hA [0, 1, 2, 3, 4, 5] [] rfl (by decide) rfl (by decide) (by decide) rfl (va_runV (As := []) ⟨hx, hb, hml, hown, hts⟩ (kX3_notes l G ma _ er4) (cwV 0 hts gX3_warm_X3_notes rfl rfl rfl (by decide +kernel) ⟨Nat.le_of_ble_eq_true rfl, Nat.le_of_ble_eq_true rfl⟩) (zc_preVm hK hP hD 0 rfl rfl) rfl rfl hl.1 rfl (lv_room (Nat.le_of_ble_eq_true rfl)) dX3_warm_26 ⟨Nat.le_of_ble_eq_true rfl, Nat.le_of_ble_eq_true rfl⟩) (fun H locs hP hD hS => ?_)
    have hP : va_P G.1 vwCl (zc_mo G ma r4) H := hP
    have hD : va_D A (zc_mo G ma r4) := hD
    refine lv_aload_n hx hb dX3_warm_29 rfl (lv_at hl 1 rfl) ?_
    refine va_get (D := G.1) (ci := 3) (C := RX3) (T := TX3) (N := 8) hx hb hts iX3_warm_X3 hown hK.1 hP 0 rfl rfl 0 (by decide) (hts (.fieldLink RX3 7 "BoardClockModel" "st" "[J") (List.mem_of_getElem? (i := 4) rfl)) (fun _ h9 => h9) rfl dX3_warm_30 ?_
    refine lv_iconst (v := (4 : Int32)) hx hb dX3_warm_33 (by decide) ?_
    refine lv_iload_n hx hb dX3_warm_34 rfl (lv_at hl 2 rfl) ?_
    refine lv_i2l hx hb dX3_warm_35 rfl ?_
    refine zc_last (j := 4) hx hb hK.1 hP hD hS 1 1 rfl rfl (zc_vin (by decide)) (by decide) dX3_warm_36 (fun H locs hP hS => ?_)
    obtain ⟨u5, eu5, hF⟩ := zc_letX hF
    have hP : va_P G.1 vwCl (zc_mo G ma u5) H := by rw [eu5]; exact hP
    have hD : va_D A (zc_mo G ma u5) := zc_Ds hD rfl
    refine lv_iload_n hx hb dX3_warm_37 rfl (lv_at hl 0 rfl) ?_
    refine lv_bipush (v := (20 : Int32)) hx hb dX3_warm_38 (by decide) ?_
    refine lv_iadd hx hb dX3_warm_40 ?_
    obtain rfl := Option.some.inj hF
    exact W.iret hx hb hr (fun t ht hW => ⟨⟨_, (), rfl, rfl, zc_hp ht hP⟩, hS.F ht⟩) hS.2.2 dX3_warm_41
  · have hF := zc_pos c2 hF
    refine lv_ldc hx hb hown (hts (.constant RX3 154 (-1000000002)) (List.mem_of_getElem? (i := 3) rfl)) dX3_warm_14 ?_
    obtain rfl := Option.some.inj hF
    exact W.iret hx hb hr (fun t ht hW => ⟨⟨_, (), rfl, rfl, zc_hp ht hP⟩, hS.F ht⟩) hS.2.2 dX3_warm_16
def fX3_crystal (N : Nat) (u : zc_M) (a1 : Int32) (a2 : Int32) (a3 : Int32) : Option (Int32 × zc_M) := Option.bind (fX3_in a1.toInt64 (0 : Int64) (40 : Int64)) fun (r1 : Int32) => if r1 = 0 then (some ((-1000000002 : Int32), u)) else (Option.bind (fX3_in a2.toInt64 (0 : Int64) (20 : Int64)) fun (r3 : Int32) => if r3 = 0 then (some ((-1000000002 : Int32), u)) else (Option.bind (fX3_in a3.toInt64 (-9 : Int64) (9 : Int64)) fun (r5 : Int32) => if r5 = 0 then (some ((-1000000002 : Int32), u)) else (Option.bind (fX3_notes N u) fun (r7 : zc_M) => zc_let (zc_mL r7 0 5 a1.toInt64) fun (u8 : zc_M) => zc_let (zc_mL u8 0 6 a2.toInt64) fun (u9 : zc_M) => zc_let (zc_mL u9 0 7 a3.toInt64) fun (u10 : zc_M) => Option.bind (fX3_offAt u10 (u10.1 0 4)) fun (r11 : Int64) => some (((r11).toInt32 + (10000 : Int32)), u10))))
theorem iX3_crystal_X3 : ∀ w ∈ wsX30, w ∈ wsX3_crystal := fun _ h => List.mem_cons_of_mem _ (List.mem_append_right _ h)
set_option maxHeartbeats 4000000 in
set_option maxRecDepth 100000 in
theorem kX3_crystal (l : Launch) (G : zc_G) (ma : Nat → Nat) (sz : Nat) {N : Nat} {u : zc_M} {a1 : Int32} {a2 : Int32} {a3 : Int32} {r0 : Int32 × zc_M} (hF : fX3_crystal N u a1 a2 a3 = some r0) : Met l yX3_crystal wsX3_crystal ({ frames := 2, cells := 0, slots := 0, locals := 45 }) (zc_Pm G [.ref (ma 0), .int a1, .int a2, .int a3] (zc_mo G ma u) sz) (zc_Qi G r0.1 (zc_mo G ma r0.2) (va_A (zc_mo G ma u) sz)) 0 0 (va_A (zc_mo G ma u) sz) := by
  refine Met.ofW (cc := cX3_crystal) (maxL := 4) (ret := (some .int)) (by decide) rfl ?_
  intro p e s m args below meth c s₁ B hml hv
  obtain ⟨rfl, hsz, hP, hK, hD0⟩ := hv
  have hx := B.exec
  have hb := B.bytes
  have hr := B.returns
  have hts := atoms_spec (ws := wsX3_crystal) B.pre
  have hown : s.vm.findClass RX3 = some m.cls := findClass_of_methodNamed B.named
  have hlocks := B.notSynchronized
  subst hsz
  have hD := hD0.self (sz := s.heap.size)
  generalize hAe : va_A (zc_mo G ma u) s.heap.size = A at hD ⊢
  have hA : ∀ q : Nat, s.heap.size ≤ q → A q := fun q h => by rw [← hAe]; exact Or.inr h
  have hS : va_S A s.heap s.heap [] := va_S.rf
  have hl := lv_entry ([.ref (ma 0), .int a1, .int a2, .int a3]) (n := 4) (Nat.le_of_ble_eq_true rfl)
  rw [lg_entry_eq]
  generalize (lg_sl ([.ref (ma 0), .int a1, .int a2, .int a3]) ++ List.replicate (4 - (lg_sl ([.ref (ma 0), .int a1, .int a2, .int a3])).length) Slot.unset).toArray = ls at hl ⊢
  have hl : lv_has ls 4 [(0, .ref (ma 0)), (1, .int a1), (2, .int a2), (3, .int a3)] := hl
  refine lv_iload_n hx hb dX3_crystal_0 rfl (lv_at hl 1 rfl) ?_
  refine lv_i2l hx hb dX3_crystal_1 rfl ?_
  refine lv_lconst (v := (0 : Int64)) hx hb dX3_crystal_2 (by decide) ?_
  refine lv_ldc2 hx hb hown (hts (.constantLong RX3 190 (40)) (List.mem_of_getElem? (i := 1) rfl)) dX3_crystal_3 ?_
  obtain ⟨r1, er1, hF⟩ := zc_bind hF
  refine zc_ci (va_runS (As := [.long _, .long _, .long _]) ⟨hx, hb, hml, hown, hts⟩ (kX3_in l G er1) (va_cwS 3 hts gX3_crystal_X3_in rfl rfl rfl (by decide +kernel) ⟨Nat.le_of_ble_eq_true rfl, Nat.le_of_ble_eq_true rfl⟩) (zc_preS hK (show va_P G.1 vwCl [] _ from fun k q h => by simp at h)) rfl rfl hl.1 rfl (lv_room (Nat.le_of_ble_eq_true rfl)) dX3_crystal_6 ⟨Nat.le_of_ble_eq_true rfl, Nat.le_of_ble_eq_true rfl⟩) ?_
  refine lv_if_eq (tgt := 38) hx hb dX3_crystal_9 (by decide) (fun c2 => ?_) (fun c2 => ?_)
  · have hF := zc_pos c2 hF
    refine lv_ldc hx hb hown (hts (.constant RX3 154 (-1000000002)) (List.mem_of_getElem? (i := 5) rfl)) dX3_crystal_38 ?_
    obtain rfl := Option.some.inj hF
    exact W.iret hx hb hr (fun t ht hW => ⟨⟨_, (), rfl, rfl, zc_hp ht hP⟩, hS.F ht⟩) hS.2.2 dX3_crystal_40
  · have hF := zc_neg c2 hF
    refine lv_iload_n hx hb dX3_crystal_12 rfl (lv_at hl 2 rfl) ?_
    refine lv_i2l hx hb dX3_crystal_13 rfl ?_
    refine lv_lconst (v := (0 : Int64)) hx hb dX3_crystal_14 (by decide) ?_
    refine lv_ldc2 hx hb hown (hts (.constantLong RX3 31 (20)) (List.mem_of_getElem? (i := 2) rfl)) dX3_crystal_15 ?_
    obtain ⟨r3, er3, hF⟩ := zc_bind hF
    refine zc_ci (va_runS (As := [.long _, .long _, .long _]) ⟨hx, hb, hml, hown, hts⟩ (kX3_in l G er3) (va_cwS 3 hts gX3_crystal_X3_in rfl rfl rfl (by decide +kernel) ⟨Nat.le_of_ble_eq_true rfl, Nat.le_of_ble_eq_true rfl⟩) (zc_preS hK (show va_P G.1 vwCl [] _ from fun k q h => by simp at h)) rfl rfl hl.1 rfl (lv_room (Nat.le_of_ble_eq_true rfl)) dX3_crystal_18 ⟨Nat.le_of_ble_eq_true rfl, Nat.le_of_ble_eq_true rfl⟩) ?_
    refine lv_if_eq (tgt := 38) hx hb dX3_crystal_21 (by decide) (fun c4 => ?_) (fun c4 => ?_)
    · have hF := zc_pos c4 hF
      refine lv_ldc hx hb hown (hts (.constant RX3 154 (-1000000002)) (List.mem_of_getElem? (i := 5) rfl)) dX3_crystal_38 ?_
      obtain rfl := Option.some.inj hF
      exact W.iret hx hb hr (fun t ht hW => ⟨⟨_, (), rfl, rfl, zc_hp ht hP⟩, hS.F ht⟩) hS.2.2 dX3_crystal_40
    · have hF := zc_neg c4 hF
      refine lv_iload_n hx hb dX3_crystal_24 rfl (lv_at hl 3 rfl) ?_
      refine lv_i2l hx hb dX3_crystal_25 rfl ?_
      refine lv_ldc2 hx hb hown (hts (.constantLong RX3 192 (-9)) (List.mem_of_getElem? (i := 3) rfl)) dX3_crystal_26 ?_
      refine lv_ldc2 hx hb hown (hts (.constantLong RX3 112 (9)) (List.mem_of_getElem? (i := 4) rfl)) dX3_crystal_29 ?_
      obtain ⟨r5, er5, hF⟩ := zc_bind hF
      refine zc_ci (va_runS (As := [.long _, .long _, .long _]) ⟨hx, hb, hml, hown, hts⟩ (kX3_in l G er5) (va_cwS 3 hts gX3_crystal_X3_in rfl rfl rfl (by decide +kernel) ⟨Nat.le_of_ble_eq_true rfl, Nat.le_of_ble_eq_true rfl⟩) (zc_preS hK (show va_P G.1 vwCl [] _ from fun k q h => by simp at h)) rfl rfl hl.1 rfl (lv_room (Nat.le_of_ble_eq_true rfl)) dX3_crystal_32 ⟨Nat.le_of_ble_eq_true rfl, Nat.le_of_ble_eq_true rfl⟩) ?_
      refine lv_if_ne (tgt := 41) hx hb dX3_crystal_35 (by decide) (fun c6 => ?_) (fun c6 => ?_)
      · have hF := zc_neg c6 hF
        refine lv_aload_n hx hb dX3_crystal_41 rfl (lv_at hl 0 rfl) ?_
        obtain ⟨r7, er7, hF⟩ := zc_bind hF
        refine zc_mv (X := zc_mo G ma u) (pl := []) (wc := zc_mo G ma u) (w1 := zc_mo G ma r7) (wr := []) hP hD hS hA [0, 1, 2, 3, 4, 5] [] rfl (by decide) rfl (by decide) (by decide) rfl (va_runV (As := []) ⟨hx, hb, hml, hown, hts⟩ (kX3_notes l G ma _ er7) (cwV 0 hts gX3_crystal_X3_notes rfl rfl rfl (by decide +kernel) ⟨Nat.le_of_ble_eq_true rfl, Nat.le_of_ble_eq_true rfl⟩) (zc_preVm hK hP hD 0 rfl rfl) rfl rfl hl.1 rfl (lv_room (Nat.le_of_ble_eq_true rfl)) dX3_crystal_42 ⟨Nat.le_of_ble_eq_true rfl, Nat.le_of_ble_eq_true rfl⟩) (fun H locs hP hD hS => ?_)
        have hP : va_P G.1 vwCl (zc_mo G ma r7) H := hP
        have hD : va_D A (zc_mo G ma r7) := hD
        refine lv_aload_n hx hb dX3_crystal_45 rfl (lv_at hl 0 rfl) ?_
        refine va_get (D := G.1) (ci := 3) (C := RX3) (T := TX3) (N := 8) hx hb hts iX3_crystal_X3 hown hK.1 hP 0 rfl rfl 0 (by decide) (hts (.fieldLink RX3 7 "BoardClockModel" "st" "[J") (List.mem_of_getElem? (i := 6) rfl)) (fun _ h9 => h9) rfl dX3_crystal_46 ?_
        refine lv_iconst (v := (5 : Int32)) hx hb dX3_crystal_49 (by decide) ?_
        refine lv_iload_n hx hb dX3_crystal_50 rfl (lv_at hl 1 rfl) ?_
        refine lv_i2l hx hb dX3_crystal_51 rfl ?_
        refine zc_last (j := 5) hx hb hK.1 hP hD hS 1 1 rfl rfl (zc_vin (by decide)) (by decide) dX3_crystal_52 (fun H locs hP hS => ?_)
        obtain ⟨u8, eu8, hF⟩ := zc_letX hF
        have hP : va_P G.1 vwCl (zc_mo G ma u8) H := by rw [eu8]; exact hP
        have hD : va_D A (zc_mo G ma u8) := zc_Ds hD rfl
        refine lv_aload_n hx hb dX3_crystal_53 rfl (lv_at hl 0 rfl) ?_
        refine va_get (D := G.1) (ci := 3) (C := RX3) (T := TX3) (N := 8) hx hb hts iX3_crystal_X3 hown hK.1 hP 0 rfl rfl 0 (by decide) (hts (.fieldLink RX3 7 "BoardClockModel" "st" "[J") (List.mem_of_getElem? (i := 6) rfl)) (fun _ h9 => h9) rfl dX3_crystal_54 ?_
        refine lv_bipush (v := (6 : Int32)) hx hb dX3_crystal_57 (by decide) ?_
        refine lv_iload_n hx hb dX3_crystal_59 rfl (lv_at hl 2 rfl) ?_
        refine lv_i2l hx hb dX3_crystal_60 rfl ?_
        refine zc_last (j := 6) hx hb hK.1 hP hD hS 1 1 rfl rfl (zc_vin (by decide)) (by decide) dX3_crystal_61 (fun H locs hP hS => ?_)
        obtain ⟨u9, eu9, hF⟩ := zc_letX hF
        have hP : va_P G.1 vwCl (zc_mo G ma u9) H := by rw [eu9]; exact hP
        have hD : va_D A (zc_mo G ma u9) := zc_Ds hD rfl
        refine lv_aload_n hx hb dX3_crystal_62 rfl (lv_at hl 0 rfl) ?_
        refine va_get (D := G.1) (ci := 3) (C := RX3) (T := TX3) (N := 8) hx hb hts iX3_crystal_X3 hown hK.1 hP 0 rfl rfl 0 (by decide) (hts (.fieldLink RX3 7 "BoardClockModel" "st" "[J") (List.mem_of_getElem? (i := 6) rfl)) (fun _ h9 => h9) rfl dX3_crystal_63 ?_
        refine lv_bipush (v := (7 : Int32)) hx hb dX3_crystal_66 (by decide) ?_
        refine lv_iload_n hx hb dX3_crystal_68 rfl (lv_at hl 3 rfl) ?_
        refine lv_i2l hx hb dX3_crystal_69 rfl ?_
        refine zc_last (j := 7) hx hb hK.1 hP hD hS 1 1 rfl rfl (zc_vin (by decide)) (by decide) dX3_crystal_70 (fun H locs hP hS => ?_)
        obtain ⟨u10, eu10, hF⟩ := zc_letX hF
        have hP : va_P G.1 vwCl (zc_mo G ma u10) H := by rw [eu10]; exact hP
        have hD : va_D A (zc_mo G ma u10) := zc_Ds hD rfl
        refine lv_aload_n hx hb dX3_crystal_71 rfl (lv_at hl 0 rfl) ?_
        refine lv_aload_n hx hb dX3_crystal_72 rfl (lv_at hl 0 rfl) ?_
        refine va_get (D := G.1) (ci := 3) (C := RX3) (T := TX3) (N := 8) hx hb hts iX3_crystal_X3 hown hK.1 hP 0 rfl rfl 0 (by decide) (hts (.fieldLink RX3 7 "BoardClockModel" "st" "[J") (List.mem_of_getElem? (i := 6) rfl)) (fun _ h9 => h9) rfl dX3_crystal_73 ?_
        refine lv_iconst (v := (4 : Int32)) hx hb dX3_crystal_76 (by decide) ?_
        refine zc_lald hx hb hK.1 hP 1 1 rfl rfl (j := 4) (zc_vin (by decide)) (by decide) dX3_crystal_77 ?_
        obtain ⟨r11, er11, hF⟩ := zc_bind hF
        refine zc_cl (va_runV (As := [.long _]) ⟨hx, hb, hml, hown, hts⟩ (kX3_offAt l G ma er11) (cwV 1 hts gX3_crystal_X3_offAt rfl rfl rfl (by decide +kernel) ⟨Nat.le_of_ble_eq_true rfl, Nat.le_of_ble_eq_true rfl⟩) (zc_preV hK hP 0 rfl rfl) rfl rfl hl.1 rfl (lv_room (Nat.le_of_ble_eq_true rfl)) dX3_crystal_78 ⟨Nat.le_of_ble_eq_true rfl, Nat.le_of_ble_eq_true rfl⟩) ?_
        refine lv_l2i hx hb dX3_crystal_81 rfl ?_
        refine lv_sipush (v := (10000 : Int32)) hx hb dX3_crystal_82 (by decide) ?_
        refine lv_iadd hx hb dX3_crystal_85 ?_
        obtain rfl := Option.some.inj hF
        exact W.iret hx hb hr (fun t ht hW => ⟨⟨_, (), rfl, rfl, zc_hp ht hP⟩, hS.F ht⟩) hS.2.2 dX3_crystal_86
      · have hF := zc_pos c6 hF
        refine lv_ldc hx hb hown (hts (.constant RX3 154 (-1000000002)) (List.mem_of_getElem? (i := 5) rfl)) dX3_crystal_38 ?_
        obtain rfl := Option.some.inj hF
        exact W.iret hx hb hr (fun t ht hW => ⟨⟨_, (), rfl, rfl, zc_hp ht hP⟩, hS.F ht⟩) hS.2.2 dX3_crystal_40
def fX3_bound (N : Nat) (u : zc_M) (a1 : Int32) (a2 : Int32) : Option (Int32 × zc_M) := Option.bind (fX3_in a1.toInt64 (0 : Int64) (1 : Int64)) fun (r1 : Int32) => if r1 = 0 then (some ((-1000000002 : Int32), u)) else (if a1 = 0 then (Option.bind (fX3_in a2.toInt64 (((1 : Int32) - a1)).toInt64 (200 : Int64)) fun (r11 : Int32) => if r11 = 0 then (some ((-1000000002 : Int32), u)) else (zc_in ((9 : Int32) + a1) 49 (zc_let ((u.1 0 (((9 : Int32) + a1)).toNatClampNeg)).toInt32 fun (x14 : Int32) => Option.bind (fX3_notes N u) fun (r15 : zc_M) => zc_in ((9 : Int32) + a1) 49 (zc_let (zc_mL r15 0 (((9 : Int32) + a1)).toNatClampNeg a2.toInt64) fun (u17 : zc_M) => some (x14, u17))))) else (Option.bind (fX3_in a2.toInt64 (((1 : Int32) - a1)).toInt64 (999 : Int64)) fun (r4 : Int32) => if r4 = 0 then (some ((-1000000002 : Int32), u)) else (zc_in ((9 : Int32) + a1) 49 (zc_let ((u.1 0 (((9 : Int32) + a1)).toNatClampNeg)).toInt32 fun (x7 : Int32) => Option.bind (fX3_notes N u) fun (r8 : zc_M) => zc_in ((9 : Int32) + a1) 49 (zc_let (zc_mL r8 0 (((9 : Int32) + a1)).toNatClampNeg a2.toInt64) fun (u10 : zc_M) => some (x7, u10))))))
theorem iX3_bound_X3 : ∀ w ∈ wsX30, w ∈ wsX3_bound := fun _ h => List.mem_cons_of_mem _ (List.mem_append_right _ h)
set_option maxHeartbeats 4000000 in
set_option maxRecDepth 100000 in
theorem kX3_bound (l : Launch) (G : zc_G) (ma : Nat → Nat) (sz : Nat) {N : Nat} {u : zc_M} {a1 : Int32} {a2 : Int32} {r0 : Int32 × zc_M} (hF : fX3_bound N u a1 a2 = some r0) : Met l yX3_bound wsX3_bound ({ frames := 2, cells := 0, slots := 0, locals := 45 }) (zc_Pm G [.ref (ma 0), .int a1, .int a2] (zc_mo G ma u) sz) (zc_Qi G r0.1 (zc_mo G ma r0.2) (va_A (zc_mo G ma u) sz)) 0 0 (va_A (zc_mo G ma u) sz) := by
  refine Met.ofW (cc := cX3_bound) (maxL := 4) (ret := (some .int)) (by decide) rfl ?_
  intro p e s m args below meth c s₁ B hml hv
  obtain ⟨rfl, hsz, hP, hK, hD0⟩ := hv
  have hx := B.exec
  have hb := B.bytes
  have hr := B.returns
  have hts := atoms_spec (ws := wsX3_bound) B.pre
  have hown : s.vm.findClass RX3 = some m.cls := findClass_of_methodNamed B.named
  have hlocks := B.notSynchronized
  subst hsz
  have hD := hD0.self (sz := s.heap.size)
  generalize hAe : va_A (zc_mo G ma u) s.heap.size = A at hD ⊢
  have hA : ∀ q : Nat, s.heap.size ≤ q → A q := fun q h => by rw [← hAe]; exact Or.inr h
  have hS : va_S A s.heap s.heap [] := va_S.rf
  have hl := lv_entry ([.ref (ma 0), .int a1, .int a2]) (n := 4) (Nat.le_of_ble_eq_true rfl)
  rw [lg_entry_eq]
  generalize (lg_sl ([.ref (ma 0), .int a1, .int a2]) ++ List.replicate (4 - (lg_sl ([.ref (ma 0), .int a1, .int a2])).length) Slot.unset).toArray = ls at hl ⊢
  have hl : lv_has ls 4 [(0, .ref (ma 0)), (1, .int a1), (2, .int a2)] := hl
  refine lv_iload_n hx hb dX3_bound_0 rfl (lv_at hl 1 rfl) ?_
  refine lv_i2l hx hb dX3_bound_1 rfl ?_
  refine lv_lconst (v := (0 : Int64)) hx hb dX3_bound_2 (by decide) ?_
  refine lv_lconst (v := (1 : Int64)) hx hb dX3_bound_3 (by decide) ?_
  obtain ⟨r1, er1, hF⟩ := zc_bind hF
  refine zc_ci (va_runS (As := [.long _, .long _, .long _]) ⟨hx, hb, hml, hown, hts⟩ (kX3_in l G er1) (va_cwS 3 hts gX3_bound_X3_in rfl rfl rfl (by decide +kernel) ⟨Nat.le_of_ble_eq_true rfl, Nat.le_of_ble_eq_true rfl⟩) (zc_preS hK (show va_P G.1 vwCl [] _ from fun k q h => by simp at h)) rfl rfl hl.1 rfl (lv_room (Nat.le_of_ble_eq_true rfl)) dX3_bound_4 ⟨Nat.le_of_ble_eq_true rfl, Nat.le_of_ble_eq_true rfl⟩) ?_
  refine lv_if_eq (tgt := 35) hx hb dX3_bound_7 (by decide) (fun c2 => ?_) (fun c2 => ?_)
  · have hF := zc_pos c2 hF
    refine lv_ldc hx hb hown (hts (.constant RX3 154 (-1000000002)) (List.mem_of_getElem? (i := 3) rfl)) dX3_bound_35 ?_
    obtain rfl := Option.some.inj hF
    exact W.iret hx hb hr (fun t ht hW => ⟨⟨_, (), rfl, rfl, zc_hp ht hP⟩, hS.F ht⟩) hS.2.2 dX3_bound_37
  · have hF := zc_neg c2 hF
    refine lv_iload_n hx hb dX3_bound_10 rfl (lv_at hl 2 rfl) ?_
    refine lv_i2l hx hb dX3_bound_11 rfl ?_
    refine lv_iconst (v := (1 : Int32)) hx hb dX3_bound_12 (by decide) ?_
    refine lv_iload_n hx hb dX3_bound_13 rfl (lv_at hl 1 rfl) ?_
    refine lv_isub hx hb dX3_bound_14 ?_
    refine lv_i2l hx hb dX3_bound_15 rfl ?_
    refine lv_iload_n hx hb dX3_bound_16 rfl (lv_at hl 1 rfl) ?_
    refine lv_if_ne (tgt := 26) hx hb dX3_bound_17 (by decide) (fun c3 => ?_) (fun c3 => ?_)
    · have hF := zc_neg c3 hF
      refine lv_ldc2 hx hb hown (hts (.constantLong RX3 196 (999)) (List.mem_of_getElem? (i := 2) rfl)) dX3_bound_26 ?_
      obtain ⟨r4, er4, hF⟩ := zc_bind hF
      refine zc_ci (va_runS (As := [.long _, .long _, .long _]) ⟨hx, hb, hml, hown, hts⟩ (kX3_in l G er4) (va_cwS 3 hts gX3_bound_X3_in rfl rfl rfl (by decide +kernel) ⟨Nat.le_of_ble_eq_true rfl, Nat.le_of_ble_eq_true rfl⟩) (zc_preS hK (show va_P G.1 vwCl [] _ from fun k q h => by simp at h)) rfl rfl hl.1 rfl (lv_room (Nat.le_of_ble_eq_true rfl)) dX3_bound_29 ⟨Nat.le_of_ble_eq_true rfl, Nat.le_of_ble_eq_true rfl⟩) ?_
      refine lv_if_ne (tgt := 38) hx hb dX3_bound_32 (by decide) (fun c5 => ?_) (fun c5 => ?_)
      · have hF := zc_neg c5 hF
        refine lv_aload_n hx hb dX3_bound_38 rfl (lv_at hl 0 rfl) ?_
        refine va_get (D := G.1) (ci := 3) (C := RX3) (T := TX3) (N := 8) hx hb hts iX3_bound_X3 hown hK.1 hP 0 rfl rfl 0 (by decide) (hts (.fieldLink RX3 7 "BoardClockModel" "st" "[J") (List.mem_of_getElem? (i := 4) rfl)) (fun _ h9 => h9) rfl dX3_bound_39 ?_
        refine lv_bipush (v := (9 : Int32)) hx hb dX3_bound_42 (by decide) ?_
        refine lv_iload_n hx hb dX3_bound_44 rfl (lv_at hl 1 rfl) ?_
        refine lv_iadd hx hb dX3_bound_45 ?_
        obtain ⟨hi6, hF⟩ := zc_inE hF
        refine zc_lald hx hb hK.1 hP 1 1 rfl rfl hi6 rfl dX3_bound_46 ?_
        refine lv_l2i hx hb dX3_bound_47 rfl ?_
        refine lv_topi (fun x7 ex7 => ?_)
        have hF := zc_letE ex7 hF
        refine lv_istore_n (lv' := [(3, .int x7), (0, .ref (ma 0)), (1, .int a1), (2, .int a2)]) hx hb dX3_bound_48 rfl hl (by decide) rfl (fun ls hl => ?_)
        refine lv_aload_n hx hb dX3_bound_49 rfl (lv_at hl 1 rfl) ?_
        obtain ⟨r8, er8, hF⟩ := zc_bind hF
        refine zc_mv (X := zc_mo G ma u) (pl := []) (wc := zc_mo G ma u) (w1 := zc_mo G ma r8) (wr := []) hP hD hS hA [0, 1, 2, 3, 4, 5] [] rfl (by decide) rfl (by decide) (by decide) rfl (va_runV (As := []) ⟨hx, hb, hml, hown, hts⟩ (kX3_notes l G ma _ er8) (cwV 0 hts gX3_bound_X3_notes rfl rfl rfl (by decide +kernel) ⟨Nat.le_of_ble_eq_true rfl, Nat.le_of_ble_eq_true rfl⟩) (zc_preVm hK hP hD 0 rfl rfl) rfl rfl hl.1 rfl (lv_room (Nat.le_of_ble_eq_true rfl)) dX3_bound_50 ⟨Nat.le_of_ble_eq_true rfl, Nat.le_of_ble_eq_true rfl⟩) (fun H locs hP hD hS => ?_)
        have hP : va_P G.1 vwCl (zc_mo G ma r8) H := hP
        have hD : va_D A (zc_mo G ma r8) := hD
        refine lv_aload_n hx hb dX3_bound_53 rfl (lv_at hl 1 rfl) ?_
        refine va_get (D := G.1) (ci := 3) (C := RX3) (T := TX3) (N := 8) hx hb hts iX3_bound_X3 hown hK.1 hP 0 rfl rfl 0 (by decide) (hts (.fieldLink RX3 7 "BoardClockModel" "st" "[J") (List.mem_of_getElem? (i := 4) rfl)) (fun _ h9 => h9) rfl dX3_bound_54 ?_
        refine lv_bipush (v := (9 : Int32)) hx hb dX3_bound_57 (by decide) ?_
        refine lv_iload_n hx hb dX3_bound_59 rfl (lv_at hl 2 rfl) ?_
        refine lv_iadd hx hb dX3_bound_60 ?_
        refine lv_iload_n hx hb dX3_bound_61 rfl (lv_at hl 3 rfl) ?_
        refine lv_i2l hx hb dX3_bound_62 rfl ?_
        obtain ⟨hi9, hF⟩ := zc_inE hF
        refine zc_last hx hb hK.1 hP hD hS 1 1 rfl rfl hi9 rfl dX3_bound_63 (fun H locs hP hS => ?_)
        obtain ⟨u10, eu10, hF⟩ := zc_letX hF
        have hP : va_P G.1 vwCl (zc_mo G ma u10) H := by rw [eu10]; exact hP
        have hD : va_D A (zc_mo G ma u10) := zc_Ds hD rfl
        refine lv_iload_n hx hb dX3_bound_64 rfl (lv_at hl 0 rfl) ?_
        obtain rfl := Option.some.inj hF
        exact W.iret hx hb hr (fun t ht hW => ⟨⟨_, (), rfl, rfl, zc_hp ht hP⟩, hS.F ht⟩) hS.2.2 dX3_bound_65
      · have hF := zc_pos c5 hF
        refine lv_ldc hx hb hown (hts (.constant RX3 154 (-1000000002)) (List.mem_of_getElem? (i := 3) rfl)) dX3_bound_35 ?_
        obtain rfl := Option.some.inj hF
        exact W.iret hx hb hr (fun t ht hW => ⟨⟨_, (), rfl, rfl, zc_hp ht hP⟩, hS.F ht⟩) hS.2.2 dX3_bound_37
    · have hF := zc_pos c3 hF
      refine lv_ldc2 hx hb hown (hts (.constantLong RX3 194 (200)) (List.mem_of_getElem? (i := 1) rfl)) dX3_bound_20 ?_
      refine lv_goto (tgt := 29) hx hb dX3_bound_23 (by decide) ?_
      obtain ⟨r11, er11, hF⟩ := zc_bind hF
      refine zc_ci (va_runS (As := [.long _, .long _, .long _]) ⟨hx, hb, hml, hown, hts⟩ (kX3_in l G er11) (va_cwS 3 hts gX3_bound_X3_in rfl rfl rfl (by decide +kernel) ⟨Nat.le_of_ble_eq_true rfl, Nat.le_of_ble_eq_true rfl⟩) (zc_preS hK (show va_P G.1 vwCl [] _ from fun k q h => by simp at h)) rfl rfl hl.1 rfl (lv_room (Nat.le_of_ble_eq_true rfl)) dX3_bound_29 ⟨Nat.le_of_ble_eq_true rfl, Nat.le_of_ble_eq_true rfl⟩) ?_
      refine lv_if_ne (tgt := 38) hx hb dX3_bound_32 (by decide) (fun c12 => ?_) (fun c12 => ?_)
      · have hF := zc_neg c12 hF
        refine lv_aload_n hx hb dX3_bound_38 rfl (lv_at hl 0 rfl) ?_
        refine va_get (D := G.1) (ci := 3) (C := RX3) (T := TX3) (N := 8) hx hb hts iX3_bound_X3 hown hK.1 hP 0 rfl rfl 0 (by decide) (hts (.fieldLink RX3 7 "BoardClockModel" "st" "[J") (List.mem_of_getElem? (i := 4) rfl)) (fun _ h9 => h9) rfl dX3_bound_39 ?_
        refine lv_bipush (v := (9 : Int32)) hx hb dX3_bound_42 (by decide) ?_
        refine lv_iload_n hx hb dX3_bound_44 rfl (lv_at hl 1 rfl) ?_
        refine lv_iadd hx hb dX3_bound_45 ?_
        obtain ⟨hi13, hF⟩ := zc_inE hF
        refine zc_lald hx hb hK.1 hP 1 1 rfl rfl hi13 rfl dX3_bound_46 ?_
        refine lv_l2i hx hb dX3_bound_47 rfl ?_
        refine lv_topi (fun x14 ex14 => ?_)
        have hF := zc_letE ex14 hF
        refine lv_istore_n (lv' := [(3, .int x14), (0, .ref (ma 0)), (1, .int a1), (2, .int a2)]) hx hb dX3_bound_48 rfl hl (by decide) rfl (fun ls hl => ?_)
        refine lv_aload_n hx hb dX3_bound_49 rfl (lv_at hl 1 rfl) ?_
        obtain ⟨r15, er15, hF⟩ := zc_bind hF
        refine zc_mv (X := zc_mo G ma u) (pl := []) (wc := zc_mo G ma u) (w1 := zc_mo G ma r15) (wr := []) hP hD hS hA [0, 1, 2, 3, 4, 5] [] rfl (by decide) rfl (by decide) (by decide) rfl (va_runV (As := []) ⟨hx, hb, hml, hown, hts⟩ (kX3_notes l G ma _ er15) (cwV 0 hts gX3_bound_X3_notes rfl rfl rfl (by decide +kernel) ⟨Nat.le_of_ble_eq_true rfl, Nat.le_of_ble_eq_true rfl⟩) (zc_preVm hK hP hD 0 rfl rfl) rfl rfl hl.1 rfl (lv_room (Nat.le_of_ble_eq_true rfl)) dX3_bound_50 ⟨Nat.le_of_ble_eq_true rfl, Nat.le_of_ble_eq_true rfl⟩) (fun H locs hP hD hS => ?_)
        have hP : va_P G.1 vwCl (zc_mo G ma r15) H := hP
        have hD : va_D A (zc_mo G ma r15) := hD
        refine lv_aload_n hx hb dX3_bound_53 rfl (lv_at hl 1 rfl) ?_
        refine va_get (D := G.1) (ci := 3) (C := RX3) (T := TX3) (N := 8) hx hb hts iX3_bound_X3 hown hK.1 hP 0 rfl rfl 0 (by decide) (hts (.fieldLink RX3 7 "BoardClockModel" "st" "[J") (List.mem_of_getElem? (i := 4) rfl)) (fun _ h9 => h9) rfl dX3_bound_54 ?_
        refine lv_bipush (v := (9 : Int32)) hx hb dX3_bound_57 (by decide) ?_
        refine lv_iload_n hx hb dX3_bound_59 rfl (lv_at hl 2 rfl) ?_
        refine lv_iadd hx hb dX3_bound_60 ?_
        refine lv_iload_n hx hb dX3_bound_61 rfl (lv_at hl 3 rfl) ?_
        refine lv_i2l hx hb dX3_bound_62 rfl ?_
        obtain ⟨hi16, hF⟩ := zc_inE hF
        refine zc_last hx hb hK.1 hP hD hS 1 1 rfl rfl hi16 rfl dX3_bound_63 (fun H locs hP hS => ?_)
        obtain ⟨u17, eu17, hF⟩ := zc_letX hF
        have hP : va_P G.1 vwCl (zc_mo G ma u17) H := by rw [eu17]; exact hP
        have hD : va_D A (zc_mo G ma u17) := zc_Ds hD rfl
        refine lv_iload_n hx hb dX3_bound_64 rfl (lv_at hl 0 rfl) ?_
        obtain rfl := Option.some.inj hF
        exact W.iret hx hb hr (fun t ht hW => ⟨⟨_, (), rfl, rfl, zc_hp ht hP⟩, hS.F ht⟩) hS.2.2 dX3_bound_65
      · have hF := zc_pos c12 hF
        refine lv_ldc hx hb hown (hts (.constant RX3 154 (-1000000002)) (List.mem_of_getElem? (i := 3) rfl)) dX3_bound_35 ?_
        obtain rfl := Option.some.inj hF
        exact W.iret hx hb hr (fun t ht hW => ⟨⟨_, (), rfl, rfl, zc_hp ht hP⟩, hS.F ht⟩) hS.2.2 dX3_bound_37
def fX3_power (N : Nat) (u : zc_M) (a1 : Int32) : Option (Int32 × zc_M) := zc_let ((u.1 0 11)).toInt32 fun (x1 : Int32) => Option.bind (fX3_notes N u) fun (r2 : zc_M) => if a1 = 0 then (zc_let (zc_mL r2 0 11 (0 : Int64)) fun (u4 : zc_M) => some (x1, u4)) else (zc_let (zc_mL r2 0 11 (1 : Int64)) fun (u5 : zc_M) => some (x1, u5))
theorem iX3_power_X3 : ∀ w ∈ wsX30, w ∈ wsX3_power := fun _ h => List.mem_cons_of_mem _ (List.mem_append_right _ h)
set_option maxHeartbeats 4000000 in
set_option maxRecDepth 100000 in
theorem kX3_power (l : Launch) (G : zc_G) (ma : Nat → Nat) (sz : Nat) {N : Nat} {u : zc_M} {a1 : Int32} {r0 : Int32 × zc_M} (hF : fX3_power N u a1 = some r0) : Met l yX3_power wsX3_power ({ frames := 2, cells := 0, slots := 0, locals := 45 }) (zc_Pm G [.ref (ma 0), .int a1] (zc_mo G ma u) sz) (zc_Qi G r0.1 (zc_mo G ma r0.2) (va_A (zc_mo G ma u) sz)) 0 0 (va_A (zc_mo G ma u) sz) := by
  refine Met.ofW (cc := cX3_power) (maxL := 3) (ret := (some .int)) (by decide) rfl ?_
  intro p e s m args below meth c s₁ B hml hv
  obtain ⟨rfl, hsz, hP, hK, hD0⟩ := hv
  have hx := B.exec
  have hb := B.bytes
  have hr := B.returns
  have hts := atoms_spec (ws := wsX3_power) B.pre
  have hown : s.vm.findClass RX3 = some m.cls := findClass_of_methodNamed B.named
  have hlocks := B.notSynchronized
  subst hsz
  have hD := hD0.self (sz := s.heap.size)
  generalize hAe : va_A (zc_mo G ma u) s.heap.size = A at hD ⊢
  have hA : ∀ q : Nat, s.heap.size ≤ q → A q := fun q h => by rw [← hAe]; exact Or.inr h
  have hS : va_S A s.heap s.heap [] := va_S.rf
  have hl := lv_entry ([.ref (ma 0), .int a1]) (n := 3) (Nat.le_of_ble_eq_true rfl)
  rw [lg_entry_eq]
  generalize (lg_sl ([.ref (ma 0), .int a1]) ++ List.replicate (3 - (lg_sl ([.ref (ma 0), .int a1])).length) Slot.unset).toArray = ls at hl ⊢
  have hl : lv_has ls 3 [(0, .ref (ma 0)), (1, .int a1)] := hl
  refine lv_aload_n hx hb dX3_power_0 rfl (lv_at hl 0 rfl) ?_
  refine va_get (D := G.1) (ci := 3) (C := RX3) (T := TX3) (N := 8) hx hb hts iX3_power_X3 hown hK.1 hP 0 rfl rfl 0 (by decide) (hts (.fieldLink RX3 7 "BoardClockModel" "st" "[J") (List.mem_of_getElem? (i := 1) rfl)) (fun _ h9 => h9) rfl dX3_power_1 ?_
  refine lv_bipush (v := (11 : Int32)) hx hb dX3_power_4 (by decide) ?_
  refine zc_lald hx hb hK.1 hP 1 1 rfl rfl (j := 11) (zc_vin (by decide)) (by decide) dX3_power_6 ?_
  refine lv_l2i hx hb dX3_power_7 rfl ?_
  refine lv_topi (fun x1 ex1 => ?_)
  have hF := zc_letE ex1 hF
  refine lv_istore_n (lv' := [(2, .int x1), (0, .ref (ma 0)), (1, .int a1)]) hx hb dX3_power_8 rfl hl (by decide) rfl (fun ls hl => ?_)
  refine lv_aload_n hx hb dX3_power_9 rfl (lv_at hl 1 rfl) ?_
  obtain ⟨r2, er2, hF⟩ := zc_bind hF
  refine zc_mv (X := zc_mo G ma u) (pl := []) (wc := zc_mo G ma u) (w1 := zc_mo G ma r2) (wr := []) hP hD hS hA [0, 1, 2, 3, 4, 5] [] rfl (by decide) rfl (by decide) (by decide) rfl (va_runV (As := []) ⟨hx, hb, hml, hown, hts⟩ (kX3_notes l G ma _ er2) (cwV 0 hts gX3_power_X3_notes rfl rfl rfl (by decide +kernel) ⟨Nat.le_of_ble_eq_true rfl, Nat.le_of_ble_eq_true rfl⟩) (zc_preVm hK hP hD 0 rfl rfl) rfl rfl hl.1 rfl (lv_room (Nat.le_of_ble_eq_true rfl)) dX3_power_10 ⟨Nat.le_of_ble_eq_true rfl, Nat.le_of_ble_eq_true rfl⟩) (fun H locs hP hD hS => ?_)
  have hP : va_P G.1 vwCl (zc_mo G ma r2) H := hP
  have hD : va_D A (zc_mo G ma r2) := hD
  refine lv_aload_n hx hb dX3_power_13 rfl (lv_at hl 1 rfl) ?_
  refine va_get (D := G.1) (ci := 3) (C := RX3) (T := TX3) (N := 8) hx hb hts iX3_power_X3 hown hK.1 hP 0 rfl rfl 0 (by decide) (hts (.fieldLink RX3 7 "BoardClockModel" "st" "[J") (List.mem_of_getElem? (i := 1) rfl)) (fun _ h9 => h9) rfl dX3_power_14 ?_
  refine lv_bipush (v := (11 : Int32)) hx hb dX3_power_17 (by decide) ?_
  refine lv_iload_n hx hb dX3_power_19 rfl (lv_at hl 2 rfl) ?_
  refine lv_if_eq (tgt := 27) hx hb dX3_power_20 (by decide) (fun c3 => ?_) (fun c3 => ?_)
  · have hF := zc_pos c3 hF
    refine lv_lconst (v := (0 : Int64)) hx hb dX3_power_27 (by decide) ?_
    refine zc_last (j := 11) hx hb hK.1 hP hD hS 1 1 rfl rfl (zc_vin (by decide)) (by decide) dX3_power_28 (fun H locs hP hS => ?_)
    obtain ⟨u4, eu4, hF⟩ := zc_letX hF
    have hP : va_P G.1 vwCl (zc_mo G ma u4) H := by rw [eu4]; exact hP
    have hD : va_D A (zc_mo G ma u4) := zc_Ds hD rfl
    refine lv_iload_n hx hb dX3_power_29 rfl (lv_at hl 0 rfl) ?_
    obtain rfl := Option.some.inj hF
    exact W.iret hx hb hr (fun t ht hW => ⟨⟨_, (), rfl, rfl, zc_hp ht hP⟩, hS.F ht⟩) hS.2.2 dX3_power_30
  · have hF := zc_neg c3 hF
    refine lv_lconst (v := (1 : Int64)) hx hb dX3_power_23 (by decide) ?_
    refine lv_goto (tgt := 28) hx hb dX3_power_24 (by decide) ?_
    refine zc_last (j := 11) hx hb hK.1 hP hD hS 1 1 rfl rfl (zc_vin (by decide)) (by decide) dX3_power_28 (fun H locs hP hS => ?_)
    obtain ⟨u5, eu5, hF⟩ := zc_letX hF
    have hP : va_P G.1 vwCl (zc_mo G ma u5) H := by rw [eu5]; exact hP
    have hD : va_D A (zc_mo G ma u5) := zc_Ds hD rfl
    refine lv_iload_n hx hb dX3_power_29 rfl (lv_at hl 0 rfl) ?_
    obtain rfl := Option.some.inj hF
    exact W.iret hx hb hr (fun t ht hW => ⟨⟨_, (), rfl, rfl, zc_hp ht hP⟩, hS.F ht⟩) hS.2.2 dX3_power_30
def fX3_hear (N : Nat) (u : zc_M) (a1 : Int32) (a2 : Int32) : Option (Int32 × zc_M) := Option.bind (fX3_in a1.toInt64 (-9999 : Int64) (9999 : Int64)) fun (r1 : Int32) => if r1 = 0 then (some ((-1000000002 : Int32), u)) else (Option.bind (fX3_in a2.toInt64 (0 : Int64) (5000 : Int64)) fun (r3 : Int32) => if r3 = 0 then (some ((-1000000002 : Int32), u)) else (Option.bind (fX3_notes N u) fun (r5 : zc_M) => Option.bind (fX3_hears r5 a1.toInt64 a2.toInt64) fun (r6 : Int32 × zc_M) => zc_let (r6.2) fun (u7 : zc_M) => some (r6.1, u7)))
set_option maxHeartbeats 4000000 in
set_option maxRecDepth 100000 in
theorem kX3_hear (l : Launch) (G : zc_G) (ma : Nat → Nat) (sz : Nat) {N : Nat} {u : zc_M} {a1 : Int32} {a2 : Int32} {r0 : Int32 × zc_M} (hF : fX3_hear N u a1 a2 = some r0) : Met l yX3_hear wsX3_hear ({ frames := 3, cells := 0, slots := 0, locals := 81 }) (zc_Pm G [.ref (ma 0), .int a1, .int a2] (zc_mo G ma u) sz) (zc_Qi G r0.1 (zc_mo G ma r0.2) (va_A (zc_mo G ma u) sz)) 0 0 (va_A (zc_mo G ma u) sz) := by
  refine Met.ofW (cc := cX3_hear) (maxL := 3) (ret := (some .int)) (by decide) rfl ?_
  intro p e s m args below meth c s₁ B hml hv
  obtain ⟨rfl, hsz, hP, hK, hD0⟩ := hv
  have hx := B.exec
  have hb := B.bytes
  have hr := B.returns
  have hts := atoms_spec (ws := wsX3_hear) B.pre
  have hown : s.vm.findClass RX3 = some m.cls := findClass_of_methodNamed B.named
  have hlocks := B.notSynchronized
  subst hsz
  have hD := hD0.self (sz := s.heap.size)
  generalize hAe : va_A (zc_mo G ma u) s.heap.size = A at hD ⊢
  have hA : ∀ q : Nat, s.heap.size ≤ q → A q := fun q h => by rw [← hAe]; exact Or.inr h
  have hS : va_S A s.heap s.heap [] := va_S.rf
  have hl := lv_entry ([.ref (ma 0), .int a1, .int a2]) (n := 3) (Nat.le_of_ble_eq_true rfl)
  rw [lg_entry_eq]
  generalize (lg_sl ([.ref (ma 0), .int a1, .int a2]) ++ List.replicate (3 - (lg_sl ([.ref (ma 0), .int a1, .int a2])).length) Slot.unset).toArray = ls at hl ⊢
  have hl : lv_has ls 3 [(0, .ref (ma 0)), (1, .int a1), (2, .int a2)] := hl
  refine lv_iload_n hx hb dX3_hear_0 rfl (lv_at hl 1 rfl) ?_
  refine lv_i2l hx hb dX3_hear_1 rfl ?_
  refine lv_ldc2 hx hb hown (hts (.constantLong RX3 119 (-9999)) (List.mem_of_getElem? (i := 1) rfl)) dX3_hear_2 ?_
  refine lv_ldc2 hx hb hown (hts (.constantLong RX3 121 (9999)) (List.mem_of_getElem? (i := 2) rfl)) dX3_hear_5 ?_
  obtain ⟨r1, er1, hF⟩ := zc_bind hF
  refine zc_ci (va_runS (As := [.long _, .long _, .long _]) ⟨hx, hb, hml, hown, hts⟩ (kX3_in l G er1) (va_cwS 3 hts gX3_hear_X3_in rfl rfl rfl (by decide +kernel) ⟨Nat.le_of_ble_eq_true rfl, Nat.le_of_ble_eq_true rfl⟩) (zc_preS hK (show va_P G.1 vwCl [] _ from fun k q h => by simp at h)) rfl rfl hl.1 rfl (lv_room (Nat.le_of_ble_eq_true rfl)) dX3_hear_8 ⟨Nat.le_of_ble_eq_true rfl, Nat.le_of_ble_eq_true rfl⟩) ?_
  refine lv_if_eq (tgt := 26) hx hb dX3_hear_11 (by decide) (fun c2 => ?_) (fun c2 => ?_)
  · have hF := zc_pos c2 hF
    refine lv_ldc hx hb hown (hts (.constant RX3 154 (-1000000002)) (List.mem_of_getElem? (i := 4) rfl)) dX3_hear_26 ?_
    obtain rfl := Option.some.inj hF
    exact W.iret hx hb hr (fun t ht hW => ⟨⟨_, (), rfl, rfl, zc_hp ht hP⟩, hS.F ht⟩) hS.2.2 dX3_hear_28
  · have hF := zc_neg c2 hF
    refine lv_iload_n hx hb dX3_hear_14 rfl (lv_at hl 2 rfl) ?_
    refine lv_i2l hx hb dX3_hear_15 rfl ?_
    refine lv_lconst (v := (0 : Int64)) hx hb dX3_hear_16 (by decide) ?_
    refine lv_ldc2 hx hb hown (hts (.constantLong RX3 198 (5000)) (List.mem_of_getElem? (i := 3) rfl)) dX3_hear_17 ?_
    obtain ⟨r3, er3, hF⟩ := zc_bind hF
    refine zc_ci (va_runS (As := [.long _, .long _, .long _]) ⟨hx, hb, hml, hown, hts⟩ (kX3_in l G er3) (va_cwS 3 hts gX3_hear_X3_in rfl rfl rfl (by decide +kernel) ⟨Nat.le_of_ble_eq_true rfl, Nat.le_of_ble_eq_true rfl⟩) (zc_preS hK (show va_P G.1 vwCl [] _ from fun k q h => by simp at h)) rfl rfl hl.1 rfl (lv_room (Nat.le_of_ble_eq_true rfl)) dX3_hear_20 ⟨Nat.le_of_ble_eq_true rfl, Nat.le_of_ble_eq_true rfl⟩) ?_
    refine lv_if_ne (tgt := 29) hx hb dX3_hear_23 (by decide) (fun c4 => ?_) (fun c4 => ?_)
    · have hF := zc_neg c4 hF
      refine lv_aload_n hx hb dX3_hear_29 rfl (lv_at hl 0 rfl) ?_
      obtain ⟨r5, er5, hF⟩ := zc_bind hF
      refine zc_mv (X := zc_mo G ma u) (pl := []) (wc := zc_mo G ma u) (w1 := zc_mo G ma r5) (wr := []) hP hD hS hA [0, 1, 2, 3, 4, 5] [] rfl (by decide) rfl (by decide) (by decide) rfl (va_runV (As := []) ⟨hx, hb, hml, hown, hts⟩ (kX3_notes l G ma _ er5) (cwV 0 hts gX3_hear_X3_notes rfl rfl rfl (by decide +kernel) ⟨Nat.le_of_ble_eq_true rfl, Nat.le_of_ble_eq_true rfl⟩) (zc_preVm hK hP hD 0 rfl rfl) rfl rfl hl.1 rfl (lv_room (Nat.le_of_ble_eq_true rfl)) dX3_hear_30 ⟨Nat.le_of_ble_eq_true rfl, Nat.le_of_ble_eq_true rfl⟩) (fun H locs hP hD hS => ?_)
      have hP : va_P G.1 vwCl (zc_mo G ma r5) H := hP
      have hD : va_D A (zc_mo G ma r5) := hD
      refine lv_aload_n hx hb dX3_hear_33 rfl (lv_at hl 0 rfl) ?_
      refine lv_iload_n hx hb dX3_hear_34 rfl (lv_at hl 1 rfl) ?_
      refine lv_i2l hx hb dX3_hear_35 rfl ?_
      refine lv_iload_n hx hb dX3_hear_36 rfl (lv_at hl 2 rfl) ?_
      refine lv_i2l hx hb dX3_hear_37 rfl ?_
      obtain ⟨r6, er6, hF⟩ := zc_bind hF
      refine zc_mi (X := zc_mo G ma r5) (pl := []) (wc := zc_mo G ma r5) (w1 := zc_mo G ma r6.2) (wr := []) hP hD hS hA [0, 1, 2, 3, 4, 5] [] rfl (by decide) rfl (by decide) (by decide) rfl (va_runV (As := [.long _, .long _]) ⟨hx, hb, hml, hown, hts⟩ (kX3_hears l G ma _ er6) (cwV 2 hts gX3_hear_X3_hears rfl rfl rfl (by decide +kernel) ⟨Nat.le_of_ble_eq_true rfl, Nat.le_of_ble_eq_true rfl⟩) (zc_preVm hK hP hD 0 rfl rfl) rfl rfl hl.1 rfl (lv_room (Nat.le_of_ble_eq_true rfl)) dX3_hear_38 ⟨Nat.le_of_ble_eq_true rfl, Nat.le_of_ble_eq_true rfl⟩) (fun H locs hP hD hS => ?_)
      obtain ⟨u7, eu7, hF⟩ := zc_letX hF
      have hP : va_P G.1 vwCl (zc_mo G ma u7) H := by rw [eu7]; exact hP
      have hD : va_D A (zc_mo G ma u7) := zc_Ds hD rfl
      obtain rfl := Option.some.inj hF
      exact W.iret hx hb hr (fun t ht hW => ⟨⟨_, (), rfl, rfl, zc_hp ht hP⟩, hS.F ht⟩) hS.2.2 dX3_hear_41
    · have hF := zc_pos c4 hF
      refine lv_ldc hx hb hown (hts (.constant RX3 154 (-1000000002)) (List.mem_of_getElem? (i := 4) rfl)) dX3_hear_26 ?_
      obtain rfl := Option.some.inj hF
      exact W.iret hx hb hr (fun t ht hW => ⟨⟨_, (), rfl, rfl, zc_hp ht hP⟩, hS.F ht⟩) hS.2.2 dX3_hear_28
def fX3_alarm (N : Nat) (u : zc_M) (a1 : Int32) (a2 : Int32) (a3 : Int32) : Option (Int32 × zc_M) := Option.bind (fX3_in a1.toInt64 (-1 : Int64) (59 : Int64)) fun (r1 : Int32) => if r1 = 0 then (some ((-1000000002 : Int32), u)) else (Option.bind (fX3_in a2.toInt64 (-1 : Int64) (23 : Int64)) fun (r3 : Int32) => if r3 = 0 then (some ((-1000000002 : Int32), u)) else (Option.bind (fX3_in a3.toInt64 (-1 : Int64) (6 : Int64)) fun (r5 : Int32) => if r5 = 0 then (some ((-1000000002 : Int32), u)) else (if (lg_cmp (u.1 0 24) (6 : Int64)) = 0 then (some ((-1000000004 : Int32), u)) else (Option.bind (fX3_notes N u) fun (r8 : zc_M) => zc_let ((r8.1 0 24)).toInt32 fun (x9 : Int32) => zc_let ((25 : Int32) + ((4 : Int32) * x9)) fun (x10 : Int32) => zc_in x10 49 (zc_let (zc_mL r8 0 x10.toNatClampNeg a1.toInt64) fun (u12 : zc_M) => zc_in (x10 + (1 : Int32)) 49 (zc_let (zc_mL u12 0 ((x10 + (1 : Int32))).toNatClampNeg a2.toInt64) fun (u14 : zc_M) => zc_in (x10 + (2 : Int32)) 49 (zc_let (zc_mL u14 0 ((x10 + (2 : Int32))).toNatClampNeg a3.toInt64) fun (u16 : zc_M) => zc_in (x10 + (3 : Int32)) 49 (zc_let (zc_mL u16 0 ((x10 + (3 : Int32))).toNatClampNeg (0 : Int64)) fun (u18 : zc_M) => zc_let (zc_mL u18 0 24 ((u18.1 0 24) + (1 : Int64))) fun (u19 : zc_M) => some (x9, u19)))))))))
theorem iX3_alarm_X3 : ∀ w ∈ wsX30, w ∈ wsX3_alarm := fun _ h => List.mem_cons_of_mem _ (List.mem_append_right _ h)
set_option maxHeartbeats 4000000 in
set_option maxRecDepth 100000 in
theorem kX3_alarm (l : Launch) (G : zc_G) (ma : Nat → Nat) (sz : Nat) {N : Nat} {u : zc_M} {a1 : Int32} {a2 : Int32} {a3 : Int32} {r0 : Int32 × zc_M} (hF : fX3_alarm N u a1 a2 a3 = some r0) : Met l yX3_alarm wsX3_alarm ({ frames := 2, cells := 0, slots := 0, locals := 45 }) (zc_Pm G [.ref (ma 0), .int a1, .int a2, .int a3] (zc_mo G ma u) sz) (zc_Qi G r0.1 (zc_mo G ma r0.2) (va_A (zc_mo G ma u) sz)) 0 0 (va_A (zc_mo G ma u) sz) := by
  refine Met.ofW (cc := cX3_alarm) (maxL := 6) (ret := (some .int)) (by decide) rfl ?_
  intro p e s m args below meth c s₁ B hml hv
  obtain ⟨rfl, hsz, hP, hK, hD0⟩ := hv
  have hx := B.exec
  have hb := B.bytes
  have hr := B.returns
  have hts := atoms_spec (ws := wsX3_alarm) B.pre
  have hown : s.vm.findClass RX3 = some m.cls := findClass_of_methodNamed B.named
  have hlocks := B.notSynchronized
  subst hsz
  have hD := hD0.self (sz := s.heap.size)
  generalize hAe : va_A (zc_mo G ma u) s.heap.size = A at hD ⊢
  have hA : ∀ q : Nat, s.heap.size ≤ q → A q := fun q h => by rw [← hAe]; exact Or.inr h
  have hS : va_S A s.heap s.heap [] := va_S.rf
  have hl := lv_entry ([.ref (ma 0), .int a1, .int a2, .int a3]) (n := 6) (Nat.le_of_ble_eq_true rfl)
  rw [lg_entry_eq]
  generalize (lg_sl ([.ref (ma 0), .int a1, .int a2, .int a3]) ++ List.replicate (6 - (lg_sl ([.ref (ma 0), .int a1, .int a2, .int a3])).length) Slot.unset).toArray = ls at hl ⊢
  have hl : lv_has ls 6 [(0, .ref (ma 0)), (1, .int a1), (2, .int a2), (3, .int a3)] := hl
  refine lv_iload_n hx hb dX3_alarm_0 rfl (lv_at hl 1 rfl) ?_
  refine lv_i2l hx hb dX3_alarm_1 rfl ?_
  refine lv_ldc2 hx hb hown (hts (.constantLong RX3 35 (-1)) (List.mem_of_getElem? (i := 1) rfl)) dX3_alarm_2 ?_
  refine lv_ldc2 hx hb hown (hts (.constantLong RX3 204 (59)) (List.mem_of_getElem? (i := 2) rfl)) dX3_alarm_5 ?_
  obtain ⟨r1, er1, hF⟩ := zc_bind hF
  refine zc_ci (va_runS (As := [.long _, .long _, .long _]) ⟨hx, hb, hml, hown, hts⟩ (kX3_in l G er1) (va_cwS 3 hts gX3_alarm_X3_in rfl rfl rfl (by decide +kernel) ⟨Nat.le_of_ble_eq_true rfl, Nat.le_of_ble_eq_true rfl⟩) (zc_preS hK (show va_P G.1 vwCl [] _ from fun k q h => by simp at h)) rfl rfl hl.1 rfl (lv_room (Nat.le_of_ble_eq_true rfl)) dX3_alarm_8 ⟨Nat.le_of_ble_eq_true rfl, Nat.le_of_ble_eq_true rfl⟩) ?_
  refine lv_if_eq (tgt := 42) hx hb dX3_alarm_11 (by decide) (fun c2 => ?_) (fun c2 => ?_)
  · have hF := zc_pos c2 hF
    refine lv_ldc hx hb hown (hts (.constant RX3 154 (-1000000002)) (List.mem_of_getElem? (i := 5) rfl)) dX3_alarm_42 ?_
    obtain rfl := Option.some.inj hF
    exact W.iret hx hb hr (fun t ht hW => ⟨⟨_, (), rfl, rfl, zc_hp ht hP⟩, hS.F ht⟩) hS.2.2 dX3_alarm_44
  · have hF := zc_neg c2 hF
    refine lv_iload_n hx hb dX3_alarm_14 rfl (lv_at hl 2 rfl) ?_
    refine lv_i2l hx hb dX3_alarm_15 rfl ?_
    refine lv_ldc2 hx hb hown (hts (.constantLong RX3 35 (-1)) (List.mem_of_getElem? (i := 1) rfl)) dX3_alarm_16 ?_
    refine lv_ldc2 hx hb hown (hts (.constantLong RX3 206 (23)) (List.mem_of_getElem? (i := 3) rfl)) dX3_alarm_19 ?_
    obtain ⟨r3, er3, hF⟩ := zc_bind hF
    refine zc_ci (va_runS (As := [.long _, .long _, .long _]) ⟨hx, hb, hml, hown, hts⟩ (kX3_in l G er3) (va_cwS 3 hts gX3_alarm_X3_in rfl rfl rfl (by decide +kernel) ⟨Nat.le_of_ble_eq_true rfl, Nat.le_of_ble_eq_true rfl⟩) (zc_preS hK (show va_P G.1 vwCl [] _ from fun k q h => by simp at h)) rfl rfl hl.1 rfl (lv_room (Nat.le_of_ble_eq_true rfl)) dX3_alarm_22 ⟨Nat.le_of_ble_eq_true rfl, Nat.le_of_ble_eq_true rfl⟩) ?_
    refine lv_if_eq (tgt := 42) hx hb dX3_alarm_25 (by decide) (fun c4 => ?_) (fun c4 => ?_)
    · have hF := zc_pos c4 hF
      refine lv_ldc hx hb hown (hts (.constant RX3 154 (-1000000002)) (List.mem_of_getElem? (i := 5) rfl)) dX3_alarm_42 ?_
      obtain rfl := Option.some.inj hF
      exact W.iret hx hb hr (fun t ht hW => ⟨⟨_, (), rfl, rfl, zc_hp ht hP⟩, hS.F ht⟩) hS.2.2 dX3_alarm_44
    · have hF := zc_neg c4 hF
      refine lv_iload_n hx hb dX3_alarm_28 rfl (lv_at hl 3 rfl) ?_
      refine lv_i2l hx hb dX3_alarm_29 rfl ?_
      refine lv_ldc2 hx hb hown (hts (.constantLong RX3 35 (-1)) (List.mem_of_getElem? (i := 1) rfl)) dX3_alarm_30 ?_
      refine lv_ldc2 hx hb hown (hts (.constantLong RX3 208 (6)) (List.mem_of_getElem? (i := 4) rfl)) dX3_alarm_33 ?_
      obtain ⟨r5, er5, hF⟩ := zc_bind hF
      refine zc_ci (va_runS (As := [.long _, .long _, .long _]) ⟨hx, hb, hml, hown, hts⟩ (kX3_in l G er5) (va_cwS 3 hts gX3_alarm_X3_in rfl rfl rfl (by decide +kernel) ⟨Nat.le_of_ble_eq_true rfl, Nat.le_of_ble_eq_true rfl⟩) (zc_preS hK (show va_P G.1 vwCl [] _ from fun k q h => by simp at h)) rfl rfl hl.1 rfl (lv_room (Nat.le_of_ble_eq_true rfl)) dX3_alarm_36 ⟨Nat.le_of_ble_eq_true rfl, Nat.le_of_ble_eq_true rfl⟩) ?_
      refine lv_if_ne (tgt := 45) hx hb dX3_alarm_39 (by decide) (fun c6 => ?_) (fun c6 => ?_)
      · have hF := zc_neg c6 hF
        refine lv_aload_n hx hb dX3_alarm_45 rfl (lv_at hl 0 rfl) ?_
        refine va_get (D := G.1) (ci := 3) (C := RX3) (T := TX3) (N := 8) hx hb hts iX3_alarm_X3 hown hK.1 hP 0 rfl rfl 0 (by decide) (hts (.fieldLink RX3 7 "BoardClockModel" "st" "[J") (List.mem_of_getElem? (i := 6) rfl)) (fun _ h9 => h9) rfl dX3_alarm_46 ?_
        refine lv_bipush (v := (24 : Int32)) hx hb dX3_alarm_49 (by decide) ?_
        refine zc_lald hx hb hK.1 hP 1 1 rfl rfl (j := 24) (zc_vin (by decide)) (by decide) dX3_alarm_51 ?_
        refine lv_ldc2 hx hb hown (hts (.constantLong RX3 208 (6)) (List.mem_of_getElem? (i := 4) rfl)) dX3_alarm_52 ?_
        refine W.lcmp hx hb dX3_alarm_55 ?_
        refine lv_if_ne (tgt := 62) hx hb dX3_alarm_56 (by decide) (fun c7 => ?_) (fun c7 => ?_)
        · have hF := zc_neg c7 hF
          refine lv_aload_n hx hb dX3_alarm_62 rfl (lv_at hl 0 rfl) ?_
          obtain ⟨r8, er8, hF⟩ := zc_bind hF
          refine zc_mv (X := zc_mo G ma u) (pl := []) (wc := zc_mo G ma u) (w1 := zc_mo G ma r8) (wr := []) hP hD hS hA [0, 1, 2, 3, 4, 5] [] rfl (by decide) rfl (by decide) (by decide) rfl (va_runV (As := []) ⟨hx, hb, hml, hown, hts⟩ (kX3_notes l G ma _ er8) (cwV 0 hts gX3_alarm_X3_notes rfl rfl rfl (by decide +kernel) ⟨Nat.le_of_ble_eq_true rfl, Nat.le_of_ble_eq_true rfl⟩) (zc_preVm hK hP hD 0 rfl rfl) rfl rfl hl.1 rfl (lv_room (Nat.le_of_ble_eq_true rfl)) dX3_alarm_63 ⟨Nat.le_of_ble_eq_true rfl, Nat.le_of_ble_eq_true rfl⟩) (fun H locs hP hD hS => ?_)
          have hP : va_P G.1 vwCl (zc_mo G ma r8) H := hP
          have hD : va_D A (zc_mo G ma r8) := hD
          refine lv_aload_n hx hb dX3_alarm_66 rfl (lv_at hl 0 rfl) ?_
          refine va_get (D := G.1) (ci := 3) (C := RX3) (T := TX3) (N := 8) hx hb hts iX3_alarm_X3 hown hK.1 hP 0 rfl rfl 0 (by decide) (hts (.fieldLink RX3 7 "BoardClockModel" "st" "[J") (List.mem_of_getElem? (i := 6) rfl)) (fun _ h9 => h9) rfl dX3_alarm_67 ?_
          refine lv_bipush (v := (24 : Int32)) hx hb dX3_alarm_70 (by decide) ?_
          refine zc_lald hx hb hK.1 hP 1 1 rfl rfl (j := 24) (zc_vin (by decide)) (by decide) dX3_alarm_72 ?_
          refine lv_l2i hx hb dX3_alarm_73 rfl ?_
          refine lv_topi (fun x9 ex9 => ?_)
          have hF := zc_letE ex9 hF
          refine lv_istore (lv' := [(4, .int x9), (0, .ref (ma 0)), (1, .int a1), (2, .int a2), (3, .int a3)]) hx hb dX3_alarm_74 hl (by decide) rfl (fun ls hl => ?_)
          refine lv_bipush (v := (25 : Int32)) hx hb dX3_alarm_76 (by decide) ?_
          refine lv_iconst (v := (4 : Int32)) hx hb dX3_alarm_78 (by decide) ?_
          refine lv_iload hx hb dX3_alarm_79 (lv_at hl 0 rfl) ?_
          refine lv_imul hx hb dX3_alarm_81 ?_
          refine lv_iadd hx hb dX3_alarm_82 ?_
          refine lv_topi (fun x10 ex10 => ?_)
          have hF := zc_letE ex10 hF
          refine lv_istore (lv' := [(5, .int x10), (4, .int x9), (0, .ref (ma 0)), (1, .int a1), (2, .int a2), (3, .int a3)]) hx hb dX3_alarm_83 hl (by decide) rfl (fun ls hl => ?_)
          refine lv_aload_n hx hb dX3_alarm_85 rfl (lv_at hl 2 rfl) ?_
          refine va_get (D := G.1) (ci := 3) (C := RX3) (T := TX3) (N := 8) hx hb hts iX3_alarm_X3 hown hK.1 hP 0 rfl rfl 0 (by decide) (hts (.fieldLink RX3 7 "BoardClockModel" "st" "[J") (List.mem_of_getElem? (i := 6) rfl)) (fun _ h9 => h9) rfl dX3_alarm_86 ?_
          refine lv_iload hx hb dX3_alarm_89 (lv_at hl 0 rfl) ?_
          refine lv_iload_n hx hb dX3_alarm_91 rfl (lv_at hl 3 rfl) ?_
          refine lv_i2l hx hb dX3_alarm_92 rfl ?_
          obtain ⟨hi11, hF⟩ := zc_inE hF
          refine zc_last hx hb hK.1 hP hD hS 1 1 rfl rfl hi11 rfl dX3_alarm_93 (fun H locs hP hS => ?_)
          obtain ⟨u12, eu12, hF⟩ := zc_letX hF
          have hP : va_P G.1 vwCl (zc_mo G ma u12) H := by rw [eu12]; exact hP
          have hD : va_D A (zc_mo G ma u12) := zc_Ds hD rfl
          refine lv_aload_n hx hb dX3_alarm_94 rfl (lv_at hl 2 rfl) ?_
          refine va_get (D := G.1) (ci := 3) (C := RX3) (T := TX3) (N := 8) hx hb hts iX3_alarm_X3 hown hK.1 hP 0 rfl rfl 0 (by decide) (hts (.fieldLink RX3 7 "BoardClockModel" "st" "[J") (List.mem_of_getElem? (i := 6) rfl)) (fun _ h9 => h9) rfl dX3_alarm_95 ?_
          refine lv_iload hx hb dX3_alarm_98 (lv_at hl 0 rfl) ?_
          refine lv_iconst (v := (1 : Int32)) hx hb dX3_alarm_100 (by decide) ?_
          refine lv_iadd hx hb dX3_alarm_101 ?_
          refine lv_iload_n hx hb dX3_alarm_102 rfl (lv_at hl 4 rfl) ?_
          refine lv_i2l hx hb dX3_alarm_103 rfl ?_
          obtain ⟨hi13, hF⟩ := zc_inE hF
          refine zc_last hx hb hK.1 hP hD hS 1 1 rfl rfl hi13 rfl dX3_alarm_104 (fun H locs hP hS => ?_)
          obtain ⟨u14, eu14, hF⟩ := zc_letX hF
          have hP : va_P G.1 vwCl (zc_mo G ma u14) H := by rw [eu14]; exact hP
          have hD : va_D A (zc_mo G ma u14) := zc_Ds hD rfl
          refine lv_aload_n hx hb dX3_alarm_105 rfl (lv_at hl 2 rfl) ?_
          refine va_get (D := G.1) (ci := 3) (C := RX3) (T := TX3) (N := 8) hx hb hts iX3_alarm_X3 hown hK.1 hP 0 rfl rfl 0 (by decide) (hts (.fieldLink RX3 7 "BoardClockModel" "st" "[J") (List.mem_of_getElem? (i := 6) rfl)) (fun _ h9 => h9) rfl dX3_alarm_106 ?_
          refine lv_iload hx hb dX3_alarm_109 (lv_at hl 0 rfl) ?_
          refine lv_iconst (v := (2 : Int32)) hx hb dX3_alarm_111 (by decide) ?_
          refine lv_iadd hx hb dX3_alarm_112 ?_
          refine lv_iload_n hx hb dX3_alarm_113 rfl (lv_at hl 5 rfl) ?_
          refine lv_i2l hx hb dX3_alarm_114 rfl ?_
          obtain ⟨hi15, hF⟩ := zc_inE hF
          refine zc_last hx hb hK.1 hP hD hS 1 1 rfl rfl hi15 rfl dX3_alarm_115 (fun H locs hP hS => ?_)
          obtain ⟨u16, eu16, hF⟩ := zc_letX hF
          have hP : va_P G.1 vwCl (zc_mo G ma u16) H := by rw [eu16]; exact hP
          have hD : va_D A (zc_mo G ma u16) := zc_Ds hD rfl
          refine lv_aload_n hx hb dX3_alarm_116 rfl (lv_at hl 2 rfl) ?_
          refine va_get (D := G.1) (ci := 3) (C := RX3) (T := TX3) (N := 8) hx hb hts iX3_alarm_X3 hown hK.1 hP 0 rfl rfl 0 (by decide) (hts (.fieldLink RX3 7 "BoardClockModel" "st" "[J") (List.mem_of_getElem? (i := 6) rfl)) (fun _ h9 => h9) rfl dX3_alarm_117 ?_
          refine lv_iload hx hb dX3_alarm_120 (lv_at hl 0 rfl) ?_
          refine lv_iconst (v := (3 : Int32)) hx hb dX3_alarm_122 (by decide) ?_
          refine lv_iadd hx hb dX3_alarm_123 ?_
          refine lv_lconst (v := (0 : Int64)) hx hb dX3_alarm_124 (by decide) ?_
          obtain ⟨hi17, hF⟩ := zc_inE hF
          refine zc_last hx hb hK.1 hP hD hS 1 1 rfl rfl hi17 rfl dX3_alarm_125 (fun H locs hP hS => ?_)
          obtain ⟨u18, eu18, hF⟩ := zc_letX hF
          have hP : va_P G.1 vwCl (zc_mo G ma u18) H := by rw [eu18]; exact hP
          have hD : va_D A (zc_mo G ma u18) := zc_Ds hD rfl
          refine lv_aload_n hx hb dX3_alarm_126 rfl (lv_at hl 2 rfl) ?_
          refine va_get (D := G.1) (ci := 3) (C := RX3) (T := TX3) (N := 8) hx hb hts iX3_alarm_X3 hown hK.1 hP 0 rfl rfl 0 (by decide) (hts (.fieldLink RX3 7 "BoardClockModel" "st" "[J") (List.mem_of_getElem? (i := 6) rfl)) (fun _ h9 => h9) rfl dX3_alarm_127 ?_
          refine lv_bipush (v := (24 : Int32)) hx hb dX3_alarm_130 (by decide) ?_
          refine lv_dup2_11 hx hb dX3_alarm_132 rfl rfl ?_
          refine zc_lald hx hb hK.1 hP 1 1 rfl rfl (j := 24) (zc_vin (by decide)) (by decide) dX3_alarm_133 ?_
          refine lv_lconst (v := (1 : Int64)) hx hb dX3_alarm_134 (by decide) ?_
          refine lv_ladd hx hb dX3_alarm_135 ?_
          refine zc_last (j := 24) hx hb hK.1 hP hD hS 1 1 rfl rfl (zc_vin (by decide)) (by decide) dX3_alarm_136 (fun H locs hP hS => ?_)
          obtain ⟨u19, eu19, hF⟩ := zc_letX hF
          have hP : va_P G.1 vwCl (zc_mo G ma u19) H := by rw [eu19]; exact hP
          have hD : va_D A (zc_mo G ma u19) := zc_Ds hD rfl
          refine lv_iload hx hb dX3_alarm_137 (lv_at hl 1 rfl) ?_
          obtain rfl := Option.some.inj hF
          exact W.iret hx hb hr (fun t ht hW => ⟨⟨_, (), rfl, rfl, zc_hp ht hP⟩, hS.F ht⟩) hS.2.2 dX3_alarm_139
        · have hF := zc_pos c7 hF
          refine lv_ldc hx hb hown (hts (.constant RX3 210 (-1000000004)) (List.mem_of_getElem? (i := 7) rfl)) dX3_alarm_59 ?_
          obtain rfl := Option.some.inj hF
          exact W.iret hx hb hr (fun t ht hW => ⟨⟨_, (), rfl, rfl, zc_hp ht hP⟩, hS.F ht⟩) hS.2.2 dX3_alarm_61
      · have hF := zc_pos c6 hF
        refine lv_ldc hx hb hown (hts (.constant RX3 154 (-1000000002)) (List.mem_of_getElem? (i := 5) rfl)) dX3_alarm_42 ?_
        obtain rfl := Option.some.inj hF
        exact W.iret hx hb hr (fun t ht hW => ⟨⟨_, (), rfl, rfl, zc_hp ht hP⟩, hS.F ht⟩) hS.2.2 dX3_alarm_44
def fX3_drop (N : Nat) (u : zc_M) (a1 : Int32) : Option (Int32 × zc_M) := Option.bind (fX3_isAlarm u a1) fun (r1 : Int32) => if r1 = 0 then (some ((-1000000001 : Int32), u)) else (Option.bind (fX3_notes N u) fun (r3 : zc_M) => zc_let (zc_mL r3 0 24 ((r3.1 0 24) - (1 : Int64))) fun (u4 : zc_M) => zc_let ((u4.1 0 24)).toInt32 fun (x5 : Int32) => zc_let ((25 : Int32) + ((4 : Int32) * a1)) fun (x6 : Int32) => Option.bind (fX3_bring1 N 49 (u4.1 0) (x6 + (4 : Int32)) x6 ((4 : Int32) * (x5 - a1))) fun (r7 : Nat → Int64) => zc_let (zc_mf u4 0 r7) fun (u8 : zc_M) => some (x5, u8))
theorem iX3_drop_X3 : ∀ w ∈ wsX30, w ∈ wsX3_drop := fun _ h => List.mem_cons_of_mem _ (List.mem_append_right _ h)
set_option maxHeartbeats 4000000 in
set_option maxRecDepth 100000 in
theorem kX3_drop (l : Launch) (G : zc_G) (ma : Nat → Nat) (sz : Nat) {N : Nat} {u : zc_M} {a1 : Int32} {r0 : Int32 × zc_M} (hF : fX3_drop N u a1 = some r0) : Met l yX3_drop wsX3_drop ({ frames := 2, cells := 0, slots := 0, locals := 46 }) (zc_Pm G [.ref (ma 0), .int a1] (zc_mo G ma u) sz) (zc_Qi G r0.1 (zc_mo G ma r0.2) (va_A (zc_mo G ma u) sz)) 0 0 (va_A (zc_mo G ma u) sz) := by
  refine Met.ofW (cc := cX3_drop) (maxL := 4) (ret := (some .int)) (by decide) rfl ?_
  intro p e s m args below meth c s₁ B hml hv
  obtain ⟨rfl, hsz, hP, hK, hD0⟩ := hv
  have hx := B.exec
  have hb := B.bytes
  have hr := B.returns
  have hts := atoms_spec (ws := wsX3_drop) B.pre
  have hown : s.vm.findClass RX3 = some m.cls := findClass_of_methodNamed B.named
  have hlocks := B.notSynchronized
  subst hsz
  have hD := hD0.self (sz := s.heap.size)
  generalize hAe : va_A (zc_mo G ma u) s.heap.size = A at hD ⊢
  have hA : ∀ q : Nat, s.heap.size ≤ q → A q := fun q h => by rw [← hAe]; exact Or.inr h
  have hS : va_S A s.heap s.heap [] := va_S.rf
  have hl := lv_entry ([.ref (ma 0), .int a1]) (n := 4) (Nat.le_of_ble_eq_true rfl)
  rw [lg_entry_eq]
  generalize (lg_sl ([.ref (ma 0), .int a1]) ++ List.replicate (4 - (lg_sl ([.ref (ma 0), .int a1])).length) Slot.unset).toArray = ls at hl ⊢
  have hl : lv_has ls 4 [(0, .ref (ma 0)), (1, .int a1)] := hl
  refine lv_aload_n hx hb dX3_drop_0 rfl (lv_at hl 0 rfl) ?_
  refine lv_iload_n hx hb dX3_drop_1 rfl (lv_at hl 1 rfl) ?_
  obtain ⟨r1, er1, hF⟩ := zc_bind hF
  refine zc_ci (va_runV (As := [.int _]) ⟨hx, hb, hml, hown, hts⟩ (kX3_isAlarm l G ma er1) (cwV 1 hts gX3_drop_X3_isAlarm rfl rfl rfl (by decide +kernel) ⟨Nat.le_of_ble_eq_true rfl, Nat.le_of_ble_eq_true rfl⟩) (zc_preV hK hP 0 rfl rfl) rfl rfl hl.1 rfl (lv_room (Nat.le_of_ble_eq_true rfl)) dX3_drop_2 ⟨Nat.le_of_ble_eq_true rfl, Nat.le_of_ble_eq_true rfl⟩) ?_
  refine lv_if_ne (tgt := 11) hx hb dX3_drop_5 (by decide) (fun c2 => ?_) (fun c2 => ?_)
  · have hF := zc_neg c2 hF
    refine lv_aload_n hx hb dX3_drop_11 rfl (lv_at hl 0 rfl) ?_
    obtain ⟨r3, er3, hF⟩ := zc_bind hF
    refine zc_mv (X := zc_mo G ma u) (pl := []) (wc := zc_mo G ma u) (w1 := zc_mo G ma r3) (wr := []) hP hD hS hA [0, 1, 2, 3, 4, 5] [] rfl (by decide) rfl (by decide) (by decide) rfl (va_runV (As := []) ⟨hx, hb, hml, hown, hts⟩ (kX3_notes l G ma _ er3) (cwV 0 hts gX3_drop_X3_notes rfl rfl rfl (by decide +kernel) ⟨Nat.le_of_ble_eq_true rfl, Nat.le_of_ble_eq_true rfl⟩) (zc_preVm hK hP hD 0 rfl rfl) rfl rfl hl.1 rfl (lv_room (Nat.le_of_ble_eq_true rfl)) dX3_drop_12 ⟨Nat.le_of_ble_eq_true rfl, Nat.le_of_ble_eq_true rfl⟩) (fun H locs hP hD hS => ?_)
    have hP : va_P G.1 vwCl (zc_mo G ma r3) H := hP
    have hD : va_D A (zc_mo G ma r3) := hD
    refine lv_aload_n hx hb dX3_drop_15 rfl (lv_at hl 0 rfl) ?_
    refine va_get (D := G.1) (ci := 3) (C := RX3) (T := TX3) (N := 8) hx hb hts iX3_drop_X3 hown hK.1 hP 0 rfl rfl 0 (by decide) (hts (.fieldLink RX3 7 "BoardClockModel" "st" "[J") (List.mem_of_getElem? (i := 2) rfl)) (fun _ h9 => h9) rfl dX3_drop_16 ?_
    refine lv_bipush (v := (24 : Int32)) hx hb dX3_drop_19 (by decide) ?_
    refine lv_dup2_11 hx hb dX3_drop_21 rfl rfl ?_
    refine zc_lald hx hb hK.1 hP 1 1 rfl rfl (j := 24) (zc_vin (by decide)) (by decide) dX3_drop_22 ?_
    refine lv_lconst (v := (1 : Int64)) hx hb dX3_drop_23 (by decide) ?_
    refine lv_lsub hx hb dX3_drop_24 ?_
    refine zc_last (j := 24) hx hb hK.1 hP hD hS 1 1 rfl rfl (zc_vin (by decide)) (by decide) dX3_drop_25 (fun H locs hP hS => ?_)
    obtain ⟨u4, eu4, hF⟩ := zc_letX hF
    have hP : va_P G.1 vwCl (zc_mo G ma u4) H := by rw [eu4]; exact hP
    have hD : va_D A (zc_mo G ma u4) := zc_Ds hD rfl
    refine lv_aload_n hx hb dX3_drop_26 rfl (lv_at hl 0 rfl) ?_
    refine va_get (D := G.1) (ci := 3) (C := RX3) (T := TX3) (N := 8) hx hb hts iX3_drop_X3 hown hK.1 hP 0 rfl rfl 0 (by decide) (hts (.fieldLink RX3 7 "BoardClockModel" "st" "[J") (List.mem_of_getElem? (i := 2) rfl)) (fun _ h9 => h9) rfl dX3_drop_27 ?_
    refine lv_bipush (v := (24 : Int32)) hx hb dX3_drop_30 (by decide) ?_
    refine zc_lald hx hb hK.1 hP 1 1 rfl rfl (j := 24) (zc_vin (by decide)) (by decide) dX3_drop_32 ?_
    refine lv_l2i hx hb dX3_drop_33 rfl ?_
    refine lv_topi (fun x5 ex5 => ?_)
    have hF := zc_letE ex5 hF
    refine lv_istore_n (lv' := [(2, .int x5), (0, .ref (ma 0)), (1, .int a1)]) hx hb dX3_drop_34 rfl hl (by decide) rfl (fun ls hl => ?_)
    refine lv_bipush (v := (25 : Int32)) hx hb dX3_drop_35 (by decide) ?_
    refine lv_iconst (v := (4 : Int32)) hx hb dX3_drop_37 (by decide) ?_
    refine lv_iload_n hx hb dX3_drop_38 rfl (lv_at hl 2 rfl) ?_
    refine lv_imul hx hb dX3_drop_39 ?_
    refine lv_iadd hx hb dX3_drop_40 ?_
    refine lv_topi (fun x6 ex6 => ?_)
    have hF := zc_letE ex6 hF
    refine lv_istore_n (lv' := [(3, .int x6), (2, .int x5), (0, .ref (ma 0)), (1, .int a1)]) hx hb dX3_drop_41 rfl hl (by decide) rfl (fun ls hl => ?_)
    refine lv_aload_n hx hb dX3_drop_42 rfl (lv_at hl 2 rfl) ?_
    refine va_get (D := G.1) (ci := 3) (C := RX3) (T := TX3) (N := 8) hx hb hts iX3_drop_X3 hown hK.1 hP 0 rfl rfl 0 (by decide) (hts (.fieldLink RX3 7 "BoardClockModel" "st" "[J") (List.mem_of_getElem? (i := 2) rfl)) (fun _ h9 => h9) rfl dX3_drop_43 ?_
    refine lv_iload_n hx hb dX3_drop_46 rfl (lv_at hl 0 rfl) ?_
    refine lv_iconst (v := (4 : Int32)) hx hb dX3_drop_47 (by decide) ?_
    refine lv_iadd hx hb dX3_drop_48 ?_
    refine lv_aload_n hx hb dX3_drop_49 rfl (lv_at hl 2 rfl) ?_
    refine va_get (D := G.1) (ci := 3) (C := RX3) (T := TX3) (N := 8) hx hb hts iX3_drop_X3 hown hK.1 hP 0 rfl rfl 0 (by decide) (hts (.fieldLink RX3 7 "BoardClockModel" "st" "[J") (List.mem_of_getElem? (i := 2) rfl)) (fun _ h9 => h9) rfl dX3_drop_50 ?_
    refine lv_iload_n hx hb dX3_drop_53 rfl (lv_at hl 0 rfl) ?_
    refine lv_iconst (v := (4 : Int32)) hx hb dX3_drop_54 (by decide) ?_
    refine lv_iload_n hx hb dX3_drop_55 rfl (lv_at hl 1 rfl) ?_
    refine lv_iload_n hx hb dX3_drop_56 rfl (lv_at hl 3 rfl) ?_
    refine lv_isub hx hb dX3_drop_57 ?_
    refine lv_imul hx hb dX3_drop_58 ?_
    obtain ⟨r7, er7, hF⟩ := zc_bind hF
    refine zc_mv (X := zc_mo G ma u4) (pl := []) (wc := [((ma 1), .inl (G.2 1, 49, .inr (.inl (u4.1 0))))]) (w1 := [((ma 1), .inl (G.2 1, 49, .inr (.inl (r7))))]) (wr := [((ma 0), .inr (3, [.ref (ma 1), .ref (ma 2), .int (u4.2.2.1 0), .ref (ma 3), .ref (ma 4), .ref (ma 5), .int (u4.2.2.1 1), .long (u4.2.2.2)])), ((ma 2), .inl (G.2 1, 980, .inr (.inl (u4.1 1)))), ((ma 3), .inl (G.2 1, 100, .inr (.inl (u4.1 2)))), ((ma 4), .inl (G.2 2, 2, .inl (u4.2.1 0))), ((ma 5), .inl (G.2 0, 20, .inl (u4.2.1 1)))]) hP hD hS hA [1] [0, 2, 3, 4, 5] rfl (by decide) rfl (by decide) (by decide) rfl (va_runS (As := [.ref _, .int _, .ref _, .int _, .int _]) ⟨hx, hb, hml, hown, hts⟩ (kX3_bring1 l G (ma 1) _ er7) (va_cwS 5 hts gX3_drop_X3_bring rfl rfl rfl (by decide +kernel) ⟨Nat.le_of_ble_eq_true rfl, Nat.le_of_ble_eq_true rfl⟩) (zc_preSm hK (hP.sub (ws' := [((ma 1), .inl (G.2 1, 49, .inr (.inl (u4.1 0))))]) [1] rfl) (hD.sub (ws' := [((ma 1), .inl (G.2 1, 49, .inr (.inl (u4.1 0))))]) [1] (by decide) rfl)) rfl rfl hl.1 rfl (lv_room (Nat.le_of_ble_eq_true rfl)) dX3_drop_59 ⟨Nat.le_of_ble_eq_true rfl, Nat.le_of_ble_eq_true rfl⟩) (fun H locs hP hD hS => ?_)
    have hP := hP.sub (ws' := zc_mo G ma (zc_mf u4 0 r7)) [0, 5, 1, 2, 3, 4] rfl
    have hD := hD.sub (ws' := zc_mo G ma (zc_mf u4 0 r7)) [0, 5, 1, 2, 3, 4] (by decide) rfl
    obtain ⟨u8, eu8, hF⟩ := zc_letX hF
    have hP : va_P G.1 vwCl (zc_mo G ma u8) H := by rw [eu8]; exact hP
    have hD : va_D A (zc_mo G ma u8) := zc_Ds hD rfl
    refine lv_iload_n hx hb dX3_drop_62 rfl (lv_at hl 1 rfl) ?_
    obtain rfl := Option.some.inj hF
    exact W.iret hx hb hr (fun t ht hW => ⟨⟨_, (), rfl, rfl, zc_hp ht hP⟩, hS.F ht⟩) hS.2.2 dX3_drop_63
  · have hF := zc_pos c2 hF
    refine lv_ldc hx hb hown (hts (.constant RX3 161 (-1000000001)) (List.mem_of_getElem? (i := 1) rfl)) dX3_drop_8 ?_
    obtain rfl := Option.some.inj hF
    exact W.iret hx hb hr (fun t ht hW => ⟨⟨_, (), rfl, rfl, zc_hp ht hP⟩, hS.F ht⟩) hS.2.2 dX3_drop_10
def fX3_learn (N : Nat) (u : zc_M) (a1 : Int32) (a2 : Int32) : Option (Int32 × zc_M) := Option.bind (fX3_in a1.toInt64 (0 : Int64) (8 : Int64)) fun (r1 : Int32) => if r1 = 0 then (some ((-1000000001 : Int32), u)) else (Option.bind (fX3_in a2.toInt64 (-9999 : Int64) (9999 : Int64)) fun (r3 : Int32) => if r3 = 0 then (some ((-1000000002 : Int32), u)) else (zc_in ((15 : Int32) + a1) 49 (zc_let ((u.1 0 (((15 : Int32) + a1)).toNatClampNeg)).toInt32 fun (x6 : Int32) => Option.bind (fX3_notes N u) fun (r7 : zc_M) => zc_in ((15 : Int32) + a1) 49 (zc_let (zc_mL r7 0 (((15 : Int32) + a1)).toNatClampNeg a2.toInt64) fun (u9 : zc_M) => some ((x6 + (10000 : Int32)), u9)))))
theorem iX3_learn_X3 : ∀ w ∈ wsX30, w ∈ wsX3_learn := fun _ h => List.mem_cons_of_mem _ (List.mem_append_right _ h)
set_option maxHeartbeats 4000000 in
set_option maxRecDepth 100000 in
theorem kX3_learn (l : Launch) (G : zc_G) (ma : Nat → Nat) (sz : Nat) {N : Nat} {u : zc_M} {a1 : Int32} {a2 : Int32} {r0 : Int32 × zc_M} (hF : fX3_learn N u a1 a2 = some r0) : Met l yX3_learn wsX3_learn ({ frames := 2, cells := 0, slots := 0, locals := 45 }) (zc_Pm G [.ref (ma 0), .int a1, .int a2] (zc_mo G ma u) sz) (zc_Qi G r0.1 (zc_mo G ma r0.2) (va_A (zc_mo G ma u) sz)) 0 0 (va_A (zc_mo G ma u) sz) := by
  refine Met.ofW (cc := cX3_learn) (maxL := 4) (ret := (some .int)) (by decide) rfl ?_
  intro p e s m args below meth c s₁ B hml hv
  obtain ⟨rfl, hsz, hP, hK, hD0⟩ := hv
  have hx := B.exec
  have hb := B.bytes
  have hr := B.returns
  have hts := atoms_spec (ws := wsX3_learn) B.pre
  have hown : s.vm.findClass RX3 = some m.cls := findClass_of_methodNamed B.named
  have hlocks := B.notSynchronized
  subst hsz
  have hD := hD0.self (sz := s.heap.size)
  generalize hAe : va_A (zc_mo G ma u) s.heap.size = A at hD ⊢
  have hA : ∀ q : Nat, s.heap.size ≤ q → A q := fun q h => by rw [← hAe]; exact Or.inr h
  have hS : va_S A s.heap s.heap [] := va_S.rf
  have hl := lv_entry ([.ref (ma 0), .int a1, .int a2]) (n := 4) (Nat.le_of_ble_eq_true rfl)
  rw [lg_entry_eq]
  generalize (lg_sl ([.ref (ma 0), .int a1, .int a2]) ++ List.replicate (4 - (lg_sl ([.ref (ma 0), .int a1, .int a2])).length) Slot.unset).toArray = ls at hl ⊢
  have hl : lv_has ls 4 [(0, .ref (ma 0)), (1, .int a1), (2, .int a2)] := hl
  refine lv_iload_n hx hb dX3_learn_0 rfl (lv_at hl 1 rfl) ?_
  refine lv_i2l hx hb dX3_learn_1 rfl ?_
  refine lv_lconst (v := (0 : Int64)) hx hb dX3_learn_2 (by decide) ?_
  refine lv_ldc2 hx hb hown (hts (.constantLong RX3 155 (8)) (List.mem_of_getElem? (i := 1) rfl)) dX3_learn_3 ?_
  obtain ⟨r1, er1, hF⟩ := zc_bind hF
  refine zc_ci (va_runS (As := [.long _, .long _, .long _]) ⟨hx, hb, hml, hown, hts⟩ (kX3_in l G er1) (va_cwS 3 hts gX3_learn_X3_in rfl rfl rfl (by decide +kernel) ⟨Nat.le_of_ble_eq_true rfl, Nat.le_of_ble_eq_true rfl⟩) (zc_preS hK (show va_P G.1 vwCl [] _ from fun k q h => by simp at h)) rfl rfl hl.1 rfl (lv_room (Nat.le_of_ble_eq_true rfl)) dX3_learn_6 ⟨Nat.le_of_ble_eq_true rfl, Nat.le_of_ble_eq_true rfl⟩) ?_
  refine lv_if_ne (tgt := 15) hx hb dX3_learn_9 (by decide) (fun c2 => ?_) (fun c2 => ?_)
  · have hF := zc_neg c2 hF
    refine lv_iload_n hx hb dX3_learn_15 rfl (lv_at hl 2 rfl) ?_
    refine lv_i2l hx hb dX3_learn_16 rfl ?_
    refine lv_ldc2 hx hb hown (hts (.constantLong RX3 119 (-9999)) (List.mem_of_getElem? (i := 3) rfl)) dX3_learn_17 ?_
    refine lv_ldc2 hx hb hown (hts (.constantLong RX3 121 (9999)) (List.mem_of_getElem? (i := 4) rfl)) dX3_learn_20 ?_
    obtain ⟨r3, er3, hF⟩ := zc_bind hF
    refine zc_ci (va_runS (As := [.long _, .long _, .long _]) ⟨hx, hb, hml, hown, hts⟩ (kX3_in l G er3) (va_cwS 3 hts gX3_learn_X3_in rfl rfl rfl (by decide +kernel) ⟨Nat.le_of_ble_eq_true rfl, Nat.le_of_ble_eq_true rfl⟩) (zc_preS hK (show va_P G.1 vwCl [] _ from fun k q h => by simp at h)) rfl rfl hl.1 rfl (lv_room (Nat.le_of_ble_eq_true rfl)) dX3_learn_23 ⟨Nat.le_of_ble_eq_true rfl, Nat.le_of_ble_eq_true rfl⟩) ?_
    refine lv_if_ne (tgt := 32) hx hb dX3_learn_26 (by decide) (fun c4 => ?_) (fun c4 => ?_)
    · have hF := zc_neg c4 hF
      refine lv_aload_n hx hb dX3_learn_32 rfl (lv_at hl 0 rfl) ?_
      refine va_get (D := G.1) (ci := 3) (C := RX3) (T := TX3) (N := 8) hx hb hts iX3_learn_X3 hown hK.1 hP 0 rfl rfl 0 (by decide) (hts (.fieldLink RX3 7 "BoardClockModel" "st" "[J") (List.mem_of_getElem? (i := 6) rfl)) (fun _ h9 => h9) rfl dX3_learn_33 ?_
      refine lv_bipush (v := (15 : Int32)) hx hb dX3_learn_36 (by decide) ?_
      refine lv_iload_n hx hb dX3_learn_38 rfl (lv_at hl 1 rfl) ?_
      refine lv_iadd hx hb dX3_learn_39 ?_
      obtain ⟨hi5, hF⟩ := zc_inE hF
      refine zc_lald hx hb hK.1 hP 1 1 rfl rfl hi5 rfl dX3_learn_40 ?_
      refine lv_l2i hx hb dX3_learn_41 rfl ?_
      refine lv_topi (fun x6 ex6 => ?_)
      have hF := zc_letE ex6 hF
      refine lv_istore_n (lv' := [(3, .int x6), (0, .ref (ma 0)), (1, .int a1), (2, .int a2)]) hx hb dX3_learn_42 rfl hl (by decide) rfl (fun ls hl => ?_)
      refine lv_aload_n hx hb dX3_learn_43 rfl (lv_at hl 1 rfl) ?_
      obtain ⟨r7, er7, hF⟩ := zc_bind hF
      refine zc_mv (X := zc_mo G ma u) (pl := []) (wc := zc_mo G ma u) (w1 := zc_mo G ma r7) (wr := []) hP hD hS hA [0, 1, 2, 3, 4, 5] [] rfl (by decide) rfl (by decide) (by decide) rfl (va_runV (As := []) ⟨hx, hb, hml, hown, hts⟩ (kX3_notes l G ma _ er7) (cwV 0 hts gX3_learn_X3_notes rfl rfl rfl (by decide +kernel) ⟨Nat.le_of_ble_eq_true rfl, Nat.le_of_ble_eq_true rfl⟩) (zc_preVm hK hP hD 0 rfl rfl) rfl rfl hl.1 rfl (lv_room (Nat.le_of_ble_eq_true rfl)) dX3_learn_44 ⟨Nat.le_of_ble_eq_true rfl, Nat.le_of_ble_eq_true rfl⟩) (fun H locs hP hD hS => ?_)
      have hP : va_P G.1 vwCl (zc_mo G ma r7) H := hP
      have hD : va_D A (zc_mo G ma r7) := hD
      refine lv_aload_n hx hb dX3_learn_47 rfl (lv_at hl 1 rfl) ?_
      refine va_get (D := G.1) (ci := 3) (C := RX3) (T := TX3) (N := 8) hx hb hts iX3_learn_X3 hown hK.1 hP 0 rfl rfl 0 (by decide) (hts (.fieldLink RX3 7 "BoardClockModel" "st" "[J") (List.mem_of_getElem? (i := 6) rfl)) (fun _ h9 => h9) rfl dX3_learn_48 ?_
      refine lv_bipush (v := (15 : Int32)) hx hb dX3_learn_51 (by decide) ?_
      refine lv_iload_n hx hb dX3_learn_53 rfl (lv_at hl 2 rfl) ?_
      refine lv_iadd hx hb dX3_learn_54 ?_
      refine lv_iload_n hx hb dX3_learn_55 rfl (lv_at hl 3 rfl) ?_
      refine lv_i2l hx hb dX3_learn_56 rfl ?_
      obtain ⟨hi8, hF⟩ := zc_inE hF
      refine zc_last hx hb hK.1 hP hD hS 1 1 rfl rfl hi8 rfl dX3_learn_57 (fun H locs hP hS => ?_)
      obtain ⟨u9, eu9, hF⟩ := zc_letX hF
      have hP : va_P G.1 vwCl (zc_mo G ma u9) H := by rw [eu9]; exact hP
      have hD : va_D A (zc_mo G ma u9) := zc_Ds hD rfl
      refine lv_iload_n hx hb dX3_learn_58 rfl (lv_at hl 0 rfl) ?_
      refine lv_sipush (v := (10000 : Int32)) hx hb dX3_learn_59 (by decide) ?_
      refine lv_iadd hx hb dX3_learn_62 ?_
      obtain rfl := Option.some.inj hF
      exact W.iret hx hb hr (fun t ht hW => ⟨⟨_, (), rfl, rfl, zc_hp ht hP⟩, hS.F ht⟩) hS.2.2 dX3_learn_63
    · have hF := zc_pos c4 hF
      refine lv_ldc hx hb hown (hts (.constant RX3 154 (-1000000002)) (List.mem_of_getElem? (i := 5) rfl)) dX3_learn_29 ?_
      obtain rfl := Option.some.inj hF
      exact W.iret hx hb hr (fun t ht hW => ⟨⟨_, (), rfl, rfl, zc_hp ht hP⟩, hS.F ht⟩) hS.2.2 dX3_learn_31
  · have hF := zc_pos c2 hF
    refine lv_ldc hx hb hown (hts (.constant RX3 161 (-1000000001)) (List.mem_of_getElem? (i := 2) rfl)) dX3_learn_12 ?_
    obtain rfl := Option.some.inj hF
    exact W.iret hx hb hr (fun t ht hW => ⟨⟨_, (), rfl, rfl, zc_hp ht hP⟩, hS.F ht⟩) hS.2.2 dX3_learn_14
def fX3_draw (u : zc_M) (a1 : Int32) : Option (Int64 × zc_M) := zc_let (zc_mS u ((((u.2.2.2) * (1103515245 : Int64)) + (12345 : Int64)) - (((u.2.2.2) * (1103515245 : Int64)) + (12345 : Int64)) / (2147483648 : Int64) * (2147483648 : Int64))) fun (u1 : zc_M) => zc_nzL a1.toInt64 (some ((((u1.2.2.2) / (65536 : Int64)) - ((u1.2.2.2) / (65536 : Int64)) / a1.toInt64 * a1.toInt64), u1))
theorem iX3_draw_X3 : ∀ w ∈ wsX30, w ∈ wsX3_draw := fun _ h => List.mem_cons_of_mem _ (List.mem_append_right _ h)
set_option maxHeartbeats 4000000 in
set_option maxRecDepth 100000 in
theorem kX3_draw (l : Launch) (G : zc_G) (ma : Nat → Nat) (sz : Nat) {u : zc_M} {a1 : Int32} {r0 : Int64 × zc_M} (hF : fX3_draw u a1 = some r0) : Met l yX3_draw wsX3_draw ({ frames := 0, cells := 0, slots := 0, locals := 0 }) (zc_Pm G [.ref (ma 0), .int a1] (zc_mo G ma u) sz) (zc_Ql G r0.1 (zc_mo G ma r0.2) (va_A (zc_mo G ma u) sz)) 0 0 (va_A (zc_mo G ma u) sz) := by
  refine Met.ofW (cc := cX3_draw) (maxL := 2) (ret := (some .long)) (by decide) rfl ?_
  intro p e s m args below meth c s₁ B hml hv
  obtain ⟨rfl, hsz, hP, hK, hD0⟩ := hv
  have hx := B.exec
  have hb := B.bytes
  have hr := B.returns
  have hts := atoms_spec (ws := wsX3_draw) B.pre
  have hown : s.vm.findClass RX3 = some m.cls := findClass_of_methodNamed B.named
  have hlocks := B.notSynchronized
  subst hsz
  have hD := hD0.self (sz := s.heap.size)
  generalize hAe : va_A (zc_mo G ma u) s.heap.size = A at hD ⊢
  have hA : ∀ q : Nat, s.heap.size ≤ q → A q := fun q h => by rw [← hAe]; exact Or.inr h
  have hS : va_S A s.heap s.heap [] := va_S.rf
  have hl := lv_entry ([.ref (ma 0), .int a1]) (n := 2) (Nat.le_of_ble_eq_true rfl)
  rw [lg_entry_eq]
  generalize (lg_sl ([.ref (ma 0), .int a1]) ++ List.replicate (2 - (lg_sl ([.ref (ma 0), .int a1])).length) Slot.unset).toArray = ls at hl ⊢
  have hl : lv_has ls 2 [(0, .ref (ma 0)), (1, .int a1)] := hl
  refine lv_aload_n hx hb dX3_draw_0 rfl (lv_at hl 0 rfl) ?_
  refine lv_aload_n hx hb dX3_draw_1 rfl (lv_at hl 0 rfl) ?_
  refine va_get (D := G.1) (ci := 3) (C := RX3) (T := TX3) (N := 8) hx hb hts iX3_draw_X3 hown hK.1 hP 0 rfl rfl 7 (by decide) (hts (.fieldLink RX3 211 "BoardClockModel" "seed" "J") (List.mem_of_getElem? (i := 1) rfl)) (fun _ h9 => h9) rfl dX3_draw_2 ?_
  refine lv_ldc2 hx hb hown (hts (.constantLong RX3 215 (1103515245)) (List.mem_of_getElem? (i := 2) rfl)) dX3_draw_5 ?_
  refine lv_lmul hx hb dX3_draw_8 ?_
  refine lv_ldc2 hx hb hown (hts (.constantLong RX3 217 (12345)) (List.mem_of_getElem? (i := 3) rfl)) dX3_draw_9 ?_
  refine lv_ladd hx hb dX3_draw_12 ?_
  refine lv_ldc2 hx hb hown (hts (.constantLong RX3 219 (2147483648)) (List.mem_of_getElem? (i := 4) rfl)) dX3_draw_13 ?_
  refine lv_lrem hx hb dX3_draw_16 (by decide) ?_
  refine va_put (D := G.1) (ci := 3) (v := .long ((((u.2.2.2) * (1103515245 : Int64)) + (12345 : Int64)) - (((u.2.2.2) * (1103515245 : Int64)) + (12345 : Int64)) / (2147483648 : Int64) * (2147483648 : Int64))) (ty := .long) (C := RX3) (T := TX3) (N := 8) hx hb hts iX3_draw_X3 tyX3 tyX3_ok nmX3 hown hK.1 hP hD hS 0 rfl rfl 7 (by decide) (hts (.fieldLink RX3 211 "BoardClockModel" "seed" "J") (List.mem_of_getElem? (i := 1) rfl)) (fun _ h9 => h9) rfl (by decide +kernel) rfl rfl (Nat.le_of_ble_eq_true rfl) dX3_draw_17 (fun H locs hP _ hS => ?_)
  obtain ⟨u1, eu1, hF⟩ := zc_letX hF
  have hP : va_P G.1 vwCl (zc_mo G ma u1) H := by rw [eu1]; exact hP
  have hD : va_D A (zc_mo G ma u1) := zc_Ds hD rfl
  refine lv_aload_n hx hb dX3_draw_20 rfl (lv_at hl 0 rfl) ?_
  refine va_get (D := G.1) (ci := 3) (C := RX3) (T := TX3) (N := 8) hx hb hts iX3_draw_X3 hown hK.1 hP 0 rfl rfl 7 (by decide) (hts (.fieldLink RX3 211 "BoardClockModel" "seed" "J") (List.mem_of_getElem? (i := 1) rfl)) (fun _ h9 => h9) rfl dX3_draw_21 ?_
  refine lv_ldc2 hx hb hown (hts (.constantLong RX3 221 (65536)) (List.mem_of_getElem? (i := 5) rfl)) dX3_draw_24 ?_
  refine lv_ldiv hx hb dX3_draw_27 (by decide) ?_
  refine lv_iload_n hx hb dX3_draw_28 rfl (lv_at hl 1 rfl) ?_
  refine lv_i2l hx hb dX3_draw_29 rfl ?_
  obtain ⟨hnz2, hF⟩ := zc_nzLE hF
  refine lv_lrem hx hb dX3_draw_30 hnz2 ?_
  obtain rfl := Option.some.inj hF
  exact W.lret hx hb hr (fun t ht hW => ⟨⟨_, (), rfl, rfl, zc_hp ht hP⟩, hS.F ht⟩) hS.2.2 dX3_draw_31
def fX3_drift_L (N : Nat) : Nat → zc_M → Int32 → Int32 → Option (Int32 × zc_M)
  | 0, _, _, _ => none
  | n + 1, u0, y1, y2 => if y1 ≤ y2 then (Option.bind (fX3_allRings N u0) fun (r4 : Int64) => some ((r4).toInt32, u0)) else (Option.bind (fX3_draw u0 (8 : Int32)) fun (r5 : Int64 × zc_M) => zc_let (r5.2) fun (u6 : zc_M) => zc_let r5.1 fun (x7 : Int64) => Option.bind (fX3_draw u6 (90 : Int32)) fun (r8 : Int64 × zc_M) => zc_let (r8.2) fun (u9 : zc_M) => zc_let (r8.1 - (20 : Int64)) fun (x10 : Int64) => Option.bind (fX3_draw u9 (1001 : Int32)) fun (r11 : Int64 × zc_M) => zc_let (r11.2) fun (u12 : zc_M) => zc_let (r11.1 - (500 : Int64)) fun (x13 : Int64) => Option.bind (fX3_notes N u12) fun (r14 : zc_M) => if (lg_cmp x7 (0 : Int64)) = 0 then (zc_let (zc_mL r14 0 4 x10) fun (u23 : zc_M) => zc_let (y2 + (1 : Int32)) fun (x24 : Int32) => fX3_drift_L N n u23 y1 x24) else (if (lg_cmp x7 (1 : Int64)) = 0 then (Option.bind (fX3_hears r14 x13 (500 : Int64)) fun (r20 : Int32 × zc_M) => zc_let (r20.2) fun (u21 : zc_M) => zc_let (y2 + (1 : Int32)) fun (x22 : Int32) => fX3_drift_L N n u21 y1 x22) else (Option.bind (fX3_goes N r14 (1 : Int32)) fun (r17 : Int32 × zc_M) => zc_let (r17.2) fun (u18 : zc_M) => zc_let (y2 + (1 : Int32)) fun (x19 : Int32) => fX3_drift_L N n u18 y1 x19)))
def fX3_drift (N : Nat) (u : zc_M) (a1 : Int32) : Option (Int32 × zc_M) := Option.bind (fX3_in a1.toInt64 (1 : Int64) (20 : Int64)) fun (r1 : Int32) => if r1 = 0 then (some ((-1000000002 : Int32), u)) else (fX3_drift_L N N u a1 (0 : Int32))
theorem iX3_drift_X3 : ∀ w ∈ wsX30, w ∈ wsX3_drift := fun _ h => List.mem_cons_of_mem _ (List.mem_append_right _ h)
set_option maxHeartbeats 4000000 in
set_option maxRecDepth 100000 in
theorem kX3_drift (l : Launch) (G : zc_G) (ma : Nat → Nat) (sz : Nat) {N : Nat} {u : zc_M} {a1 : Int32} {r0 : Int32 × zc_M} (hF : fX3_drift N u a1 = some r0) : Met l yX3_drift wsX3_drift ({ frames := 4, cells := 0, slots := 0, locals := 101 }) (zc_Pm G [.ref (ma 0), .int a1] (zc_mo G ma u) sz) (zc_Qi G r0.1 (zc_mo G ma r0.2) (va_A (zc_mo G ma u) sz)) 0 0 (va_A (zc_mo G ma u) sz) := by
  refine Met.ofW (cc := cX3_drift) (maxL := 9) (ret := (some .int)) (by decide) rfl ?_
  intro p e s m args below meth c s₁ B hml hv
  obtain ⟨rfl, hsz, hP, hK, hD0⟩ := hv
  have hx := B.exec
  have hb := B.bytes
  have hr := B.returns
  have hts := atoms_spec (ws := wsX3_drift) B.pre
  have hown : s.vm.findClass RX3 = some m.cls := findClass_of_methodNamed B.named
  have hlocks := B.notSynchronized
  subst hsz
  have hD := hD0.self (sz := s.heap.size)
  generalize hAe : va_A (zc_mo G ma u) s.heap.size = A at hD ⊢
  have hA : ∀ q : Nat, s.heap.size ≤ q → A q := fun q h => by rw [← hAe]; exact Or.inr h
  have hS : va_S A s.heap s.heap [] := va_S.rf
  have hl := lv_entry ([.ref (ma 0), .int a1]) (n := 9) (Nat.le_of_ble_eq_true rfl)
  rw [lg_entry_eq]
  generalize (lg_sl ([.ref (ma 0), .int a1]) ++ List.replicate (9 - (lg_sl ([.ref (ma 0), .int a1])).length) Slot.unset).toArray = ls at hl ⊢
  have hl : lv_has ls 9 [(0, .ref (ma 0)), (1, .int a1)] := hl
  have loop : ∀ (n : Nat) (u0 : zc_M) (y1 : Int32) (y2 : Int32) (H : Heap) (locs : List Loc), va_P G.1 vwCl (zc_mo G ma u0) H → va_D A (zc_mo G ma u0) → va_S A s.heap H locs → ∀ (ls : Array Slot), lv_has ls 9 [(0, .ref (ma 0)), (1, .int y1), (2, .int y2)] → fX3_drift_L N n u0 y1 y2 = some r0 → W p l e (headSpec wsX3_drift ({ frames := 4, cells := 0, slots := 0, locals := 101 })).room s m ([.ref (ma 0), .int a1] : List Value).toArray below meth c H locs 0 0 (MQ below (zc_Qi G r0.1 (zc_mo G ma r0.2) A) ([.ref (ma 0), .int a1] : List Value).toArray s 0 0 A) (F0 m 17 ls []) := by
    intro n
    induction n with
    | zero =>
      intro u0 y1 y2 H locs hP hD hS ls hl hF
      cases hF
    | succ n ih =>
      intro u0 y1 y2 H locs hP hD hS ls hl hF
      rw [fX3_drift_L] at hF
      refine lv_iload_n hx hb dX3_drift_17 rfl (lv_at hl 2 rfl) ?_
      refine lv_iload_n hx hb dX3_drift_18 rfl (lv_at hl 1 rfl) ?_
      refine lv_icmp_ge (tgt := 106) hx hb dX3_drift_19 (by decide) (fun c3 => ?_) (fun c3 => ?_)
      · have hF := zc_pos c3 hF
        refine lv_aload_n hx hb dX3_drift_106 rfl (lv_at hl 0 rfl) ?_
        obtain ⟨r4, er4, hF⟩ := zc_bind hF
        refine zc_cl (va_runV (As := []) ⟨hx, hb, hml, hown, hts⟩ (kX3_allRings l G ma er4) (cwV 0 hts gX3_drift_X3_allRings rfl rfl rfl (by decide +kernel) ⟨Nat.le_of_ble_eq_true rfl, Nat.le_of_ble_eq_true rfl⟩) (zc_preV hK hP 0 rfl rfl) rfl rfl hl.1 rfl (lv_room (Nat.le_of_ble_eq_true rfl)) dX3_drift_107 ⟨Nat.le_of_ble_eq_true rfl, Nat.le_of_ble_eq_true rfl⟩) ?_
        refine lv_l2i hx hb dX3_drift_110 rfl ?_
        obtain rfl := Option.some.inj hF
        exact W.iret hx hb hr (fun t ht hW => ⟨⟨_, (), rfl, rfl, zc_hp ht hP⟩, hS.F ht⟩) hS.2.2 dX3_drift_111
      · have hF := zc_neg c3 hF
        refine lv_aload_n hx hb dX3_drift_22 rfl (lv_at hl 0 rfl) ?_
        refine lv_bipush (v := (8 : Int32)) hx hb dX3_drift_23 (by decide) ?_
        obtain ⟨r5, er5, hF⟩ := zc_bind hF
        refine zc_ml (X := zc_mo G ma u0) (pl := []) (wc := zc_mo G ma u0) (w1 := zc_mo G ma r5.2) (wr := []) hP hD hS hA [0, 1, 2, 3, 4, 5] [] rfl (by decide) rfl (by decide) (by decide) rfl (va_runV (As := [.int _]) ⟨hx, hb, hml, hown, hts⟩ (kX3_draw l G ma _ er5) (cwV 1 hts gX3_drift_X3_draw rfl rfl rfl (by decide +kernel) ⟨Nat.le_of_ble_eq_true rfl, Nat.le_of_ble_eq_true rfl⟩) (zc_preVm hK hP hD 0 rfl rfl) rfl rfl hl.1 rfl (lv_room (Nat.le_of_ble_eq_true rfl)) dX3_drift_25 ⟨Nat.le_of_ble_eq_true rfl, Nat.le_of_ble_eq_true rfl⟩) (fun H locs hP hD hS => ?_)
        obtain ⟨u6, eu6, hF⟩ := zc_letX hF
        have hP : va_P G.1 vwCl (zc_mo G ma u6) H := by rw [eu6]; exact hP
        have hD : va_D A (zc_mo G ma u6) := zc_Ds hD rfl
        refine lv_topl (fun x7 ex7 => ?_)
        have hF := zc_letE ex7 hF
        refine lv_lstore_n (lv' := [(3, .long x7), (0, .ref (ma 0)), (1, .int y1), (2, .int y2)]) hx hb dX3_drift_28 rfl hl (by decide) rfl (fun ls hl => ?_)
        refine lv_aload_n hx hb dX3_drift_29 rfl (lv_at hl 1 rfl) ?_
        refine lv_bipush (v := (90 : Int32)) hx hb dX3_drift_30 (by decide) ?_
        obtain ⟨r8, er8, hF⟩ := zc_bind hF
        refine zc_ml (X := zc_mo G ma u6) (pl := []) (wc := zc_mo G ma u6) (w1 := zc_mo G ma r8.2) (wr := []) hP hD hS hA [0, 1, 2, 3, 4, 5] [] rfl (by decide) rfl (by decide) (by decide) rfl (va_runV (As := [.int _]) ⟨hx, hb, hml, hown, hts⟩ (kX3_draw l G ma _ er8) (cwV 1 hts gX3_drift_X3_draw rfl rfl rfl (by decide +kernel) ⟨Nat.le_of_ble_eq_true rfl, Nat.le_of_ble_eq_true rfl⟩) (zc_preVm hK hP hD 0 rfl rfl) rfl rfl hl.1 rfl (lv_room (Nat.le_of_ble_eq_true rfl)) dX3_drift_32 ⟨Nat.le_of_ble_eq_true rfl, Nat.le_of_ble_eq_true rfl⟩) (fun H locs hP hD hS => ?_)
        obtain ⟨u9, eu9, hF⟩ := zc_letX hF
        have hP : va_P G.1 vwCl (zc_mo G ma u9) H := by rw [eu9]; exact hP
        have hD : va_D A (zc_mo G ma u9) := zc_Ds hD rfl
        refine lv_ldc2 hx hb hown (hts (.constantLong RX3 31 (20)) (List.mem_of_getElem? (i := 1) rfl)) dX3_drift_35 ?_
        refine lv_lsub hx hb dX3_drift_38 ?_
        refine lv_topl (fun x10 ex10 => ?_)
        have hF := zc_letE ex10 hF
        refine lv_lstore (lv' := [(5, .long x10), (3, .long x7), (0, .ref (ma 0)), (1, .int y1), (2, .int y2)]) hx hb dX3_drift_39 hl (by decide) rfl (fun ls hl => ?_)
        refine lv_aload_n hx hb dX3_drift_41 rfl (lv_at hl 2 rfl) ?_
        refine lv_sipush (v := (1001 : Int32)) hx hb dX3_drift_42 (by decide) ?_
        obtain ⟨r11, er11, hF⟩ := zc_bind hF
        refine zc_ml (X := zc_mo G ma u9) (pl := []) (wc := zc_mo G ma u9) (w1 := zc_mo G ma r11.2) (wr := []) hP hD hS hA [0, 1, 2, 3, 4, 5] [] rfl (by decide) rfl (by decide) (by decide) rfl (va_runV (As := [.int _]) ⟨hx, hb, hml, hown, hts⟩ (kX3_draw l G ma _ er11) (cwV 1 hts gX3_drift_X3_draw rfl rfl rfl (by decide +kernel) ⟨Nat.le_of_ble_eq_true rfl, Nat.le_of_ble_eq_true rfl⟩) (zc_preVm hK hP hD 0 rfl rfl) rfl rfl hl.1 rfl (lv_room (Nat.le_of_ble_eq_true rfl)) dX3_drift_45 ⟨Nat.le_of_ble_eq_true rfl, Nat.le_of_ble_eq_true rfl⟩) (fun H locs hP hD hS => ?_)
        obtain ⟨u12, eu12, hF⟩ := zc_letX hF
        have hP : va_P G.1 vwCl (zc_mo G ma u12) H := by rw [eu12]; exact hP
        have hD : va_D A (zc_mo G ma u12) := zc_Ds hD rfl
        refine lv_ldc2 hx hb hown (hts (.constantLong RX3 226 (500)) (List.mem_of_getElem? (i := 3) rfl)) dX3_drift_48 ?_
        refine lv_lsub hx hb dX3_drift_51 ?_
        refine lv_topl (fun x13 ex13 => ?_)
        have hF := zc_letE ex13 hF
        refine lv_lstore (lv' := [(7, .long x13), (5, .long x10), (3, .long x7), (0, .ref (ma 0)), (1, .int y1), (2, .int y2)]) hx hb dX3_drift_52 hl (by decide) rfl (fun ls hl => ?_)
        refine lv_aload_n hx hb dX3_drift_54 rfl (lv_at hl 3 rfl) ?_
        obtain ⟨r14, er14, hF⟩ := zc_bind hF
        refine zc_mv (X := zc_mo G ma u12) (pl := []) (wc := zc_mo G ma u12) (w1 := zc_mo G ma r14) (wr := []) hP hD hS hA [0, 1, 2, 3, 4, 5] [] rfl (by decide) rfl (by decide) (by decide) rfl (va_runV (As := []) ⟨hx, hb, hml, hown, hts⟩ (kX3_notes l G ma _ er14) (cwV 0 hts gX3_drift_X3_notes rfl rfl rfl (by decide +kernel) ⟨Nat.le_of_ble_eq_true rfl, Nat.le_of_ble_eq_true rfl⟩) (zc_preVm hK hP hD 0 rfl rfl) rfl rfl hl.1 rfl (lv_room (Nat.le_of_ble_eq_true rfl)) dX3_drift_55 ⟨Nat.le_of_ble_eq_true rfl, Nat.le_of_ble_eq_true rfl⟩) (fun H locs hP hD hS => ?_)
        have hP : va_P G.1 vwCl (zc_mo G ma r14) H := hP
        have hD : va_D A (zc_mo G ma r14) := hD
        refine lv_lload_n hx hb dX3_drift_58 rfl (lv_at hl 2 rfl) ?_
        refine lv_lconst (v := (0 : Int64)) hx hb dX3_drift_59 (by decide) ?_
        refine W.lcmp hx hb dX3_drift_60 ?_
        refine lv_if_ne (tgt := 75) hx hb dX3_drift_61 (by decide) (fun c15 => ?_) (fun c15 => ?_)
        · have hF := zc_neg c15 hF
          refine lv_lload_n hx hb dX3_drift_75 rfl (lv_at hl 2 rfl) ?_
          refine lv_lconst (v := (1 : Int64)) hx hb dX3_drift_76 (by decide) ?_
          refine W.lcmp hx hb dX3_drift_77 ?_
          refine lv_if_ne (tgt := 94) hx hb dX3_drift_78 (by decide) (fun c16 => ?_) (fun c16 => ?_)
          · have hF := zc_neg c16 hF
            refine lv_aload_n hx hb dX3_drift_94 rfl (lv_at hl 3 rfl) ?_
            refine lv_iconst (v := (1 : Int32)) hx hb dX3_drift_95 (by decide) ?_
            obtain ⟨r17, er17, hF⟩ := zc_bind hF
            refine zc_mi (X := zc_mo G ma r14) (pl := []) (wc := zc_mo G ma r14) (w1 := zc_mo G ma r17.2) (wr := []) hP hD hS hA [0, 1, 2, 3, 4, 5] [] rfl (by decide) rfl (by decide) (by decide) rfl (va_runV (As := [.int _]) ⟨hx, hb, hml, hown, hts⟩ (kX3_goes l G ma _ er17) (cwV 1 hts gX3_drift_X3_goes rfl rfl rfl (by decide +kernel) ⟨Nat.le_of_ble_eq_true rfl, Nat.le_of_ble_eq_true rfl⟩) (zc_preVm hK hP hD 0 rfl rfl) rfl rfl hl.1 rfl (lv_room (Nat.le_of_ble_eq_true rfl)) dX3_drift_96 ⟨Nat.le_of_ble_eq_true rfl, Nat.le_of_ble_eq_true rfl⟩) (fun H locs hP hD hS => ?_)
            obtain ⟨u18, eu18, hF⟩ := zc_letX hF
            have hP : va_P G.1 vwCl (zc_mo G ma u18) H := by rw [eu18]; exact hP
            have hD : va_D A (zc_mo G ma u18) := zc_Ds hD rfl
            refine lv_pop hx hb dX3_drift_99 rfl ?_
            obtain ⟨x19, ex19⟩ : ∃ y : Int32, y = y2 + (1 : Int32) := ⟨_, rfl⟩
            have hF := zc_letE ex19 hF
            refine lv_iinc (v := x19) (lv' := [(2, .int x19), (7, .long x13), (5, .long x10), (3, .long x7), (0, .ref (ma 0)), (1, .int y1)]) hx hb dX3_drift_100 hl (k := 5) rfl (by rw [ex19]; rfl) (by decide) rfl (fun ls hl => ?_)
            refine lv_goto (tgt := 17) hx hb dX3_drift_103 (by decide) ?_
            exact ih u18 y1 x19 H locs hP hD hS ls (lv_sub hl [4, 5, 0] rfl) hF
          · have hF := zc_pos c16 hF
            refine lv_aload_n hx hb dX3_drift_81 rfl (lv_at hl 3 rfl) ?_
            refine lv_lload hx hb dX3_drift_82 (lv_at hl 0 rfl) ?_
            refine lv_ldc2 hx hb hown (hts (.constantLong RX3 226 (500)) (List.mem_of_getElem? (i := 3) rfl)) dX3_drift_84 ?_
            obtain ⟨r20, er20, hF⟩ := zc_bind hF
            refine zc_mi (X := zc_mo G ma r14) (pl := []) (wc := zc_mo G ma r14) (w1 := zc_mo G ma r20.2) (wr := []) hP hD hS hA [0, 1, 2, 3, 4, 5] [] rfl (by decide) rfl (by decide) (by decide) rfl (va_runV (As := [.long _, .long _]) ⟨hx, hb, hml, hown, hts⟩ (kX3_hears l G ma _ er20) (cwV 2 hts gX3_drift_X3_hears rfl rfl rfl (by decide +kernel) ⟨Nat.le_of_ble_eq_true rfl, Nat.le_of_ble_eq_true rfl⟩) (zc_preVm hK hP hD 0 rfl rfl) rfl rfl hl.1 rfl (lv_room (Nat.le_of_ble_eq_true rfl)) dX3_drift_87 ⟨Nat.le_of_ble_eq_true rfl, Nat.le_of_ble_eq_true rfl⟩) (fun H locs hP hD hS => ?_)
            obtain ⟨u21, eu21, hF⟩ := zc_letX hF
            have hP : va_P G.1 vwCl (zc_mo G ma u21) H := by rw [eu21]; exact hP
            have hD : va_D A (zc_mo G ma u21) := zc_Ds hD rfl
            refine lv_pop hx hb dX3_drift_90 rfl ?_
            refine lv_goto (tgt := 100) hx hb dX3_drift_91 (by decide) ?_
            obtain ⟨x22, ex22⟩ : ∃ y : Int32, y = y2 + (1 : Int32) := ⟨_, rfl⟩
            have hF := zc_letE ex22 hF
            refine lv_iinc (v := x22) (lv' := [(2, .int x22), (7, .long x13), (5, .long x10), (3, .long x7), (0, .ref (ma 0)), (1, .int y1)]) hx hb dX3_drift_100 hl (k := 5) rfl (by rw [ex22]; rfl) (by decide) rfl (fun ls hl => ?_)
            refine lv_goto (tgt := 17) hx hb dX3_drift_103 (by decide) ?_
            exact ih u21 y1 x22 H locs hP hD hS ls (lv_sub hl [4, 5, 0] rfl) hF
        · have hF := zc_pos c15 hF
          refine lv_aload_n hx hb dX3_drift_64 rfl (lv_at hl 3 rfl) ?_
          refine va_get (D := G.1) (ci := 3) (C := RX3) (T := TX3) (N := 8) hx hb hts iX3_drift_X3 hown hK.1 hP 0 rfl rfl 0 (by decide) (hts (.fieldLink RX3 7 "BoardClockModel" "st" "[J") (List.mem_of_getElem? (i := 4) rfl)) (fun _ h9 => h9) rfl dX3_drift_65 ?_
          refine lv_iconst (v := (4 : Int32)) hx hb dX3_drift_68 (by decide) ?_
          refine lv_lload hx hb dX3_drift_69 (lv_at hl 1 rfl) ?_
          refine zc_last (j := 4) hx hb hK.1 hP hD hS 1 1 rfl rfl (zc_vin (by decide)) (by decide) dX3_drift_71 (fun H locs hP hS => ?_)
          obtain ⟨u23, eu23, hF⟩ := zc_letX hF
          have hP : va_P G.1 vwCl (zc_mo G ma u23) H := by rw [eu23]; exact hP
          have hD : va_D A (zc_mo G ma u23) := zc_Ds hD rfl
          refine lv_goto (tgt := 100) hx hb dX3_drift_72 (by decide) ?_
          obtain ⟨x24, ex24⟩ : ∃ y : Int32, y = y2 + (1 : Int32) := ⟨_, rfl⟩
          have hF := zc_letE ex24 hF
          refine lv_iinc (v := x24) (lv' := [(2, .int x24), (7, .long x13), (5, .long x10), (3, .long x7), (0, .ref (ma 0)), (1, .int y1)]) hx hb dX3_drift_100 hl (k := 5) rfl (by rw [ex24]; rfl) (by decide) rfl (fun ls hl => ?_)
          refine lv_goto (tgt := 17) hx hb dX3_drift_103 (by decide) ?_
          exact ih u23 y1 x24 H locs hP hD hS ls (lv_sub hl [4, 5, 0] rfl) hF
  refine lv_iload_n hx hb dX3_drift_0 rfl (lv_at hl 1 rfl) ?_
  refine lv_i2l hx hb dX3_drift_1 rfl ?_
  refine lv_lconst (v := (1 : Int64)) hx hb dX3_drift_2 (by decide) ?_
  refine lv_ldc2 hx hb hown (hts (.constantLong RX3 31 (20)) (List.mem_of_getElem? (i := 1) rfl)) dX3_drift_3 ?_
  obtain ⟨r1, er1, hF⟩ := zc_bind hF
  refine zc_ci (va_runS (As := [.long _, .long _, .long _]) ⟨hx, hb, hml, hown, hts⟩ (kX3_in l G er1) (va_cwS 3 hts gX3_drift_X3_in rfl rfl rfl (by decide +kernel) ⟨Nat.le_of_ble_eq_true rfl, Nat.le_of_ble_eq_true rfl⟩) (zc_preS hK (show va_P G.1 vwCl [] _ from fun k q h => by simp at h)) rfl rfl hl.1 rfl (lv_room (Nat.le_of_ble_eq_true rfl)) dX3_drift_6 ⟨Nat.le_of_ble_eq_true rfl, Nat.le_of_ble_eq_true rfl⟩) ?_
  refine lv_if_ne (tgt := 15) hx hb dX3_drift_9 (by decide) (fun c2 => ?_) (fun c2 => ?_)
  · have hF := zc_neg c2 hF
    refine lv_iconst (v := (0 : Int32)) hx hb dX3_drift_15 (by decide) ?_
    refine lv_istore_n (lv' := [(2, .int (0 : Int32)), (0, .ref (ma 0)), (1, .int a1)]) hx hb dX3_drift_16 rfl hl (by decide) rfl (fun ls hl => ?_)
    exact loop N u a1 (0 : Int32) _ _ hP hD hS ls (lv_sub hl [1, 2, 0] rfl) hF
  · have hF := zc_pos c2 hF
    refine lv_ldc hx hb hown (hts (.constant RX3 154 (-1000000002)) (List.mem_of_getElem? (i := 2) rfl)) dX3_drift_12 ?_
    obtain rfl := Option.some.inj hF
    exact W.iret hx hb hr (fun t ht hW => ⟨⟨_, (), rfl, rfl, zc_hp ht hP⟩, hS.F ht⟩) hS.2.2 dX3_drift_14
def fX3_undo (N : Nat) (u : zc_M) (a1 : Int32) : Option (Int32 × zc_M) := Option.bind (fX3_in a1.toInt64 (1 : Int64) (20 : Int64)) fun (r1 : Int32) => if r1 = 0 then (some ((-1000000002 : Int32), u)) else (if a1 ≤ (u.2.2.1 0) then (zc_let (zc_mI u 0 ((u.2.2.1 0) - a1)) fun (u4 : zc_M) => Option.bind (fX3_bring2 N 980 49 (u4.1 0) (u4.1 1) ((49 : Int32) * (u4.2.2.1 0)) (0 : Int32) (49 : Int32)) fun (r5 : Nat → Int64) => zc_let (zc_mf u4 0 r5) fun (u6 : zc_M) => some ((u6.2.2.1 0), u6)) else (some ((-1000000003 : Int32), u)))
theorem iX3_undo_X3 : ∀ w ∈ wsX30, w ∈ wsX3_undo := fun _ h => List.mem_cons_of_mem _ (List.mem_append_right _ h)
set_option maxHeartbeats 4000000 in
set_option maxRecDepth 100000 in
theorem kX3_undo (l : Launch) (G : zc_G) (ma : Nat → Nat) (sz : Nat) {N : Nat} {u : zc_M} {a1 : Int32} {r0 : Int32 × zc_M} (hF : fX3_undo N u a1 = some r0) : Met l yX3_undo wsX3_undo ({ frames := 1, cells := 0, slots := 0, locals := 25 }) (zc_Pm G [.ref (ma 0), .int a1] (zc_mo G ma u) sz) (zc_Qi G r0.1 (zc_mo G ma r0.2) (va_A (zc_mo G ma u) sz)) 0 0 (va_A (zc_mo G ma u) sz) := by
  refine Met.ofW (cc := cX3_undo) (maxL := 2) (ret := (some .int)) (by decide) rfl ?_
  intro p e s m args below meth c s₁ B hml hv
  obtain ⟨rfl, hsz, hP, hK, hD0⟩ := hv
  have hx := B.exec
  have hb := B.bytes
  have hr := B.returns
  have hts := atoms_spec (ws := wsX3_undo) B.pre
  have hown : s.vm.findClass RX3 = some m.cls := findClass_of_methodNamed B.named
  have hlocks := B.notSynchronized
  subst hsz
  have hD := hD0.self (sz := s.heap.size)
  generalize hAe : va_A (zc_mo G ma u) s.heap.size = A at hD ⊢
  have hA : ∀ q : Nat, s.heap.size ≤ q → A q := fun q h => by rw [← hAe]; exact Or.inr h
  have hS : va_S A s.heap s.heap [] := va_S.rf
  have hl := lv_entry ([.ref (ma 0), .int a1]) (n := 2) (Nat.le_of_ble_eq_true rfl)
  rw [lg_entry_eq]
  generalize (lg_sl ([.ref (ma 0), .int a1]) ++ List.replicate (2 - (lg_sl ([.ref (ma 0), .int a1])).length) Slot.unset).toArray = ls at hl ⊢
  have hl : lv_has ls 2 [(0, .ref (ma 0)), (1, .int a1)] := hl
  refine lv_iload_n hx hb dX3_undo_0 rfl (lv_at hl 1 rfl) ?_
  refine lv_i2l hx hb dX3_undo_1 rfl ?_
  refine lv_lconst (v := (1 : Int64)) hx hb dX3_undo_2 (by decide) ?_
  refine lv_ldc2 hx hb hown (hts (.constantLong RX3 31 (20)) (List.mem_of_getElem? (i := 1) rfl)) dX3_undo_3 ?_
  obtain ⟨r1, er1, hF⟩ := zc_bind hF
  refine zc_ci (va_runS (As := [.long _, .long _, .long _]) ⟨hx, hb, hml, hown, hts⟩ (kX3_in l G er1) (va_cwS 3 hts gX3_undo_X3_in rfl rfl rfl (by decide +kernel) ⟨Nat.le_of_ble_eq_true rfl, Nat.le_of_ble_eq_true rfl⟩) (zc_preS hK (show va_P G.1 vwCl [] _ from fun k q h => by simp at h)) rfl rfl hl.1 rfl (lv_room (Nat.le_of_ble_eq_true rfl)) dX3_undo_6 ⟨Nat.le_of_ble_eq_true rfl, Nat.le_of_ble_eq_true rfl⟩) ?_
  refine lv_if_ne (tgt := 15) hx hb dX3_undo_9 (by decide) (fun c2 => ?_) (fun c2 => ?_)
  · have hF := zc_neg c2 hF
    refine lv_iload_n hx hb dX3_undo_15 rfl (lv_at hl 1 rfl) ?_
    refine lv_aload_n hx hb dX3_undo_16 rfl (lv_at hl 0 rfl) ?_
    refine va_get (D := G.1) (ci := 3) (C := RX3) (T := TX3) (N := 8) hx hb hts iX3_undo_X3 hown hK.1 hP 0 rfl rfl 2 (by decide) (hts (.fieldLink RX3 151 "BoardClockModel" "deeds" "I") (List.mem_of_getElem? (i := 3) rfl)) (fun _ h9 => h9) rfl dX3_undo_17 ?_
    refine lv_icmp_le (tgt := 26) hx hb dX3_undo_20 (by decide) (fun c3 => ?_) (fun c3 => ?_)
    · have hF := zc_pos c3 hF
      refine lv_aload_n hx hb dX3_undo_26 rfl (lv_at hl 0 rfl) ?_
      refine lv_dup hx hb dX3_undo_27 rfl ?_
      refine va_get (D := G.1) (ci := 3) (C := RX3) (T := TX3) (N := 8) hx hb hts iX3_undo_X3 hown hK.1 hP 0 rfl rfl 2 (by decide) (hts (.fieldLink RX3 151 "BoardClockModel" "deeds" "I") (List.mem_of_getElem? (i := 3) rfl)) (fun _ h9 => h9) rfl dX3_undo_28 ?_
      refine lv_iload_n hx hb dX3_undo_31 rfl (lv_at hl 1 rfl) ?_
      refine lv_isub hx hb dX3_undo_32 ?_
      refine va_put (D := G.1) (ci := 3) (v := .int ((u.2.2.1 0) - a1)) (ty := .int) (C := RX3) (T := TX3) (N := 8) hx hb hts iX3_undo_X3 tyX3 tyX3_ok nmX3 hown hK.1 hP hD hS 0 rfl rfl 2 (by decide) (hts (.fieldLink RX3 151 "BoardClockModel" "deeds" "I") (List.mem_of_getElem? (i := 3) rfl)) (fun _ h9 => h9) rfl (by decide +kernel) rfl rfl (Nat.le_of_ble_eq_true rfl) dX3_undo_33 (fun H locs hP _ hS => ?_)
      obtain ⟨u4, eu4, hF⟩ := zc_letX hF
      have hP : va_P G.1 vwCl (zc_mo G ma u4) H := by rw [eu4]; exact hP
      have hD : va_D A (zc_mo G ma u4) := zc_Ds hD rfl
      refine lv_aload_n hx hb dX3_undo_36 rfl (lv_at hl 0 rfl) ?_
      refine va_get (D := G.1) (ci := 3) (C := RX3) (T := TX3) (N := 8) hx hb hts iX3_undo_X3 hown hK.1 hP 0 rfl rfl 1 (by decide) (hts (.fieldLink RX3 13 "BoardClockModel" "past" "[J") (List.mem_of_getElem? (i := 5) rfl)) (fun _ h9 => h9) rfl dX3_undo_37 ?_
      refine lv_bipush (v := (49 : Int32)) hx hb dX3_undo_40 (by decide) ?_
      refine lv_aload_n hx hb dX3_undo_42 rfl (lv_at hl 0 rfl) ?_
      refine va_get (D := G.1) (ci := 3) (C := RX3) (T := TX3) (N := 8) hx hb hts iX3_undo_X3 hown hK.1 hP 0 rfl rfl 2 (by decide) (hts (.fieldLink RX3 151 "BoardClockModel" "deeds" "I") (List.mem_of_getElem? (i := 3) rfl)) (fun _ h9 => h9) rfl dX3_undo_43 ?_
      refine lv_imul hx hb dX3_undo_46 ?_
      refine lv_aload_n hx hb dX3_undo_47 rfl (lv_at hl 0 rfl) ?_
      refine va_get (D := G.1) (ci := 3) (C := RX3) (T := TX3) (N := 8) hx hb hts iX3_undo_X3 hown hK.1 hP 0 rfl rfl 0 (by decide) (hts (.fieldLink RX3 7 "BoardClockModel" "st" "[J") (List.mem_of_getElem? (i := 6) rfl)) (fun _ h9 => h9) rfl dX3_undo_48 ?_
      refine lv_iconst (v := (0 : Int32)) hx hb dX3_undo_51 (by decide) ?_
      refine lv_bipush (v := (49 : Int32)) hx hb dX3_undo_52 (by decide) ?_
      obtain ⟨r5, er5, hF⟩ := zc_bind hF
      refine zc_mv (X := zc_mo G ma u4) (pl := []) (wc := [((ma 1), .inl (G.2 1, 49, .inr (.inl (u4.1 0)))), ((ma 2), .inl (G.2 1, 980, .inr (.inl (u4.1 1))))]) (w1 := [((ma 1), .inl (G.2 1, 49, .inr (.inl (r5)))), ((ma 2), .inl (G.2 1, 980, .inr (.inl (u4.1 1))))]) (wr := [((ma 0), .inr (3, [.ref (ma 1), .ref (ma 2), .int (u4.2.2.1 0), .ref (ma 3), .ref (ma 4), .ref (ma 5), .int (u4.2.2.1 1), .long (u4.2.2.2)])), ((ma 3), .inl (G.2 1, 100, .inr (.inl (u4.1 2)))), ((ma 4), .inl (G.2 2, 2, .inl (u4.2.1 0))), ((ma 5), .inl (G.2 0, 20, .inl (u4.2.1 1)))]) hP hD hS hA [1, 2] [0, 3, 4, 5] rfl (by decide) rfl (by decide) (by decide) rfl (va_runS (As := [.ref _, .int _, .ref _, .int _, .int _]) ⟨hx, hb, hml, hown, hts⟩ (kX3_bring2 l G (ma 2) (ma 1) _ er5) (va_cwS 5 hts gX3_undo_X3_bring rfl rfl rfl (by decide +kernel) ⟨Nat.le_of_ble_eq_true rfl, Nat.le_of_ble_eq_true rfl⟩) (zc_preSm hK (hP.sub (ws' := [((ma 1), .inl (G.2 1, 49, .inr (.inl (u4.1 0)))), ((ma 2), .inl (G.2 1, 980, .inr (.inl (u4.1 1))))]) [1, 2] rfl) (hD.sub (ws' := [((ma 1), .inl (G.2 1, 49, .inr (.inl (u4.1 0)))), ((ma 2), .inl (G.2 1, 980, .inr (.inl (u4.1 1))))]) [1, 2] (by decide) rfl)) rfl rfl hl.1 rfl (lv_room (Nat.le_of_ble_eq_true rfl)) dX3_undo_54 ⟨Nat.le_of_ble_eq_true rfl, Nat.le_of_ble_eq_true rfl⟩) (fun H locs hP hD hS => ?_)
      have hP := hP.sub (ws' := zc_mo G ma (zc_mf u4 0 r5)) [0, 4, 5, 1, 2, 3] rfl
      have hD := hD.sub (ws' := zc_mo G ma (zc_mf u4 0 r5)) [0, 4, 5, 1, 2, 3] (by decide) rfl
      obtain ⟨u6, eu6, hF⟩ := zc_letX hF
      have hP : va_P G.1 vwCl (zc_mo G ma u6) H := by rw [eu6]; exact hP
      have hD : va_D A (zc_mo G ma u6) := zc_Ds hD rfl
      refine lv_aload_n hx hb dX3_undo_57 rfl (lv_at hl 0 rfl) ?_
      refine va_get (D := G.1) (ci := 3) (C := RX3) (T := TX3) (N := 8) hx hb hts iX3_undo_X3 hown hK.1 hP 0 rfl rfl 2 (by decide) (hts (.fieldLink RX3 151 "BoardClockModel" "deeds" "I") (List.mem_of_getElem? (i := 3) rfl)) (fun _ h9 => h9) rfl dX3_undo_58 ?_
      obtain rfl := Option.some.inj hF
      exact W.iret hx hb hr (fun t ht hW => ⟨⟨_, (), rfl, rfl, zc_hp ht hP⟩, hS.F ht⟩) hS.2.2 dX3_undo_61
    · have hF := zc_neg c3 hF
      refine lv_ldc hx hb hown (hts (.constant RX3 228 (-1000000003)) (List.mem_of_getElem? (i := 4) rfl)) dX3_undo_23 ?_
      obtain rfl := Option.some.inj hF
      exact W.iret hx hb hr (fun t ht hW => ⟨⟨_, (), rfl, rfl, zc_hp ht hP⟩, hS.F ht⟩) hS.2.2 dX3_undo_25
  · have hF := zc_pos c2 hF
    refine lv_ldc hx hb hown (hts (.constant RX3 154 (-1000000002)) (List.mem_of_getElem? (i := 2) rfl)) dX3_undo_12 ?_
    obtain rfl := Option.some.inj hF
    exact W.iret hx hb hr (fun t ht hW => ⟨⟨_, (), rfl, rfl, zc_hp ht hP⟩, hS.F ht⟩) hS.2.2 dX3_undo_14
def fX3_write (u : zc_M) (a1 : Int32) : Option (Int32 × zc_M) := if (u.2.2.1 1) = (20 : Int32) then (some ((-1000000004 : Int32), u)) else (zc_in (u.2.2.1 1) 20 (zc_let (zc_ma u 1 ((u.2.2.1 1)).toNatClampNeg a1) fun (u3 : zc_M) => zc_let (zc_mI u3 1 ((u3.2.2.1 1) + (1 : Int32))) fun (u4 : zc_M) => some ((u4.2.2.1 1), u4)))
theorem iX3_write_X3 : ∀ w ∈ wsX30, w ∈ wsX3_write := fun _ h => List.mem_cons_of_mem _ (List.mem_append_right _ h)
set_option maxHeartbeats 4000000 in
set_option maxRecDepth 100000 in
theorem kX3_write (l : Launch) (G : zc_G) (ma : Nat → Nat) (sz : Nat) {u : zc_M} {a1 : Int32} {r0 : Int32 × zc_M} (hF : fX3_write u a1 = some r0) : Met l yX3_write wsX3_write ({ frames := 0, cells := 0, slots := 0, locals := 0 }) (zc_Pm G [.ref (ma 0), .int a1] (zc_mo G ma u) sz) (zc_Qi G r0.1 (zc_mo G ma r0.2) (va_A (zc_mo G ma u) sz)) 0 0 (va_A (zc_mo G ma u) sz) := by
  refine Met.ofW (cc := cX3_write) (maxL := 2) (ret := (some .int)) (by decide) rfl ?_
  intro p e s m args below meth c s₁ B hml hv
  obtain ⟨rfl, hsz, hP, hK, hD0⟩ := hv
  have hx := B.exec
  have hb := B.bytes
  have hr := B.returns
  have hts := atoms_spec (ws := wsX3_write) B.pre
  have hown : s.vm.findClass RX3 = some m.cls := findClass_of_methodNamed B.named
  have hlocks := B.notSynchronized
  subst hsz
  have hD := hD0.self (sz := s.heap.size)
  generalize hAe : va_A (zc_mo G ma u) s.heap.size = A at hD ⊢
  have hA : ∀ q : Nat, s.heap.size ≤ q → A q := fun q h => by rw [← hAe]; exact Or.inr h
  have hS : va_S A s.heap s.heap [] := va_S.rf
  have hl := lv_entry ([.ref (ma 0), .int a1]) (n := 2) (Nat.le_of_ble_eq_true rfl)
  rw [lg_entry_eq]
  generalize (lg_sl ([.ref (ma 0), .int a1]) ++ List.replicate (2 - (lg_sl ([.ref (ma 0), .int a1])).length) Slot.unset).toArray = ls at hl ⊢
  have hl : lv_has ls 2 [(0, .ref (ma 0)), (1, .int a1)] := hl
  refine lv_aload_n hx hb dX3_write_0 rfl (lv_at hl 0 rfl) ?_
  refine va_get (D := G.1) (ci := 3) (C := RX3) (T := TX3) (N := 8) hx hb hts iX3_write_X3 hown hK.1 hP 0 rfl rfl 6 (by decide) (hts (.fieldLink RX3 134 "BoardClockModel" "entries" "I") (List.mem_of_getElem? (i := 1) rfl)) (fun _ h9 => h9) rfl dX3_write_1 ?_
  refine lv_bipush (v := (20 : Int32)) hx hb dX3_write_4 (by decide) ?_
  refine lv_icmp_ne (tgt := 12) hx hb dX3_write_6 (by decide) (fun c1 => ?_) (fun c1 => ?_)
  · have hF := zc_neg c1 hF
    refine lv_aload_n hx hb dX3_write_12 rfl (lv_at hl 0 rfl) ?_
    refine va_get (D := G.1) (ci := 3) (C := RX3) (T := TX3) (N := 8) hx hb hts iX3_write_X3 hown hK.1 hP 0 rfl rfl 5 (by decide) (hts (.fieldLink RX3 23 "BoardClockModel" "book" "[I") (List.mem_of_getElem? (i := 3) rfl)) (fun _ h9 => h9) rfl dX3_write_13 ?_
    refine lv_aload_n hx hb dX3_write_16 rfl (lv_at hl 0 rfl) ?_
    refine va_get (D := G.1) (ci := 3) (C := RX3) (T := TX3) (N := 8) hx hb hts iX3_write_X3 hown hK.1 hP 0 rfl rfl 6 (by decide) (hts (.fieldLink RX3 134 "BoardClockModel" "entries" "I") (List.mem_of_getElem? (i := 1) rfl)) (fun _ h9 => h9) rfl dX3_write_17 ?_
    refine lv_iload_n hx hb dX3_write_20 rfl (lv_at hl 1 rfl) ?_
    obtain ⟨hi2, hF⟩ := zc_inE hF
    refine zc_iast hx hb hK.1 hP hD hS 5 0 rfl rfl hi2 rfl dX3_write_21 (fun H locs hP hS => ?_)
    obtain ⟨u3, eu3, hF⟩ := zc_letX hF
    have hP : va_P G.1 vwCl (zc_mo G ma u3) H := by rw [eu3]; exact hP
    have hD : va_D A (zc_mo G ma u3) := zc_Ds hD rfl
    refine lv_aload_n hx hb dX3_write_22 rfl (lv_at hl 0 rfl) ?_
    refine lv_dup hx hb dX3_write_23 rfl ?_
    refine va_get (D := G.1) (ci := 3) (C := RX3) (T := TX3) (N := 8) hx hb hts iX3_write_X3 hown hK.1 hP 0 rfl rfl 6 (by decide) (hts (.fieldLink RX3 134 "BoardClockModel" "entries" "I") (List.mem_of_getElem? (i := 1) rfl)) (fun _ h9 => h9) rfl dX3_write_24 ?_
    refine lv_iconst (v := (1 : Int32)) hx hb dX3_write_27 (by decide) ?_
    refine lv_iadd hx hb dX3_write_28 ?_
    refine va_put (D := G.1) (ci := 3) (v := .int ((u3.2.2.1 1) + (1 : Int32))) (ty := .int) (C := RX3) (T := TX3) (N := 8) hx hb hts iX3_write_X3 tyX3 tyX3_ok nmX3 hown hK.1 hP hD hS 0 rfl rfl 6 (by decide) (hts (.fieldLink RX3 134 "BoardClockModel" "entries" "I") (List.mem_of_getElem? (i := 1) rfl)) (fun _ h9 => h9) rfl (by decide +kernel) rfl rfl (Nat.le_of_ble_eq_true rfl) dX3_write_29 (fun H locs hP _ hS => ?_)
    obtain ⟨u4, eu4, hF⟩ := zc_letX hF
    have hP : va_P G.1 vwCl (zc_mo G ma u4) H := by rw [eu4]; exact hP
    have hD : va_D A (zc_mo G ma u4) := zc_Ds hD rfl
    refine lv_aload_n hx hb dX3_write_32 rfl (lv_at hl 0 rfl) ?_
    refine va_get (D := G.1) (ci := 3) (C := RX3) (T := TX3) (N := 8) hx hb hts iX3_write_X3 hown hK.1 hP 0 rfl rfl 6 (by decide) (hts (.fieldLink RX3 134 "BoardClockModel" "entries" "I") (List.mem_of_getElem? (i := 1) rfl)) (fun _ h9 => h9) rfl dX3_write_33 ?_
    obtain rfl := Option.some.inj hF
    exact W.iret hx hb hr (fun t ht hW => ⟨⟨_, (), rfl, rfl, zc_hp ht hP⟩, hS.F ht⟩) hS.2.2 dX3_write_36
  · have hF := zc_pos c1 hF
    refine lv_ldc hx hb hown (hts (.constant RX3 210 (-1000000004)) (List.mem_of_getElem? (i := 2) rfl)) dX3_write_9 ?_
    obtain rfl := Option.some.inj hF
    exact W.iret hx hb hr (fun t ht hW => ⟨⟨_, (), rfl, rfl, zc_hp ht hP⟩, hS.F ht⟩) hS.2.2 dX3_write_11
def fX3_tear (u : zc_M) : Option (Int32 × zc_M) := zc_let (u.2.2.1 1) fun (x1 : Int32) => zc_let (zc_mI u 1 (0 : Int32)) fun (u2 : zc_M) => some (x1, u2)
theorem iX3_tear_X3 : ∀ w ∈ wsX30, w ∈ wsX3_tear := fun _ h => List.mem_cons_of_mem _ (List.mem_append_right _ h)
set_option maxHeartbeats 4000000 in
set_option maxRecDepth 100000 in
theorem kX3_tear (l : Launch) (G : zc_G) (ma : Nat → Nat) (sz : Nat) {u : zc_M} {r0 : Int32 × zc_M} (hF : fX3_tear u = some r0) : Met l yX3_tear wsX3_tear ({ frames := 0, cells := 0, slots := 0, locals := 0 }) (zc_Pm G [.ref (ma 0)] (zc_mo G ma u) sz) (zc_Qi G r0.1 (zc_mo G ma r0.2) (va_A (zc_mo G ma u) sz)) 0 0 (va_A (zc_mo G ma u) sz) := by
  refine Met.ofW (cc := cX3_tear) (maxL := 2) (ret := (some .int)) (by decide) rfl ?_
  intro p e s m args below meth c s₁ B hml hv
  obtain ⟨rfl, hsz, hP, hK, hD0⟩ := hv
  have hx := B.exec
  have hb := B.bytes
  have hr := B.returns
  have hts := atoms_spec (ws := wsX3_tear) B.pre
  have hown : s.vm.findClass RX3 = some m.cls := findClass_of_methodNamed B.named
  have hlocks := B.notSynchronized
  subst hsz
  have hD := hD0.self (sz := s.heap.size)
  generalize hAe : va_A (zc_mo G ma u) s.heap.size = A at hD ⊢
  have hA : ∀ q : Nat, s.heap.size ≤ q → A q := fun q h => by rw [← hAe]; exact Or.inr h
  have hS : va_S A s.heap s.heap [] := va_S.rf
  have hl := lv_entry ([.ref (ma 0)]) (n := 2) (Nat.le_of_ble_eq_true rfl)
  rw [lg_entry_eq]
  generalize (lg_sl ([.ref (ma 0)]) ++ List.replicate (2 - (lg_sl ([.ref (ma 0)])).length) Slot.unset).toArray = ls at hl ⊢
  have hl : lv_has ls 2 [(0, .ref (ma 0))] := hl
  refine lv_aload_n hx hb dX3_tear_0 rfl (lv_at hl 0 rfl) ?_
  refine va_get (D := G.1) (ci := 3) (C := RX3) (T := TX3) (N := 8) hx hb hts iX3_tear_X3 hown hK.1 hP 0 rfl rfl 6 (by decide) (hts (.fieldLink RX3 134 "BoardClockModel" "entries" "I") (List.mem_of_getElem? (i := 1) rfl)) (fun _ h9 => h9) rfl dX3_tear_1 ?_
  refine lv_topi (fun x1 ex1 => ?_)
  have hF := zc_letE ex1 hF
  refine lv_istore_n (lv' := [(1, .int x1), (0, .ref (ma 0))]) hx hb dX3_tear_4 rfl hl (by decide) rfl (fun ls hl => ?_)
  refine lv_aload_n hx hb dX3_tear_5 rfl (lv_at hl 1 rfl) ?_
  refine lv_iconst (v := (0 : Int32)) hx hb dX3_tear_6 (by decide) ?_
  refine va_put (D := G.1) (ci := 3) (v := .int (0 : Int32)) (ty := .int) (C := RX3) (T := TX3) (N := 8) hx hb hts iX3_tear_X3 tyX3 tyX3_ok nmX3 hown hK.1 hP hD hS 0 rfl rfl 6 (by decide) (hts (.fieldLink RX3 134 "BoardClockModel" "entries" "I") (List.mem_of_getElem? (i := 1) rfl)) (fun _ h9 => h9) rfl (by decide +kernel) rfl rfl (Nat.le_of_ble_eq_true rfl) dX3_tear_7 (fun H locs hP _ hS => ?_)
  obtain ⟨u2, eu2, hF⟩ := zc_letX hF
  have hP : va_P G.1 vwCl (zc_mo G ma u2) H := by rw [eu2]; exact hP
  have hD : va_D A (zc_mo G ma u2) := zc_Ds hD rfl
  refine lv_iload_n hx hb dX3_tear_10 rfl (lv_at hl 0 rfl) ?_
  obtain rfl := Option.some.inj hF
  exact W.iret hx hb hr (fun t ht hW => ⟨⟨_, (), rfl, rfl, zc_hp ht hP⟩, hS.F ht⟩) hS.2.2 dX3_tear_11
def fX3_seed (u : zc_M) (a1 : Int32) : Option (Int32 × zc_M) := if 0 ≤ a1 then (zc_let ((u.2.2.2)).toInt32 fun (x2 : Int32) => zc_let (zc_mS u a1.toInt64) fun (u3 : zc_M) => some (x2, u3)) else (some ((-1000000002 : Int32), u))
theorem iX3_seed_X3 : ∀ w ∈ wsX30, w ∈ wsX3_seed := fun _ h => List.mem_cons_of_mem _ (List.mem_append_right _ h)
set_option maxHeartbeats 4000000 in
set_option maxRecDepth 100000 in
theorem kX3_seed (l : Launch) (G : zc_G) (ma : Nat → Nat) (sz : Nat) {u : zc_M} {a1 : Int32} {r0 : Int32 × zc_M} (hF : fX3_seed u a1 = some r0) : Met l yX3_seed wsX3_seed ({ frames := 0, cells := 0, slots := 0, locals := 0 }) (zc_Pm G [.ref (ma 0), .int a1] (zc_mo G ma u) sz) (zc_Qi G r0.1 (zc_mo G ma r0.2) (va_A (zc_mo G ma u) sz)) 0 0 (va_A (zc_mo G ma u) sz) := by
  refine Met.ofW (cc := cX3_seed) (maxL := 3) (ret := (some .int)) (by decide) rfl ?_
  intro p e s m args below meth c s₁ B hml hv
  obtain ⟨rfl, hsz, hP, hK, hD0⟩ := hv
  have hx := B.exec
  have hb := B.bytes
  have hr := B.returns
  have hts := atoms_spec (ws := wsX3_seed) B.pre
  have hown : s.vm.findClass RX3 = some m.cls := findClass_of_methodNamed B.named
  have hlocks := B.notSynchronized
  subst hsz
  have hD := hD0.self (sz := s.heap.size)
  generalize hAe : va_A (zc_mo G ma u) s.heap.size = A at hD ⊢
  have hA : ∀ q : Nat, s.heap.size ≤ q → A q := fun q h => by rw [← hAe]; exact Or.inr h
  have hS : va_S A s.heap s.heap [] := va_S.rf
  have hl := lv_entry ([.ref (ma 0), .int a1]) (n := 3) (Nat.le_of_ble_eq_true rfl)
  rw [lg_entry_eq]
  generalize (lg_sl ([.ref (ma 0), .int a1]) ++ List.replicate (3 - (lg_sl ([.ref (ma 0), .int a1])).length) Slot.unset).toArray = ls at hl ⊢
  have hl : lv_has ls 3 [(0, .ref (ma 0)), (1, .int a1)] := hl
  refine lv_iload_n hx hb dX3_seed_0 rfl (lv_at hl 1 rfl) ?_
  refine lv_if_ge (tgt := 7) hx hb dX3_seed_1 (by decide) (fun c1 => ?_) (fun c1 => ?_)
  · have hF := zc_pos c1 hF
    refine lv_aload_n hx hb dX3_seed_7 rfl (lv_at hl 0 rfl) ?_
    refine va_get (D := G.1) (ci := 3) (C := RX3) (T := TX3) (N := 8) hx hb hts iX3_seed_X3 hown hK.1 hP 0 rfl rfl 7 (by decide) (hts (.fieldLink RX3 211 "BoardClockModel" "seed" "J") (List.mem_of_getElem? (i := 2) rfl)) (fun _ h9 => h9) rfl dX3_seed_8 ?_
    refine lv_l2i hx hb dX3_seed_11 rfl ?_
    refine lv_topi (fun x2 ex2 => ?_)
    have hF := zc_letE ex2 hF
    refine lv_istore_n (lv' := [(2, .int x2), (0, .ref (ma 0)), (1, .int a1)]) hx hb dX3_seed_12 rfl hl (by decide) rfl (fun ls hl => ?_)
    refine lv_aload_n hx hb dX3_seed_13 rfl (lv_at hl 1 rfl) ?_
    refine lv_iload_n hx hb dX3_seed_14 rfl (lv_at hl 2 rfl) ?_
    refine lv_i2l hx hb dX3_seed_15 rfl ?_
    refine va_put (D := G.1) (ci := 3) (v := .long a1.toInt64) (ty := .long) (C := RX3) (T := TX3) (N := 8) hx hb hts iX3_seed_X3 tyX3 tyX3_ok nmX3 hown hK.1 hP hD hS 0 rfl rfl 7 (by decide) (hts (.fieldLink RX3 211 "BoardClockModel" "seed" "J") (List.mem_of_getElem? (i := 2) rfl)) (fun _ h9 => h9) rfl (by decide +kernel) rfl rfl (Nat.le_of_ble_eq_true rfl) dX3_seed_16 (fun H locs hP _ hS => ?_)
    obtain ⟨u3, eu3, hF⟩ := zc_letX hF
    have hP : va_P G.1 vwCl (zc_mo G ma u3) H := by rw [eu3]; exact hP
    have hD : va_D A (zc_mo G ma u3) := zc_Ds hD rfl
    refine lv_iload_n hx hb dX3_seed_19 rfl (lv_at hl 0 rfl) ?_
    obtain rfl := Option.some.inj hF
    exact W.iret hx hb hr (fun t ht hW => ⟨⟨_, (), rfl, rfl, zc_hp ht hP⟩, hS.F ht⟩) hS.2.2 dX3_seed_20
  · have hF := zc_neg c1 hF
    refine lv_ldc hx hb hown (hts (.constant RX3 154 (-1000000002)) (List.mem_of_getElem? (i := 1) rfl)) dX3_seed_4 ?_
    obtain rfl := Option.some.inj hF
    exact W.iret hx hb hr (fun t ht hW => ⟨⟨_, (), rfl, rfl, zc_hp ht hP⟩, hS.F ht⟩) hS.2.2 dX3_seed_6
def fX3_keep (N : Nat) (u : zc_M) (a1 : Int32) : Option (Int32 × zc_M) := Option.bind (fX3_in a1.toInt64 (0 : Int64) (1 : Int64)) fun (r1 : Int32) => if r1 = 0 then (some ((-1000000001 : Int32), u)) else (zc_in a1 2 (zc_let (zc_ma u 0 a1.toNatClampNeg (1 : Int32)) fun (u4 : zc_M) => Option.bind (fX3_bring2 N 49 100 (u4.1 2) (u4.1 0) (0 : Int32) ((50 : Int32) * a1) (49 : Int32)) fun (r5 : Nat → Int64) => zc_let (zc_mf u4 2 r5) fun (u6 : zc_M) => zc_in (((50 : Int32) * a1) + (49 : Int32)) 100 (zc_let (zc_mL u6 2 ((((50 : Int32) * a1) + (49 : Int32))).toNatClampNeg (u6.2.2.2)) fun (u8 : zc_M) => zc_let (zc_mI u8 0 (0 : Int32)) fun (u9 : zc_M) => some ((1 : Int32), u9))))
theorem iX3_keep_X3 : ∀ w ∈ wsX30, w ∈ wsX3_keep := fun _ h => List.mem_cons_of_mem _ (List.mem_append_right _ h)
set_option maxHeartbeats 4000000 in
set_option maxRecDepth 100000 in
theorem kX3_keep (l : Launch) (G : zc_G) (ma : Nat → Nat) (sz : Nat) {N : Nat} {u : zc_M} {a1 : Int32} {r0 : Int32 × zc_M} (hF : fX3_keep N u a1 = some r0) : Met l yX3_keep wsX3_keep ({ frames := 1, cells := 0, slots := 0, locals := 25 }) (zc_Pm G [.ref (ma 0), .int a1] (zc_mo G ma u) sz) (zc_Qi G r0.1 (zc_mo G ma r0.2) (va_A (zc_mo G ma u) sz)) 0 0 (va_A (zc_mo G ma u) sz) := by
  refine Met.ofW (cc := cX3_keep) (maxL := 2) (ret := (some .int)) (by decide) rfl ?_
  intro p e s m args below meth c s₁ B hml hv
  obtain ⟨rfl, hsz, hP, hK, hD0⟩ := hv
  have hx := B.exec
  have hb := B.bytes
  have hr := B.returns
  have hts := atoms_spec (ws := wsX3_keep) B.pre
  have hown : s.vm.findClass RX3 = some m.cls := findClass_of_methodNamed B.named
  have hlocks := B.notSynchronized
  subst hsz
  have hD := hD0.self (sz := s.heap.size)
  generalize hAe : va_A (zc_mo G ma u) s.heap.size = A at hD ⊢
  have hA : ∀ q : Nat, s.heap.size ≤ q → A q := fun q h => by rw [← hAe]; exact Or.inr h
  have hS : va_S A s.heap s.heap [] := va_S.rf
  have hl := lv_entry ([.ref (ma 0), .int a1]) (n := 2) (Nat.le_of_ble_eq_true rfl)
  rw [lg_entry_eq]
  generalize (lg_sl ([.ref (ma 0), .int a1]) ++ List.replicate (2 - (lg_sl ([.ref (ma 0), .int a1])).length) Slot.unset).toArray = ls at hl ⊢
  have hl : lv_has ls 2 [(0, .ref (ma 0)), (1, .int a1)] := hl
  refine lv_iload_n hx hb dX3_keep_0 rfl (lv_at hl 1 rfl) ?_
  refine lv_i2l hx hb dX3_keep_1 rfl ?_
  refine lv_lconst (v := (0 : Int64)) hx hb dX3_keep_2 (by decide) ?_
  refine lv_lconst (v := (1 : Int64)) hx hb dX3_keep_3 (by decide) ?_
  obtain ⟨r1, er1, hF⟩ := zc_bind hF
  refine zc_ci (va_runS (As := [.long _, .long _, .long _]) ⟨hx, hb, hml, hown, hts⟩ (kX3_in l G er1) (va_cwS 3 hts gX3_keep_X3_in rfl rfl rfl (by decide +kernel) ⟨Nat.le_of_ble_eq_true rfl, Nat.le_of_ble_eq_true rfl⟩) (zc_preS hK (show va_P G.1 vwCl [] _ from fun k q h => by simp at h)) rfl rfl hl.1 rfl (lv_room (Nat.le_of_ble_eq_true rfl)) dX3_keep_4 ⟨Nat.le_of_ble_eq_true rfl, Nat.le_of_ble_eq_true rfl⟩) ?_
  refine lv_if_ne (tgt := 13) hx hb dX3_keep_7 (by decide) (fun c2 => ?_) (fun c2 => ?_)
  · have hF := zc_neg c2 hF
    refine lv_aload_n hx hb dX3_keep_13 rfl (lv_at hl 0 rfl) ?_
    refine va_get (D := G.1) (ci := 3) (C := RX3) (T := TX3) (N := 8) hx hb hts iX3_keep_X3 hown hK.1 hP 0 rfl rfl 4 (by decide) (hts (.fieldLink RX3 19 "BoardClockModel" "isKept" "[Z") (List.mem_of_getElem? (i := 2) rfl)) (fun _ h9 => h9) rfl dX3_keep_14 ?_
    refine lv_iload_n hx hb dX3_keep_17 rfl (lv_at hl 1 rfl) ?_
    refine lv_iconst (v := (1 : Int32)) hx hb dX3_keep_18 (by decide) ?_
    obtain ⟨hi3, hF⟩ := zc_inE hF
    refine zc_zast (x1 := (1 : Int32)) hx hb hK.1 hP hD hS 4 2 rfl rfl hi3 rfl (by decide) dX3_keep_19 (fun H locs hP hS => ?_)
    obtain ⟨u4, eu4, hF⟩ := zc_letX hF
    have hP : va_P G.1 vwCl (zc_mo G ma u4) H := by rw [eu4]; exact hP
    have hD : va_D A (zc_mo G ma u4) := zc_Ds hD rfl
    refine lv_aload_n hx hb dX3_keep_20 rfl (lv_at hl 0 rfl) ?_
    refine va_get (D := G.1) (ci := 3) (C := RX3) (T := TX3) (N := 8) hx hb hts iX3_keep_X3 hown hK.1 hP 0 rfl rfl 0 (by decide) (hts (.fieldLink RX3 7 "BoardClockModel" "st" "[J") (List.mem_of_getElem? (i := 3) rfl)) (fun _ h9 => h9) rfl dX3_keep_21 ?_
    refine lv_iconst (v := (0 : Int32)) hx hb dX3_keep_24 (by decide) ?_
    refine lv_aload_n hx hb dX3_keep_25 rfl (lv_at hl 0 rfl) ?_
    refine va_get (D := G.1) (ci := 3) (C := RX3) (T := TX3) (N := 8) hx hb hts iX3_keep_X3 hown hK.1 hP 0 rfl rfl 3 (by decide) (hts (.fieldLink RX3 16 "BoardClockModel" "images" "[J") (List.mem_of_getElem? (i := 4) rfl)) (fun _ h9 => h9) rfl dX3_keep_26 ?_
    refine lv_bipush (v := (50 : Int32)) hx hb dX3_keep_29 (by decide) ?_
    refine lv_iload_n hx hb dX3_keep_31 rfl (lv_at hl 1 rfl) ?_
    refine lv_imul hx hb dX3_keep_32 ?_
    refine lv_bipush (v := (49 : Int32)) hx hb dX3_keep_33 (by decide) ?_
    obtain ⟨r5, er5, hF⟩ := zc_bind hF
    refine zc_mv (X := zc_mo G ma u4) (pl := []) (wc := [((ma 3), .inl (G.2 1, 100, .inr (.inl (u4.1 2)))), ((ma 1), .inl (G.2 1, 49, .inr (.inl (u4.1 0))))]) (w1 := [((ma 3), .inl (G.2 1, 100, .inr (.inl (r5)))), ((ma 1), .inl (G.2 1, 49, .inr (.inl (u4.1 0))))]) (wr := [((ma 0), .inr (3, [.ref (ma 1), .ref (ma 2), .int (u4.2.2.1 0), .ref (ma 3), .ref (ma 4), .ref (ma 5), .int (u4.2.2.1 1), .long (u4.2.2.2)])), ((ma 2), .inl (G.2 1, 980, .inr (.inl (u4.1 1)))), ((ma 4), .inl (G.2 2, 2, .inl (u4.2.1 0))), ((ma 5), .inl (G.2 0, 20, .inl (u4.2.1 1)))]) hP hD hS hA [3, 1] [0, 2, 4, 5] rfl (by decide) rfl (by decide) (by decide) rfl (va_runS (As := [.ref _, .int _, .ref _, .int _, .int _]) ⟨hx, hb, hml, hown, hts⟩ (kX3_bring2 l G (ma 1) (ma 3) _ er5) (va_cwS 5 hts gX3_keep_X3_bring rfl rfl rfl (by decide +kernel) ⟨Nat.le_of_ble_eq_true rfl, Nat.le_of_ble_eq_true rfl⟩) (zc_preSm hK (hP.sub (ws' := [((ma 3), .inl (G.2 1, 100, .inr (.inl (u4.1 2)))), ((ma 1), .inl (G.2 1, 49, .inr (.inl (u4.1 0))))]) [3, 1] rfl) (hD.sub (ws' := [((ma 3), .inl (G.2 1, 100, .inr (.inl (u4.1 2)))), ((ma 1), .inl (G.2 1, 49, .inr (.inl (u4.1 0))))]) [3, 1] (by decide) rfl)) rfl rfl hl.1 rfl (lv_room (Nat.le_of_ble_eq_true rfl)) dX3_keep_35 ⟨Nat.le_of_ble_eq_true rfl, Nat.le_of_ble_eq_true rfl⟩) (fun H locs hP hD hS => ?_)
    have hP := hP.sub (ws' := zc_mo G ma (zc_mf u4 2 r5)) [0, 5, 1, 4, 2, 3] rfl
    have hD := hD.sub (ws' := zc_mo G ma (zc_mf u4 2 r5)) [0, 5, 1, 4, 2, 3] (by decide) rfl
    obtain ⟨u6, eu6, hF⟩ := zc_letX hF
    have hP : va_P G.1 vwCl (zc_mo G ma u6) H := by rw [eu6]; exact hP
    have hD : va_D A (zc_mo G ma u6) := zc_Ds hD rfl
    refine lv_aload_n hx hb dX3_keep_38 rfl (lv_at hl 0 rfl) ?_
    refine va_get (D := G.1) (ci := 3) (C := RX3) (T := TX3) (N := 8) hx hb hts iX3_keep_X3 hown hK.1 hP 0 rfl rfl 3 (by decide) (hts (.fieldLink RX3 16 "BoardClockModel" "images" "[J") (List.mem_of_getElem? (i := 4) rfl)) (fun _ h9 => h9) rfl dX3_keep_39 ?_
    refine lv_bipush (v := (50 : Int32)) hx hb dX3_keep_42 (by decide) ?_
    refine lv_iload_n hx hb dX3_keep_44 rfl (lv_at hl 1 rfl) ?_
    refine lv_imul hx hb dX3_keep_45 ?_
    refine lv_bipush (v := (49 : Int32)) hx hb dX3_keep_46 (by decide) ?_
    refine lv_iadd hx hb dX3_keep_48 ?_
    refine lv_aload_n hx hb dX3_keep_49 rfl (lv_at hl 0 rfl) ?_
    refine va_get (D := G.1) (ci := 3) (C := RX3) (T := TX3) (N := 8) hx hb hts iX3_keep_X3 hown hK.1 hP 0 rfl rfl 7 (by decide) (hts (.fieldLink RX3 211 "BoardClockModel" "seed" "J") (List.mem_of_getElem? (i := 5) rfl)) (fun _ h9 => h9) rfl dX3_keep_50 ?_
    obtain ⟨hi7, hF⟩ := zc_inE hF
    refine zc_last hx hb hK.1 hP hD hS 3 1 rfl rfl hi7 rfl dX3_keep_53 (fun H locs hP hS => ?_)
    obtain ⟨u8, eu8, hF⟩ := zc_letX hF
    have hP : va_P G.1 vwCl (zc_mo G ma u8) H := by rw [eu8]; exact hP
    have hD : va_D A (zc_mo G ma u8) := zc_Ds hD rfl
    refine lv_aload_n hx hb dX3_keep_54 rfl (lv_at hl 0 rfl) ?_
    refine lv_iconst (v := (0 : Int32)) hx hb dX3_keep_55 (by decide) ?_
    refine va_put (D := G.1) (ci := 3) (v := .int (0 : Int32)) (ty := .int) (C := RX3) (T := TX3) (N := 8) hx hb hts iX3_keep_X3 tyX3 tyX3_ok nmX3 hown hK.1 hP hD hS 0 rfl rfl 2 (by decide) (hts (.fieldLink RX3 151 "BoardClockModel" "deeds" "I") (List.mem_of_getElem? (i := 6) rfl)) (fun _ h9 => h9) rfl (by decide +kernel) rfl rfl (Nat.le_of_ble_eq_true rfl) dX3_keep_56 (fun H locs hP _ hS => ?_)
    obtain ⟨u9, eu9, hF⟩ := zc_letX hF
    have hP : va_P G.1 vwCl (zc_mo G ma u9) H := by rw [eu9]; exact hP
    have hD : va_D A (zc_mo G ma u9) := zc_Ds hD rfl
    refine lv_iconst (v := (1 : Int32)) hx hb dX3_keep_59 (by decide) ?_
    obtain rfl := Option.some.inj hF
    exact W.iret hx hb hr (fun t ht hW => ⟨⟨_, (), rfl, rfl, zc_hp ht hP⟩, hS.F ht⟩) hS.2.2 dX3_keep_60
  · have hF := zc_pos c2 hF
    refine lv_ldc hx hb hown (hts (.constant RX3 161 (-1000000001)) (List.mem_of_getElem? (i := 1) rfl)) dX3_keep_10 ?_
    obtain rfl := Option.some.inj hF
    exact W.iret hx hb hr (fun t ht hW => ⟨⟨_, (), rfl, rfl, zc_hp ht hP⟩, hS.F ht⟩) hS.2.2 dX3_keep_12
def fX3_goBack (N : Nat) (u : zc_M) (a1 : Int32) : Option (Int32 × zc_M) := Option.bind (fX3_in a1.toInt64 (0 : Int64) (1 : Int64)) fun (r1 : Int32) => if r1 = 0 then (some ((-1000000001 : Int32), u)) else (zc_in a1 2 (if (u.2.1 0 a1.toNatClampNeg) = 0 then (some ((-1000000003 : Int32), u)) else (Option.bind (fX3_bring2 N 100 49 (u.1 0) (u.1 2) ((50 : Int32) * a1) (0 : Int32) (49 : Int32)) fun (r5 : Nat → Int64) => zc_let (zc_mf u 0 r5) fun (u6 : zc_M) => zc_in (((50 : Int32) * a1) + (49 : Int32)) 100 (zc_let (zc_mS u6 (u6.1 2 ((((50 : Int32) * a1) + (49 : Int32))).toNatClampNeg)) fun (u8 : zc_M) => zc_let (zc_mI u8 0 (0 : Int32)) fun (u9 : zc_M) => some ((1 : Int32), u9)))))
theorem iX3_goBack_X3 : ∀ w ∈ wsX30, w ∈ wsX3_goBack := fun _ h => List.mem_cons_of_mem _ (List.mem_append_right _ h)
set_option maxHeartbeats 4000000 in
set_option maxRecDepth 100000 in
theorem kX3_goBack (l : Launch) (G : zc_G) (ma : Nat → Nat) (sz : Nat) {N : Nat} {u : zc_M} {a1 : Int32} {r0 : Int32 × zc_M} (hF : fX3_goBack N u a1 = some r0) : Met l yX3_goBack wsX3_goBack ({ frames := 1, cells := 0, slots := 0, locals := 25 }) (zc_Pm G [.ref (ma 0), .int a1] (zc_mo G ma u) sz) (zc_Qi G r0.1 (zc_mo G ma r0.2) (va_A (zc_mo G ma u) sz)) 0 0 (va_A (zc_mo G ma u) sz) := by
  refine Met.ofW (cc := cX3_goBack) (maxL := 2) (ret := (some .int)) (by decide) rfl ?_
  intro p e s m args below meth c s₁ B hml hv
  obtain ⟨rfl, hsz, hP, hK, hD0⟩ := hv
  have hx := B.exec
  have hb := B.bytes
  have hr := B.returns
  have hts := atoms_spec (ws := wsX3_goBack) B.pre
  have hown : s.vm.findClass RX3 = some m.cls := findClass_of_methodNamed B.named
  have hlocks := B.notSynchronized
  subst hsz
  have hD := hD0.self (sz := s.heap.size)
  generalize hAe : va_A (zc_mo G ma u) s.heap.size = A at hD ⊢
  have hA : ∀ q : Nat, s.heap.size ≤ q → A q := fun q h => by rw [← hAe]; exact Or.inr h
  have hS : va_S A s.heap s.heap [] := va_S.rf
  have hl := lv_entry ([.ref (ma 0), .int a1]) (n := 2) (Nat.le_of_ble_eq_true rfl)
  rw [lg_entry_eq]
  generalize (lg_sl ([.ref (ma 0), .int a1]) ++ List.replicate (2 - (lg_sl ([.ref (ma 0), .int a1])).length) Slot.unset).toArray = ls at hl ⊢
  have hl : lv_has ls 2 [(0, .ref (ma 0)), (1, .int a1)] := hl
  refine lv_iload_n hx hb dX3_goBack_0 rfl (lv_at hl 1 rfl) ?_
  refine lv_i2l hx hb dX3_goBack_1 rfl ?_
  refine lv_lconst (v := (0 : Int64)) hx hb dX3_goBack_2 (by decide) ?_
  refine lv_lconst (v := (1 : Int64)) hx hb dX3_goBack_3 (by decide) ?_
  obtain ⟨r1, er1, hF⟩ := zc_bind hF
  refine zc_ci (va_runS (As := [.long _, .long _, .long _]) ⟨hx, hb, hml, hown, hts⟩ (kX3_in l G er1) (va_cwS 3 hts gX3_goBack_X3_in rfl rfl rfl (by decide +kernel) ⟨Nat.le_of_ble_eq_true rfl, Nat.le_of_ble_eq_true rfl⟩) (zc_preS hK (show va_P G.1 vwCl [] _ from fun k q h => by simp at h)) rfl rfl hl.1 rfl (lv_room (Nat.le_of_ble_eq_true rfl)) dX3_goBack_4 ⟨Nat.le_of_ble_eq_true rfl, Nat.le_of_ble_eq_true rfl⟩) ?_
  refine lv_if_ne (tgt := 13) hx hb dX3_goBack_7 (by decide) (fun c2 => ?_) (fun c2 => ?_)
  · have hF := zc_neg c2 hF
    refine lv_aload_n hx hb dX3_goBack_13 rfl (lv_at hl 0 rfl) ?_
    refine va_get (D := G.1) (ci := 3) (C := RX3) (T := TX3) (N := 8) hx hb hts iX3_goBack_X3 hown hK.1 hP 0 rfl rfl 4 (by decide) (hts (.fieldLink RX3 19 "BoardClockModel" "isKept" "[Z") (List.mem_of_getElem? (i := 2) rfl)) (fun _ h9 => h9) rfl dX3_goBack_14 ?_
    refine lv_iload_n hx hb dX3_goBack_17 rfl (lv_at hl 1 rfl) ?_
    obtain ⟨hi3, hF⟩ := zc_inE hF
    refine zc_zald hx hb hK.1 hP 4 2 rfl rfl hi3 rfl dX3_goBack_18 ?_
    refine lv_if_ne (tgt := 25) hx hb dX3_goBack_19 (by decide) (fun c4 => ?_) (fun c4 => ?_)
    · have hF := zc_neg c4 hF
      refine lv_aload_n hx hb dX3_goBack_25 rfl (lv_at hl 0 rfl) ?_
      refine va_get (D := G.1) (ci := 3) (C := RX3) (T := TX3) (N := 8) hx hb hts iX3_goBack_X3 hown hK.1 hP 0 rfl rfl 3 (by decide) (hts (.fieldLink RX3 16 "BoardClockModel" "images" "[J") (List.mem_of_getElem? (i := 4) rfl)) (fun _ h9 => h9) rfl dX3_goBack_26 ?_
      refine lv_bipush (v := (50 : Int32)) hx hb dX3_goBack_29 (by decide) ?_
      refine lv_iload_n hx hb dX3_goBack_31 rfl (lv_at hl 1 rfl) ?_
      refine lv_imul hx hb dX3_goBack_32 ?_
      refine lv_aload_n hx hb dX3_goBack_33 rfl (lv_at hl 0 rfl) ?_
      refine va_get (D := G.1) (ci := 3) (C := RX3) (T := TX3) (N := 8) hx hb hts iX3_goBack_X3 hown hK.1 hP 0 rfl rfl 0 (by decide) (hts (.fieldLink RX3 7 "BoardClockModel" "st" "[J") (List.mem_of_getElem? (i := 5) rfl)) (fun _ h9 => h9) rfl dX3_goBack_34 ?_
      refine lv_iconst (v := (0 : Int32)) hx hb dX3_goBack_37 (by decide) ?_
      refine lv_bipush (v := (49 : Int32)) hx hb dX3_goBack_38 (by decide) ?_
      obtain ⟨r5, er5, hF⟩ := zc_bind hF
      refine zc_mv (X := zc_mo G ma u) (pl := []) (wc := [((ma 1), .inl (G.2 1, 49, .inr (.inl (u.1 0)))), ((ma 3), .inl (G.2 1, 100, .inr (.inl (u.1 2))))]) (w1 := [((ma 1), .inl (G.2 1, 49, .inr (.inl (r5)))), ((ma 3), .inl (G.2 1, 100, .inr (.inl (u.1 2))))]) (wr := [((ma 0), .inr (3, [.ref (ma 1), .ref (ma 2), .int (u.2.2.1 0), .ref (ma 3), .ref (ma 4), .ref (ma 5), .int (u.2.2.1 1), .long (u.2.2.2)])), ((ma 2), .inl (G.2 1, 980, .inr (.inl (u.1 1)))), ((ma 4), .inl (G.2 2, 2, .inl (u.2.1 0))), ((ma 5), .inl (G.2 0, 20, .inl (u.2.1 1)))]) hP hD hS hA [1, 3] [0, 2, 4, 5] rfl (by decide) rfl (by decide) (by decide) rfl (va_runS (As := [.ref _, .int _, .ref _, .int _, .int _]) ⟨hx, hb, hml, hown, hts⟩ (kX3_bring2 l G (ma 3) (ma 1) _ er5) (va_cwS 5 hts gX3_goBack_X3_bring rfl rfl rfl (by decide +kernel) ⟨Nat.le_of_ble_eq_true rfl, Nat.le_of_ble_eq_true rfl⟩) (zc_preSm hK (hP.sub (ws' := [((ma 1), .inl (G.2 1, 49, .inr (.inl (u.1 0)))), ((ma 3), .inl (G.2 1, 100, .inr (.inl (u.1 2))))]) [1, 3] rfl) (hD.sub (ws' := [((ma 1), .inl (G.2 1, 49, .inr (.inl (u.1 0)))), ((ma 3), .inl (G.2 1, 100, .inr (.inl (u.1 2))))]) [1, 3] (by decide) rfl)) rfl rfl hl.1 rfl (lv_room (Nat.le_of_ble_eq_true rfl)) dX3_goBack_40 ⟨Nat.le_of_ble_eq_true rfl, Nat.le_of_ble_eq_true rfl⟩) (fun H locs hP hD hS => ?_)
      have hP := hP.sub (ws' := zc_mo G ma (zc_mf u 0 r5)) [0, 4, 1, 5, 2, 3] rfl
      have hD := hD.sub (ws' := zc_mo G ma (zc_mf u 0 r5)) [0, 4, 1, 5, 2, 3] (by decide) rfl
      obtain ⟨u6, eu6, hF⟩ := zc_letX hF
      have hP : va_P G.1 vwCl (zc_mo G ma u6) H := by rw [eu6]; exact hP
      have hD : va_D A (zc_mo G ma u6) := zc_Ds hD rfl
      refine lv_aload_n hx hb dX3_goBack_43 rfl (lv_at hl 0 rfl) ?_
      refine lv_aload_n hx hb dX3_goBack_44 rfl (lv_at hl 0 rfl) ?_
      refine va_get (D := G.1) (ci := 3) (C := RX3) (T := TX3) (N := 8) hx hb hts iX3_goBack_X3 hown hK.1 hP 0 rfl rfl 3 (by decide) (hts (.fieldLink RX3 16 "BoardClockModel" "images" "[J") (List.mem_of_getElem? (i := 4) rfl)) (fun _ h9 => h9) rfl dX3_goBack_45 ?_
      refine lv_bipush (v := (50 : Int32)) hx hb dX3_goBack_48 (by decide) ?_
      refine lv_iload_n hx hb dX3_goBack_50 rfl (lv_at hl 1 rfl) ?_
      refine lv_imul hx hb dX3_goBack_51 ?_
      refine lv_bipush (v := (49 : Int32)) hx hb dX3_goBack_52 (by decide) ?_
      refine lv_iadd hx hb dX3_goBack_54 ?_
      obtain ⟨hi7, hF⟩ := zc_inE hF
      refine zc_lald hx hb hK.1 hP 3 1 rfl rfl hi7 rfl dX3_goBack_55 ?_
      refine va_put (D := G.1) (ci := 3) (v := .long (u6.1 2 ((((50 : Int32) * a1) + (49 : Int32))).toNatClampNeg)) (ty := .long) (C := RX3) (T := TX3) (N := 8) hx hb hts iX3_goBack_X3 tyX3 tyX3_ok nmX3 hown hK.1 hP hD hS 0 rfl rfl 7 (by decide) (hts (.fieldLink RX3 211 "BoardClockModel" "seed" "J") (List.mem_of_getElem? (i := 6) rfl)) (fun _ h9 => h9) rfl (by decide +kernel) rfl rfl (Nat.le_of_ble_eq_true rfl) dX3_goBack_56 (fun H locs hP _ hS => ?_)
      obtain ⟨u8, eu8, hF⟩ := zc_letX hF
      have hP : va_P G.1 vwCl (zc_mo G ma u8) H := by rw [eu8]; exact hP
      have hD : va_D A (zc_mo G ma u8) := zc_Ds hD rfl
      refine lv_aload_n hx hb dX3_goBack_59 rfl (lv_at hl 0 rfl) ?_
      refine lv_iconst (v := (0 : Int32)) hx hb dX3_goBack_60 (by decide) ?_
      refine va_put (D := G.1) (ci := 3) (v := .int (0 : Int32)) (ty := .int) (C := RX3) (T := TX3) (N := 8) hx hb hts iX3_goBack_X3 tyX3 tyX3_ok nmX3 hown hK.1 hP hD hS 0 rfl rfl 2 (by decide) (hts (.fieldLink RX3 151 "BoardClockModel" "deeds" "I") (List.mem_of_getElem? (i := 7) rfl)) (fun _ h9 => h9) rfl (by decide +kernel) rfl rfl (Nat.le_of_ble_eq_true rfl) dX3_goBack_61 (fun H locs hP _ hS => ?_)
      obtain ⟨u9, eu9, hF⟩ := zc_letX hF
      have hP : va_P G.1 vwCl (zc_mo G ma u9) H := by rw [eu9]; exact hP
      have hD : va_D A (zc_mo G ma u9) := zc_Ds hD rfl
      refine lv_iconst (v := (1 : Int32)) hx hb dX3_goBack_64 (by decide) ?_
      obtain rfl := Option.some.inj hF
      exact W.iret hx hb hr (fun t ht hW => ⟨⟨_, (), rfl, rfl, zc_hp ht hP⟩, hS.F ht⟩) hS.2.2 dX3_goBack_65
    · have hF := zc_pos c4 hF
      refine lv_ldc hx hb hown (hts (.constant RX3 228 (-1000000003)) (List.mem_of_getElem? (i := 3) rfl)) dX3_goBack_22 ?_
      obtain rfl := Option.some.inj hF
      exact W.iret hx hb hr (fun t ht hW => ⟨⟨_, (), rfl, rfl, zc_hp ht hP⟩, hS.F ht⟩) hS.2.2 dX3_goBack_24
  · have hF := zc_pos c2 hF
    refine lv_ldc hx hb hown (hts (.constant RX3 161 (-1000000001)) (List.mem_of_getElem? (i := 1) rfl)) dX3_goBack_10 ?_
    obtain rfl := Option.some.inj hF
    exact W.iret hx hb hr (fun t ht hW => ⟨⟨_, (), rfl, rfl, zc_hp ht hP⟩, hS.F ht⟩) hS.2.2 dX3_goBack_12
