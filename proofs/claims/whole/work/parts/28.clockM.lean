def fX2_remember (b : zc_B) : Option (zc_B) := zc_in (b.1 1) 20 (Option.bind (fX1_copyFrom (b.2.2.2 (((b.1 1)).toNatClampNeg)) b.2.2.1) fun (r2 : zc_S) => zc_let (zc_bp b (((b.1 1)).toNatClampNeg) r2) fun (b3 : zc_B) => Option.bind (fJ9_floorMod_7cf53 ((b3.1 1) + (1 : Int32)) (20 : Int32)) fun (r4 : Int32) => zc_let (zc_bI b3 1 r4) fun (b5 : zc_B) => zc_let (zc_bI b5 2 (if (20 : Int32) < ((b5.1 2) + (1 : Int32)) then (20 : Int32) else ((b5.1 2) + (1 : Int32)))) fun (b6 : zc_B) => some b6)
theorem iX2_remember_X2 : ∀ w ∈ wsX20, w ∈ wsX2_remember := fun _ h => List.mem_cons_of_mem _ (List.mem_append_left _ (List.mem_append_left _ (List.mem_append_right _ h)))
set_option maxHeartbeats 4000000 in
set_option maxRecDepth 100000 in
theorem kX2_remember (l : Launch) (G : zc_G) (ba na : Nat → Nat) (pa : Nat → Nat → Nat) (sz : Nat) {b : zc_B} {r0 : zc_B} (hF : fX2_remember b = some r0) : Met l yX2_remember wsX2_remember ({ frames := 3, cells := 0, slots := 0, locals := 102 }) (zc_Pm G [.ref (ba 0)] (zc_bc G ba na pa b) sz) (zc_Qv G (zc_bc G ba na pa r0) (va_A (zc_bc G ba na pa b) sz)) 0 0 (va_A (zc_bc G ba na pa b) sz) := by
  refine Met.ofW (cc := cX2_remember) (maxL := 1) (ret := none) (by decide) rfl ?_
  intro p e s m args below meth c s₁ B hml hv
  obtain ⟨rfl, hsz, hP, hK, hD0⟩ := hv
  have hx := B.exec
  have hb := B.bytes
  have hr := B.returns
  have hts := atoms_spec (ws := wsX2_remember) B.pre
  have hown : s.vm.findClass RX2 = some m.cls := findClass_of_methodNamed B.named
  have hlocks := B.notSynchronized
  subst hsz
  have hD := hD0.self (sz := s.heap.size)
  generalize hAe : va_A (zc_bc G ba na pa b) s.heap.size = A at hD ⊢
  have hA : ∀ q : Nat, s.heap.size ≤ q → A q := fun q h => by rw [← hAe]; exact Or.inr h
  have hS : va_S A s.heap s.heap [] := va_S.rf
  have hl := lv_entry ([.ref (ba 0)]) (n := 1) (Nat.le_of_ble_eq_true rfl)
  rw [lg_entry_eq]
  generalize (lg_sl ([.ref (ba 0)]) ++ List.replicate (1 - (lg_sl ([.ref (ba 0)])).length) Slot.unset).toArray = ls at hl ⊢
  have hl : lv_has ls 1 [(0, .ref (ba 0))] := hl
  refine lv_aload_n hx hb dX2_remember_0 rfl (lv_at hl 0 rfl) ?_
  refine va_get (D := G.1) (ci := 2) (C := RX2) (T := TX2) (N := 10) hx hb hts iX2_remember_X2 hown hK.1 hP 0 rfl rfl 2 (by decide) (hts (.fieldLink RX2 20 "BoardClock" "past" "[LBoardClock$State;") (List.mem_of_getElem? (i := 1) rfl)) (fun _ h9 => h9) rfl dX2_remember_1 ?_
  refine lv_aload_n hx hb dX2_remember_4 rfl (lv_at hl 0 rfl) ?_
  refine va_get (D := G.1) (ci := 2) (C := RX2) (T := TX2) (N := 10) hx hb hts iX2_remember_X2 hown hK.1 hP 0 rfl rfl 3 (by decide) (hts (.fieldLink RX2 24 "BoardClock" "nextPast" "I") (List.mem_of_getElem? (i := 2) rfl)) (fun _ h9 => h9) rfl dX2_remember_5 ?_
  obtain ⟨hi1, hF⟩ := zc_inE hF
  refine va_aldq hx hb hK.1 hP 1 3 rfl rfl hi1 dX2_remember_8 ?_
  refine W.eq (g2 := F0 m 9 ls (.ref (pa (((b.1 1)).toNatClampNeg) 0) :: _)) rfl ?_
  refine lv_aload_n hx hb dX2_remember_9 rfl (lv_at hl 0 rfl) ?_
  refine va_get (D := G.1) (ci := 2) (C := RX2) (T := TX2) (N := 10) hx hb hts iX2_remember_X2 hown hK.1 hP 0 rfl rfl 0 (by decide) (hts (.fieldLink RX2 10 "BoardClock" "now" "LBoardClock$State;") (List.mem_of_getElem? (i := 3) rfl)) (fun _ h9 => h9) rfl dX2_remember_10 ?_
  obtain ⟨r2, er2, hF⟩ := zc_bind hF
  refine zc_poolTo (k := (((b.1 1)).toNatClampNeg)) (Nat.lt_of_lt_of_le (zc_vlt hi1) (by decide)) hP hD hS hA (va_runV (As := [.ref _]) ⟨hx, hb, hml, hown, hts⟩ (kX1_copyFrom l G (pa (((b.1 1)).toNatClampNeg)) na _ er2) (cwV 1 hts gX2_remember_X1_copyFrom rfl rfl rfl (by decide +kernel) ⟨Nat.le_of_ble_eq_true rfl, Nat.le_of_ble_eq_true rfl⟩) (zc_preTo hK hP hD (Nat.lt_of_lt_of_le (zc_vlt hi1) (by decide))) rfl rfl hl.1 rfl (lv_room (Nat.le_of_ble_eq_true rfl)) dX2_remember_13 ⟨Nat.le_of_ble_eq_true rfl, Nat.le_of_ble_eq_true rfl⟩) (fun H locs hP hS => ?_)
  obtain ⟨b3, eb3, hF⟩ := zc_letX hF
  have hP : va_P G.1 vwCl (zc_bc G ba na pa b3) H := by rw [eb3]; exact hP
  have hD : va_D A (zc_bc G ba na pa b3) := zc_bcD hD
  refine lv_aload_n hx hb dX2_remember_16 rfl (lv_at hl 0 rfl) ?_
  refine lv_aload_n hx hb dX2_remember_17 rfl (lv_at hl 0 rfl) ?_
  refine va_get (D := G.1) (ci := 2) (C := RX2) (T := TX2) (N := 10) hx hb hts iX2_remember_X2 hown hK.1 hP 0 rfl rfl 3 (by decide) (hts (.fieldLink RX2 24 "BoardClock" "nextPast" "I") (List.mem_of_getElem? (i := 2) rfl)) (fun _ h9 => h9) rfl dX2_remember_18 ?_
  refine lv_iconst (v := (1 : Int32)) hx hb dX2_remember_21 (by decide) ?_
  refine lv_iadd hx hb dX2_remember_22 ?_
  refine lv_bipush (v := (20 : Int32)) hx hb dX2_remember_23 (by decide) ?_
  obtain ⟨r4, er4, hF⟩ := zc_bind hF
  refine zc_ci (va_runS (As := [.int _, .int _]) ⟨hx, hb, hml, hown, hts⟩ (kJ9_floorMod_7cf53 l G er4) (va_cwS 2 hts gX2_remember_J9_floorMod_7cf53 rfl rfl rfl (by decide +kernel) ⟨Nat.le_of_ble_eq_true rfl, Nat.le_of_ble_eq_true rfl⟩) (zc_preS hK (show va_P G.1 vwCl [] _ from fun k q h => by simp at h)) rfl rfl hl.1 rfl (lv_room (Nat.le_of_ble_eq_true rfl)) dX2_remember_25 ⟨Nat.le_of_ble_eq_true rfl, Nat.le_of_ble_eq_true rfl⟩) ?_
  refine va_put (D := G.1) (ci := 2) (v := .int r4) (ty := .int) (C := RX2) (T := TX2) (N := 10) hx hb hts iX2_remember_X2 tyX2 tyX2_ok nmX2 hown hK.1 hP hD hS 0 rfl rfl 3 (by decide) (hts (.fieldLink RX2 24 "BoardClock" "nextPast" "I") (List.mem_of_getElem? (i := 2) rfl)) (fun _ h9 => h9) rfl (by decide +kernel) rfl rfl (Nat.le_of_ble_eq_true rfl) dX2_remember_28 (fun H locs hP _ hS => ?_)
  obtain ⟨b5, eb5, hF⟩ := zc_letX hF
  have hP : va_P G.1 vwCl (zc_bc G ba na pa b5) H := by rw [eb5]; exact hP
  have hD : va_D A (zc_bc G ba na pa b5) := zc_bcD hD
  refine lv_aload_n hx hb dX2_remember_31 rfl (lv_at hl 0 rfl) ?_
  refine lv_aload_n hx hb dX2_remember_32 rfl (lv_at hl 0 rfl) ?_
  refine va_get (D := G.1) (ci := 2) (C := RX2) (T := TX2) (N := 10) hx hb hts iX2_remember_X2 hown hK.1 hP 0 rfl rfl 4 (by decide) (hts (.fieldLink RX2 27 "BoardClock" "undoable" "I") (List.mem_of_getElem? (i := 4) rfl)) (fun _ h9 => h9) rfl dX2_remember_33 ?_
  refine lv_iconst (v := (1 : Int32)) hx hb dX2_remember_36 (by decide) ?_
  refine lv_iadd hx hb dX2_remember_37 ?_
  refine lv_bipush (v := (20 : Int32)) hx hb dX2_remember_38 (by decide) ?_
  refine va_mmin hx hb (hml.trans hl.1.symm) hown (hts (.methodLink RX2 235 Lib.Math.min.name) (List.mem_of_getElem? (i := 5) rfl)) (hts (.static Lib.Math.min.name) (List.mem_of_getElem? (i := 6) rfl)) (hts (.initialized "java/lang/Math") (List.mem_of_getElem? (i := 7) rfl)) (hts (.code Lib.Math.min.name Lib.Math.min.code 2 (some .int)) (List.mem_of_getElem? (i := 8) rfl)) (Nat.le_of_ble_eq_true rfl) (Nat.le_of_ble_eq_true rfl) (Nat.zero_le _) (Nat.zero_le _) dX2_remember_40 ?_
  refine va_put (D := G.1) (ci := 2) (v := .int (if (20 : Int32) < ((b5.1 2) + (1 : Int32)) then (20 : Int32) else ((b5.1 2) + (1 : Int32)))) (ty := .int) (C := RX2) (T := TX2) (N := 10) hx hb hts iX2_remember_X2 tyX2 tyX2_ok nmX2 hown hK.1 hP hD hS 0 rfl rfl 4 (by decide) (hts (.fieldLink RX2 27 "BoardClock" "undoable" "I") (List.mem_of_getElem? (i := 4) rfl)) (fun _ h9 => h9) rfl (by decide +kernel) rfl rfl (Nat.le_of_ble_eq_true rfl) dX2_remember_43 (fun H locs hP _ hS => ?_)
  obtain ⟨b6, eb6, hF⟩ := zc_letX hF
  have hP : va_P G.1 vwCl (zc_bc G ba na pa b6) H := by rw [eb6]; exact hP
  have hD : va_D A (zc_bc G ba na pa b6) := zc_bcD hD
  obtain rfl := Option.some.inj hF
  exact W.vret hx hb hr (fun t ht hW => ⟨⟨(), rfl, trivial, zc_hp ht hP⟩, hS.F ht⟩) hS.2.2 dX2_remember_46
def fX2_draw (b : zc_B) (a1 : Int32) : Option (Int32 × zc_B) := zc_let (zc_bI b 0 ((((((b.1 0)).toInt64 * (1103515245 : Int64)) + (12345 : Int64)) &&& (2147483647 : Int64))).toInt32) fun (b1 : zc_B) => if a1 ≤ 0 then (some ((0 : Int32), b1)) else (zc_nz a1 (some ((((b1.1 0) / (65536 : Int32)) - ((b1.1 0) / (65536 : Int32)) / a1 * a1), b1)))
theorem iX2_draw_X2 : ∀ w ∈ wsX20, w ∈ wsX2_draw := fun _ h => List.mem_cons_of_mem _ (List.mem_append_right _ h)
set_option maxHeartbeats 4000000 in
set_option maxRecDepth 100000 in
theorem kX2_draw (l : Launch) (G : zc_G) (ba na : Nat → Nat) (pa : Nat → Nat → Nat) (sz : Nat) {b : zc_B} {a1 : Int32} {r0 : Int32 × zc_B} (hF : fX2_draw b a1 = some r0) : Met l yX2_draw wsX2_draw ({ frames := 0, cells := 0, slots := 0, locals := 0 }) (zc_Pm G [.ref (ba 0), .int a1] (zc_bc G ba na pa b) sz) (zc_Qi G r0.1 (zc_bc G ba na pa r0.2) (va_A (zc_bc G ba na pa b) sz)) 0 0 (va_A (zc_bc G ba na pa b) sz) := by
  refine Met.ofW (cc := cX2_draw) (maxL := 2) (ret := (some .int)) (by decide) rfl ?_
  intro p e s m args below meth c s₁ B hml hv
  obtain ⟨rfl, hsz, hP, hK, hD0⟩ := hv
  have hx := B.exec
  have hb := B.bytes
  have hr := B.returns
  have hts := atoms_spec (ws := wsX2_draw) B.pre
  have hown : s.vm.findClass RX2 = some m.cls := findClass_of_methodNamed B.named
  have hlocks := B.notSynchronized
  subst hsz
  have hD := hD0.self (sz := s.heap.size)
  generalize hAe : va_A (zc_bc G ba na pa b) s.heap.size = A at hD ⊢
  have hA : ∀ q : Nat, s.heap.size ≤ q → A q := fun q h => by rw [← hAe]; exact Or.inr h
  have hS : va_S A s.heap s.heap [] := va_S.rf
  have hl := lv_entry ([.ref (ba 0), .int a1]) (n := 2) (Nat.le_of_ble_eq_true rfl)
  rw [lg_entry_eq]
  generalize (lg_sl ([.ref (ba 0), .int a1]) ++ List.replicate (2 - (lg_sl ([.ref (ba 0), .int a1])).length) Slot.unset).toArray = ls at hl ⊢
  have hl : lv_has ls 2 [(0, .ref (ba 0)), (1, .int a1)] := hl
  refine lv_aload_n hx hb dX2_draw_0 rfl (lv_at hl 0 rfl) ?_
  refine lv_aload_n hx hb dX2_draw_1 rfl (lv_at hl 0 rfl) ?_
  refine va_get (D := G.1) (ci := 2) (C := RX2) (T := TX2) (N := 10) hx hb hts iX2_draw_X2 hown hK.1 hP 0 rfl rfl 1 (by decide) (hts (.fieldLink RX2 16 "BoardClock" "theSeed" "I") (List.mem_of_getElem? (i := 1) rfl)) (fun _ h9 => h9) rfl dX2_draw_2 ?_
  refine lv_i2l hx hb dX2_draw_5 rfl ?_
  refine lv_ldc2 hx hb hown (hts (.constantLong RX2 241 (1103515245)) (List.mem_of_getElem? (i := 2) rfl)) dX2_draw_6 ?_
  refine lv_lmul hx hb dX2_draw_9 ?_
  refine lv_ldc2 hx hb hown (hts (.constantLong RX2 243 (12345)) (List.mem_of_getElem? (i := 3) rfl)) dX2_draw_10 ?_
  refine lv_ladd hx hb dX2_draw_13 ?_
  refine lv_ldc2 hx hb hown (hts (.constantLong RX2 245 (2147483647)) (List.mem_of_getElem? (i := 4) rfl)) dX2_draw_14 ?_
  refine lv_land hx hb dX2_draw_17 ?_
  refine lv_l2i hx hb dX2_draw_18 rfl ?_
  refine va_put (D := G.1) (ci := 2) (v := .int ((((((b.1 0)).toInt64 * (1103515245 : Int64)) + (12345 : Int64)) &&& (2147483647 : Int64))).toInt32) (ty := .int) (C := RX2) (T := TX2) (N := 10) hx hb hts iX2_draw_X2 tyX2 tyX2_ok nmX2 hown hK.1 hP hD hS 0 rfl rfl 1 (by decide) (hts (.fieldLink RX2 16 "BoardClock" "theSeed" "I") (List.mem_of_getElem? (i := 1) rfl)) (fun _ h9 => h9) rfl (by decide +kernel) rfl rfl (Nat.le_of_ble_eq_true rfl) dX2_draw_19 (fun H locs hP _ hS => ?_)
  obtain ⟨b1, eb1, hF⟩ := zc_letX hF
  have hP : va_P G.1 vwCl (zc_bc G ba na pa b1) H := by rw [eb1]; exact hP
  have hD : va_D A (zc_bc G ba na pa b1) := zc_bcD hD
  refine lv_iload_n hx hb dX2_draw_22 rfl (lv_at hl 1 rfl) ?_
  refine lv_if_le (tgt := 38) hx hb dX2_draw_23 (by decide) (fun c2 => ?_) (fun c2 => ?_)
  · have hF := zc_pos c2 hF
    refine lv_iconst (v := (0 : Int32)) hx hb dX2_draw_38 (by decide) ?_
    obtain rfl := Option.some.inj hF
    exact W.iret hx hb hr (fun t ht hW => ⟨⟨_, (), rfl, rfl, zc_hp ht hP⟩, hS.F ht⟩) hS.2.2 dX2_draw_39
  · have hF := zc_neg c2 hF
    refine lv_aload_n hx hb dX2_draw_26 rfl (lv_at hl 0 rfl) ?_
    refine va_get (D := G.1) (ci := 2) (C := RX2) (T := TX2) (N := 10) hx hb hts iX2_draw_X2 hown hK.1 hP 0 rfl rfl 1 (by decide) (hts (.fieldLink RX2 16 "BoardClock" "theSeed" "I") (List.mem_of_getElem? (i := 1) rfl)) (fun _ h9 => h9) rfl dX2_draw_27 ?_
    refine lv_ldc hx hb hown (hts (.constant RX2 247 (65536)) (List.mem_of_getElem? (i := 5) rfl)) dX2_draw_30 ?_
    refine lv_idiv hx hb dX2_draw_32 (by decide) ?_
    refine lv_iload_n hx hb dX2_draw_33 rfl (lv_at hl 1 rfl) ?_
    obtain ⟨hnz3, hF⟩ := zc_nzE hF
    refine lv_irem hx hb dX2_draw_34 hnz3 ?_
    refine lv_goto (tgt := 39) hx hb dX2_draw_35 (by decide) ?_
    obtain rfl := Option.some.inj hF
    exact W.iret hx hb hr (fun t ht hW => ⟨⟨_, (), rfl, rfl, zc_hp ht hP⟩, hS.F ht⟩) hS.2.2 dX2_draw_39
def fX2_tick (N : Nat) (b : zc_B) (a1 : Int32) : Option (Int32 × zc_B) := Option.bind (fX2_isWithin a1 (1 : Int32) (2000 : Int32)) fun (r1 : Int32) => if r1 = 0 then (some ((-1000000002 : Int32), b)) else (Option.bind (fX2_remember b) fun (r3 : zc_B) => Option.bind (fX1_pass N r3.2.2.1 a1) fun (r4 : Int32 × zc_S) => zc_let (zc_bs r3 r4.2) fun (b5 : zc_B) => some (r4.1, b5))
theorem iX2_tick_X2 : ∀ w ∈ wsX20, w ∈ wsX2_tick := fun _ h => List.mem_cons_of_mem _ (List.mem_append_left _ (List.mem_append_left _ (List.mem_append_right _ h)))
set_option maxHeartbeats 4000000 in
set_option maxRecDepth 100000 in
theorem kX2_tick (l : Launch) (G : zc_G) (ba na : Nat → Nat) (pa : Nat → Nat → Nat) (sz : Nat) {N : Nat} {b : zc_B} {a1 : Int32} {r0 : Int32 × zc_B} (hF : fX2_tick N b a1 = some r0) : Met l yX2_tick wsX2_tick ({ frames := 5, cells := 0, slots := 0, locals := 131 }) (zc_Pm G [.ref (ba 0), .int a1] (zc_bc G ba na pa b) sz) (zc_Qi G r0.1 (zc_bc G ba na pa r0.2) (va_A (zc_bc G ba na pa b) sz)) 0 0 (va_A (zc_bc G ba na pa b) sz) := by
  refine Met.ofW (cc := cX2_tick) (maxL := 2) (ret := (some .int)) (by decide) rfl ?_
  intro p e s m args below meth c s₁ B hml hv
  obtain ⟨rfl, hsz, hP, hK, hD0⟩ := hv
  have hx := B.exec
  have hb := B.bytes
  have hr := B.returns
  have hts := atoms_spec (ws := wsX2_tick) B.pre
  have hown : s.vm.findClass RX2 = some m.cls := findClass_of_methodNamed B.named
  have hlocks := B.notSynchronized
  subst hsz
  have hD := hD0.self (sz := s.heap.size)
  generalize hAe : va_A (zc_bc G ba na pa b) s.heap.size = A at hD ⊢
  have hA : ∀ q : Nat, s.heap.size ≤ q → A q := fun q h => by rw [← hAe]; exact Or.inr h
  have hS : va_S A s.heap s.heap [] := va_S.rf
  have hl := lv_entry ([.ref (ba 0), .int a1]) (n := 2) (Nat.le_of_ble_eq_true rfl)
  rw [lg_entry_eq]
  generalize (lg_sl ([.ref (ba 0), .int a1]) ++ List.replicate (2 - (lg_sl ([.ref (ba 0), .int a1])).length) Slot.unset).toArray = ls at hl ⊢
  have hl : lv_has ls 2 [(0, .ref (ba 0)), (1, .int a1)] := hl
  refine lv_iload_n hx hb dX2_tick_0 rfl (lv_at hl 1 rfl) ?_
  refine lv_iconst (v := (1 : Int32)) hx hb dX2_tick_1 (by decide) ?_
  refine lv_sipush (v := (2000 : Int32)) hx hb dX2_tick_2 (by decide) ?_
  obtain ⟨r1, er1, hF⟩ := zc_bind hF
  refine zc_ci (va_runS (As := [.int _, .int _, .int _]) ⟨hx, hb, hml, hown, hts⟩ (kX2_isWithin l G er1) (va_cwS 3 hts gX2_tick_X2_isWithin rfl rfl rfl (by decide +kernel) ⟨Nat.le_of_ble_eq_true rfl, Nat.le_of_ble_eq_true rfl⟩) (zc_preS hK (show va_P G.1 vwCl [] _ from fun k q h => by simp at h)) rfl rfl hl.1 rfl (lv_room (Nat.le_of_ble_eq_true rfl)) dX2_tick_5 ⟨Nat.le_of_ble_eq_true rfl, Nat.le_of_ble_eq_true rfl⟩) ?_
  refine lv_if_ne (tgt := 14) hx hb dX2_tick_8 (by decide) (fun c2 => ?_) (fun c2 => ?_)
  · have hF := zc_neg c2 hF
    refine lv_aload_n hx hb dX2_tick_14 rfl (lv_at hl 0 rfl) ?_
    obtain ⟨r3, er3, hF⟩ := zc_bind hF
    refine zc_mvA hD hS hA (va_runV (As := []) ⟨hx, hb, hml, hown, hts⟩ (kX2_remember l G ba na pa _ er3) (cwV 0 hts gX2_tick_X2_remember rfl rfl rfl (by decide +kernel) ⟨Nat.le_of_ble_eq_true rfl, Nat.le_of_ble_eq_true rfl⟩) (zc_preVm hK hP hD 0 rfl rfl) rfl rfl hl.1 rfl (lv_room (Nat.le_of_ble_eq_true rfl)) dX2_tick_15 ⟨Nat.le_of_ble_eq_true rfl, Nat.le_of_ble_eq_true rfl⟩) (fun H locs hP hS => ?_)
    have hP : va_P G.1 vwCl (zc_bc G ba na pa r3) H := hP
    have hD : va_D A (zc_bc G ba na pa r3) := zc_bcD hD
    refine lv_aload_n hx hb dX2_tick_18 rfl (lv_at hl 0 rfl) ?_
    refine va_get (D := G.1) (ci := 2) (C := RX2) (T := TX2) (N := 10) hx hb hts iX2_tick_X2 hown hK.1 hP 0 rfl rfl 0 (by decide) (hts (.fieldLink RX2 10 "BoardClock" "now" "LBoardClock$State;") (List.mem_of_getElem? (i := 2) rfl)) (fun _ h9 => h9) rfl dX2_tick_19 ?_
    refine lv_iload_n hx hb dX2_tick_22 rfl (lv_at hl 1 rfl) ?_
    obtain ⟨r4, er4, hF⟩ := zc_bind hF
    refine zc_mi (X := zc_bx G ba na pa r3) (pl := zc_pool G pa r3.2.2.2) (wc := zc_st G na r3.2.2.1) (w1 := zc_st G na r4.2) (wr := zc_b6 G ba na pa r3) hP hD hS hA [6, 7, 8, 9, 10, 11, 12] [0, 1, 2, 3, 4, 5] rfl (by decide) rfl (by decide) (by decide) rfl (va_runV (As := [.int _]) ⟨hx, hb, hml, hown, hts⟩ (kX1_pass l G na _ er4) (cwV 1 hts gX2_tick_X1_pass rfl rfl rfl (by decide +kernel) ⟨Nat.le_of_ble_eq_true rfl, Nat.le_of_ble_eq_true rfl⟩) (zc_preVm hK (hP.sub (ws' := zc_st G na r3.2.2.1) [6, 7, 8, 9, 10, 11, 12] rfl) (hD.sub (ws' := zc_st G na r3.2.2.1) [6, 7, 8, 9, 10, 11, 12] (by decide) rfl) 0 rfl rfl) rfl rfl hl.1 rfl (lv_room (Nat.le_of_ble_eq_true rfl)) dX2_tick_23 ⟨Nat.le_of_ble_eq_true rfl, Nat.le_of_ble_eq_true rfl⟩) (fun H locs hP _ hS => ?_)
    obtain ⟨b5, eb5, hF⟩ := zc_letX hF
    have hP : va_P G.1 vwCl (zc_bc G ba na pa b5) H := by rw [eb5]; exact hP
    have hD : va_D A (zc_bc G ba na pa b5) := zc_bcD hD
    obtain rfl := Option.some.inj hF
    exact W.iret hx hb hr (fun t ht hW => ⟨⟨_, (), rfl, rfl, zc_hp ht hP⟩, hS.F ht⟩) hS.2.2 dX2_tick_26
  · have hF := zc_pos c2 hF
    refine lv_ldc hx hb hown (hts (.constant RX2 110 (-1000000002)) (List.mem_of_getElem? (i := 1) rfl)) dX2_tick_11 ?_
    obtain rfl := Option.some.inj hF
    exact W.iret hx hb hr (fun t ht hW => ⟨⟨_, (), rfl, rfl, zc_hp ht hP⟩, hS.F ht⟩) hS.2.2 dX2_tick_13
def fX2_warm (b : zc_B) (a1 : Int32) : Option (Int32 × zc_B) := Option.bind (fX2_isWithin a1 (-20 : Int32) (69 : Int32)) fun (r1 : Int32) => if r1 = 0 then (some ((-1000000002 : Int32), b)) else (Option.bind (fX2_remember b) fun (r3 : zc_B) => zc_let (r3.2.2.1.2.1 3) fun (x4 : Int32) => zc_let (zc_bs r3 (zc_sI r3.2.2.1 3 a1)) fun (b5 : zc_B) => some ((x4 + (20 : Int32)), b5))
theorem iX2_warm_X1 : ∀ w ∈ wsX10, w ∈ wsX2_warm := fun _ h => List.mem_cons_of_mem _ (List.mem_append_left _ (List.mem_append_right _ h))
theorem iX2_warm_X2 : ∀ w ∈ wsX20, w ∈ wsX2_warm := fun _ h => List.mem_cons_of_mem _ (List.mem_append_left _ (List.mem_append_left _ (List.mem_append_right _ h)))
set_option maxHeartbeats 4000000 in
set_option maxRecDepth 100000 in
theorem kX2_warm (l : Launch) (G : zc_G) (ba na : Nat → Nat) (pa : Nat → Nat → Nat) (sz : Nat) {b : zc_B} {a1 : Int32} {r0 : Int32 × zc_B} (hF : fX2_warm b a1 = some r0) : Met l yX2_warm wsX2_warm ({ frames := 4, cells := 0, slots := 0, locals := 122 }) (zc_Pm G [.ref (ba 0), .int a1] (zc_bc G ba na pa b) sz) (zc_Qi G r0.1 (zc_bc G ba na pa r0.2) (va_A (zc_bc G ba na pa b) sz)) 0 0 (va_A (zc_bc G ba na pa b) sz) := by
  refine Met.ofW (cc := cX2_warm) (maxL := 3) (ret := (some .int)) (by decide) rfl ?_
  intro p e s m args below meth c s₁ B hml hv
  obtain ⟨rfl, hsz, hP, hK, hD0⟩ := hv
  have hx := B.exec
  have hb := B.bytes
  have hr := B.returns
  have hts := atoms_spec (ws := wsX2_warm) B.pre
  have hown : s.vm.findClass RX2 = some m.cls := findClass_of_methodNamed B.named
  have hlocks := B.notSynchronized
  subst hsz
  have hD := hD0.self (sz := s.heap.size)
  generalize hAe : va_A (zc_bc G ba na pa b) s.heap.size = A at hD ⊢
  have hA : ∀ q : Nat, s.heap.size ≤ q → A q := fun q h => by rw [← hAe]; exact Or.inr h
  have hS : va_S A s.heap s.heap [] := va_S.rf
  have hl := lv_entry ([.ref (ba 0), .int a1]) (n := 3) (Nat.le_of_ble_eq_true rfl)
  rw [lg_entry_eq]
  generalize (lg_sl ([.ref (ba 0), .int a1]) ++ List.replicate (3 - (lg_sl ([.ref (ba 0), .int a1])).length) Slot.unset).toArray = ls at hl ⊢
  have hl : lv_has ls 3 [(0, .ref (ba 0)), (1, .int a1)] := hl
  refine lv_iload_n hx hb dX2_warm_0 rfl (lv_at hl 1 rfl) ?_
  refine lv_bipush (v := (-20 : Int32)) hx hb dX2_warm_1 (by decide) ?_
  refine lv_bipush (v := (69 : Int32)) hx hb dX2_warm_3 (by decide) ?_
  obtain ⟨r1, er1, hF⟩ := zc_bind hF
  refine zc_ci (va_runS (As := [.int _, .int _, .int _]) ⟨hx, hb, hml, hown, hts⟩ (kX2_isWithin l G er1) (va_cwS 3 hts gX2_warm_X2_isWithin rfl rfl rfl (by decide +kernel) ⟨Nat.le_of_ble_eq_true rfl, Nat.le_of_ble_eq_true rfl⟩) (zc_preS hK (show va_P G.1 vwCl [] _ from fun k q h => by simp at h)) rfl rfl hl.1 rfl (lv_room (Nat.le_of_ble_eq_true rfl)) dX2_warm_5 ⟨Nat.le_of_ble_eq_true rfl, Nat.le_of_ble_eq_true rfl⟩) ?_
  refine lv_if_ne (tgt := 14) hx hb dX2_warm_8 (by decide) (fun c2 => ?_) (fun c2 => ?_)
  · have hF := zc_neg c2 hF
    refine lv_aload_n hx hb dX2_warm_14 rfl (lv_at hl 0 rfl) ?_
    obtain ⟨r3, er3, hF⟩ := zc_bind hF
    refine zc_mvA hD hS hA (va_runV (As := []) ⟨hx, hb, hml, hown, hts⟩ (kX2_remember l G ba na pa _ er3) (cwV 0 hts gX2_warm_X2_remember rfl rfl rfl (by decide +kernel) ⟨Nat.le_of_ble_eq_true rfl, Nat.le_of_ble_eq_true rfl⟩) (zc_preVm hK hP hD 0 rfl rfl) rfl rfl hl.1 rfl (lv_room (Nat.le_of_ble_eq_true rfl)) dX2_warm_15 ⟨Nat.le_of_ble_eq_true rfl, Nat.le_of_ble_eq_true rfl⟩) (fun H locs hP hS => ?_)
    have hP : va_P G.1 vwCl (zc_bc G ba na pa r3) H := hP
    have hD : va_D A (zc_bc G ba na pa r3) := zc_bcD hD
    refine lv_aload_n hx hb dX2_warm_18 rfl (lv_at hl 0 rfl) ?_
    refine va_get (D := G.1) (ci := 2) (C := RX2) (T := TX2) (N := 10) hx hb hts iX2_warm_X2 hown hK.1 hP 0 rfl rfl 0 (by decide) (hts (.fieldLink RX2 10 "BoardClock" "now" "LBoardClock$State;") (List.mem_of_getElem? (i := 2) rfl)) (fun _ h9 => h9) rfl dX2_warm_19 ?_
    refine va_get (D := G.1) (ci := 1) (C := RX1) (T := TX1) (N := 18) hx hb hts iX2_warm_X1 hown hK.1 hP 6 rfl rfl 3 (by decide) (hts (.fieldLink RX2 47 "BoardClock$State" "warmth" "I") (List.mem_of_getElem? (i := 3) rfl)) (fun _ h9 => h9) rfl dX2_warm_22 ?_
    refine lv_topi (fun x4 ex4 => ?_)
    have hF := zc_letE ex4 hF
    refine lv_istore_n (lv' := [(2, .int x4), (0, .ref (ba 0)), (1, .int a1)]) hx hb dX2_warm_25 rfl hl (by decide) rfl (fun ls hl => ?_)
    refine lv_aload_n hx hb dX2_warm_26 rfl (lv_at hl 1 rfl) ?_
    refine va_get (D := G.1) (ci := 2) (C := RX2) (T := TX2) (N := 10) hx hb hts iX2_warm_X2 hown hK.1 hP 0 rfl rfl 0 (by decide) (hts (.fieldLink RX2 10 "BoardClock" "now" "LBoardClock$State;") (List.mem_of_getElem? (i := 2) rfl)) (fun _ h9 => h9) rfl dX2_warm_27 ?_
    refine lv_iload_n hx hb dX2_warm_30 rfl (lv_at hl 2 rfl) ?_
    refine va_put (D := G.1) (ci := 1) (v := .int a1) (ty := .int) (C := RX1) (T := TX1) (N := 18) hx hb hts iX2_warm_X1 tyX1 tyX1_ok nmX1 hown hK.1 hP hD hS 6 rfl rfl 3 (by decide) (hts (.fieldLink RX2 47 "BoardClock$State" "warmth" "I") (List.mem_of_getElem? (i := 3) rfl)) (fun _ h9 => h9) rfl (by decide +kernel) rfl rfl (Nat.le_of_ble_eq_true rfl) dX2_warm_31 (fun H locs hP _ hS => ?_)
    obtain ⟨b5, eb5, hF⟩ := zc_letX hF
    have hP : va_P G.1 vwCl (zc_bc G ba na pa b5) H := by rw [eb5]; exact hP
    have hD : va_D A (zc_bc G ba na pa b5) := zc_bcD hD
    refine lv_iload_n hx hb dX2_warm_34 rfl (lv_at hl 0 rfl) ?_
    refine lv_bipush (v := (20 : Int32)) hx hb dX2_warm_35 (by decide) ?_
    refine lv_iadd hx hb dX2_warm_37 ?_
    obtain rfl := Option.some.inj hF
    exact W.iret hx hb hr (fun t ht hW => ⟨⟨_, (), rfl, rfl, zc_hp ht hP⟩, hS.F ht⟩) hS.2.2 dX2_warm_38
  · have hF := zc_pos c2 hF
    refine lv_ldc hx hb hown (hts (.constant RX2 110 (-1000000002)) (List.mem_of_getElem? (i := 1) rfl)) dX2_warm_11 ?_
    obtain rfl := Option.some.inj hF
    exact W.iret hx hb hr (fun t ht hW => ⟨⟨_, (), rfl, rfl, zc_hp ht hP⟩, hS.F ht⟩) hS.2.2 dX2_warm_13
def fX2_crystal (b : zc_B) (a1 : Int32) (a2 : Int32) (a3 : Int32) : Option (Int32 × zc_B) := Option.bind (fX2_isWithin a1 (0 : Int32) (40 : Int32)) fun (r1 : Int32) => if r1 = 0 then (some ((-1000000002 : Int32), b)) else (Option.bind (fX2_isWithin a2 (0 : Int32) (20 : Int32)) fun (r3 : Int32) => if r3 = 0 then (some ((-1000000002 : Int32), b)) else (Option.bind (fX2_isWithin a3 (-9 : Int32) (9 : Int32)) fun (r5 : Int32) => if r5 = 0 then (some ((-1000000002 : Int32), b)) else (Option.bind (fX2_remember b) fun (r7 : zc_B) => zc_let (zc_bs r7 (zc_sI r7.2.2.1 4 a1)) fun (b8 : zc_B) => zc_let (zc_bs b8 (zc_sI b8.2.2.1 5 a2)) fun (b9 : zc_B) => zc_let (zc_bs b9 (zc_sI b9.2.2.1 6 a3)) fun (b10 : zc_B) => Option.bind (fX1_offAt b10.2.2.1 (b10.2.2.1.2.1 3)) fun (r11 : Int32) => some ((r11 + (10000 : Int32)), b10))))
theorem iX2_crystal_X1 : ∀ w ∈ wsX10, w ∈ wsX2_crystal := fun _ h => List.mem_cons_of_mem _ (List.mem_append_left _ (List.mem_append_right _ h))
theorem iX2_crystal_X2 : ∀ w ∈ wsX20, w ∈ wsX2_crystal := fun _ h => List.mem_cons_of_mem _ (List.mem_append_left _ (List.mem_append_left _ (List.mem_append_right _ h)))
set_option maxHeartbeats 4000000 in
set_option maxRecDepth 100000 in
theorem kX2_crystal (l : Launch) (G : zc_G) (ba na : Nat → Nat) (pa : Nat → Nat → Nat) (sz : Nat) {b : zc_B} {a1 : Int32} {a2 : Int32} {a3 : Int32} {r0 : Int32 × zc_B} (hF : fX2_crystal b a1 a2 a3 = some r0) : Met l yX2_crystal wsX2_crystal ({ frames := 4, cells := 0, slots := 0, locals := 122 }) (zc_Pm G [.ref (ba 0), .int a1, .int a2, .int a3] (zc_bc G ba na pa b) sz) (zc_Qi G r0.1 (zc_bc G ba na pa r0.2) (va_A (zc_bc G ba na pa b) sz)) 0 0 (va_A (zc_bc G ba na pa b) sz) := by
  refine Met.ofW (cc := cX2_crystal) (maxL := 4) (ret := (some .int)) (by decide) rfl ?_
  intro p e s m args below meth c s₁ B hml hv
  obtain ⟨rfl, hsz, hP, hK, hD0⟩ := hv
  have hx := B.exec
  have hb := B.bytes
  have hr := B.returns
  have hts := atoms_spec (ws := wsX2_crystal) B.pre
  have hown : s.vm.findClass RX2 = some m.cls := findClass_of_methodNamed B.named
  have hlocks := B.notSynchronized
  subst hsz
  have hD := hD0.self (sz := s.heap.size)
  generalize hAe : va_A (zc_bc G ba na pa b) s.heap.size = A at hD ⊢
  have hA : ∀ q : Nat, s.heap.size ≤ q → A q := fun q h => by rw [← hAe]; exact Or.inr h
  have hS : va_S A s.heap s.heap [] := va_S.rf
  have hl := lv_entry ([.ref (ba 0), .int a1, .int a2, .int a3]) (n := 4) (Nat.le_of_ble_eq_true rfl)
  rw [lg_entry_eq]
  generalize (lg_sl ([.ref (ba 0), .int a1, .int a2, .int a3]) ++ List.replicate (4 - (lg_sl ([.ref (ba 0), .int a1, .int a2, .int a3])).length) Slot.unset).toArray = ls at hl ⊢
  have hl : lv_has ls 4 [(0, .ref (ba 0)), (1, .int a1), (2, .int a2), (3, .int a3)] := hl
  refine lv_iload_n hx hb dX2_crystal_0 rfl (lv_at hl 1 rfl) ?_
  refine lv_iconst (v := (0 : Int32)) hx hb dX2_crystal_1 (by decide) ?_
  refine lv_bipush (v := (40 : Int32)) hx hb dX2_crystal_2 (by decide) ?_
  obtain ⟨r1, er1, hF⟩ := zc_bind hF
  refine zc_ci (va_runS (As := [.int _, .int _, .int _]) ⟨hx, hb, hml, hown, hts⟩ (kX2_isWithin l G er1) (va_cwS 3 hts gX2_crystal_X2_isWithin rfl rfl rfl (by decide +kernel) ⟨Nat.le_of_ble_eq_true rfl, Nat.le_of_ble_eq_true rfl⟩) (zc_preS hK (show va_P G.1 vwCl [] _ from fun k q h => by simp at h)) rfl rfl hl.1 rfl (lv_room (Nat.le_of_ble_eq_true rfl)) dX2_crystal_4 ⟨Nat.le_of_ble_eq_true rfl, Nat.le_of_ble_eq_true rfl⟩) ?_
  refine lv_if_eq (tgt := 31) hx hb dX2_crystal_7 (by decide) (fun c2 => ?_) (fun c2 => ?_)
  · have hF := zc_pos c2 hF
    refine lv_ldc hx hb hown (hts (.constant RX2 110 (-1000000002)) (List.mem_of_getElem? (i := 1) rfl)) dX2_crystal_31 ?_
    obtain rfl := Option.some.inj hF
    exact W.iret hx hb hr (fun t ht hW => ⟨⟨_, (), rfl, rfl, zc_hp ht hP⟩, hS.F ht⟩) hS.2.2 dX2_crystal_33
  · have hF := zc_neg c2 hF
    refine lv_iload_n hx hb dX2_crystal_10 rfl (lv_at hl 2 rfl) ?_
    refine lv_iconst (v := (0 : Int32)) hx hb dX2_crystal_11 (by decide) ?_
    refine lv_bipush (v := (20 : Int32)) hx hb dX2_crystal_12 (by decide) ?_
    obtain ⟨r3, er3, hF⟩ := zc_bind hF
    refine zc_ci (va_runS (As := [.int _, .int _, .int _]) ⟨hx, hb, hml, hown, hts⟩ (kX2_isWithin l G er3) (va_cwS 3 hts gX2_crystal_X2_isWithin rfl rfl rfl (by decide +kernel) ⟨Nat.le_of_ble_eq_true rfl, Nat.le_of_ble_eq_true rfl⟩) (zc_preS hK (show va_P G.1 vwCl [] _ from fun k q h => by simp at h)) rfl rfl hl.1 rfl (lv_room (Nat.le_of_ble_eq_true rfl)) dX2_crystal_14 ⟨Nat.le_of_ble_eq_true rfl, Nat.le_of_ble_eq_true rfl⟩) ?_
    refine lv_if_eq (tgt := 31) hx hb dX2_crystal_17 (by decide) (fun c4 => ?_) (fun c4 => ?_)
    · have hF := zc_pos c4 hF
      refine lv_ldc hx hb hown (hts (.constant RX2 110 (-1000000002)) (List.mem_of_getElem? (i := 1) rfl)) dX2_crystal_31 ?_
      obtain rfl := Option.some.inj hF
      exact W.iret hx hb hr (fun t ht hW => ⟨⟨_, (), rfl, rfl, zc_hp ht hP⟩, hS.F ht⟩) hS.2.2 dX2_crystal_33
    · have hF := zc_neg c4 hF
      refine lv_iload_n hx hb dX2_crystal_20 rfl (lv_at hl 3 rfl) ?_
      refine lv_bipush (v := (-9 : Int32)) hx hb dX2_crystal_21 (by decide) ?_
      refine lv_bipush (v := (9 : Int32)) hx hb dX2_crystal_23 (by decide) ?_
      obtain ⟨r5, er5, hF⟩ := zc_bind hF
      refine zc_ci (va_runS (As := [.int _, .int _, .int _]) ⟨hx, hb, hml, hown, hts⟩ (kX2_isWithin l G er5) (va_cwS 3 hts gX2_crystal_X2_isWithin rfl rfl rfl (by decide +kernel) ⟨Nat.le_of_ble_eq_true rfl, Nat.le_of_ble_eq_true rfl⟩) (zc_preS hK (show va_P G.1 vwCl [] _ from fun k q h => by simp at h)) rfl rfl hl.1 rfl (lv_room (Nat.le_of_ble_eq_true rfl)) dX2_crystal_25 ⟨Nat.le_of_ble_eq_true rfl, Nat.le_of_ble_eq_true rfl⟩) ?_
      refine lv_if_ne (tgt := 34) hx hb dX2_crystal_28 (by decide) (fun c6 => ?_) (fun c6 => ?_)
      · have hF := zc_neg c6 hF
        refine lv_aload_n hx hb dX2_crystal_34 rfl (lv_at hl 0 rfl) ?_
        obtain ⟨r7, er7, hF⟩ := zc_bind hF
        refine zc_mvA hD hS hA (va_runV (As := []) ⟨hx, hb, hml, hown, hts⟩ (kX2_remember l G ba na pa _ er7) (cwV 0 hts gX2_crystal_X2_remember rfl rfl rfl (by decide +kernel) ⟨Nat.le_of_ble_eq_true rfl, Nat.le_of_ble_eq_true rfl⟩) (zc_preVm hK hP hD 0 rfl rfl) rfl rfl hl.1 rfl (lv_room (Nat.le_of_ble_eq_true rfl)) dX2_crystal_35 ⟨Nat.le_of_ble_eq_true rfl, Nat.le_of_ble_eq_true rfl⟩) (fun H locs hP hS => ?_)
        have hP : va_P G.1 vwCl (zc_bc G ba na pa r7) H := hP
        have hD : va_D A (zc_bc G ba na pa r7) := zc_bcD hD
        refine lv_aload_n hx hb dX2_crystal_38 rfl (lv_at hl 0 rfl) ?_
        refine va_get (D := G.1) (ci := 2) (C := RX2) (T := TX2) (N := 10) hx hb hts iX2_crystal_X2 hown hK.1 hP 0 rfl rfl 0 (by decide) (hts (.fieldLink RX2 10 "BoardClock" "now" "LBoardClock$State;") (List.mem_of_getElem? (i := 2) rfl)) (fun _ h9 => h9) rfl dX2_crystal_39 ?_
        refine lv_iload_n hx hb dX2_crystal_42 rfl (lv_at hl 1 rfl) ?_
        refine va_put (D := G.1) (ci := 1) (v := .int a1) (ty := .int) (C := RX1) (T := TX1) (N := 18) hx hb hts iX2_crystal_X1 tyX1 tyX1_ok nmX1 hown hK.1 hP hD hS 6 rfl rfl 4 (by decide) (hts (.fieldLink RX2 177 "BoardClock$State" "top" "I") (List.mem_of_getElem? (i := 3) rfl)) (fun _ h9 => h9) rfl (by decide +kernel) rfl rfl (Nat.le_of_ble_eq_true rfl) dX2_crystal_43 (fun H locs hP _ hS => ?_)
        obtain ⟨b8, eb8, hF⟩ := zc_letX hF
        have hP : va_P G.1 vwCl (zc_bc G ba na pa b8) H := by rw [eb8]; exact hP
        have hD : va_D A (zc_bc G ba na pa b8) := zc_bcD hD
        refine lv_aload_n hx hb dX2_crystal_46 rfl (lv_at hl 0 rfl) ?_
        refine va_get (D := G.1) (ci := 2) (C := RX2) (T := TX2) (N := 10) hx hb hts iX2_crystal_X2 hown hK.1 hP 0 rfl rfl 0 (by decide) (hts (.fieldLink RX2 10 "BoardClock" "now" "LBoardClock$State;") (List.mem_of_getElem? (i := 2) rfl)) (fun _ h9 => h9) rfl dX2_crystal_47 ?_
        refine lv_iload_n hx hb dX2_crystal_50 rfl (lv_at hl 2 rfl) ?_
        refine va_put (D := G.1) (ci := 1) (v := .int a2) (ty := .int) (C := RX1) (T := TX1) (N := 18) hx hb hts iX2_crystal_X1 tyX1 tyX1_ok nmX1 hown hK.1 hP hD hS 6 rfl rfl 5 (by decide) (hts (.fieldLink RX2 180 "BoardClock$State" "curve" "I") (List.mem_of_getElem? (i := 4) rfl)) (fun _ h9 => h9) rfl (by decide +kernel) rfl rfl (Nat.le_of_ble_eq_true rfl) dX2_crystal_51 (fun H locs hP _ hS => ?_)
        obtain ⟨b9, eb9, hF⟩ := zc_letX hF
        have hP : va_P G.1 vwCl (zc_bc G ba na pa b9) H := by rw [eb9]; exact hP
        have hD : va_D A (zc_bc G ba na pa b9) := zc_bcD hD
        refine lv_aload_n hx hb dX2_crystal_54 rfl (lv_at hl 0 rfl) ?_
        refine va_get (D := G.1) (ci := 2) (C := RX2) (T := TX2) (N := 10) hx hb hts iX2_crystal_X2 hown hK.1 hP 0 rfl rfl 0 (by decide) (hts (.fieldLink RX2 10 "BoardClock" "now" "LBoardClock$State;") (List.mem_of_getElem? (i := 2) rfl)) (fun _ h9 => h9) rfl dX2_crystal_55 ?_
        refine lv_iload_n hx hb dX2_crystal_58 rfl (lv_at hl 3 rfl) ?_
        refine va_put (D := G.1) (ci := 1) (v := .int a3) (ty := .int) (C := RX1) (T := TX1) (N := 18) hx hb hts iX2_crystal_X1 tyX1 tyX1_ok nmX1 hown hK.1 hP hD hS 6 rfl rfl 6 (by decide) (hts (.fieldLink RX2 183 "BoardClock$State" "base" "I") (List.mem_of_getElem? (i := 5) rfl)) (fun _ h9 => h9) rfl (by decide +kernel) rfl rfl (Nat.le_of_ble_eq_true rfl) dX2_crystal_59 (fun H locs hP _ hS => ?_)
        obtain ⟨b10, eb10, hF⟩ := zc_letX hF
        have hP : va_P G.1 vwCl (zc_bc G ba na pa b10) H := by rw [eb10]; exact hP
        have hD : va_D A (zc_bc G ba na pa b10) := zc_bcD hD
        refine lv_aload_n hx hb dX2_crystal_62 rfl (lv_at hl 0 rfl) ?_
        refine va_get (D := G.1) (ci := 2) (C := RX2) (T := TX2) (N := 10) hx hb hts iX2_crystal_X2 hown hK.1 hP 0 rfl rfl 0 (by decide) (hts (.fieldLink RX2 10 "BoardClock" "now" "LBoardClock$State;") (List.mem_of_getElem? (i := 2) rfl)) (fun _ h9 => h9) rfl dX2_crystal_63 ?_
        refine lv_aload_n hx hb dX2_crystal_66 rfl (lv_at hl 0 rfl) ?_
        refine va_get (D := G.1) (ci := 2) (C := RX2) (T := TX2) (N := 10) hx hb hts iX2_crystal_X2 hown hK.1 hP 0 rfl rfl 0 (by decide) (hts (.fieldLink RX2 10 "BoardClock" "now" "LBoardClock$State;") (List.mem_of_getElem? (i := 2) rfl)) (fun _ h9 => h9) rfl dX2_crystal_67 ?_
        refine va_get (D := G.1) (ci := 1) (C := RX1) (T := TX1) (N := 18) hx hb hts iX2_crystal_X1 hown hK.1 hP 6 rfl rfl 3 (by decide) (hts (.fieldLink RX2 47 "BoardClock$State" "warmth" "I") (List.mem_of_getElem? (i := 6) rfl)) (fun _ h9 => h9) rfl dX2_crystal_70 ?_
        obtain ⟨r11, er11, hF⟩ := zc_bind hF
        refine zc_ci (va_runV (As := [.int _]) ⟨hx, hb, hml, hown, hts⟩ (kX1_offAt l G na er11) (cwV 1 hts gX2_crystal_X1_offAt rfl rfl rfl (by decide +kernel) ⟨Nat.le_of_ble_eq_true rfl, Nat.le_of_ble_eq_true rfl⟩) (zc_preV hK (hP.sub (ws' := zc_st G na b10.2.2.1) [6, 7, 8, 9, 10, 11, 12] rfl) 0 rfl rfl) rfl rfl hl.1 rfl (lv_room (Nat.le_of_ble_eq_true rfl)) dX2_crystal_73 ⟨Nat.le_of_ble_eq_true rfl, Nat.le_of_ble_eq_true rfl⟩) ?_
        refine lv_sipush (v := (10000 : Int32)) hx hb dX2_crystal_76 (by decide) ?_
        refine lv_iadd hx hb dX2_crystal_79 ?_
        obtain rfl := Option.some.inj hF
        exact W.iret hx hb hr (fun t ht hW => ⟨⟨_, (), rfl, rfl, zc_hp ht hP⟩, hS.F ht⟩) hS.2.2 dX2_crystal_80
      · have hF := zc_pos c6 hF
        refine lv_ldc hx hb hown (hts (.constant RX2 110 (-1000000002)) (List.mem_of_getElem? (i := 1) rfl)) dX2_crystal_31 ?_
        obtain rfl := Option.some.inj hF
        exact W.iret hx hb hr (fun t ht hW => ⟨⟨_, (), rfl, rfl, zc_hp ht hP⟩, hS.F ht⟩) hS.2.2 dX2_crystal_33
def fX2_changeStep (b : zc_B) (a1 : Int32) : Option (Int32 × zc_B) := Option.bind (fX2_isWithin a1 (1 : Int32) (200 : Int32)) fun (r1 : Int32) => if r1 = 0 then (some ((-1000000002 : Int32), b)) else (Option.bind (fX2_remember b) fun (r3 : zc_B) => zc_let (r3.2.2.1.2.1 8) fun (x4 : Int32) => zc_let (zc_bs r3 (zc_sI r3.2.2.1 8 a1)) fun (b5 : zc_B) => some (x4, b5))
theorem iX2_changeStep_X1 : ∀ w ∈ wsX10, w ∈ wsX2_changeStep := fun _ h => List.mem_cons_of_mem _ (List.mem_append_left _ (List.mem_append_right _ h))
theorem iX2_changeStep_X2 : ∀ w ∈ wsX20, w ∈ wsX2_changeStep := fun _ h => List.mem_cons_of_mem _ (List.mem_append_left _ (List.mem_append_left _ (List.mem_append_right _ h)))
set_option maxHeartbeats 4000000 in
set_option maxRecDepth 100000 in
theorem kX2_changeStep (l : Launch) (G : zc_G) (ba na : Nat → Nat) (pa : Nat → Nat → Nat) (sz : Nat) {b : zc_B} {a1 : Int32} {r0 : Int32 × zc_B} (hF : fX2_changeStep b a1 = some r0) : Met l yX2_changeStep wsX2_changeStep ({ frames := 4, cells := 0, slots := 0, locals := 122 }) (zc_Pm G [.ref (ba 0), .int a1] (zc_bc G ba na pa b) sz) (zc_Qi G r0.1 (zc_bc G ba na pa r0.2) (va_A (zc_bc G ba na pa b) sz)) 0 0 (va_A (zc_bc G ba na pa b) sz) := by
  refine Met.ofW (cc := cX2_changeStep) (maxL := 3) (ret := (some .int)) (by decide) rfl ?_
  intro p e s m args below meth c s₁ B hml hv
  obtain ⟨rfl, hsz, hP, hK, hD0⟩ := hv
  have hx := B.exec
  have hb := B.bytes
  have hr := B.returns
  have hts := atoms_spec (ws := wsX2_changeStep) B.pre
  have hown : s.vm.findClass RX2 = some m.cls := findClass_of_methodNamed B.named
  have hlocks := B.notSynchronized
  subst hsz
  have hD := hD0.self (sz := s.heap.size)
  generalize hAe : va_A (zc_bc G ba na pa b) s.heap.size = A at hD ⊢
  have hA : ∀ q : Nat, s.heap.size ≤ q → A q := fun q h => by rw [← hAe]; exact Or.inr h
  have hS : va_S A s.heap s.heap [] := va_S.rf
  have hl := lv_entry ([.ref (ba 0), .int a1]) (n := 3) (Nat.le_of_ble_eq_true rfl)
  rw [lg_entry_eq]
  generalize (lg_sl ([.ref (ba 0), .int a1]) ++ List.replicate (3 - (lg_sl ([.ref (ba 0), .int a1])).length) Slot.unset).toArray = ls at hl ⊢
  have hl : lv_has ls 3 [(0, .ref (ba 0)), (1, .int a1)] := hl
  refine lv_iload_n hx hb dX2_changeStep_0 rfl (lv_at hl 1 rfl) ?_
  refine lv_iconst (v := (1 : Int32)) hx hb dX2_changeStep_1 (by decide) ?_
  refine lv_sipush (v := (200 : Int32)) hx hb dX2_changeStep_2 (by decide) ?_
  obtain ⟨r1, er1, hF⟩ := zc_bind hF
  refine zc_ci (va_runS (As := [.int _, .int _, .int _]) ⟨hx, hb, hml, hown, hts⟩ (kX2_isWithin l G er1) (va_cwS 3 hts gX2_changeStep_X2_isWithin rfl rfl rfl (by decide +kernel) ⟨Nat.le_of_ble_eq_true rfl, Nat.le_of_ble_eq_true rfl⟩) (zc_preS hK (show va_P G.1 vwCl [] _ from fun k q h => by simp at h)) rfl rfl hl.1 rfl (lv_room (Nat.le_of_ble_eq_true rfl)) dX2_changeStep_5 ⟨Nat.le_of_ble_eq_true rfl, Nat.le_of_ble_eq_true rfl⟩) ?_
  refine lv_if_ne (tgt := 14) hx hb dX2_changeStep_8 (by decide) (fun c2 => ?_) (fun c2 => ?_)
  · have hF := zc_neg c2 hF
    refine lv_aload_n hx hb dX2_changeStep_14 rfl (lv_at hl 0 rfl) ?_
    obtain ⟨r3, er3, hF⟩ := zc_bind hF
    refine zc_mvA hD hS hA (va_runV (As := []) ⟨hx, hb, hml, hown, hts⟩ (kX2_remember l G ba na pa _ er3) (cwV 0 hts gX2_changeStep_X2_remember rfl rfl rfl (by decide +kernel) ⟨Nat.le_of_ble_eq_true rfl, Nat.le_of_ble_eq_true rfl⟩) (zc_preVm hK hP hD 0 rfl rfl) rfl rfl hl.1 rfl (lv_room (Nat.le_of_ble_eq_true rfl)) dX2_changeStep_15 ⟨Nat.le_of_ble_eq_true rfl, Nat.le_of_ble_eq_true rfl⟩) (fun H locs hP hS => ?_)
    have hP : va_P G.1 vwCl (zc_bc G ba na pa r3) H := hP
    have hD : va_D A (zc_bc G ba na pa r3) := zc_bcD hD
    refine lv_aload_n hx hb dX2_changeStep_18 rfl (lv_at hl 0 rfl) ?_
    refine va_get (D := G.1) (ci := 2) (C := RX2) (T := TX2) (N := 10) hx hb hts iX2_changeStep_X2 hown hK.1 hP 0 rfl rfl 0 (by decide) (hts (.fieldLink RX2 10 "BoardClock" "now" "LBoardClock$State;") (List.mem_of_getElem? (i := 2) rfl)) (fun _ h9 => h9) rfl dX2_changeStep_19 ?_
    refine va_get (D := G.1) (ci := 1) (C := RX1) (T := TX1) (N := 18) hx hb hts iX2_changeStep_X1 hown hK.1 hP 6 rfl rfl 8 (by decide) (hts (.fieldLink RX2 71 "BoardClock$State" "step" "I") (List.mem_of_getElem? (i := 3) rfl)) (fun _ h9 => h9) rfl dX2_changeStep_22 ?_
    refine lv_topi (fun x4 ex4 => ?_)
    have hF := zc_letE ex4 hF
    refine lv_istore_n (lv' := [(2, .int x4), (0, .ref (ba 0)), (1, .int a1)]) hx hb dX2_changeStep_25 rfl hl (by decide) rfl (fun ls hl => ?_)
    refine lv_aload_n hx hb dX2_changeStep_26 rfl (lv_at hl 1 rfl) ?_
    refine va_get (D := G.1) (ci := 2) (C := RX2) (T := TX2) (N := 10) hx hb hts iX2_changeStep_X2 hown hK.1 hP 0 rfl rfl 0 (by decide) (hts (.fieldLink RX2 10 "BoardClock" "now" "LBoardClock$State;") (List.mem_of_getElem? (i := 2) rfl)) (fun _ h9 => h9) rfl dX2_changeStep_27 ?_
    refine lv_iload_n hx hb dX2_changeStep_30 rfl (lv_at hl 2 rfl) ?_
    refine va_put (D := G.1) (ci := 1) (v := .int a1) (ty := .int) (C := RX1) (T := TX1) (N := 18) hx hb hts iX2_changeStep_X1 tyX1 tyX1_ok nmX1 hown hK.1 hP hD hS 6 rfl rfl 8 (by decide) (hts (.fieldLink RX2 71 "BoardClock$State" "step" "I") (List.mem_of_getElem? (i := 3) rfl)) (fun _ h9 => h9) rfl (by decide +kernel) rfl rfl (Nat.le_of_ble_eq_true rfl) dX2_changeStep_31 (fun H locs hP _ hS => ?_)
    obtain ⟨b5, eb5, hF⟩ := zc_letX hF
    have hP : va_P G.1 vwCl (zc_bc G ba na pa b5) H := by rw [eb5]; exact hP
    have hD : va_D A (zc_bc G ba na pa b5) := zc_bcD hD
    refine lv_iload_n hx hb dX2_changeStep_34 rfl (lv_at hl 0 rfl) ?_
    obtain rfl := Option.some.inj hF
    exact W.iret hx hb hr (fun t ht hW => ⟨⟨_, (), rfl, rfl, zc_hp ht hP⟩, hS.F ht⟩) hS.2.2 dX2_changeStep_35
  · have hF := zc_pos c2 hF
    refine lv_ldc hx hb hown (hts (.constant RX2 110 (-1000000002)) (List.mem_of_getElem? (i := 1) rfl)) dX2_changeStep_11 ?_
    obtain rfl := Option.some.inj hF
    exact W.iret hx hb hr (fun t ht hW => ⟨⟨_, (), rfl, rfl, zc_hp ht hP⟩, hS.F ht⟩) hS.2.2 dX2_changeStep_13
def fX2_changeWider (b : zc_B) (a1 : Int32) : Option (Int32 × zc_B) := Option.bind (fX2_isWithin a1 (0 : Int32) (999 : Int32)) fun (r1 : Int32) => if r1 = 0 then (some ((-1000000002 : Int32), b)) else (Option.bind (fX2_remember b) fun (r3 : zc_B) => zc_let (r3.2.2.1.2.1 10) fun (x4 : Int32) => zc_let (zc_bs r3 (zc_sI r3.2.2.1 10 a1)) fun (b5 : zc_B) => some (x4, b5))
theorem iX2_changeWider_X1 : ∀ w ∈ wsX10, w ∈ wsX2_changeWider := fun _ h => List.mem_cons_of_mem _ (List.mem_append_left _ (List.mem_append_right _ h))
theorem iX2_changeWider_X2 : ∀ w ∈ wsX20, w ∈ wsX2_changeWider := fun _ h => List.mem_cons_of_mem _ (List.mem_append_left _ (List.mem_append_left _ (List.mem_append_right _ h)))
set_option maxHeartbeats 4000000 in
set_option maxRecDepth 100000 in
theorem kX2_changeWider (l : Launch) (G : zc_G) (ba na : Nat → Nat) (pa : Nat → Nat → Nat) (sz : Nat) {b : zc_B} {a1 : Int32} {r0 : Int32 × zc_B} (hF : fX2_changeWider b a1 = some r0) : Met l yX2_changeWider wsX2_changeWider ({ frames := 4, cells := 0, slots := 0, locals := 122 }) (zc_Pm G [.ref (ba 0), .int a1] (zc_bc G ba na pa b) sz) (zc_Qi G r0.1 (zc_bc G ba na pa r0.2) (va_A (zc_bc G ba na pa b) sz)) 0 0 (va_A (zc_bc G ba na pa b) sz) := by
  refine Met.ofW (cc := cX2_changeWider) (maxL := 3) (ret := (some .int)) (by decide) rfl ?_
  intro p e s m args below meth c s₁ B hml hv
  obtain ⟨rfl, hsz, hP, hK, hD0⟩ := hv
  have hx := B.exec
  have hb := B.bytes
  have hr := B.returns
  have hts := atoms_spec (ws := wsX2_changeWider) B.pre
  have hown : s.vm.findClass RX2 = some m.cls := findClass_of_methodNamed B.named
  have hlocks := B.notSynchronized
  subst hsz
  have hD := hD0.self (sz := s.heap.size)
  generalize hAe : va_A (zc_bc G ba na pa b) s.heap.size = A at hD ⊢
  have hA : ∀ q : Nat, s.heap.size ≤ q → A q := fun q h => by rw [← hAe]; exact Or.inr h
  have hS : va_S A s.heap s.heap [] := va_S.rf
  have hl := lv_entry ([.ref (ba 0), .int a1]) (n := 3) (Nat.le_of_ble_eq_true rfl)
  rw [lg_entry_eq]
  generalize (lg_sl ([.ref (ba 0), .int a1]) ++ List.replicate (3 - (lg_sl ([.ref (ba 0), .int a1])).length) Slot.unset).toArray = ls at hl ⊢
  have hl : lv_has ls 3 [(0, .ref (ba 0)), (1, .int a1)] := hl
  refine lv_iload_n hx hb dX2_changeWider_0 rfl (lv_at hl 1 rfl) ?_
  refine lv_iconst (v := (0 : Int32)) hx hb dX2_changeWider_1 (by decide) ?_
  refine lv_sipush (v := (999 : Int32)) hx hb dX2_changeWider_2 (by decide) ?_
  obtain ⟨r1, er1, hF⟩ := zc_bind hF
  refine zc_ci (va_runS (As := [.int _, .int _, .int _]) ⟨hx, hb, hml, hown, hts⟩ (kX2_isWithin l G er1) (va_cwS 3 hts gX2_changeWider_X2_isWithin rfl rfl rfl (by decide +kernel) ⟨Nat.le_of_ble_eq_true rfl, Nat.le_of_ble_eq_true rfl⟩) (zc_preS hK (show va_P G.1 vwCl [] _ from fun k q h => by simp at h)) rfl rfl hl.1 rfl (lv_room (Nat.le_of_ble_eq_true rfl)) dX2_changeWider_5 ⟨Nat.le_of_ble_eq_true rfl, Nat.le_of_ble_eq_true rfl⟩) ?_
  refine lv_if_ne (tgt := 14) hx hb dX2_changeWider_8 (by decide) (fun c2 => ?_) (fun c2 => ?_)
  · have hF := zc_neg c2 hF
    refine lv_aload_n hx hb dX2_changeWider_14 rfl (lv_at hl 0 rfl) ?_
    obtain ⟨r3, er3, hF⟩ := zc_bind hF
    refine zc_mvA hD hS hA (va_runV (As := []) ⟨hx, hb, hml, hown, hts⟩ (kX2_remember l G ba na pa _ er3) (cwV 0 hts gX2_changeWider_X2_remember rfl rfl rfl (by decide +kernel) ⟨Nat.le_of_ble_eq_true rfl, Nat.le_of_ble_eq_true rfl⟩) (zc_preVm hK hP hD 0 rfl rfl) rfl rfl hl.1 rfl (lv_room (Nat.le_of_ble_eq_true rfl)) dX2_changeWider_15 ⟨Nat.le_of_ble_eq_true rfl, Nat.le_of_ble_eq_true rfl⟩) (fun H locs hP hS => ?_)
    have hP : va_P G.1 vwCl (zc_bc G ba na pa r3) H := hP
    have hD : va_D A (zc_bc G ba na pa r3) := zc_bcD hD
    refine lv_aload_n hx hb dX2_changeWider_18 rfl (lv_at hl 0 rfl) ?_
    refine va_get (D := G.1) (ci := 2) (C := RX2) (T := TX2) (N := 10) hx hb hts iX2_changeWider_X2 hown hK.1 hP 0 rfl rfl 0 (by decide) (hts (.fieldLink RX2 10 "BoardClock" "now" "LBoardClock$State;") (List.mem_of_getElem? (i := 2) rfl)) (fun _ h9 => h9) rfl dX2_changeWider_19 ?_
    refine va_get (D := G.1) (ci := 1) (C := RX1) (T := TX1) (N := 18) hx hb hts iX2_changeWider_X1 hown hK.1 hP 6 rfl rfl 10 (by decide) (hts (.fieldLink RX2 74 "BoardClock$State" "wider" "I") (List.mem_of_getElem? (i := 3) rfl)) (fun _ h9 => h9) rfl dX2_changeWider_22 ?_
    refine lv_topi (fun x4 ex4 => ?_)
    have hF := zc_letE ex4 hF
    refine lv_istore_n (lv' := [(2, .int x4), (0, .ref (ba 0)), (1, .int a1)]) hx hb dX2_changeWider_25 rfl hl (by decide) rfl (fun ls hl => ?_)
    refine lv_aload_n hx hb dX2_changeWider_26 rfl (lv_at hl 1 rfl) ?_
    refine va_get (D := G.1) (ci := 2) (C := RX2) (T := TX2) (N := 10) hx hb hts iX2_changeWider_X2 hown hK.1 hP 0 rfl rfl 0 (by decide) (hts (.fieldLink RX2 10 "BoardClock" "now" "LBoardClock$State;") (List.mem_of_getElem? (i := 2) rfl)) (fun _ h9 => h9) rfl dX2_changeWider_27 ?_
    refine lv_iload_n hx hb dX2_changeWider_30 rfl (lv_at hl 2 rfl) ?_
    refine va_put (D := G.1) (ci := 1) (v := .int a1) (ty := .int) (C := RX1) (T := TX1) (N := 18) hx hb hts iX2_changeWider_X1 tyX1 tyX1_ok nmX1 hown hK.1 hP hD hS 6 rfl rfl 10 (by decide) (hts (.fieldLink RX2 74 "BoardClock$State" "wider" "I") (List.mem_of_getElem? (i := 3) rfl)) (fun _ h9 => h9) rfl (by decide +kernel) rfl rfl (Nat.le_of_ble_eq_true rfl) dX2_changeWider_31 (fun H locs hP _ hS => ?_)
    obtain ⟨b5, eb5, hF⟩ := zc_letX hF
    have hP : va_P G.1 vwCl (zc_bc G ba na pa b5) H := by rw [eb5]; exact hP
    have hD : va_D A (zc_bc G ba na pa b5) := zc_bcD hD
    refine lv_iload_n hx hb dX2_changeWider_34 rfl (lv_at hl 0 rfl) ?_
    obtain rfl := Option.some.inj hF
    exact W.iret hx hb hr (fun t ht hW => ⟨⟨_, (), rfl, rfl, zc_hp ht hP⟩, hS.F ht⟩) hS.2.2 dX2_changeWider_35
  · have hF := zc_pos c2 hF
    refine lv_ldc hx hb hown (hts (.constant RX2 110 (-1000000002)) (List.mem_of_getElem? (i := 1) rfl)) dX2_changeWider_11 ?_
    obtain rfl := Option.some.inj hF
    exact W.iret hx hb hr (fun t ht hW => ⟨⟨_, (), rfl, rfl, zc_hp ht hP⟩, hS.F ht⟩) hS.2.2 dX2_changeWider_13
def fX2_bound (b : zc_B) (a1 : Int32) (a2 : Int32) : Option (Int32 × zc_B) := if a1 = (0 : Int32) then (Option.bind (fX2_changeStep b a2) fun (r2 : Int32 × zc_B) => zc_let (r2.2) fun (b3 : zc_B) => some (r2.1, b3)) else (if a1 = (1 : Int32) then (Option.bind (fX2_changeWider b a2) fun (r5 : Int32 × zc_B) => zc_let (r5.2) fun (b6 : zc_B) => some (r5.1, b6)) else (some ((-1000000002 : Int32), b)))
set_option maxHeartbeats 4000000 in
set_option maxRecDepth 100000 in
theorem kX2_bound (l : Launch) (G : zc_G) (ba na : Nat → Nat) (pa : Nat → Nat → Nat) (sz : Nat) {b : zc_B} {a1 : Int32} {a2 : Int32} {r0 : Int32 × zc_B} (hF : fX2_bound b a1 a2 = some r0) : Met l yX2_bound wsX2_bound ({ frames := 5, cells := 0, slots := 0, locals := 144 }) (zc_Pm G [.ref (ba 0), .int a1, .int a2] (zc_bc G ba na pa b) sz) (zc_Qi G r0.1 (zc_bc G ba na pa r0.2) (va_A (zc_bc G ba na pa b) sz)) 0 0 (va_A (zc_bc G ba na pa b) sz) := by
  refine Met.ofW (cc := cX2_bound) (maxL := 3) (ret := (some .int)) (by decide) rfl ?_
  intro p e s m args below meth c s₁ B hml hv
  obtain ⟨rfl, hsz, hP, hK, hD0⟩ := hv
  have hx := B.exec
  have hb := B.bytes
  have hr := B.returns
  have hts := atoms_spec (ws := wsX2_bound) B.pre
  have hown : s.vm.findClass RX2 = some m.cls := findClass_of_methodNamed B.named
  have hlocks := B.notSynchronized
  subst hsz
  have hD := hD0.self (sz := s.heap.size)
  generalize hAe : va_A (zc_bc G ba na pa b) s.heap.size = A at hD ⊢
  have hA : ∀ q : Nat, s.heap.size ≤ q → A q := fun q h => by rw [← hAe]; exact Or.inr h
  have hS : va_S A s.heap s.heap [] := va_S.rf
  have hl := lv_entry ([.ref (ba 0), .int a1, .int a2]) (n := 3) (Nat.le_of_ble_eq_true rfl)
  rw [lg_entry_eq]
  generalize (lg_sl ([.ref (ba 0), .int a1, .int a2]) ++ List.replicate (3 - (lg_sl ([.ref (ba 0), .int a1, .int a2])).length) Slot.unset).toArray = ls at hl ⊢
  have hl : lv_has ls 3 [(0, .ref (ba 0)), (1, .int a1), (2, .int a2)] := hl
  refine lv_iload_n hx hb dX2_bound_0 rfl (lv_at hl 1 rfl) ?_
  by_cases c1 : a1 = (0 : Int32)
  · have hF := zc_pos c1 hF
    refine W.eq (g2 := F0 m 1 ls [.int (0 : Int32)]) (by rw [c1]) ?_
    refine lv_lookup (off := 27) (tgt := 28) hx hb dX2_bound_1 (by decide) (by decide) (by decide) ?_
    refine lv_aload_n hx hb dX2_bound_28 rfl (lv_at hl 0 rfl) ?_
    refine lv_iload_n hx hb dX2_bound_29 rfl (lv_at hl 2 rfl) ?_
    obtain ⟨r2, er2, hF⟩ := zc_bind hF
    refine zc_miA hD hS hA (va_runV (As := [.int _]) ⟨hx, hb, hml, hown, hts⟩ (kX2_changeStep l G ba na pa _ er2) (cwV 1 hts gX2_bound_X2_changeStep rfl rfl rfl (by decide +kernel) ⟨Nat.le_of_ble_eq_true rfl, Nat.le_of_ble_eq_true rfl⟩) (zc_preVm hK hP hD 0 rfl rfl) rfl rfl hl.1 rfl (lv_room (Nat.le_of_ble_eq_true rfl)) dX2_bound_30 ⟨Nat.le_of_ble_eq_true rfl, Nat.le_of_ble_eq_true rfl⟩) (fun H locs hP hS => ?_)
    obtain ⟨b3, eb3, hF⟩ := zc_letX hF
    have hP : va_P G.1 vwCl (zc_bc G ba na pa b3) H := by rw [eb3]; exact hP
    have hD : va_D A (zc_bc G ba na pa b3) := zc_bcD hD
    obtain rfl := Option.some.inj hF
    exact W.iret hx hb hr (fun t ht hW => ⟨⟨_, (), rfl, rfl, zc_hp ht hP⟩, hS.F ht⟩) hS.2.2 dX2_bound_33
  · have hF := zc_neg c1 hF
    by_cases c4 : a1 = (1 : Int32)
    · have hF := zc_pos c4 hF
      refine W.eq (g2 := F0 m 1 ls [.int (1 : Int32)]) (by rw [c4]) ?_
      refine lv_lookup (off := 33) (tgt := 34) hx hb dX2_bound_1 (by decide) (by decide) (by decide) ?_
      refine lv_aload_n hx hb dX2_bound_34 rfl (lv_at hl 0 rfl) ?_
      refine lv_iload_n hx hb dX2_bound_35 rfl (lv_at hl 2 rfl) ?_
      obtain ⟨r5, er5, hF⟩ := zc_bind hF
      refine zc_miA hD hS hA (va_runV (As := [.int _]) ⟨hx, hb, hml, hown, hts⟩ (kX2_changeWider l G ba na pa _ er5) (cwV 1 hts gX2_bound_X2_changeWider rfl rfl rfl (by decide +kernel) ⟨Nat.le_of_ble_eq_true rfl, Nat.le_of_ble_eq_true rfl⟩) (zc_preVm hK hP hD 0 rfl rfl) rfl rfl hl.1 rfl (lv_room (Nat.le_of_ble_eq_true rfl)) dX2_bound_36 ⟨Nat.le_of_ble_eq_true rfl, Nat.le_of_ble_eq_true rfl⟩) (fun H locs hP hS => ?_)
      obtain ⟨b6, eb6, hF⟩ := zc_letX hF
      have hP : va_P G.1 vwCl (zc_bc G ba na pa b6) H := by rw [eb6]; exact hP
      have hD : va_D A (zc_bc G ba na pa b6) := zc_bcD hD
      obtain rfl := Option.some.inj hF
      exact W.iret hx hb hr (fun t ht hW => ⟨⟨_, (), rfl, rfl, zc_hp ht hP⟩, hS.F ht⟩) hS.2.2 dX2_bound_39
    · have hF := zc_neg c4 hF
      refine lv_lookup (off := 39) (tgt := 40) hx hb dX2_bound_1 (by decide) (by show Op.lookupswitch.offset [(0, 27), (1, 33)] 39 _ = _; rw [lv_osw c1 (by decide), lv_osw c4 (by decide)]; rfl) (by decide) ?_
      refine lv_ldc hx hb hown (hts (.constant RX2 110 (-1000000002)) (List.mem_of_getElem? (i := 1) rfl)) dX2_bound_40 ?_
      obtain rfl := Option.some.inj hF
      exact W.iret hx hb hr (fun t ht hW => ⟨⟨_, (), rfl, rfl, zc_hp ht hP⟩, hS.F ht⟩) hS.2.2 dX2_bound_42
def fX2_power (b : zc_B) (a1 : Int32) : Option (Int32 × zc_B) := Option.bind (fX2_remember b) fun (r1 : zc_B) => Option.bind (fX2_asInt (r1.2.2.1.2.1 11)) fun (r2 : Int32) => zc_z a1 (zc_let (zc_bs r1 (zc_sI r1.2.2.1 11 a1)) fun (b4 : zc_B) => some (r2, b4))
theorem iX2_power_X1 : ∀ w ∈ wsX10, w ∈ wsX2_power := fun _ h => List.mem_cons_of_mem _ (List.mem_append_left _ (List.mem_append_right _ h))
theorem iX2_power_X2 : ∀ w ∈ wsX20, w ∈ wsX2_power := fun _ h => List.mem_cons_of_mem _ (List.mem_append_left _ (List.mem_append_left _ (List.mem_append_right _ h)))
set_option maxHeartbeats 4000000 in
set_option maxRecDepth 100000 in
theorem kX2_power (l : Launch) (G : zc_G) (ba na : Nat → Nat) (pa : Nat → Nat → Nat) (sz : Nat) {b : zc_B} {a1 : Int32} {r0 : Int32 × zc_B} (hF : fX2_power b a1 = some r0) : Met l yX2_power wsX2_power ({ frames := 4, cells := 0, slots := 0, locals := 122 }) (zc_Pm G [.ref (ba 0), .int a1] (zc_bc G ba na pa b) sz) (zc_Qi G r0.1 (zc_bc G ba na pa r0.2) (va_A (zc_bc G ba na pa b) sz)) 0 0 (va_A (zc_bc G ba na pa b) sz) := by
  refine Met.ofW (cc := cX2_power) (maxL := 3) (ret := (some .int)) (by decide) rfl ?_
  intro p e s m args below meth c s₁ B hml hv
  obtain ⟨rfl, hsz, hP, hK, hD0⟩ := hv
  have hx := B.exec
  have hb := B.bytes
  have hr := B.returns
  have hts := atoms_spec (ws := wsX2_power) B.pre
  have hown : s.vm.findClass RX2 = some m.cls := findClass_of_methodNamed B.named
  have hlocks := B.notSynchronized
  subst hsz
  have hD := hD0.self (sz := s.heap.size)
  generalize hAe : va_A (zc_bc G ba na pa b) s.heap.size = A at hD ⊢
  have hA : ∀ q : Nat, s.heap.size ≤ q → A q := fun q h => by rw [← hAe]; exact Or.inr h
  have hS : va_S A s.heap s.heap [] := va_S.rf
  have hl := lv_entry ([.ref (ba 0), .int a1]) (n := 3) (Nat.le_of_ble_eq_true rfl)
  rw [lg_entry_eq]
  generalize (lg_sl ([.ref (ba 0), .int a1]) ++ List.replicate (3 - (lg_sl ([.ref (ba 0), .int a1])).length) Slot.unset).toArray = ls at hl ⊢
  have hl : lv_has ls 3 [(0, .ref (ba 0)), (1, .int a1)] := hl
  refine lv_aload_n hx hb dX2_power_0 rfl (lv_at hl 0 rfl) ?_
  obtain ⟨r1, er1, hF⟩ := zc_bind hF
  refine zc_mvA hD hS hA (va_runV (As := []) ⟨hx, hb, hml, hown, hts⟩ (kX2_remember l G ba na pa _ er1) (cwV 0 hts gX2_power_X2_remember rfl rfl rfl (by decide +kernel) ⟨Nat.le_of_ble_eq_true rfl, Nat.le_of_ble_eq_true rfl⟩) (zc_preVm hK hP hD 0 rfl rfl) rfl rfl hl.1 rfl (lv_room (Nat.le_of_ble_eq_true rfl)) dX2_power_1 ⟨Nat.le_of_ble_eq_true rfl, Nat.le_of_ble_eq_true rfl⟩) (fun H locs hP hS => ?_)
  have hP : va_P G.1 vwCl (zc_bc G ba na pa r1) H := hP
  have hD : va_D A (zc_bc G ba na pa r1) := zc_bcD hD
  refine lv_aload_n hx hb dX2_power_4 rfl (lv_at hl 0 rfl) ?_
  refine va_get (D := G.1) (ci := 2) (C := RX2) (T := TX2) (N := 10) hx hb hts iX2_power_X2 hown hK.1 hP 0 rfl rfl 0 (by decide) (hts (.fieldLink RX2 10 "BoardClock" "now" "LBoardClock$State;") (List.mem_of_getElem? (i := 1) rfl)) (fun _ h9 => h9) rfl dX2_power_5 ?_
  refine va_get (D := G.1) (ci := 1) (C := RX1) (T := TX1) (N := 18) hx hb hts iX2_power_X1 hown hK.1 hP 6 rfl rfl 11 (by decide) (hts (.fieldLink RX2 77 "BoardClock$State" "powered" "Z") (List.mem_of_getElem? (i := 2) rfl)) (fun _ h9 => h9) rfl dX2_power_8 ?_
  obtain ⟨r2, er2, hF⟩ := zc_bind hF
  refine zc_ci (va_runS (As := [.int _]) ⟨hx, hb, hml, hown, hts⟩ (kX2_asInt l G er2) (va_cwS 1 hts gX2_power_X2_asInt rfl rfl rfl (by decide +kernel) ⟨Nat.le_of_ble_eq_true rfl, Nat.le_of_ble_eq_true rfl⟩) (zc_preS hK (show va_P G.1 vwCl [] _ from fun k q h => by simp at h)) rfl rfl hl.1 rfl (lv_room (Nat.le_of_ble_eq_true rfl)) dX2_power_11 ⟨Nat.le_of_ble_eq_true rfl, Nat.le_of_ble_eq_true rfl⟩) ?_
  refine lv_istore_n (lv' := [(2, .int r2), (0, .ref (ba 0)), (1, .int a1)]) hx hb dX2_power_14 rfl hl (by decide) rfl (fun ls hl => ?_)
  refine lv_aload_n hx hb dX2_power_15 rfl (lv_at hl 1 rfl) ?_
  refine va_get (D := G.1) (ci := 2) (C := RX2) (T := TX2) (N := 10) hx hb hts iX2_power_X2 hown hK.1 hP 0 rfl rfl 0 (by decide) (hts (.fieldLink RX2 10 "BoardClock" "now" "LBoardClock$State;") (List.mem_of_getElem? (i := 1) rfl)) (fun _ h9 => h9) rfl dX2_power_16 ?_
  refine lv_iload_n hx hb dX2_power_19 rfl (lv_at hl 2 rfl) ?_
  obtain ⟨hz3, hF⟩ := zc_zE hF
  refine va_put (D := G.1) (ci := 1) (v := .int a1) (ty := .boolean) (C := RX1) (T := TX1) (N := 18) hx hb hts iX2_power_X1 tyX1 tyX1_ok nmX1 hown hK.1 hP hD hS 6 rfl rfl 11 (by decide) (hts (.fieldLink RX2 77 "BoardClock$State" "powered" "Z") (List.mem_of_getElem? (i := 2) rfl)) (fun _ h9 => h9) rfl (by decide +kernel) hz3.1 hz3.2 (Nat.le_of_ble_eq_true rfl) dX2_power_20 (fun H locs hP _ hS => ?_)
  obtain ⟨b4, eb4, hF⟩ := zc_letX hF
  have hP : va_P G.1 vwCl (zc_bc G ba na pa b4) H := by rw [eb4]; exact hP
  have hD : va_D A (zc_bc G ba na pa b4) := zc_bcD hD
  refine lv_iload_n hx hb dX2_power_23 rfl (lv_at hl 0 rfl) ?_
  obtain rfl := Option.some.inj hF
  exact W.iret hx hb hr (fun t ht hW => ⟨⟨_, (), rfl, rfl, zc_hp ht hP⟩, hS.F ht⟩) hS.2.2 dX2_power_24
def fX2_hear (b : zc_B) (a1 : Int32) (a2 : Int32) : Option (Int32 × zc_B) := Option.bind (fX2_isWithin a1 (-9999 : Int32) (9999 : Int32)) fun (r1 : Int32) => if r1 = 0 then (some ((-1000000002 : Int32), b)) else (Option.bind (fX2_isWithin a2 (0 : Int32) (5000 : Int32)) fun (r3 : Int32) => if r3 = 0 then (some ((-1000000002 : Int32), b)) else (Option.bind (fX2_remember b) fun (r5 : zc_B) => Option.bind (fX1_takeIn r5.2.2.1 a1 a2) fun (r6 : Int32 × zc_S) => zc_let (zc_bs r5 r6.2) fun (b7 : zc_B) => Option.bind (fX2_asInt r6.1) fun (r8 : Int32) => some (r8, b7)))
theorem iX2_hear_X2 : ∀ w ∈ wsX20, w ∈ wsX2_hear := fun _ h => List.mem_cons_of_mem _ (List.mem_append_left _ (List.mem_append_left _ (List.mem_append_right _ h)))
set_option maxHeartbeats 4000000 in
set_option maxRecDepth 100000 in
theorem kX2_hear (l : Launch) (G : zc_G) (ba na : Nat → Nat) (pa : Nat → Nat → Nat) (sz : Nat) {b : zc_B} {a1 : Int32} {a2 : Int32} {r0 : Int32 × zc_B} (hF : fX2_hear b a1 a2 = some r0) : Met l yX2_hear wsX2_hear ({ frames := 4, cells := 0, slots := 0, locals := 122 }) (zc_Pm G [.ref (ba 0), .int a1, .int a2] (zc_bc G ba na pa b) sz) (zc_Qi G r0.1 (zc_bc G ba na pa r0.2) (va_A (zc_bc G ba na pa b) sz)) 0 0 (va_A (zc_bc G ba na pa b) sz) := by
  refine Met.ofW (cc := cX2_hear) (maxL := 3) (ret := (some .int)) (by decide) rfl ?_
  intro p e s m args below meth c s₁ B hml hv
  obtain ⟨rfl, hsz, hP, hK, hD0⟩ := hv
  have hx := B.exec
  have hb := B.bytes
  have hr := B.returns
  have hts := atoms_spec (ws := wsX2_hear) B.pre
  have hown : s.vm.findClass RX2 = some m.cls := findClass_of_methodNamed B.named
  have hlocks := B.notSynchronized
  subst hsz
  have hD := hD0.self (sz := s.heap.size)
  generalize hAe : va_A (zc_bc G ba na pa b) s.heap.size = A at hD ⊢
  have hA : ∀ q : Nat, s.heap.size ≤ q → A q := fun q h => by rw [← hAe]; exact Or.inr h
  have hS : va_S A s.heap s.heap [] := va_S.rf
  have hl := lv_entry ([.ref (ba 0), .int a1, .int a2]) (n := 3) (Nat.le_of_ble_eq_true rfl)
  rw [lg_entry_eq]
  generalize (lg_sl ([.ref (ba 0), .int a1, .int a2]) ++ List.replicate (3 - (lg_sl ([.ref (ba 0), .int a1, .int a2])).length) Slot.unset).toArray = ls at hl ⊢
  have hl : lv_has ls 3 [(0, .ref (ba 0)), (1, .int a1), (2, .int a2)] := hl
  refine lv_iload_n hx hb dX2_hear_0 rfl (lv_at hl 1 rfl) ?_
  refine lv_sipush (v := (-9999 : Int32)) hx hb dX2_hear_1 (by decide) ?_
  refine lv_sipush (v := (9999 : Int32)) hx hb dX2_hear_4 (by decide) ?_
  obtain ⟨r1, er1, hF⟩ := zc_bind hF
  refine zc_ci (va_runS (As := [.int _, .int _, .int _]) ⟨hx, hb, hml, hown, hts⟩ (kX2_isWithin l G er1) (va_cwS 3 hts gX2_hear_X2_isWithin rfl rfl rfl (by decide +kernel) ⟨Nat.le_of_ble_eq_true rfl, Nat.le_of_ble_eq_true rfl⟩) (zc_preS hK (show va_P G.1 vwCl [] _ from fun k q h => by simp at h)) rfl rfl hl.1 rfl (lv_room (Nat.le_of_ble_eq_true rfl)) dX2_hear_7 ⟨Nat.le_of_ble_eq_true rfl, Nat.le_of_ble_eq_true rfl⟩) ?_
  refine lv_if_eq (tgt := 24) hx hb dX2_hear_10 (by decide) (fun c2 => ?_) (fun c2 => ?_)
  · have hF := zc_pos c2 hF
    refine lv_ldc hx hb hown (hts (.constant RX2 110 (-1000000002)) (List.mem_of_getElem? (i := 1) rfl)) dX2_hear_24 ?_
    obtain rfl := Option.some.inj hF
    exact W.iret hx hb hr (fun t ht hW => ⟨⟨_, (), rfl, rfl, zc_hp ht hP⟩, hS.F ht⟩) hS.2.2 dX2_hear_26
  · have hF := zc_neg c2 hF
    refine lv_iload_n hx hb dX2_hear_13 rfl (lv_at hl 2 rfl) ?_
    refine lv_iconst (v := (0 : Int32)) hx hb dX2_hear_14 (by decide) ?_
    refine lv_sipush (v := (5000 : Int32)) hx hb dX2_hear_15 (by decide) ?_
    obtain ⟨r3, er3, hF⟩ := zc_bind hF
    refine zc_ci (va_runS (As := [.int _, .int _, .int _]) ⟨hx, hb, hml, hown, hts⟩ (kX2_isWithin l G er3) (va_cwS 3 hts gX2_hear_X2_isWithin rfl rfl rfl (by decide +kernel) ⟨Nat.le_of_ble_eq_true rfl, Nat.le_of_ble_eq_true rfl⟩) (zc_preS hK (show va_P G.1 vwCl [] _ from fun k q h => by simp at h)) rfl rfl hl.1 rfl (lv_room (Nat.le_of_ble_eq_true rfl)) dX2_hear_18 ⟨Nat.le_of_ble_eq_true rfl, Nat.le_of_ble_eq_true rfl⟩) ?_
    refine lv_if_ne (tgt := 27) hx hb dX2_hear_21 (by decide) (fun c4 => ?_) (fun c4 => ?_)
    · have hF := zc_neg c4 hF
      refine lv_aload_n hx hb dX2_hear_27 rfl (lv_at hl 0 rfl) ?_
      obtain ⟨r5, er5, hF⟩ := zc_bind hF
      refine zc_mvA hD hS hA (va_runV (As := []) ⟨hx, hb, hml, hown, hts⟩ (kX2_remember l G ba na pa _ er5) (cwV 0 hts gX2_hear_X2_remember rfl rfl rfl (by decide +kernel) ⟨Nat.le_of_ble_eq_true rfl, Nat.le_of_ble_eq_true rfl⟩) (zc_preVm hK hP hD 0 rfl rfl) rfl rfl hl.1 rfl (lv_room (Nat.le_of_ble_eq_true rfl)) dX2_hear_28 ⟨Nat.le_of_ble_eq_true rfl, Nat.le_of_ble_eq_true rfl⟩) (fun H locs hP hS => ?_)
      have hP : va_P G.1 vwCl (zc_bc G ba na pa r5) H := hP
      have hD : va_D A (zc_bc G ba na pa r5) := zc_bcD hD
      refine lv_aload_n hx hb dX2_hear_31 rfl (lv_at hl 0 rfl) ?_
      refine va_get (D := G.1) (ci := 2) (C := RX2) (T := TX2) (N := 10) hx hb hts iX2_hear_X2 hown hK.1 hP 0 rfl rfl 0 (by decide) (hts (.fieldLink RX2 10 "BoardClock" "now" "LBoardClock$State;") (List.mem_of_getElem? (i := 2) rfl)) (fun _ h9 => h9) rfl dX2_hear_32 ?_
      refine lv_iload_n hx hb dX2_hear_35 rfl (lv_at hl 1 rfl) ?_
      refine lv_iload_n hx hb dX2_hear_36 rfl (lv_at hl 2 rfl) ?_
      obtain ⟨r6, er6, hF⟩ := zc_bind hF
      refine zc_mi (X := zc_bx G ba na pa r5) (pl := zc_pool G pa r5.2.2.2) (wc := zc_st G na r5.2.2.1) (w1 := zc_st G na r6.2) (wr := zc_b6 G ba na pa r5) hP hD hS hA [6, 7, 8, 9, 10, 11, 12] [0, 1, 2, 3, 4, 5] rfl (by decide) rfl (by decide) (by decide) rfl (va_runV (As := [.int _, .int _]) ⟨hx, hb, hml, hown, hts⟩ (kX1_takeIn l G na _ er6) (cwV 2 hts gX2_hear_X1_takeIn rfl rfl rfl (by decide +kernel) ⟨Nat.le_of_ble_eq_true rfl, Nat.le_of_ble_eq_true rfl⟩) (zc_preVm hK (hP.sub (ws' := zc_st G na r5.2.2.1) [6, 7, 8, 9, 10, 11, 12] rfl) (hD.sub (ws' := zc_st G na r5.2.2.1) [6, 7, 8, 9, 10, 11, 12] (by decide) rfl) 0 rfl rfl) rfl rfl hl.1 rfl (lv_room (Nat.le_of_ble_eq_true rfl)) dX2_hear_37 ⟨Nat.le_of_ble_eq_true rfl, Nat.le_of_ble_eq_true rfl⟩) (fun H locs hP _ hS => ?_)
      obtain ⟨b7, eb7, hF⟩ := zc_letX hF
      have hP : va_P G.1 vwCl (zc_bc G ba na pa b7) H := by rw [eb7]; exact hP
      have hD : va_D A (zc_bc G ba na pa b7) := zc_bcD hD
      obtain ⟨r8, er8, hF⟩ := zc_bind hF
      refine zc_ci (va_runS (As := [.int _]) ⟨hx, hb, hml, hown, hts⟩ (kX2_asInt l G er8) (va_cwS 1 hts gX2_hear_X2_asInt rfl rfl rfl (by decide +kernel) ⟨Nat.le_of_ble_eq_true rfl, Nat.le_of_ble_eq_true rfl⟩) (zc_preS hK (show va_P G.1 vwCl [] _ from fun k q h => by simp at h)) rfl rfl hl.1 rfl (lv_room (Nat.le_of_ble_eq_true rfl)) dX2_hear_40 ⟨Nat.le_of_ble_eq_true rfl, Nat.le_of_ble_eq_true rfl⟩) ?_
      obtain rfl := Option.some.inj hF
      exact W.iret hx hb hr (fun t ht hW => ⟨⟨_, (), rfl, rfl, zc_hp ht hP⟩, hS.F ht⟩) hS.2.2 dX2_hear_43
    · have hF := zc_pos c4 hF
      refine lv_ldc hx hb hown (hts (.constant RX2 110 (-1000000002)) (List.mem_of_getElem? (i := 1) rfl)) dX2_hear_24 ?_
      obtain rfl := Option.some.inj hF
      exact W.iret hx hb hr (fun t ht hW => ⟨⟨_, (), rfl, rfl, zc_hp ht hP⟩, hS.F ht⟩) hS.2.2 dX2_hear_26
def fX2_alarm (b : zc_B) (a1 : Int32) (a2 : Int32) (a3 : Int32) : Option (Int32 × zc_B) := Option.bind (fX2_isWithin a1 (-1 : Int32) (59 : Int32)) fun (r1 : Int32) => if r1 = 0 then (some ((-1000000002 : Int32), b)) else (Option.bind (fX2_isWithin a2 (-1 : Int32) (23 : Int32)) fun (r3 : Int32) => if r3 = 0 then (some ((-1000000002 : Int32), b)) else (Option.bind (fX2_isWithin a3 (-1 : Int32) (6 : Int32)) fun (r5 : Int32) => if r5 = 0 then (some ((-1000000002 : Int32), b)) else (if (b.2.2.1.2.2.2.1) < (6 : Int32) then (Option.bind (fX2_remember b) fun (r8 : zc_B) => Option.bind (fX0_add r8.2.2.1.2.2.2 a1 a2 a3) fun (r9 : Int32 × zc_Q) => zc_let (zc_bs r8 (zc_sq r8.2.2.1 r9.2)) fun (b10 : zc_B) => some (r9.1, b10)) else (some ((-1000000004 : Int32), b)))))
theorem iX2_alarm_X0 : ∀ w ∈ wsX00, w ∈ wsX2_alarm := fun _ h => List.mem_cons_of_mem _ (List.mem_append_right _ h)
theorem iX2_alarm_X1 : ∀ w ∈ wsX10, w ∈ wsX2_alarm := fun _ h => List.mem_cons_of_mem _ (List.mem_append_left _ (List.mem_append_right _ h))
theorem iX2_alarm_X2 : ∀ w ∈ wsX20, w ∈ wsX2_alarm := fun _ h => List.mem_cons_of_mem _ (List.mem_append_left _ (List.mem_append_left _ (List.mem_append_right _ h)))
set_option maxHeartbeats 4000000 in
set_option maxRecDepth 100000 in
theorem kX2_alarm (l : Launch) (G : zc_G) (ba na : Nat → Nat) (pa : Nat → Nat → Nat) (sz : Nat) {b : zc_B} {a1 : Int32} {a2 : Int32} {a3 : Int32} {r0 : Int32 × zc_B} (hF : fX2_alarm b a1 a2 a3 = some r0) : Met l yX2_alarm wsX2_alarm ({ frames := 4, cells := 0, slots := 0, locals := 122 }) (zc_Pm G [.ref (ba 0), .int a1, .int a2, .int a3] (zc_bc G ba na pa b) sz) (zc_Qi G r0.1 (zc_bc G ba na pa r0.2) (va_A (zc_bc G ba na pa b) sz)) 0 0 (va_A (zc_bc G ba na pa b) sz) := by
  refine Met.ofW (cc := cX2_alarm) (maxL := 4) (ret := (some .int)) (by decide) rfl ?_
  intro p e s m args below meth c s₁ B hml hv
  obtain ⟨rfl, hsz, hP, hK, hD0⟩ := hv
  have hx := B.exec
  have hb := B.bytes
  have hr := B.returns
  have hts := atoms_spec (ws := wsX2_alarm) B.pre
  have hown : s.vm.findClass RX2 = some m.cls := findClass_of_methodNamed B.named
  have hlocks := B.notSynchronized
  subst hsz
  have hD := hD0.self (sz := s.heap.size)
  generalize hAe : va_A (zc_bc G ba na pa b) s.heap.size = A at hD ⊢
  have hA : ∀ q : Nat, s.heap.size ≤ q → A q := fun q h => by rw [← hAe]; exact Or.inr h
  have hS : va_S A s.heap s.heap [] := va_S.rf
  have hl := lv_entry ([.ref (ba 0), .int a1, .int a2, .int a3]) (n := 4) (Nat.le_of_ble_eq_true rfl)
  rw [lg_entry_eq]
  generalize (lg_sl ([.ref (ba 0), .int a1, .int a2, .int a3]) ++ List.replicate (4 - (lg_sl ([.ref (ba 0), .int a1, .int a2, .int a3])).length) Slot.unset).toArray = ls at hl ⊢
  have hl : lv_has ls 4 [(0, .ref (ba 0)), (1, .int a1), (2, .int a2), (3, .int a3)] := hl
  refine lv_iload_n hx hb dX2_alarm_0 rfl (lv_at hl 1 rfl) ?_
  refine lv_iconst (v := (-1 : Int32)) hx hb dX2_alarm_1 (by decide) ?_
  refine lv_bipush (v := (59 : Int32)) hx hb dX2_alarm_2 (by decide) ?_
  obtain ⟨r1, er1, hF⟩ := zc_bind hF
  refine zc_ci (va_runS (As := [.int _, .int _, .int _]) ⟨hx, hb, hml, hown, hts⟩ (kX2_isWithin l G er1) (va_cwS 3 hts gX2_alarm_X2_isWithin rfl rfl rfl (by decide +kernel) ⟨Nat.le_of_ble_eq_true rfl, Nat.le_of_ble_eq_true rfl⟩) (zc_preS hK (show va_P G.1 vwCl [] _ from fun k q h => by simp at h)) rfl rfl hl.1 rfl (lv_room (Nat.le_of_ble_eq_true rfl)) dX2_alarm_4 ⟨Nat.le_of_ble_eq_true rfl, Nat.le_of_ble_eq_true rfl⟩) ?_
  refine lv_if_eq (tgt := 30) hx hb dX2_alarm_7 (by decide) (fun c2 => ?_) (fun c2 => ?_)
  · have hF := zc_pos c2 hF
    refine lv_ldc hx hb hown (hts (.constant RX2 110 (-1000000002)) (List.mem_of_getElem? (i := 1) rfl)) dX2_alarm_30 ?_
    obtain rfl := Option.some.inj hF
    exact W.iret hx hb hr (fun t ht hW => ⟨⟨_, (), rfl, rfl, zc_hp ht hP⟩, hS.F ht⟩) hS.2.2 dX2_alarm_32
  · have hF := zc_neg c2 hF
    refine lv_iload_n hx hb dX2_alarm_10 rfl (lv_at hl 2 rfl) ?_
    refine lv_iconst (v := (-1 : Int32)) hx hb dX2_alarm_11 (by decide) ?_
    refine lv_bipush (v := (23 : Int32)) hx hb dX2_alarm_12 (by decide) ?_
    obtain ⟨r3, er3, hF⟩ := zc_bind hF
    refine zc_ci (va_runS (As := [.int _, .int _, .int _]) ⟨hx, hb, hml, hown, hts⟩ (kX2_isWithin l G er3) (va_cwS 3 hts gX2_alarm_X2_isWithin rfl rfl rfl (by decide +kernel) ⟨Nat.le_of_ble_eq_true rfl, Nat.le_of_ble_eq_true rfl⟩) (zc_preS hK (show va_P G.1 vwCl [] _ from fun k q h => by simp at h)) rfl rfl hl.1 rfl (lv_room (Nat.le_of_ble_eq_true rfl)) dX2_alarm_14 ⟨Nat.le_of_ble_eq_true rfl, Nat.le_of_ble_eq_true rfl⟩) ?_
    refine lv_if_eq (tgt := 30) hx hb dX2_alarm_17 (by decide) (fun c4 => ?_) (fun c4 => ?_)
    · have hF := zc_pos c4 hF
      refine lv_ldc hx hb hown (hts (.constant RX2 110 (-1000000002)) (List.mem_of_getElem? (i := 1) rfl)) dX2_alarm_30 ?_
      obtain rfl := Option.some.inj hF
      exact W.iret hx hb hr (fun t ht hW => ⟨⟨_, (), rfl, rfl, zc_hp ht hP⟩, hS.F ht⟩) hS.2.2 dX2_alarm_32
    · have hF := zc_neg c4 hF
      refine lv_iload_n hx hb dX2_alarm_20 rfl (lv_at hl 3 rfl) ?_
      refine lv_iconst (v := (-1 : Int32)) hx hb dX2_alarm_21 (by decide) ?_
      refine lv_bipush (v := (6 : Int32)) hx hb dX2_alarm_22 (by decide) ?_
      obtain ⟨r5, er5, hF⟩ := zc_bind hF
      refine zc_ci (va_runS (As := [.int _, .int _, .int _]) ⟨hx, hb, hml, hown, hts⟩ (kX2_isWithin l G er5) (va_cwS 3 hts gX2_alarm_X2_isWithin rfl rfl rfl (by decide +kernel) ⟨Nat.le_of_ble_eq_true rfl, Nat.le_of_ble_eq_true rfl⟩) (zc_preS hK (show va_P G.1 vwCl [] _ from fun k q h => by simp at h)) rfl rfl hl.1 rfl (lv_room (Nat.le_of_ble_eq_true rfl)) dX2_alarm_24 ⟨Nat.le_of_ble_eq_true rfl, Nat.le_of_ble_eq_true rfl⟩) ?_
      refine lv_if_ne (tgt := 33) hx hb dX2_alarm_27 (by decide) (fun c6 => ?_) (fun c6 => ?_)
      · have hF := zc_neg c6 hF
        refine lv_aload_n hx hb dX2_alarm_33 rfl (lv_at hl 0 rfl) ?_
        refine va_get (D := G.1) (ci := 2) (C := RX2) (T := TX2) (N := 10) hx hb hts iX2_alarm_X2 hown hK.1 hP 0 rfl rfl 0 (by decide) (hts (.fieldLink RX2 10 "BoardClock" "now" "LBoardClock$State;") (List.mem_of_getElem? (i := 2) rfl)) (fun _ h9 => h9) rfl dX2_alarm_34 ?_
        refine va_get (D := G.1) (ci := 1) (C := RX1) (T := TX1) (N := 18) hx hb hts iX2_alarm_X1 hown hK.1 hP 6 rfl rfl 17 (by decide) (hts (.fieldLink RX2 91 "BoardClock$State" "alarms" "LBoardClock$Alarms;") (List.mem_of_getElem? (i := 3) rfl)) (fun _ h9 => h9) rfl dX2_alarm_37 ?_
        refine va_get (D := G.1) (ci := 0) (C := RX0) (T := TX0) (N := 5) hx hb hts iX2_alarm_X0 hown hK.1 hP 8 rfl rfl 0 (by decide) (hts (.fieldLink RX2 95 "BoardClock$Alarms" "count" "I") (List.mem_of_getElem? (i := 4) rfl)) (fun _ h9 => h9) rfl dX2_alarm_40 ?_
        refine lv_bipush (v := (6 : Int32)) hx hb dX2_alarm_43 (by decide) ?_
        refine lv_icmp_lt (tgt := 51) hx hb dX2_alarm_45 (by decide) (fun c7 => ?_) (fun c7 => ?_)
        · have hF := zc_pos c7 hF
          refine lv_aload_n hx hb dX2_alarm_51 rfl (lv_at hl 0 rfl) ?_
          obtain ⟨r8, er8, hF⟩ := zc_bind hF
          refine zc_mvA hD hS hA (va_runV (As := []) ⟨hx, hb, hml, hown, hts⟩ (kX2_remember l G ba na pa _ er8) (cwV 0 hts gX2_alarm_X2_remember rfl rfl rfl (by decide +kernel) ⟨Nat.le_of_ble_eq_true rfl, Nat.le_of_ble_eq_true rfl⟩) (zc_preVm hK hP hD 0 rfl rfl) rfl rfl hl.1 rfl (lv_room (Nat.le_of_ble_eq_true rfl)) dX2_alarm_52 ⟨Nat.le_of_ble_eq_true rfl, Nat.le_of_ble_eq_true rfl⟩) (fun H locs hP hS => ?_)
          have hP : va_P G.1 vwCl (zc_bc G ba na pa r8) H := hP
          have hD : va_D A (zc_bc G ba na pa r8) := zc_bcD hD
          refine lv_aload_n hx hb dX2_alarm_55 rfl (lv_at hl 0 rfl) ?_
          refine va_get (D := G.1) (ci := 2) (C := RX2) (T := TX2) (N := 10) hx hb hts iX2_alarm_X2 hown hK.1 hP 0 rfl rfl 0 (by decide) (hts (.fieldLink RX2 10 "BoardClock" "now" "LBoardClock$State;") (List.mem_of_getElem? (i := 2) rfl)) (fun _ h9 => h9) rfl dX2_alarm_56 ?_
          refine va_get (D := G.1) (ci := 1) (C := RX1) (T := TX1) (N := 18) hx hb hts iX2_alarm_X1 hown hK.1 hP 6 rfl rfl 17 (by decide) (hts (.fieldLink RX2 91 "BoardClock$State" "alarms" "LBoardClock$Alarms;") (List.mem_of_getElem? (i := 3) rfl)) (fun _ h9 => h9) rfl dX2_alarm_59 ?_
          refine lv_iload_n hx hb dX2_alarm_62 rfl (lv_at hl 1 rfl) ?_
          refine lv_iload_n hx hb dX2_alarm_63 rfl (lv_at hl 2 rfl) ?_
          refine lv_iload_n hx hb dX2_alarm_64 rfl (lv_at hl 3 rfl) ?_
          obtain ⟨r9, er9, hF⟩ := zc_bind hF
          refine zc_mi (X := zc_bx G ba na pa r8) (pl := zc_pool G pa r8.2.2.2) (wc := zc_al G na r8.2.2.1.2.2.2) (w1 := zc_al G na r9.2) (wr := zc_b6 G ba na pa r8 ++ (zc_st G na r8.2.2.1).take 2) hP hD hS hA [8, 9, 10, 11, 12] [0, 1, 2, 3, 4, 5, 6, 7] rfl (by decide) rfl (by decide) (by decide) rfl (va_runV (As := [.int _, .int _, .int _]) ⟨hx, hb, hml, hown, hts⟩ (kX0_add l G na _ er9) (cwV 3 hts gX2_alarm_X0_add rfl rfl rfl (by decide +kernel) ⟨Nat.le_of_ble_eq_true rfl, Nat.le_of_ble_eq_true rfl⟩) (zc_preVm hK (hP.sub (ws' := zc_al G na r8.2.2.1.2.2.2) [8, 9, 10, 11, 12] rfl) (hD.sub (ws' := zc_al G na r8.2.2.1.2.2.2) [8, 9, 10, 11, 12] (by decide) rfl) 0 rfl rfl) rfl rfl hl.1 rfl (lv_room (Nat.le_of_ble_eq_true rfl)) dX2_alarm_65 ⟨Nat.le_of_ble_eq_true rfl, Nat.le_of_ble_eq_true rfl⟩) (fun H locs hP _ hS => ?_)
          obtain ⟨b10, eb10, hF⟩ := zc_letX hF
          have hP : va_P G.1 vwCl (zc_bc G ba na pa b10) H := by rw [eb10]; exact hP
          have hD : va_D A (zc_bc G ba na pa b10) := zc_bcD hD
          obtain rfl := Option.some.inj hF
          exact W.iret hx hb hr (fun t ht hW => ⟨⟨_, (), rfl, rfl, zc_hp ht hP⟩, hS.F ht⟩) hS.2.2 dX2_alarm_68
        · have hF := zc_neg c7 hF
          refine lv_ldc hx hb hown (hts (.constant RX2 196 (-1000000004)) (List.mem_of_getElem? (i := 5) rfl)) dX2_alarm_48 ?_
          obtain rfl := Option.some.inj hF
          exact W.iret hx hb hr (fun t ht hW => ⟨⟨_, (), rfl, rfl, zc_hp ht hP⟩, hS.F ht⟩) hS.2.2 dX2_alarm_50
      · have hF := zc_pos c6 hF
        refine lv_ldc hx hb hown (hts (.constant RX2 110 (-1000000002)) (List.mem_of_getElem? (i := 1) rfl)) dX2_alarm_30 ?_
        obtain rfl := Option.some.inj hF
        exact W.iret hx hb hr (fun t ht hW => ⟨⟨_, (), rfl, rfl, zc_hp ht hP⟩, hS.F ht⟩) hS.2.2 dX2_alarm_32
def fX2_drop (N : Nat) (b : zc_B) (a1 : Int32) : Option (Int32 × zc_B) := Option.bind (fX0_has b.2.2.1.2.2.2 a1) fun (r1 : Int32) => if r1 = 0 then (some ((-1000000001 : Int32), b)) else (Option.bind (fX2_remember b) fun (r3 : zc_B) => Option.bind (fX0_remove N r3.2.2.1.2.2.2 a1) fun (r4 : zc_Q) => zc_let (zc_bs r3 (zc_sq r3.2.2.1 r4)) fun (b5 : zc_B) => some ((b5.2.2.1.2.2.2.1), b5))
theorem iX2_drop_X0 : ∀ w ∈ wsX00, w ∈ wsX2_drop := fun _ h => List.mem_cons_of_mem _ (List.mem_append_right _ h)
theorem iX2_drop_X1 : ∀ w ∈ wsX10, w ∈ wsX2_drop := fun _ h => List.mem_cons_of_mem _ (List.mem_append_left _ (List.mem_append_right _ h))
theorem iX2_drop_X2 : ∀ w ∈ wsX20, w ∈ wsX2_drop := fun _ h => List.mem_cons_of_mem _ (List.mem_append_left _ (List.mem_append_left _ (List.mem_append_right _ h)))
set_option maxHeartbeats 4000000 in
set_option maxRecDepth 100000 in
theorem kX2_drop (l : Launch) (G : zc_G) (ba na : Nat → Nat) (pa : Nat → Nat → Nat) (sz : Nat) {N : Nat} {b : zc_B} {a1 : Int32} {r0 : Int32 × zc_B} (hF : fX2_drop N b a1 = some r0) : Met l yX2_drop wsX2_drop ({ frames := 4, cells := 0, slots := 0, locals := 122 }) (zc_Pm G [.ref (ba 0), .int a1] (zc_bc G ba na pa b) sz) (zc_Qi G r0.1 (zc_bc G ba na pa r0.2) (va_A (zc_bc G ba na pa b) sz)) 0 0 (va_A (zc_bc G ba na pa b) sz) := by
  refine Met.ofW (cc := cX2_drop) (maxL := 2) (ret := (some .int)) (by decide) rfl ?_
  intro p e s m args below meth c s₁ B hml hv
  obtain ⟨rfl, hsz, hP, hK, hD0⟩ := hv
  have hx := B.exec
  have hb := B.bytes
  have hr := B.returns
  have hts := atoms_spec (ws := wsX2_drop) B.pre
  have hown : s.vm.findClass RX2 = some m.cls := findClass_of_methodNamed B.named
  have hlocks := B.notSynchronized
  subst hsz
  have hD := hD0.self (sz := s.heap.size)
  generalize hAe : va_A (zc_bc G ba na pa b) s.heap.size = A at hD ⊢
  have hA : ∀ q : Nat, s.heap.size ≤ q → A q := fun q h => by rw [← hAe]; exact Or.inr h
  have hS : va_S A s.heap s.heap [] := va_S.rf
  have hl := lv_entry ([.ref (ba 0), .int a1]) (n := 2) (Nat.le_of_ble_eq_true rfl)
  rw [lg_entry_eq]
  generalize (lg_sl ([.ref (ba 0), .int a1]) ++ List.replicate (2 - (lg_sl ([.ref (ba 0), .int a1])).length) Slot.unset).toArray = ls at hl ⊢
  have hl : lv_has ls 2 [(0, .ref (ba 0)), (1, .int a1)] := hl
  refine lv_aload_n hx hb dX2_drop_0 rfl (lv_at hl 0 rfl) ?_
  refine va_get (D := G.1) (ci := 2) (C := RX2) (T := TX2) (N := 10) hx hb hts iX2_drop_X2 hown hK.1 hP 0 rfl rfl 0 (by decide) (hts (.fieldLink RX2 10 "BoardClock" "now" "LBoardClock$State;") (List.mem_of_getElem? (i := 1) rfl)) (fun _ h9 => h9) rfl dX2_drop_1 ?_
  refine va_get (D := G.1) (ci := 1) (C := RX1) (T := TX1) (N := 18) hx hb hts iX2_drop_X1 hown hK.1 hP 6 rfl rfl 17 (by decide) (hts (.fieldLink RX2 91 "BoardClock$State" "alarms" "LBoardClock$Alarms;") (List.mem_of_getElem? (i := 2) rfl)) (fun _ h9 => h9) rfl dX2_drop_4 ?_
  refine lv_iload_n hx hb dX2_drop_7 rfl (lv_at hl 1 rfl) ?_
  obtain ⟨r1, er1, hF⟩ := zc_bind hF
  refine zc_ci (va_runV (As := [.int _]) ⟨hx, hb, hml, hown, hts⟩ (kX0_has l G na er1) (cwV 1 hts gX2_drop_X0_has rfl rfl rfl (by decide +kernel) ⟨Nat.le_of_ble_eq_true rfl, Nat.le_of_ble_eq_true rfl⟩) (zc_preV hK (hP.sub (ws' := zc_al G na b.2.2.1.2.2.2) [8, 9, 10, 11, 12] rfl) 0 rfl rfl) rfl rfl hl.1 rfl (lv_room (Nat.le_of_ble_eq_true rfl)) dX2_drop_8 ⟨Nat.le_of_ble_eq_true rfl, Nat.le_of_ble_eq_true rfl⟩) ?_
  refine lv_if_ne (tgt := 17) hx hb dX2_drop_11 (by decide) (fun c2 => ?_) (fun c2 => ?_)
  · have hF := zc_neg c2 hF
    refine lv_aload_n hx hb dX2_drop_17 rfl (lv_at hl 0 rfl) ?_
    obtain ⟨r3, er3, hF⟩ := zc_bind hF
    refine zc_mvA hD hS hA (va_runV (As := []) ⟨hx, hb, hml, hown, hts⟩ (kX2_remember l G ba na pa _ er3) (cwV 0 hts gX2_drop_X2_remember rfl rfl rfl (by decide +kernel) ⟨Nat.le_of_ble_eq_true rfl, Nat.le_of_ble_eq_true rfl⟩) (zc_preVm hK hP hD 0 rfl rfl) rfl rfl hl.1 rfl (lv_room (Nat.le_of_ble_eq_true rfl)) dX2_drop_18 ⟨Nat.le_of_ble_eq_true rfl, Nat.le_of_ble_eq_true rfl⟩) (fun H locs hP hS => ?_)
    have hP : va_P G.1 vwCl (zc_bc G ba na pa r3) H := hP
    have hD : va_D A (zc_bc G ba na pa r3) := zc_bcD hD
    refine lv_aload_n hx hb dX2_drop_21 rfl (lv_at hl 0 rfl) ?_
    refine va_get (D := G.1) (ci := 2) (C := RX2) (T := TX2) (N := 10) hx hb hts iX2_drop_X2 hown hK.1 hP 0 rfl rfl 0 (by decide) (hts (.fieldLink RX2 10 "BoardClock" "now" "LBoardClock$State;") (List.mem_of_getElem? (i := 1) rfl)) (fun _ h9 => h9) rfl dX2_drop_22 ?_
    refine va_get (D := G.1) (ci := 1) (C := RX1) (T := TX1) (N := 18) hx hb hts iX2_drop_X1 hown hK.1 hP 6 rfl rfl 17 (by decide) (hts (.fieldLink RX2 91 "BoardClock$State" "alarms" "LBoardClock$Alarms;") (List.mem_of_getElem? (i := 2) rfl)) (fun _ h9 => h9) rfl dX2_drop_25 ?_
    refine lv_iload_n hx hb dX2_drop_28 rfl (lv_at hl 1 rfl) ?_
    obtain ⟨r4, er4, hF⟩ := zc_bind hF
    refine zc_mv (X := zc_bx G ba na pa r3) (pl := zc_pool G pa r3.2.2.2) (wc := zc_al G na r3.2.2.1.2.2.2) (w1 := zc_al G na r4) (wr := zc_b6 G ba na pa r3 ++ (zc_st G na r3.2.2.1).take 2) hP hD hS hA [8, 9, 10, 11, 12] [0, 1, 2, 3, 4, 5, 6, 7] rfl (by decide) rfl (by decide) (by decide) rfl (va_runV (As := [.int _]) ⟨hx, hb, hml, hown, hts⟩ (kX0_remove l G na _ er4) (cwV 1 hts gX2_drop_X0_remove rfl rfl rfl (by decide +kernel) ⟨Nat.le_of_ble_eq_true rfl, Nat.le_of_ble_eq_true rfl⟩) (zc_preVm hK (hP.sub (ws' := zc_al G na r3.2.2.1.2.2.2) [8, 9, 10, 11, 12] rfl) (hD.sub (ws' := zc_al G na r3.2.2.1.2.2.2) [8, 9, 10, 11, 12] (by decide) rfl) 0 rfl rfl) rfl rfl hl.1 rfl (lv_room (Nat.le_of_ble_eq_true rfl)) dX2_drop_29 ⟨Nat.le_of_ble_eq_true rfl, Nat.le_of_ble_eq_true rfl⟩) (fun H locs hP _ hS => ?_)
    obtain ⟨b5, eb5, hF⟩ := zc_letX hF
    have hP : va_P G.1 vwCl (zc_bc G ba na pa b5) H := by rw [eb5]; exact hP
    have hD : va_D A (zc_bc G ba na pa b5) := zc_bcD hD
    refine lv_aload_n hx hb dX2_drop_32 rfl (lv_at hl 0 rfl) ?_
    refine va_get (D := G.1) (ci := 2) (C := RX2) (T := TX2) (N := 10) hx hb hts iX2_drop_X2 hown hK.1 hP 0 rfl rfl 0 (by decide) (hts (.fieldLink RX2 10 "BoardClock" "now" "LBoardClock$State;") (List.mem_of_getElem? (i := 1) rfl)) (fun _ h9 => h9) rfl dX2_drop_33 ?_
    refine va_get (D := G.1) (ci := 1) (C := RX1) (T := TX1) (N := 18) hx hb hts iX2_drop_X1 hown hK.1 hP 6 rfl rfl 17 (by decide) (hts (.fieldLink RX2 91 "BoardClock$State" "alarms" "LBoardClock$Alarms;") (List.mem_of_getElem? (i := 2) rfl)) (fun _ h9 => h9) rfl dX2_drop_36 ?_
    refine va_get (D := G.1) (ci := 0) (C := RX0) (T := TX0) (N := 5) hx hb hts iX2_drop_X0 hown hK.1 hP 8 rfl rfl 0 (by decide) (hts (.fieldLink RX2 95 "BoardClock$Alarms" "count" "I") (List.mem_of_getElem? (i := 4) rfl)) (fun _ h9 => h9) rfl dX2_drop_39 ?_
    obtain rfl := Option.some.inj hF
    exact W.iret hx hb hr (fun t ht hW => ⟨⟨_, (), rfl, rfl, zc_hp ht hP⟩, hS.F ht⟩) hS.2.2 dX2_drop_42
  · have hF := zc_pos c2 hF
    refine lv_ldc hx hb hown (hts (.constant RX2 140 (-1000000001)) (List.mem_of_getElem? (i := 3) rfl)) dX2_drop_14 ?_
    obtain rfl := Option.some.inj hF
    exact W.iret hx hb hr (fun t ht hW => ⟨⟨_, (), rfl, rfl, zc_hp ht hP⟩, hS.F ht⟩) hS.2.2 dX2_drop_16
def fX2_learn (b : zc_B) (a1 : Int32) (a2 : Int32) : Option (Int32 × zc_B) := Option.bind (fX2_isSpan a1) fun (r1 : Int32) => if r1 = 0 then (some ((-1000000001 : Int32), b)) else (Option.bind (fX2_isWithin a2 (-9999 : Int32) (9999 : Int32)) fun (r3 : Int32) => if r3 = 0 then (some ((-1000000002 : Int32), b)) else (Option.bind (fX2_remember b) fun (r5 : zc_B) => zc_in a1 9 (zc_let (r5.2.2.1.2.2.1 a1.toNatClampNeg) fun (x7 : Int32) => zc_in a1 9 (zc_let (zc_bs r5 (zc_sa r5.2.2.1 a1.toNatClampNeg a2)) fun (b9 : zc_B) => some ((x7 + (10000 : Int32)), b9)))))
theorem iX2_learn_X1 : ∀ w ∈ wsX10, w ∈ wsX2_learn := fun _ h => List.mem_cons_of_mem _ (List.mem_append_left _ (List.mem_append_right _ h))
theorem iX2_learn_X2 : ∀ w ∈ wsX20, w ∈ wsX2_learn := fun _ h => List.mem_cons_of_mem _ (List.mem_append_left _ (List.mem_append_left _ (List.mem_append_right _ h)))
set_option maxHeartbeats 4000000 in
set_option maxRecDepth 100000 in
theorem kX2_learn (l : Launch) (G : zc_G) (ba na : Nat → Nat) (pa : Nat → Nat → Nat) (sz : Nat) {b : zc_B} {a1 : Int32} {a2 : Int32} {r0 : Int32 × zc_B} (hF : fX2_learn b a1 a2 = some r0) : Met l yX2_learn wsX2_learn ({ frames := 4, cells := 0, slots := 0, locals := 122 }) (zc_Pm G [.ref (ba 0), .int a1, .int a2] (zc_bc G ba na pa b) sz) (zc_Qi G r0.1 (zc_bc G ba na pa r0.2) (va_A (zc_bc G ba na pa b) sz)) 0 0 (va_A (zc_bc G ba na pa b) sz) := by
  refine Met.ofW (cc := cX2_learn) (maxL := 4) (ret := (some .int)) (by decide) rfl ?_
  intro p e s m args below meth c s₁ B hml hv
  obtain ⟨rfl, hsz, hP, hK, hD0⟩ := hv
  have hx := B.exec
  have hb := B.bytes
  have hr := B.returns
  have hts := atoms_spec (ws := wsX2_learn) B.pre
  have hown : s.vm.findClass RX2 = some m.cls := findClass_of_methodNamed B.named
  have hlocks := B.notSynchronized
  subst hsz
  have hD := hD0.self (sz := s.heap.size)
  generalize hAe : va_A (zc_bc G ba na pa b) s.heap.size = A at hD ⊢
  have hA : ∀ q : Nat, s.heap.size ≤ q → A q := fun q h => by rw [← hAe]; exact Or.inr h
  have hS : va_S A s.heap s.heap [] := va_S.rf
  have hl := lv_entry ([.ref (ba 0), .int a1, .int a2]) (n := 4) (Nat.le_of_ble_eq_true rfl)
  rw [lg_entry_eq]
  generalize (lg_sl ([.ref (ba 0), .int a1, .int a2]) ++ List.replicate (4 - (lg_sl ([.ref (ba 0), .int a1, .int a2])).length) Slot.unset).toArray = ls at hl ⊢
  have hl : lv_has ls 4 [(0, .ref (ba 0)), (1, .int a1), (2, .int a2)] := hl
  refine lv_iload_n hx hb dX2_learn_0 rfl (lv_at hl 1 rfl) ?_
  obtain ⟨r1, er1, hF⟩ := zc_bind hF
  refine zc_ci (va_runS (As := [.int _]) ⟨hx, hb, hml, hown, hts⟩ (kX2_isSpan l G er1) (va_cwS 1 hts gX2_learn_X2_isSpan rfl rfl rfl (by decide +kernel) ⟨Nat.le_of_ble_eq_true rfl, Nat.le_of_ble_eq_true rfl⟩) (zc_preS hK (show va_P G.1 vwCl [] _ from fun k q h => by simp at h)) rfl rfl hl.1 rfl (lv_room (Nat.le_of_ble_eq_true rfl)) dX2_learn_1 ⟨Nat.le_of_ble_eq_true rfl, Nat.le_of_ble_eq_true rfl⟩) ?_
  refine lv_if_ne (tgt := 10) hx hb dX2_learn_4 (by decide) (fun c2 => ?_) (fun c2 => ?_)
  · have hF := zc_neg c2 hF
    refine lv_iload_n hx hb dX2_learn_10 rfl (lv_at hl 2 rfl) ?_
    refine lv_sipush (v := (-9999 : Int32)) hx hb dX2_learn_11 (by decide) ?_
    refine lv_sipush (v := (9999 : Int32)) hx hb dX2_learn_14 (by decide) ?_
    obtain ⟨r3, er3, hF⟩ := zc_bind hF
    refine zc_ci (va_runS (As := [.int _, .int _, .int _]) ⟨hx, hb, hml, hown, hts⟩ (kX2_isWithin l G er3) (va_cwS 3 hts gX2_learn_X2_isWithin rfl rfl rfl (by decide +kernel) ⟨Nat.le_of_ble_eq_true rfl, Nat.le_of_ble_eq_true rfl⟩) (zc_preS hK (show va_P G.1 vwCl [] _ from fun k q h => by simp at h)) rfl rfl hl.1 rfl (lv_room (Nat.le_of_ble_eq_true rfl)) dX2_learn_17 ⟨Nat.le_of_ble_eq_true rfl, Nat.le_of_ble_eq_true rfl⟩) ?_
    refine lv_if_ne (tgt := 26) hx hb dX2_learn_20 (by decide) (fun c4 => ?_) (fun c4 => ?_)
    · have hF := zc_neg c4 hF
      refine lv_aload_n hx hb dX2_learn_26 rfl (lv_at hl 0 rfl) ?_
      obtain ⟨r5, er5, hF⟩ := zc_bind hF
      refine zc_mvA hD hS hA (va_runV (As := []) ⟨hx, hb, hml, hown, hts⟩ (kX2_remember l G ba na pa _ er5) (cwV 0 hts gX2_learn_X2_remember rfl rfl rfl (by decide +kernel) ⟨Nat.le_of_ble_eq_true rfl, Nat.le_of_ble_eq_true rfl⟩) (zc_preVm hK hP hD 0 rfl rfl) rfl rfl hl.1 rfl (lv_room (Nat.le_of_ble_eq_true rfl)) dX2_learn_27 ⟨Nat.le_of_ble_eq_true rfl, Nat.le_of_ble_eq_true rfl⟩) (fun H locs hP hS => ?_)
      have hP : va_P G.1 vwCl (zc_bc G ba na pa r5) H := hP
      have hD : va_D A (zc_bc G ba na pa r5) := zc_bcD hD
      refine lv_aload_n hx hb dX2_learn_30 rfl (lv_at hl 0 rfl) ?_
      refine va_get (D := G.1) (ci := 2) (C := RX2) (T := TX2) (N := 10) hx hb hts iX2_learn_X2 hown hK.1 hP 0 rfl rfl 0 (by decide) (hts (.fieldLink RX2 10 "BoardClock" "now" "LBoardClock$State;") (List.mem_of_getElem? (i := 3) rfl)) (fun _ h9 => h9) rfl dX2_learn_31 ?_
      refine va_get (D := G.1) (ci := 1) (C := RX1) (T := TX1) (N := 18) hx hb hts iX2_learn_X1 hown hK.1 hP 6 rfl rfl 16 (by decide) (hts (.fieldLink RX2 141 "BoardClock$State" "learned" "[I") (List.mem_of_getElem? (i := 4) rfl)) (fun _ h9 => h9) rfl dX2_learn_34 ?_
      refine lv_iload_n hx hb dX2_learn_37 rfl (lv_at hl 1 rfl) ?_
      obtain ⟨hi6, hF⟩ := zc_inE hF
      refine zc_iald hx hb hK.1 hP 7 0 rfl rfl hi6 rfl dX2_learn_38 ?_
      refine lv_topi (fun x7 ex7 => ?_)
      have hF := zc_letE ex7 hF
      refine lv_istore_n (lv' := [(3, .int x7), (0, .ref (ba 0)), (1, .int a1), (2, .int a2)]) hx hb dX2_learn_39 rfl hl (by decide) rfl (fun ls hl => ?_)
      refine lv_aload_n hx hb dX2_learn_40 rfl (lv_at hl 1 rfl) ?_
      refine va_get (D := G.1) (ci := 2) (C := RX2) (T := TX2) (N := 10) hx hb hts iX2_learn_X2 hown hK.1 hP 0 rfl rfl 0 (by decide) (hts (.fieldLink RX2 10 "BoardClock" "now" "LBoardClock$State;") (List.mem_of_getElem? (i := 3) rfl)) (fun _ h9 => h9) rfl dX2_learn_41 ?_
      refine va_get (D := G.1) (ci := 1) (C := RX1) (T := TX1) (N := 18) hx hb hts iX2_learn_X1 hown hK.1 hP 6 rfl rfl 16 (by decide) (hts (.fieldLink RX2 141 "BoardClock$State" "learned" "[I") (List.mem_of_getElem? (i := 4) rfl)) (fun _ h9 => h9) rfl dX2_learn_44 ?_
      refine lv_iload_n hx hb dX2_learn_47 rfl (lv_at hl 2 rfl) ?_
      refine lv_iload_n hx hb dX2_learn_48 rfl (lv_at hl 3 rfl) ?_
      obtain ⟨hi8, hF⟩ := zc_inE hF
      refine zc_iast hx hb hK.1 hP hD hS 7 0 rfl rfl hi8 rfl dX2_learn_49 (fun H locs hP hS => ?_)
      obtain ⟨b9, eb9, hF⟩ := zc_letX hF
      have hP : va_P G.1 vwCl (zc_bc G ba na pa b9) H := by rw [eb9]; exact hP
      have hD : va_D A (zc_bc G ba na pa b9) := zc_bcD hD
      refine lv_iload_n hx hb dX2_learn_50 rfl (lv_at hl 0 rfl) ?_
      refine lv_sipush (v := (10000 : Int32)) hx hb dX2_learn_51 (by decide) ?_
      refine lv_iadd hx hb dX2_learn_54 ?_
      obtain rfl := Option.some.inj hF
      exact W.iret hx hb hr (fun t ht hW => ⟨⟨_, (), rfl, rfl, zc_hp ht hP⟩, hS.F ht⟩) hS.2.2 dX2_learn_55
    · have hF := zc_pos c4 hF
      refine lv_ldc hx hb hown (hts (.constant RX2 110 (-1000000002)) (List.mem_of_getElem? (i := 2) rfl)) dX2_learn_23 ?_
      obtain rfl := Option.some.inj hF
      exact W.iret hx hb hr (fun t ht hW => ⟨⟨_, (), rfl, rfl, zc_hp ht hP⟩, hS.F ht⟩) hS.2.2 dX2_learn_25
  · have hF := zc_pos c2 hF
    refine lv_ldc hx hb hown (hts (.constant RX2 140 (-1000000001)) (List.mem_of_getElem? (i := 1) rfl)) dX2_learn_7 ?_
    obtain rfl := Option.some.inj hF
    exact W.iret hx hb hr (fun t ht hW => ⟨⟨_, (), rfl, rfl, zc_hp ht hP⟩, hS.F ht⟩) hS.2.2 dX2_learn_9
def fX2_actByDraws (N : Nat) (b : zc_B) : Option (zc_B) := Option.bind (fX2_remember b) fun (r1 : zc_B) => Option.bind (fX2_draw r1 (8 : Int32)) fun (r2 : Int32 × zc_B) => zc_let (r2.2) fun (b3 : zc_B) => zc_let r2.1 fun (x4 : Int32) => Option.bind (fX2_draw b3 (90 : Int32)) fun (r5 : Int32 × zc_B) => zc_let (r5.2) fun (b6 : zc_B) => zc_let (r5.1 - (20 : Int32)) fun (x7 : Int32) => Option.bind (fX2_draw b6 (1001 : Int32)) fun (r8 : Int32 × zc_B) => zc_let (r8.2) fun (b9 : zc_B) => zc_let (r8.1 - (500 : Int32)) fun (x10 : Int32) => if x4 = 0 then (zc_let (zc_bs b9 (zc_sI b9.2.2.1 3 x7)) fun (b17 : zc_B) => some b17) else (if x4 = (1 : Int32) then (Option.bind (fX1_takeIn b9.2.2.1 x10 (500 : Int32)) fun (r15 : Int32 × zc_S) => zc_let (zc_bs b9 r15.2) fun (b16 : zc_B) => some b16) else (Option.bind (fX1_pass N b9.2.2.1 (1 : Int32)) fun (r13 : Int32 × zc_S) => zc_let (zc_bs b9 r13.2) fun (b14 : zc_B) => some b14))
theorem iX2_actByDraws_X1 : ∀ w ∈ wsX10, w ∈ wsX2_actByDraws := fun _ h => List.mem_cons_of_mem _ (List.mem_append_left _ (List.mem_append_right _ h))
theorem iX2_actByDraws_X2 : ∀ w ∈ wsX20, w ∈ wsX2_actByDraws := fun _ h => List.mem_cons_of_mem _ (List.mem_append_left _ (List.mem_append_left _ (List.mem_append_right _ h)))
set_option maxHeartbeats 4000000 in
set_option maxRecDepth 100000 in
theorem kX2_actByDraws (l : Launch) (G : zc_G) (ba na : Nat → Nat) (pa : Nat → Nat → Nat) (sz : Nat) {N : Nat} {b : zc_B} {r0 : zc_B} (hF : fX2_actByDraws N b = some r0) : Met l yX2_actByDraws wsX2_actByDraws ({ frames := 5, cells := 0, slots := 0, locals := 131 }) (zc_Pm G [.ref (ba 0)] (zc_bc G ba na pa b) sz) (zc_Qv G (zc_bc G ba na pa r0) (va_A (zc_bc G ba na pa b) sz)) 0 0 (va_A (zc_bc G ba na pa b) sz) := by
  refine Met.ofW (cc := cX2_actByDraws) (maxL := 4) (ret := none) (by decide) rfl ?_
  intro p e s m args below meth c s₁ B hml hv
  obtain ⟨rfl, hsz, hP, hK, hD0⟩ := hv
  have hx := B.exec
  have hb := B.bytes
  have hr := B.returns
  have hts := atoms_spec (ws := wsX2_actByDraws) B.pre
  have hown : s.vm.findClass RX2 = some m.cls := findClass_of_methodNamed B.named
  have hlocks := B.notSynchronized
  subst hsz
  have hD := hD0.self (sz := s.heap.size)
  generalize hAe : va_A (zc_bc G ba na pa b) s.heap.size = A at hD ⊢
  have hA : ∀ q : Nat, s.heap.size ≤ q → A q := fun q h => by rw [← hAe]; exact Or.inr h
  have hS : va_S A s.heap s.heap [] := va_S.rf
  have hl := lv_entry ([.ref (ba 0)]) (n := 4) (Nat.le_of_ble_eq_true rfl)
  rw [lg_entry_eq]
  generalize (lg_sl ([.ref (ba 0)]) ++ List.replicate (4 - (lg_sl ([.ref (ba 0)])).length) Slot.unset).toArray = ls at hl ⊢
  have hl : lv_has ls 4 [(0, .ref (ba 0))] := hl
  refine lv_aload_n hx hb dX2_actByDraws_0 rfl (lv_at hl 0 rfl) ?_
  obtain ⟨r1, er1, hF⟩ := zc_bind hF
  refine zc_mvA hD hS hA (va_runV (As := []) ⟨hx, hb, hml, hown, hts⟩ (kX2_remember l G ba na pa _ er1) (cwV 0 hts gX2_actByDraws_X2_remember rfl rfl rfl (by decide +kernel) ⟨Nat.le_of_ble_eq_true rfl, Nat.le_of_ble_eq_true rfl⟩) (zc_preVm hK hP hD 0 rfl rfl) rfl rfl hl.1 rfl (lv_room (Nat.le_of_ble_eq_true rfl)) dX2_actByDraws_1 ⟨Nat.le_of_ble_eq_true rfl, Nat.le_of_ble_eq_true rfl⟩) (fun H locs hP hS => ?_)
  have hP : va_P G.1 vwCl (zc_bc G ba na pa r1) H := hP
  have hD : va_D A (zc_bc G ba na pa r1) := zc_bcD hD
  refine lv_aload_n hx hb dX2_actByDraws_4 rfl (lv_at hl 0 rfl) ?_
  refine lv_bipush (v := (8 : Int32)) hx hb dX2_actByDraws_5 (by decide) ?_
  obtain ⟨r2, er2, hF⟩ := zc_bind hF
  refine zc_miA hD hS hA (va_runV (As := [.int _]) ⟨hx, hb, hml, hown, hts⟩ (kX2_draw l G ba na pa _ er2) (cwV 1 hts gX2_actByDraws_X2_draw rfl rfl rfl (by decide +kernel) ⟨Nat.le_of_ble_eq_true rfl, Nat.le_of_ble_eq_true rfl⟩) (zc_preVm hK hP hD 0 rfl rfl) rfl rfl hl.1 rfl (lv_room (Nat.le_of_ble_eq_true rfl)) dX2_actByDraws_7 ⟨Nat.le_of_ble_eq_true rfl, Nat.le_of_ble_eq_true rfl⟩) (fun H locs hP hS => ?_)
  obtain ⟨b3, eb3, hF⟩ := zc_letX hF
  have hP : va_P G.1 vwCl (zc_bc G ba na pa b3) H := by rw [eb3]; exact hP
  have hD : va_D A (zc_bc G ba na pa b3) := zc_bcD hD
  refine lv_topi (fun x4 ex4 => ?_)
  have hF := zc_letE ex4 hF
  refine lv_istore_n (lv' := [(1, .int x4), (0, .ref (ba 0))]) hx hb dX2_actByDraws_10 rfl hl (by decide) rfl (fun ls hl => ?_)
  refine lv_aload_n hx hb dX2_actByDraws_11 rfl (lv_at hl 1 rfl) ?_
  refine lv_bipush (v := (90 : Int32)) hx hb dX2_actByDraws_12 (by decide) ?_
  obtain ⟨r5, er5, hF⟩ := zc_bind hF
  refine zc_miA hD hS hA (va_runV (As := [.int _]) ⟨hx, hb, hml, hown, hts⟩ (kX2_draw l G ba na pa _ er5) (cwV 1 hts gX2_actByDraws_X2_draw rfl rfl rfl (by decide +kernel) ⟨Nat.le_of_ble_eq_true rfl, Nat.le_of_ble_eq_true rfl⟩) (zc_preVm hK hP hD 0 rfl rfl) rfl rfl hl.1 rfl (lv_room (Nat.le_of_ble_eq_true rfl)) dX2_actByDraws_14 ⟨Nat.le_of_ble_eq_true rfl, Nat.le_of_ble_eq_true rfl⟩) (fun H locs hP hS => ?_)
  obtain ⟨b6, eb6, hF⟩ := zc_letX hF
  have hP : va_P G.1 vwCl (zc_bc G ba na pa b6) H := by rw [eb6]; exact hP
  have hD : va_D A (zc_bc G ba na pa b6) := zc_bcD hD
  refine lv_bipush (v := (20 : Int32)) hx hb dX2_actByDraws_17 (by decide) ?_
  refine lv_isub hx hb dX2_actByDraws_19 ?_
  refine lv_topi (fun x7 ex7 => ?_)
  have hF := zc_letE ex7 hF
  refine lv_istore_n (lv' := [(2, .int x7), (1, .int x4), (0, .ref (ba 0))]) hx hb dX2_actByDraws_20 rfl hl (by decide) rfl (fun ls hl => ?_)
  refine lv_aload_n hx hb dX2_actByDraws_21 rfl (lv_at hl 2 rfl) ?_
  refine lv_sipush (v := (1001 : Int32)) hx hb dX2_actByDraws_22 (by decide) ?_
  obtain ⟨r8, er8, hF⟩ := zc_bind hF
  refine zc_miA hD hS hA (va_runV (As := [.int _]) ⟨hx, hb, hml, hown, hts⟩ (kX2_draw l G ba na pa _ er8) (cwV 1 hts gX2_actByDraws_X2_draw rfl rfl rfl (by decide +kernel) ⟨Nat.le_of_ble_eq_true rfl, Nat.le_of_ble_eq_true rfl⟩) (zc_preVm hK hP hD 0 rfl rfl) rfl rfl hl.1 rfl (lv_room (Nat.le_of_ble_eq_true rfl)) dX2_actByDraws_25 ⟨Nat.le_of_ble_eq_true rfl, Nat.le_of_ble_eq_true rfl⟩) (fun H locs hP hS => ?_)
  obtain ⟨b9, eb9, hF⟩ := zc_letX hF
  have hP : va_P G.1 vwCl (zc_bc G ba na pa b9) H := by rw [eb9]; exact hP
  have hD : va_D A (zc_bc G ba na pa b9) := zc_bcD hD
  refine lv_sipush (v := (500 : Int32)) hx hb dX2_actByDraws_28 (by decide) ?_
  refine lv_isub hx hb dX2_actByDraws_31 ?_
  refine lv_topi (fun x10 ex10 => ?_)
  have hF := zc_letE ex10 hF
  refine lv_istore_n (lv' := [(3, .int x10), (2, .int x7), (1, .int x4), (0, .ref (ba 0))]) hx hb dX2_actByDraws_32 rfl hl (by decide) rfl (fun ls hl => ?_)
  refine lv_iload_n hx hb dX2_actByDraws_33 rfl (lv_at hl 2 rfl) ?_
  refine lv_if_ne (tgt := 48) hx hb dX2_actByDraws_34 (by decide) (fun c11 => ?_) (fun c11 => ?_)
  · have hF := zc_neg c11 hF
    refine lv_iload_n hx hb dX2_actByDraws_48 rfl (lv_at hl 2 rfl) ?_
    refine lv_iconst (v := (1 : Int32)) hx hb dX2_actByDraws_49 (by decide) ?_
    refine lv_icmp_ne (tgt := 68) hx hb dX2_actByDraws_50 (by decide) (fun c12 => ?_) (fun c12 => ?_)
    · have hF := zc_neg c12 hF
      refine lv_aload_n hx hb dX2_actByDraws_68 rfl (lv_at hl 3 rfl) ?_
      refine va_get (D := G.1) (ci := 2) (C := RX2) (T := TX2) (N := 10) hx hb hts iX2_actByDraws_X2 hown hK.1 hP 0 rfl rfl 0 (by decide) (hts (.fieldLink RX2 10 "BoardClock" "now" "LBoardClock$State;") (List.mem_of_getElem? (i := 1) rfl)) (fun _ h9 => h9) rfl dX2_actByDraws_69 ?_
      refine lv_iconst (v := (1 : Int32)) hx hb dX2_actByDraws_72 (by decide) ?_
      obtain ⟨r13, er13, hF⟩ := zc_bind hF
      refine zc_mi (X := zc_bx G ba na pa b9) (pl := zc_pool G pa b9.2.2.2) (wc := zc_st G na b9.2.2.1) (w1 := zc_st G na r13.2) (wr := zc_b6 G ba na pa b9) hP hD hS hA [6, 7, 8, 9, 10, 11, 12] [0, 1, 2, 3, 4, 5] rfl (by decide) rfl (by decide) (by decide) rfl (va_runV (As := [.int _]) ⟨hx, hb, hml, hown, hts⟩ (kX1_pass l G na _ er13) (cwV 1 hts gX2_actByDraws_X1_pass rfl rfl rfl (by decide +kernel) ⟨Nat.le_of_ble_eq_true rfl, Nat.le_of_ble_eq_true rfl⟩) (zc_preVm hK (hP.sub (ws' := zc_st G na b9.2.2.1) [6, 7, 8, 9, 10, 11, 12] rfl) (hD.sub (ws' := zc_st G na b9.2.2.1) [6, 7, 8, 9, 10, 11, 12] (by decide) rfl) 0 rfl rfl) rfl rfl hl.1 rfl (lv_room (Nat.le_of_ble_eq_true rfl)) dX2_actByDraws_73 ⟨Nat.le_of_ble_eq_true rfl, Nat.le_of_ble_eq_true rfl⟩) (fun H locs hP _ hS => ?_)
      obtain ⟨b14, eb14, hF⟩ := zc_letX hF
      have hP : va_P G.1 vwCl (zc_bc G ba na pa b14) H := by rw [eb14]; exact hP
      have hD : va_D A (zc_bc G ba na pa b14) := zc_bcD hD
      refine lv_pop hx hb dX2_actByDraws_76 rfl ?_
      obtain rfl := Option.some.inj hF
      exact W.vret hx hb hr (fun t ht hW => ⟨⟨(), rfl, trivial, zc_hp ht hP⟩, hS.F ht⟩) hS.2.2 dX2_actByDraws_77
    · have hF := zc_pos c12 hF
      refine lv_aload_n hx hb dX2_actByDraws_53 rfl (lv_at hl 3 rfl) ?_
      refine va_get (D := G.1) (ci := 2) (C := RX2) (T := TX2) (N := 10) hx hb hts iX2_actByDraws_X2 hown hK.1 hP 0 rfl rfl 0 (by decide) (hts (.fieldLink RX2 10 "BoardClock" "now" "LBoardClock$State;") (List.mem_of_getElem? (i := 1) rfl)) (fun _ h9 => h9) rfl dX2_actByDraws_54 ?_
      refine lv_iload_n hx hb dX2_actByDraws_57 rfl (lv_at hl 0 rfl) ?_
      refine lv_sipush (v := (500 : Int32)) hx hb dX2_actByDraws_58 (by decide) ?_
      obtain ⟨r15, er15, hF⟩ := zc_bind hF
      refine zc_mi (X := zc_bx G ba na pa b9) (pl := zc_pool G pa b9.2.2.2) (wc := zc_st G na b9.2.2.1) (w1 := zc_st G na r15.2) (wr := zc_b6 G ba na pa b9) hP hD hS hA [6, 7, 8, 9, 10, 11, 12] [0, 1, 2, 3, 4, 5] rfl (by decide) rfl (by decide) (by decide) rfl (va_runV (As := [.int _, .int _]) ⟨hx, hb, hml, hown, hts⟩ (kX1_takeIn l G na _ er15) (cwV 2 hts gX2_actByDraws_X1_takeIn rfl rfl rfl (by decide +kernel) ⟨Nat.le_of_ble_eq_true rfl, Nat.le_of_ble_eq_true rfl⟩) (zc_preVm hK (hP.sub (ws' := zc_st G na b9.2.2.1) [6, 7, 8, 9, 10, 11, 12] rfl) (hD.sub (ws' := zc_st G na b9.2.2.1) [6, 7, 8, 9, 10, 11, 12] (by decide) rfl) 0 rfl rfl) rfl rfl hl.1 rfl (lv_room (Nat.le_of_ble_eq_true rfl)) dX2_actByDraws_61 ⟨Nat.le_of_ble_eq_true rfl, Nat.le_of_ble_eq_true rfl⟩) (fun H locs hP _ hS => ?_)
      obtain ⟨b16, eb16, hF⟩ := zc_letX hF
      have hP : va_P G.1 vwCl (zc_bc G ba na pa b16) H := by rw [eb16]; exact hP
      have hD : va_D A (zc_bc G ba na pa b16) := zc_bcD hD
      refine lv_pop hx hb dX2_actByDraws_64 rfl ?_
      refine lv_goto (tgt := 77) hx hb dX2_actByDraws_65 (by decide) ?_
      obtain rfl := Option.some.inj hF
      exact W.vret hx hb hr (fun t ht hW => ⟨⟨(), rfl, trivial, zc_hp ht hP⟩, hS.F ht⟩) hS.2.2 dX2_actByDraws_77
  · have hF := zc_pos c11 hF
    refine lv_aload_n hx hb dX2_actByDraws_37 rfl (lv_at hl 3 rfl) ?_
    refine va_get (D := G.1) (ci := 2) (C := RX2) (T := TX2) (N := 10) hx hb hts iX2_actByDraws_X2 hown hK.1 hP 0 rfl rfl 0 (by decide) (hts (.fieldLink RX2 10 "BoardClock" "now" "LBoardClock$State;") (List.mem_of_getElem? (i := 1) rfl)) (fun _ h9 => h9) rfl dX2_actByDraws_38 ?_
    refine lv_iload_n hx hb dX2_actByDraws_41 rfl (lv_at hl 1 rfl) ?_
    refine va_put (D := G.1) (ci := 1) (v := .int x7) (ty := .int) (C := RX1) (T := TX1) (N := 18) hx hb hts iX2_actByDraws_X1 tyX1 tyX1_ok nmX1 hown hK.1 hP hD hS 6 rfl rfl 3 (by decide) (hts (.fieldLink RX2 47 "BoardClock$State" "warmth" "I") (List.mem_of_getElem? (i := 2) rfl)) (fun _ h9 => h9) rfl (by decide +kernel) rfl rfl (Nat.le_of_ble_eq_true rfl) dX2_actByDraws_42 (fun H locs hP _ hS => ?_)
    obtain ⟨b17, eb17, hF⟩ := zc_letX hF
    have hP : va_P G.1 vwCl (zc_bc G ba na pa b17) H := by rw [eb17]; exact hP
    have hD : va_D A (zc_bc G ba na pa b17) := zc_bcD hD
    refine lv_goto (tgt := 77) hx hb dX2_actByDraws_45 (by decide) ?_
    obtain rfl := Option.some.inj hF
    exact W.vret hx hb hr (fun t ht hW => ⟨⟨(), rfl, trivial, zc_hp ht hP⟩, hS.F ht⟩) hS.2.2 dX2_actByDraws_77
def fX2_drift_L (N : Nat) : Nat → zc_B → Int32 → Int32 → Option (Int32 × zc_B)
  | 0, _, _, _ => none
  | n + 1, b0, y1, y2 => if y1 ≤ y2 then (Option.bind (fX0_totalRings N b0.2.2.1.2.2.2) fun (r4 : Int32) => some (r4, b0)) else (Option.bind (fX2_actByDraws N b0) fun (r5 : zc_B) => zc_let (y2 + (1 : Int32)) fun (x6 : Int32) => fX2_drift_L N n r5 y1 x6)
def fX2_drift (N : Nat) (b : zc_B) (a1 : Int32) : Option (Int32 × zc_B) := Option.bind (fX2_isWithin a1 (1 : Int32) (20 : Int32)) fun (r1 : Int32) => if r1 = 0 then (some ((-1000000002 : Int32), b)) else (fX2_drift_L N N b a1 (0 : Int32))
theorem iX2_drift_X1 : ∀ w ∈ wsX10, w ∈ wsX2_drift := fun _ h => List.mem_cons_of_mem _ (List.mem_append_left _ (List.mem_append_right _ h))
theorem iX2_drift_X2 : ∀ w ∈ wsX20, w ∈ wsX2_drift := fun _ h => List.mem_cons_of_mem _ (List.mem_append_left _ (List.mem_append_left _ (List.mem_append_right _ h)))
set_option maxHeartbeats 4000000 in
set_option maxRecDepth 100000 in
theorem kX2_drift (l : Launch) (G : zc_G) (ba na : Nat → Nat) (pa : Nat → Nat → Nat) (sz : Nat) {N : Nat} {b : zc_B} {a1 : Int32} {r0 : Int32 × zc_B} (hF : fX2_drift N b a1 = some r0) : Met l yX2_drift wsX2_drift ({ frames := 6, cells := 0, slots := 0, locals := 154 }) (zc_Pm G [.ref (ba 0), .int a1] (zc_bc G ba na pa b) sz) (zc_Qi G r0.1 (zc_bc G ba na pa r0.2) (va_A (zc_bc G ba na pa b) sz)) 0 0 (va_A (zc_bc G ba na pa b) sz) := by
  refine Met.ofW (cc := cX2_drift) (maxL := 3) (ret := (some .int)) (by decide) rfl ?_
  intro p e s m args below meth c s₁ B hml hv
  obtain ⟨rfl, hsz, hP, hK, hD0⟩ := hv
  have hx := B.exec
  have hb := B.bytes
  have hr := B.returns
  have hts := atoms_spec (ws := wsX2_drift) B.pre
  have hown : s.vm.findClass RX2 = some m.cls := findClass_of_methodNamed B.named
  have hlocks := B.notSynchronized
  subst hsz
  have hD := hD0.self (sz := s.heap.size)
  generalize hAe : va_A (zc_bc G ba na pa b) s.heap.size = A at hD ⊢
  have hA : ∀ q : Nat, s.heap.size ≤ q → A q := fun q h => by rw [← hAe]; exact Or.inr h
  have hS : va_S A s.heap s.heap [] := va_S.rf
  have hl := lv_entry ([.ref (ba 0), .int a1]) (n := 3) (Nat.le_of_ble_eq_true rfl)
  rw [lg_entry_eq]
  generalize (lg_sl ([.ref (ba 0), .int a1]) ++ List.replicate (3 - (lg_sl ([.ref (ba 0), .int a1])).length) Slot.unset).toArray = ls at hl ⊢
  have hl : lv_has ls 3 [(0, .ref (ba 0)), (1, .int a1)] := hl
  have loop : ∀ (n : Nat) (b0 : zc_B) (y1 : Int32) (y2 : Int32) (H : Heap) (locs : List Loc), va_P G.1 vwCl (zc_bc G ba na pa b0) H → va_D A (zc_bc G ba na pa b0) → va_S A s.heap H locs → ∀ (ls : Array Slot), lv_has ls 3 [(0, .ref (ba 0)), (1, .int y1), (2, .int y2)] → fX2_drift_L N n b0 y1 y2 = some r0 → W p l e (headSpec wsX2_drift ({ frames := 6, cells := 0, slots := 0, locals := 154 })).room s m ([.ref (ba 0), .int a1] : List Value).toArray below meth c H locs 0 0 (MQ below (zc_Qi G r0.1 (zc_bc G ba na pa r0.2) A) ([.ref (ba 0), .int a1] : List Value).toArray s 0 0 A) (F0 m 15 ls []) := by
    intro n
    induction n with
    | zero =>
      intro b0 y1 y2 H locs hP hD hS ls hl hF
      cases hF
    | succ n ih =>
      intro b0 y1 y2 H locs hP hD hS ls hl hF
      rw [fX2_drift_L] at hF
      refine lv_iload_n hx hb dX2_drift_15 rfl (lv_at hl 2 rfl) ?_
      refine lv_iload_n hx hb dX2_drift_16 rfl (lv_at hl 1 rfl) ?_
      refine lv_icmp_ge (tgt := 30) hx hb dX2_drift_17 (by decide) (fun c3 => ?_) (fun c3 => ?_)
      · have hF := zc_pos c3 hF
        refine lv_aload_n hx hb dX2_drift_30 rfl (lv_at hl 0 rfl) ?_
        refine va_get (D := G.1) (ci := 2) (C := RX2) (T := TX2) (N := 10) hx hb hts iX2_drift_X2 hown hK.1 hP 0 rfl rfl 0 (by decide) (hts (.fieldLink RX2 10 "BoardClock" "now" "LBoardClock$State;") (List.mem_of_getElem? (i := 2) rfl)) (fun _ h9 => h9) rfl dX2_drift_31 ?_
        refine va_get (D := G.1) (ci := 1) (C := RX1) (T := TX1) (N := 18) hx hb hts iX2_drift_X1 hown hK.1 hP 6 rfl rfl 17 (by decide) (hts (.fieldLink RX2 91 "BoardClock$State" "alarms" "LBoardClock$Alarms;") (List.mem_of_getElem? (i := 3) rfl)) (fun _ h9 => h9) rfl dX2_drift_34 ?_
        obtain ⟨r4, er4, hF⟩ := zc_bind hF
        refine zc_ci (va_runV (As := []) ⟨hx, hb, hml, hown, hts⟩ (kX0_totalRings l G na er4) (cwV 0 hts gX2_drift_X0_totalRings rfl rfl rfl (by decide +kernel) ⟨Nat.le_of_ble_eq_true rfl, Nat.le_of_ble_eq_true rfl⟩) (zc_preV hK (hP.sub (ws' := zc_al G na b0.2.2.1.2.2.2) [8, 9, 10, 11, 12] rfl) 0 rfl rfl) rfl rfl hl.1 rfl (lv_room (Nat.le_of_ble_eq_true rfl)) dX2_drift_37 ⟨Nat.le_of_ble_eq_true rfl, Nat.le_of_ble_eq_true rfl⟩) ?_
        obtain rfl := Option.some.inj hF
        exact W.iret hx hb hr (fun t ht hW => ⟨⟨_, (), rfl, rfl, zc_hp ht hP⟩, hS.F ht⟩) hS.2.2 dX2_drift_40
      · have hF := zc_neg c3 hF
        refine lv_aload_n hx hb dX2_drift_20 rfl (lv_at hl 0 rfl) ?_
        obtain ⟨r5, er5, hF⟩ := zc_bind hF
        refine zc_mvA hD hS hA (va_runV (As := []) ⟨hx, hb, hml, hown, hts⟩ (kX2_actByDraws l G ba na pa _ er5) (cwV 0 hts gX2_drift_X2_actByDraws rfl rfl rfl (by decide +kernel) ⟨Nat.le_of_ble_eq_true rfl, Nat.le_of_ble_eq_true rfl⟩) (zc_preVm hK hP hD 0 rfl rfl) rfl rfl hl.1 rfl (lv_room (Nat.le_of_ble_eq_true rfl)) dX2_drift_21 ⟨Nat.le_of_ble_eq_true rfl, Nat.le_of_ble_eq_true rfl⟩) (fun H locs hP hS => ?_)
        have hP : va_P G.1 vwCl (zc_bc G ba na pa r5) H := hP
        have hD : va_D A (zc_bc G ba na pa r5) := zc_bcD hD
        obtain ⟨x6, ex6⟩ : ∃ y : Int32, y = y2 + (1 : Int32) := ⟨_, rfl⟩
        have hF := zc_letE ex6 hF
        refine lv_iinc (v := x6) (lv' := [(2, .int x6), (0, .ref (ba 0)), (1, .int y1)]) hx hb dX2_drift_24 hl (k := 2) rfl (by rw [ex6]; rfl) (by decide) rfl (fun ls hl => ?_)
        refine lv_goto (tgt := 15) hx hb dX2_drift_27 (by decide) ?_
        exact ih r5 y1 x6 H locs hP hD hS ls (lv_sub hl [1, 2, 0] rfl) hF
  refine lv_iload_n hx hb dX2_drift_0 rfl (lv_at hl 1 rfl) ?_
  refine lv_iconst (v := (1 : Int32)) hx hb dX2_drift_1 (by decide) ?_
  refine lv_bipush (v := (20 : Int32)) hx hb dX2_drift_2 (by decide) ?_
  obtain ⟨r1, er1, hF⟩ := zc_bind hF
  refine zc_ci (va_runS (As := [.int _, .int _, .int _]) ⟨hx, hb, hml, hown, hts⟩ (kX2_isWithin l G er1) (va_cwS 3 hts gX2_drift_X2_isWithin rfl rfl rfl (by decide +kernel) ⟨Nat.le_of_ble_eq_true rfl, Nat.le_of_ble_eq_true rfl⟩) (zc_preS hK (show va_P G.1 vwCl [] _ from fun k q h => by simp at h)) rfl rfl hl.1 rfl (lv_room (Nat.le_of_ble_eq_true rfl)) dX2_drift_4 ⟨Nat.le_of_ble_eq_true rfl, Nat.le_of_ble_eq_true rfl⟩) ?_
  refine lv_if_ne (tgt := 13) hx hb dX2_drift_7 (by decide) (fun c2 => ?_) (fun c2 => ?_)
  · have hF := zc_neg c2 hF
    refine lv_iconst (v := (0 : Int32)) hx hb dX2_drift_13 (by decide) ?_
    refine lv_istore_n (lv' := [(2, .int (0 : Int32)), (0, .ref (ba 0)), (1, .int a1)]) hx hb dX2_drift_14 rfl hl (by decide) rfl (fun ls hl => ?_)
    exact loop N b a1 (0 : Int32) _ _ hP hD hS ls (lv_sub hl [1, 2, 0] rfl) hF
  · have hF := zc_pos c2 hF
    refine lv_ldc hx hb hown (hts (.constant RX2 110 (-1000000002)) (List.mem_of_getElem? (i := 1) rfl)) dX2_drift_10 ?_
    obtain rfl := Option.some.inj hF
    exact W.iret hx hb hr (fun t ht hW => ⟨⟨_, (), rfl, rfl, zc_hp ht hP⟩, hS.F ht⟩) hS.2.2 dX2_drift_12
def fX2_undo (b : zc_B) (a1 : Int32) : Option (Int32 × zc_B) := Option.bind (fX2_isWithin a1 (1 : Int32) (20 : Int32)) fun (r1 : Int32) => if r1 = 0 then (some ((-1000000002 : Int32), b)) else (if a1 ≤ (b.1 2) then (Option.bind (fJ9_floorMod_7cf53 ((b.1 1) - a1) (20 : Int32)) fun (r4 : Int32) => zc_let (zc_bI b 1 r4) fun (b5 : zc_B) => zc_in (b5.1 1) 20 (Option.bind (fX1_copyFrom b5.2.2.1 (b5.2.2.2 (((b5.1 1)).toNatClampNeg))) fun (r7 : zc_S) => zc_let (zc_bs b5 r7) fun (b8 : zc_B) => zc_let (zc_bI b8 2 ((b8.1 2) - a1)) fun (b9 : zc_B) => some ((b9.1 2), b9))) else (some ((-1000000003 : Int32), b)))
theorem iX2_undo_X2 : ∀ w ∈ wsX20, w ∈ wsX2_undo := fun _ h => List.mem_cons_of_mem _ (List.mem_append_left _ (List.mem_append_left _ (List.mem_append_right _ h)))
set_option maxHeartbeats 4000000 in
set_option maxRecDepth 100000 in
theorem kX2_undo (l : Launch) (G : zc_G) (ba na : Nat → Nat) (pa : Nat → Nat → Nat) (sz : Nat) {b : zc_B} {a1 : Int32} {r0 : Int32 × zc_B} (hF : fX2_undo b a1 = some r0) : Met l yX2_undo wsX2_undo ({ frames := 3, cells := 0, slots := 0, locals := 102 }) (zc_Pm G [.ref (ba 0), .int a1] (zc_bc G ba na pa b) sz) (zc_Qi G r0.1 (zc_bc G ba na pa r0.2) (va_A (zc_bc G ba na pa b) sz)) 0 0 (va_A (zc_bc G ba na pa b) sz) := by
  refine Met.ofW (cc := cX2_undo) (maxL := 2) (ret := (some .int)) (by decide) rfl ?_
  intro p e s m args below meth c s₁ B hml hv
  obtain ⟨rfl, hsz, hP, hK, hD0⟩ := hv
  have hx := B.exec
  have hb := B.bytes
  have hr := B.returns
  have hts := atoms_spec (ws := wsX2_undo) B.pre
  have hown : s.vm.findClass RX2 = some m.cls := findClass_of_methodNamed B.named
  have hlocks := B.notSynchronized
  subst hsz
  have hD := hD0.self (sz := s.heap.size)
  generalize hAe : va_A (zc_bc G ba na pa b) s.heap.size = A at hD ⊢
  have hA : ∀ q : Nat, s.heap.size ≤ q → A q := fun q h => by rw [← hAe]; exact Or.inr h
  have hS : va_S A s.heap s.heap [] := va_S.rf
  have hl := lv_entry ([.ref (ba 0), .int a1]) (n := 2) (Nat.le_of_ble_eq_true rfl)
  rw [lg_entry_eq]
  generalize (lg_sl ([.ref (ba 0), .int a1]) ++ List.replicate (2 - (lg_sl ([.ref (ba 0), .int a1])).length) Slot.unset).toArray = ls at hl ⊢
  have hl : lv_has ls 2 [(0, .ref (ba 0)), (1, .int a1)] := hl
  refine lv_iload_n hx hb dX2_undo_0 rfl (lv_at hl 1 rfl) ?_
  refine lv_iconst (v := (1 : Int32)) hx hb dX2_undo_1 (by decide) ?_
  refine lv_bipush (v := (20 : Int32)) hx hb dX2_undo_2 (by decide) ?_
  obtain ⟨r1, er1, hF⟩ := zc_bind hF
  refine zc_ci (va_runS (As := [.int _, .int _, .int _]) ⟨hx, hb, hml, hown, hts⟩ (kX2_isWithin l G er1) (va_cwS 3 hts gX2_undo_X2_isWithin rfl rfl rfl (by decide +kernel) ⟨Nat.le_of_ble_eq_true rfl, Nat.le_of_ble_eq_true rfl⟩) (zc_preS hK (show va_P G.1 vwCl [] _ from fun k q h => by simp at h)) rfl rfl hl.1 rfl (lv_room (Nat.le_of_ble_eq_true rfl)) dX2_undo_4 ⟨Nat.le_of_ble_eq_true rfl, Nat.le_of_ble_eq_true rfl⟩) ?_
  refine lv_if_ne (tgt := 13) hx hb dX2_undo_7 (by decide) (fun c2 => ?_) (fun c2 => ?_)
  · have hF := zc_neg c2 hF
    refine lv_iload_n hx hb dX2_undo_13 rfl (lv_at hl 1 rfl) ?_
    refine lv_aload_n hx hb dX2_undo_14 rfl (lv_at hl 0 rfl) ?_
    refine va_get (D := G.1) (ci := 2) (C := RX2) (T := TX2) (N := 10) hx hb hts iX2_undo_X2 hown hK.1 hP 0 rfl rfl 4 (by decide) (hts (.fieldLink RX2 27 "BoardClock" "undoable" "I") (List.mem_of_getElem? (i := 2) rfl)) (fun _ h9 => h9) rfl dX2_undo_15 ?_
    refine lv_icmp_le (tgt := 24) hx hb dX2_undo_18 (by decide) (fun c3 => ?_) (fun c3 => ?_)
    · have hF := zc_pos c3 hF
      refine lv_aload_n hx hb dX2_undo_24 rfl (lv_at hl 0 rfl) ?_
      refine lv_aload_n hx hb dX2_undo_25 rfl (lv_at hl 0 rfl) ?_
      refine va_get (D := G.1) (ci := 2) (C := RX2) (T := TX2) (N := 10) hx hb hts iX2_undo_X2 hown hK.1 hP 0 rfl rfl 3 (by decide) (hts (.fieldLink RX2 24 "BoardClock" "nextPast" "I") (List.mem_of_getElem? (i := 4) rfl)) (fun _ h9 => h9) rfl dX2_undo_26 ?_
      refine lv_iload_n hx hb dX2_undo_29 rfl (lv_at hl 1 rfl) ?_
      refine lv_isub hx hb dX2_undo_30 ?_
      refine lv_bipush (v := (20 : Int32)) hx hb dX2_undo_31 (by decide) ?_
      obtain ⟨r4, er4, hF⟩ := zc_bind hF
      refine zc_ci (va_runS (As := [.int _, .int _]) ⟨hx, hb, hml, hown, hts⟩ (kJ9_floorMod_7cf53 l G er4) (va_cwS 2 hts gX2_undo_J9_floorMod_7cf53 rfl rfl rfl (by decide +kernel) ⟨Nat.le_of_ble_eq_true rfl, Nat.le_of_ble_eq_true rfl⟩) (zc_preS hK (show va_P G.1 vwCl [] _ from fun k q h => by simp at h)) rfl rfl hl.1 rfl (lv_room (Nat.le_of_ble_eq_true rfl)) dX2_undo_33 ⟨Nat.le_of_ble_eq_true rfl, Nat.le_of_ble_eq_true rfl⟩) ?_
      refine va_put (D := G.1) (ci := 2) (v := .int r4) (ty := .int) (C := RX2) (T := TX2) (N := 10) hx hb hts iX2_undo_X2 tyX2 tyX2_ok nmX2 hown hK.1 hP hD hS 0 rfl rfl 3 (by decide) (hts (.fieldLink RX2 24 "BoardClock" "nextPast" "I") (List.mem_of_getElem? (i := 4) rfl)) (fun _ h9 => h9) rfl (by decide +kernel) rfl rfl (Nat.le_of_ble_eq_true rfl) dX2_undo_36 (fun H locs hP _ hS => ?_)
      obtain ⟨b5, eb5, hF⟩ := zc_letX hF
      have hP : va_P G.1 vwCl (zc_bc G ba na pa b5) H := by rw [eb5]; exact hP
      have hD : va_D A (zc_bc G ba na pa b5) := zc_bcD hD
      refine lv_aload_n hx hb dX2_undo_39 rfl (lv_at hl 0 rfl) ?_
      refine va_get (D := G.1) (ci := 2) (C := RX2) (T := TX2) (N := 10) hx hb hts iX2_undo_X2 hown hK.1 hP 0 rfl rfl 0 (by decide) (hts (.fieldLink RX2 10 "BoardClock" "now" "LBoardClock$State;") (List.mem_of_getElem? (i := 5) rfl)) (fun _ h9 => h9) rfl dX2_undo_40 ?_
      refine lv_aload_n hx hb dX2_undo_43 rfl (lv_at hl 0 rfl) ?_
      refine va_get (D := G.1) (ci := 2) (C := RX2) (T := TX2) (N := 10) hx hb hts iX2_undo_X2 hown hK.1 hP 0 rfl rfl 2 (by decide) (hts (.fieldLink RX2 20 "BoardClock" "past" "[LBoardClock$State;") (List.mem_of_getElem? (i := 6) rfl)) (fun _ h9 => h9) rfl dX2_undo_44 ?_
      refine lv_aload_n hx hb dX2_undo_47 rfl (lv_at hl 0 rfl) ?_
      refine va_get (D := G.1) (ci := 2) (C := RX2) (T := TX2) (N := 10) hx hb hts iX2_undo_X2 hown hK.1 hP 0 rfl rfl 3 (by decide) (hts (.fieldLink RX2 24 "BoardClock" "nextPast" "I") (List.mem_of_getElem? (i := 4) rfl)) (fun _ h9 => h9) rfl dX2_undo_48 ?_
      obtain ⟨hi6, hF⟩ := zc_inE hF
      refine va_aldq hx hb hK.1 hP 1 3 rfl rfl hi6 dX2_undo_51 ?_
      refine W.eq (g2 := F0 m 52 ls (.ref (pa (((b5.1 1)).toNatClampNeg) 0) :: _)) rfl ?_
      obtain ⟨r7, er7, hF⟩ := zc_bind hF
      refine zc_poolFrom (k := (((b5.1 1)).toNatClampNeg)) (Nat.lt_of_lt_of_le (zc_vlt hi6) (by decide)) hP hD hS hA (va_runV (As := [.ref _]) ⟨hx, hb, hml, hown, hts⟩ (kX1_copyFrom l G na (pa (((b5.1 1)).toNatClampNeg)) _ er7) (cwV 1 hts gX2_undo_X1_copyFrom rfl rfl rfl (by decide +kernel) ⟨Nat.le_of_ble_eq_true rfl, Nat.le_of_ble_eq_true rfl⟩) (zc_preFrom hK hP hD (Nat.lt_of_lt_of_le (zc_vlt hi6) (by decide))) rfl rfl hl.1 rfl (lv_room (Nat.le_of_ble_eq_true rfl)) dX2_undo_52 ⟨Nat.le_of_ble_eq_true rfl, Nat.le_of_ble_eq_true rfl⟩) (fun H locs hP hS => ?_)
      obtain ⟨b8, eb8, hF⟩ := zc_letX hF
      have hP : va_P G.1 vwCl (zc_bc G ba na pa b8) H := by rw [eb8]; exact hP
      have hD : va_D A (zc_bc G ba na pa b8) := zc_bcD hD
      refine lv_aload_n hx hb dX2_undo_55 rfl (lv_at hl 0 rfl) ?_
      refine lv_dup hx hb dX2_undo_56 rfl ?_
      refine va_get (D := G.1) (ci := 2) (C := RX2) (T := TX2) (N := 10) hx hb hts iX2_undo_X2 hown hK.1 hP 0 rfl rfl 4 (by decide) (hts (.fieldLink RX2 27 "BoardClock" "undoable" "I") (List.mem_of_getElem? (i := 2) rfl)) (fun _ h9 => h9) rfl dX2_undo_57 ?_
      refine lv_iload_n hx hb dX2_undo_60 rfl (lv_at hl 1 rfl) ?_
      refine lv_isub hx hb dX2_undo_61 ?_
      refine va_put (D := G.1) (ci := 2) (v := .int ((b8.1 2) - a1)) (ty := .int) (C := RX2) (T := TX2) (N := 10) hx hb hts iX2_undo_X2 tyX2 tyX2_ok nmX2 hown hK.1 hP hD hS 0 rfl rfl 4 (by decide) (hts (.fieldLink RX2 27 "BoardClock" "undoable" "I") (List.mem_of_getElem? (i := 2) rfl)) (fun _ h9 => h9) rfl (by decide +kernel) rfl rfl (Nat.le_of_ble_eq_true rfl) dX2_undo_62 (fun H locs hP _ hS => ?_)
      obtain ⟨b9, eb9, hF⟩ := zc_letX hF
      have hP : va_P G.1 vwCl (zc_bc G ba na pa b9) H := by rw [eb9]; exact hP
      have hD : va_D A (zc_bc G ba na pa b9) := zc_bcD hD
      refine lv_aload_n hx hb dX2_undo_65 rfl (lv_at hl 0 rfl) ?_
      refine va_get (D := G.1) (ci := 2) (C := RX2) (T := TX2) (N := 10) hx hb hts iX2_undo_X2 hown hK.1 hP 0 rfl rfl 4 (by decide) (hts (.fieldLink RX2 27 "BoardClock" "undoable" "I") (List.mem_of_getElem? (i := 2) rfl)) (fun _ h9 => h9) rfl dX2_undo_66 ?_
      obtain rfl := Option.some.inj hF
      exact W.iret hx hb hr (fun t ht hW => ⟨⟨_, (), rfl, rfl, zc_hp ht hP⟩, hS.F ht⟩) hS.2.2 dX2_undo_69
    · have hF := zc_neg c3 hF
      refine lv_ldc hx hb hown (hts (.constant RX2 208 (-1000000003)) (List.mem_of_getElem? (i := 3) rfl)) dX2_undo_21 ?_
      obtain rfl := Option.some.inj hF
      exact W.iret hx hb hr (fun t ht hW => ⟨⟨_, (), rfl, rfl, zc_hp ht hP⟩, hS.F ht⟩) hS.2.2 dX2_undo_23
  · have hF := zc_pos c2 hF
    refine lv_ldc hx hb hown (hts (.constant RX2 110 (-1000000002)) (List.mem_of_getElem? (i := 1) rfl)) dX2_undo_10 ?_
    obtain rfl := Option.some.inj hF
    exact W.iret hx hb hr (fun t ht hW => ⟨⟨_, (), rfl, rfl, zc_hp ht hP⟩, hS.F ht⟩) hS.2.2 dX2_undo_12
def fX2_write (b : zc_B) (a1 : Int32) : Option (Int32 × zc_B) := if (b.1 3) < (20 : Int32) then (zc_in (b.1 3) 20 (zc_let (zc_ba b 2 ((b.1 3)).toNatClampNeg a1) fun (b3 : zc_B) => zc_let (zc_bI b3 3 ((b3.1 3) + (1 : Int32))) fun (b4 : zc_B) => some ((b4.1 3), b4))) else (some ((-1000000004 : Int32), b))
theorem iX2_write_X2 : ∀ w ∈ wsX20, w ∈ wsX2_write := fun _ h => List.mem_cons_of_mem _ (List.mem_append_right _ h)
set_option maxHeartbeats 4000000 in
set_option maxRecDepth 100000 in
theorem kX2_write (l : Launch) (G : zc_G) (ba na : Nat → Nat) (pa : Nat → Nat → Nat) (sz : Nat) {b : zc_B} {a1 : Int32} {r0 : Int32 × zc_B} (hF : fX2_write b a1 = some r0) : Met l yX2_write wsX2_write ({ frames := 0, cells := 0, slots := 0, locals := 0 }) (zc_Pm G [.ref (ba 0), .int a1] (zc_bc G ba na pa b) sz) (zc_Qi G r0.1 (zc_bc G ba na pa r0.2) (va_A (zc_bc G ba na pa b) sz)) 0 0 (va_A (zc_bc G ba na pa b) sz) := by
  refine Met.ofW (cc := cX2_write) (maxL := 2) (ret := (some .int)) (by decide) rfl ?_
  intro p e s m args below meth c s₁ B hml hv
  obtain ⟨rfl, hsz, hP, hK, hD0⟩ := hv
  have hx := B.exec
  have hb := B.bytes
  have hr := B.returns
  have hts := atoms_spec (ws := wsX2_write) B.pre
  have hown : s.vm.findClass RX2 = some m.cls := findClass_of_methodNamed B.named
  have hlocks := B.notSynchronized
  subst hsz
  have hD := hD0.self (sz := s.heap.size)
  generalize hAe : va_A (zc_bc G ba na pa b) s.heap.size = A at hD ⊢
  have hA : ∀ q : Nat, s.heap.size ≤ q → A q := fun q h => by rw [← hAe]; exact Or.inr h
  have hS : va_S A s.heap s.heap [] := va_S.rf
  have hl := lv_entry ([.ref (ba 0), .int a1]) (n := 2) (Nat.le_of_ble_eq_true rfl)
  rw [lg_entry_eq]
  generalize (lg_sl ([.ref (ba 0), .int a1]) ++ List.replicate (2 - (lg_sl ([.ref (ba 0), .int a1])).length) Slot.unset).toArray = ls at hl ⊢
  have hl : lv_has ls 2 [(0, .ref (ba 0)), (1, .int a1)] := hl
  refine lv_aload_n hx hb dX2_write_0 rfl (lv_at hl 0 rfl) ?_
  refine va_get (D := G.1) (ci := 2) (C := RX2) (T := TX2) (N := 10) hx hb hts iX2_write_X2 hown hK.1 hP 0 rfl rfl 9 (by decide) (hts (.fieldLink RX2 44 "BoardClock" "entries" "I") (List.mem_of_getElem? (i := 1) rfl)) (fun _ h9 => h9) rfl dX2_write_1 ?_
  refine lv_bipush (v := (20 : Int32)) hx hb dX2_write_4 (by decide) ?_
  refine lv_icmp_lt (tgt := 12) hx hb dX2_write_6 (by decide) (fun c1 => ?_) (fun c1 => ?_)
  · have hF := zc_pos c1 hF
    refine lv_aload_n hx hb dX2_write_12 rfl (lv_at hl 0 rfl) ?_
    refine va_get (D := G.1) (ci := 2) (C := RX2) (T := TX2) (N := 10) hx hb hts iX2_write_X2 hown hK.1 hP 0 rfl rfl 8 (by decide) (hts (.fieldLink RX2 41 "BoardClock" "book" "[I") (List.mem_of_getElem? (i := 3) rfl)) (fun _ h9 => h9) rfl dX2_write_13 ?_
    refine lv_aload_n hx hb dX2_write_16 rfl (lv_at hl 0 rfl) ?_
    refine va_get (D := G.1) (ci := 2) (C := RX2) (T := TX2) (N := 10) hx hb hts iX2_write_X2 hown hK.1 hP 0 rfl rfl 9 (by decide) (hts (.fieldLink RX2 44 "BoardClock" "entries" "I") (List.mem_of_getElem? (i := 1) rfl)) (fun _ h9 => h9) rfl dX2_write_17 ?_
    refine lv_iload_n hx hb dX2_write_20 rfl (lv_at hl 1 rfl) ?_
    obtain ⟨hi2, hF⟩ := zc_inE hF
    refine zc_iast hx hb hK.1 hP hD hS 5 0 rfl rfl hi2 rfl dX2_write_21 (fun H locs hP hS => ?_)
    obtain ⟨b3, eb3, hF⟩ := zc_letX hF
    have hP : va_P G.1 vwCl (zc_bc G ba na pa b3) H := by rw [eb3]; exact hP
    have hD : va_D A (zc_bc G ba na pa b3) := zc_bcD hD
    refine lv_aload_n hx hb dX2_write_22 rfl (lv_at hl 0 rfl) ?_
    refine lv_dup hx hb dX2_write_23 rfl ?_
    refine va_get (D := G.1) (ci := 2) (C := RX2) (T := TX2) (N := 10) hx hb hts iX2_write_X2 hown hK.1 hP 0 rfl rfl 9 (by decide) (hts (.fieldLink RX2 44 "BoardClock" "entries" "I") (List.mem_of_getElem? (i := 1) rfl)) (fun _ h9 => h9) rfl dX2_write_24 ?_
    refine lv_iconst (v := (1 : Int32)) hx hb dX2_write_27 (by decide) ?_
    refine lv_iadd hx hb dX2_write_28 ?_
    refine va_put (D := G.1) (ci := 2) (v := .int ((b3.1 3) + (1 : Int32))) (ty := .int) (C := RX2) (T := TX2) (N := 10) hx hb hts iX2_write_X2 tyX2 tyX2_ok nmX2 hown hK.1 hP hD hS 0 rfl rfl 9 (by decide) (hts (.fieldLink RX2 44 "BoardClock" "entries" "I") (List.mem_of_getElem? (i := 1) rfl)) (fun _ h9 => h9) rfl (by decide +kernel) rfl rfl (Nat.le_of_ble_eq_true rfl) dX2_write_29 (fun H locs hP _ hS => ?_)
    obtain ⟨b4, eb4, hF⟩ := zc_letX hF
    have hP : va_P G.1 vwCl (zc_bc G ba na pa b4) H := by rw [eb4]; exact hP
    have hD : va_D A (zc_bc G ba na pa b4) := zc_bcD hD
    refine lv_aload_n hx hb dX2_write_32 rfl (lv_at hl 0 rfl) ?_
    refine va_get (D := G.1) (ci := 2) (C := RX2) (T := TX2) (N := 10) hx hb hts iX2_write_X2 hown hK.1 hP 0 rfl rfl 9 (by decide) (hts (.fieldLink RX2 44 "BoardClock" "entries" "I") (List.mem_of_getElem? (i := 1) rfl)) (fun _ h9 => h9) rfl dX2_write_33 ?_
    obtain rfl := Option.some.inj hF
    exact W.iret hx hb hr (fun t ht hW => ⟨⟨_, (), rfl, rfl, zc_hp ht hP⟩, hS.F ht⟩) hS.2.2 dX2_write_36
  · have hF := zc_neg c1 hF
    refine lv_ldc hx hb hown (hts (.constant RX2 196 (-1000000004)) (List.mem_of_getElem? (i := 2) rfl)) dX2_write_9 ?_
    obtain rfl := Option.some.inj hF
    exact W.iret hx hb hr (fun t ht hW => ⟨⟨_, (), rfl, rfl, zc_hp ht hP⟩, hS.F ht⟩) hS.2.2 dX2_write_11
def fX2_tear (b : zc_B) : Option (Int32 × zc_B) := zc_let (b.1 3) fun (x1 : Int32) => zc_let (zc_bI b 3 (0 : Int32)) fun (b2 : zc_B) => some (x1, b2)
theorem iX2_tear_X2 : ∀ w ∈ wsX20, w ∈ wsX2_tear := fun _ h => List.mem_cons_of_mem _ (List.mem_append_right _ h)
set_option maxHeartbeats 4000000 in
set_option maxRecDepth 100000 in
theorem kX2_tear (l : Launch) (G : zc_G) (ba na : Nat → Nat) (pa : Nat → Nat → Nat) (sz : Nat) {b : zc_B} {r0 : Int32 × zc_B} (hF : fX2_tear b = some r0) : Met l yX2_tear wsX2_tear ({ frames := 0, cells := 0, slots := 0, locals := 0 }) (zc_Pm G [.ref (ba 0)] (zc_bc G ba na pa b) sz) (zc_Qi G r0.1 (zc_bc G ba na pa r0.2) (va_A (zc_bc G ba na pa b) sz)) 0 0 (va_A (zc_bc G ba na pa b) sz) := by
  refine Met.ofW (cc := cX2_tear) (maxL := 2) (ret := (some .int)) (by decide) rfl ?_
  intro p e s m args below meth c s₁ B hml hv
  obtain ⟨rfl, hsz, hP, hK, hD0⟩ := hv
  have hx := B.exec
  have hb := B.bytes
  have hr := B.returns
  have hts := atoms_spec (ws := wsX2_tear) B.pre
  have hown : s.vm.findClass RX2 = some m.cls := findClass_of_methodNamed B.named
  have hlocks := B.notSynchronized
  subst hsz
  have hD := hD0.self (sz := s.heap.size)
  generalize hAe : va_A (zc_bc G ba na pa b) s.heap.size = A at hD ⊢
  have hA : ∀ q : Nat, s.heap.size ≤ q → A q := fun q h => by rw [← hAe]; exact Or.inr h
  have hS : va_S A s.heap s.heap [] := va_S.rf
  have hl := lv_entry ([.ref (ba 0)]) (n := 2) (Nat.le_of_ble_eq_true rfl)
  rw [lg_entry_eq]
  generalize (lg_sl ([.ref (ba 0)]) ++ List.replicate (2 - (lg_sl ([.ref (ba 0)])).length) Slot.unset).toArray = ls at hl ⊢
  have hl : lv_has ls 2 [(0, .ref (ba 0))] := hl
  refine lv_aload_n hx hb dX2_tear_0 rfl (lv_at hl 0 rfl) ?_
  refine va_get (D := G.1) (ci := 2) (C := RX2) (T := TX2) (N := 10) hx hb hts iX2_tear_X2 hown hK.1 hP 0 rfl rfl 9 (by decide) (hts (.fieldLink RX2 44 "BoardClock" "entries" "I") (List.mem_of_getElem? (i := 1) rfl)) (fun _ h9 => h9) rfl dX2_tear_1 ?_
  refine lv_topi (fun x1 ex1 => ?_)
  have hF := zc_letE ex1 hF
  refine lv_istore_n (lv' := [(1, .int x1), (0, .ref (ba 0))]) hx hb dX2_tear_4 rfl hl (by decide) rfl (fun ls hl => ?_)
  refine lv_aload_n hx hb dX2_tear_5 rfl (lv_at hl 1 rfl) ?_
  refine lv_iconst (v := (0 : Int32)) hx hb dX2_tear_6 (by decide) ?_
  refine va_put (D := G.1) (ci := 2) (v := .int (0 : Int32)) (ty := .int) (C := RX2) (T := TX2) (N := 10) hx hb hts iX2_tear_X2 tyX2 tyX2_ok nmX2 hown hK.1 hP hD hS 0 rfl rfl 9 (by decide) (hts (.fieldLink RX2 44 "BoardClock" "entries" "I") (List.mem_of_getElem? (i := 1) rfl)) (fun _ h9 => h9) rfl (by decide +kernel) rfl rfl (Nat.le_of_ble_eq_true rfl) dX2_tear_7 (fun H locs hP _ hS => ?_)
  obtain ⟨b2, eb2, hF⟩ := zc_letX hF
  have hP : va_P G.1 vwCl (zc_bc G ba na pa b2) H := by rw [eb2]; exact hP
  have hD : va_D A (zc_bc G ba na pa b2) := zc_bcD hD
  refine lv_iload_n hx hb dX2_tear_10 rfl (lv_at hl 0 rfl) ?_
  obtain rfl := Option.some.inj hF
  exact W.iret hx hb hr (fun t ht hW => ⟨⟨_, (), rfl, rfl, zc_hp ht hP⟩, hS.F ht⟩) hS.2.2 dX2_tear_11
def fX2_seed (b : zc_B) (a1 : Int32) : Option (Int32 × zc_B) := if 0 ≤ a1 then (zc_let (b.1 0) fun (x2 : Int32) => zc_let (zc_bI b 0 a1) fun (b3 : zc_B) => some (x2, b3)) else (some ((-1000000002 : Int32), b))
theorem iX2_seed_X2 : ∀ w ∈ wsX20, w ∈ wsX2_seed := fun _ h => List.mem_cons_of_mem _ (List.mem_append_right _ h)
set_option maxHeartbeats 4000000 in
set_option maxRecDepth 100000 in
theorem kX2_seed (l : Launch) (G : zc_G) (ba na : Nat → Nat) (pa : Nat → Nat → Nat) (sz : Nat) {b : zc_B} {a1 : Int32} {r0 : Int32 × zc_B} (hF : fX2_seed b a1 = some r0) : Met l yX2_seed wsX2_seed ({ frames := 0, cells := 0, slots := 0, locals := 0 }) (zc_Pm G [.ref (ba 0), .int a1] (zc_bc G ba na pa b) sz) (zc_Qi G r0.1 (zc_bc G ba na pa r0.2) (va_A (zc_bc G ba na pa b) sz)) 0 0 (va_A (zc_bc G ba na pa b) sz) := by
  refine Met.ofW (cc := cX2_seed) (maxL := 3) (ret := (some .int)) (by decide) rfl ?_
  intro p e s m args below meth c s₁ B hml hv
  obtain ⟨rfl, hsz, hP, hK, hD0⟩ := hv
  have hx := B.exec
  have hb := B.bytes
  have hr := B.returns
  have hts := atoms_spec (ws := wsX2_seed) B.pre
  have hown : s.vm.findClass RX2 = some m.cls := findClass_of_methodNamed B.named
  have hlocks := B.notSynchronized
  subst hsz
  have hD := hD0.self (sz := s.heap.size)
  generalize hAe : va_A (zc_bc G ba na pa b) s.heap.size = A at hD ⊢
  have hA : ∀ q : Nat, s.heap.size ≤ q → A q := fun q h => by rw [← hAe]; exact Or.inr h
  have hS : va_S A s.heap s.heap [] := va_S.rf
  have hl := lv_entry ([.ref (ba 0), .int a1]) (n := 3) (Nat.le_of_ble_eq_true rfl)
  rw [lg_entry_eq]
  generalize (lg_sl ([.ref (ba 0), .int a1]) ++ List.replicate (3 - (lg_sl ([.ref (ba 0), .int a1])).length) Slot.unset).toArray = ls at hl ⊢
  have hl : lv_has ls 3 [(0, .ref (ba 0)), (1, .int a1)] := hl
  refine lv_iload_n hx hb dX2_seed_0 rfl (lv_at hl 1 rfl) ?_
  refine lv_if_ge (tgt := 7) hx hb dX2_seed_1 (by decide) (fun c1 => ?_) (fun c1 => ?_)
  · have hF := zc_pos c1 hF
    refine lv_aload_n hx hb dX2_seed_7 rfl (lv_at hl 0 rfl) ?_
    refine va_get (D := G.1) (ci := 2) (C := RX2) (T := TX2) (N := 10) hx hb hts iX2_seed_X2 hown hK.1 hP 0 rfl rfl 1 (by decide) (hts (.fieldLink RX2 16 "BoardClock" "theSeed" "I") (List.mem_of_getElem? (i := 2) rfl)) (fun _ h9 => h9) rfl dX2_seed_8 ?_
    refine lv_topi (fun x2 ex2 => ?_)
    have hF := zc_letE ex2 hF
    refine lv_istore_n (lv' := [(2, .int x2), (0, .ref (ba 0)), (1, .int a1)]) hx hb dX2_seed_11 rfl hl (by decide) rfl (fun ls hl => ?_)
    refine lv_aload_n hx hb dX2_seed_12 rfl (lv_at hl 1 rfl) ?_
    refine lv_iload_n hx hb dX2_seed_13 rfl (lv_at hl 2 rfl) ?_
    refine va_put (D := G.1) (ci := 2) (v := .int a1) (ty := .int) (C := RX2) (T := TX2) (N := 10) hx hb hts iX2_seed_X2 tyX2 tyX2_ok nmX2 hown hK.1 hP hD hS 0 rfl rfl 1 (by decide) (hts (.fieldLink RX2 16 "BoardClock" "theSeed" "I") (List.mem_of_getElem? (i := 2) rfl)) (fun _ h9 => h9) rfl (by decide +kernel) rfl rfl (Nat.le_of_ble_eq_true rfl) dX2_seed_14 (fun H locs hP _ hS => ?_)
    obtain ⟨b3, eb3, hF⟩ := zc_letX hF
    have hP : va_P G.1 vwCl (zc_bc G ba na pa b3) H := by rw [eb3]; exact hP
    have hD : va_D A (zc_bc G ba na pa b3) := zc_bcD hD
    refine lv_iload_n hx hb dX2_seed_17 rfl (lv_at hl 0 rfl) ?_
    obtain rfl := Option.some.inj hF
    exact W.iret hx hb hr (fun t ht hW => ⟨⟨_, (), rfl, rfl, zc_hp ht hP⟩, hS.F ht⟩) hS.2.2 dX2_seed_18
  · have hF := zc_neg c1 hF
    refine lv_ldc hx hb hown (hts (.constant RX2 110 (-1000000002)) (List.mem_of_getElem? (i := 1) rfl)) dX2_seed_4 ?_
    obtain rfl := Option.some.inj hF
    exact W.iret hx hb hr (fun t ht hW => ⟨⟨_, (), rfl, rfl, zc_hp ht hP⟩, hS.F ht⟩) hS.2.2 dX2_seed_6
def fX2_keep (b : zc_B) (a1 : Int32) : Option (Int32 × zc_B) := Option.bind (fX2_isWithin a1 (0 : Int32) (1 : Int32)) fun (r1 : Int32) => if r1 = 0 then (some ((-1000000001 : Int32), b)) else (zc_in a1 2 (Option.bind (fX1_copyFrom (b.2.2.2 (a1.toNatClampNeg + 20)) b.2.2.1) fun (r4 : zc_S) => zc_let (zc_bp b (a1.toNatClampNeg + 20) r4) fun (b5 : zc_B) => zc_in a1 2 (zc_let (zc_ba b5 0 a1.toNatClampNeg (b5.1 0)) fun (b7 : zc_B) => zc_in a1 2 (zc_let (zc_ba b7 1 a1.toNatClampNeg (1 : Int32)) fun (b9 : zc_B) => zc_let (zc_bI b9 2 (0 : Int32)) fun (b10 : zc_B) => some ((1 : Int32), b10)))))
theorem iX2_keep_X2 : ∀ w ∈ wsX20, w ∈ wsX2_keep := fun _ h => List.mem_cons_of_mem _ (List.mem_append_left _ (List.mem_append_left _ (List.mem_append_right _ h)))
set_option maxHeartbeats 4000000 in
set_option maxRecDepth 100000 in
theorem kX2_keep (l : Launch) (G : zc_G) (ba na : Nat → Nat) (pa : Nat → Nat → Nat) (sz : Nat) {b : zc_B} {a1 : Int32} {r0 : Int32 × zc_B} (hF : fX2_keep b a1 = some r0) : Met l yX2_keep wsX2_keep ({ frames := 3, cells := 0, slots := 0, locals := 102 }) (zc_Pm G [.ref (ba 0), .int a1] (zc_bc G ba na pa b) sz) (zc_Qi G r0.1 (zc_bc G ba na pa r0.2) (va_A (zc_bc G ba na pa b) sz)) 0 0 (va_A (zc_bc G ba na pa b) sz) := by
  refine Met.ofW (cc := cX2_keep) (maxL := 2) (ret := (some .int)) (by decide) rfl ?_
  intro p e s m args below meth c s₁ B hml hv
  obtain ⟨rfl, hsz, hP, hK, hD0⟩ := hv
  have hx := B.exec
  have hb := B.bytes
  have hr := B.returns
  have hts := atoms_spec (ws := wsX2_keep) B.pre
  have hown : s.vm.findClass RX2 = some m.cls := findClass_of_methodNamed B.named
  have hlocks := B.notSynchronized
  subst hsz
  have hD := hD0.self (sz := s.heap.size)
  generalize hAe : va_A (zc_bc G ba na pa b) s.heap.size = A at hD ⊢
  have hA : ∀ q : Nat, s.heap.size ≤ q → A q := fun q h => by rw [← hAe]; exact Or.inr h
  have hS : va_S A s.heap s.heap [] := va_S.rf
  have hl := lv_entry ([.ref (ba 0), .int a1]) (n := 2) (Nat.le_of_ble_eq_true rfl)
  rw [lg_entry_eq]
  generalize (lg_sl ([.ref (ba 0), .int a1]) ++ List.replicate (2 - (lg_sl ([.ref (ba 0), .int a1])).length) Slot.unset).toArray = ls at hl ⊢
  have hl : lv_has ls 2 [(0, .ref (ba 0)), (1, .int a1)] := hl
  refine lv_iload_n hx hb dX2_keep_0 rfl (lv_at hl 1 rfl) ?_
  refine lv_iconst (v := (0 : Int32)) hx hb dX2_keep_1 (by decide) ?_
  refine lv_iconst (v := (1 : Int32)) hx hb dX2_keep_2 (by decide) ?_
  obtain ⟨r1, er1, hF⟩ := zc_bind hF
  refine zc_ci (va_runS (As := [.int _, .int _, .int _]) ⟨hx, hb, hml, hown, hts⟩ (kX2_isWithin l G er1) (va_cwS 3 hts gX2_keep_X2_isWithin rfl rfl rfl (by decide +kernel) ⟨Nat.le_of_ble_eq_true rfl, Nat.le_of_ble_eq_true rfl⟩) (zc_preS hK (show va_P G.1 vwCl [] _ from fun k q h => by simp at h)) rfl rfl hl.1 rfl (lv_room (Nat.le_of_ble_eq_true rfl)) dX2_keep_3 ⟨Nat.le_of_ble_eq_true rfl, Nat.le_of_ble_eq_true rfl⟩) ?_
  refine lv_if_ne (tgt := 12) hx hb dX2_keep_6 (by decide) (fun c2 => ?_) (fun c2 => ?_)
  · have hF := zc_neg c2 hF
    refine lv_aload_n hx hb dX2_keep_12 rfl (lv_at hl 0 rfl) ?_
    refine va_get (D := G.1) (ci := 2) (C := RX2) (T := TX2) (N := 10) hx hb hts iX2_keep_X2 hown hK.1 hP 0 rfl rfl 5 (by decide) (hts (.fieldLink RX2 30 "BoardClock" "images" "[LBoardClock$State;") (List.mem_of_getElem? (i := 2) rfl)) (fun _ h9 => h9) rfl dX2_keep_13 ?_
    refine lv_iload_n hx hb dX2_keep_16 rfl (lv_at hl 1 rfl) ?_
    obtain ⟨hi3, hF⟩ := zc_inE hF
    refine va_aldq hx hb hK.1 hP 2 3 rfl rfl hi3 dX2_keep_17 ?_
    refine W.eq (g2 := F0 m 18 ls (.ref (pa (a1.toNatClampNeg + 20) 0) :: _)) rfl ?_
    refine lv_aload_n hx hb dX2_keep_18 rfl (lv_at hl 0 rfl) ?_
    refine va_get (D := G.1) (ci := 2) (C := RX2) (T := TX2) (N := 10) hx hb hts iX2_keep_X2 hown hK.1 hP 0 rfl rfl 0 (by decide) (hts (.fieldLink RX2 10 "BoardClock" "now" "LBoardClock$State;") (List.mem_of_getElem? (i := 3) rfl)) (fun _ h9 => h9) rfl dX2_keep_19 ?_
    obtain ⟨r4, er4, hF⟩ := zc_bind hF
    refine zc_poolTo (k := (a1.toNatClampNeg + 20)) (by have := zc_vlt hi3; omega) hP hD hS hA (va_runV (As := [.ref _]) ⟨hx, hb, hml, hown, hts⟩ (kX1_copyFrom l G (pa (a1.toNatClampNeg + 20)) na _ er4) (cwV 1 hts gX2_keep_X1_copyFrom rfl rfl rfl (by decide +kernel) ⟨Nat.le_of_ble_eq_true rfl, Nat.le_of_ble_eq_true rfl⟩) (zc_preTo hK hP hD (by have := zc_vlt hi3; omega)) rfl rfl hl.1 rfl (lv_room (Nat.le_of_ble_eq_true rfl)) dX2_keep_22 ⟨Nat.le_of_ble_eq_true rfl, Nat.le_of_ble_eq_true rfl⟩) (fun H locs hP hS => ?_)
    obtain ⟨b5, eb5, hF⟩ := zc_letX hF
    have hP : va_P G.1 vwCl (zc_bc G ba na pa b5) H := by rw [eb5]; exact hP
    have hD : va_D A (zc_bc G ba na pa b5) := zc_bcD hD
    refine lv_aload_n hx hb dX2_keep_25 rfl (lv_at hl 0 rfl) ?_
    refine va_get (D := G.1) (ci := 2) (C := RX2) (T := TX2) (N := 10) hx hb hts iX2_keep_X2 hown hK.1 hP 0 rfl rfl 6 (by decide) (hts (.fieldLink RX2 33 "BoardClock" "imageSeeds" "[I") (List.mem_of_getElem? (i := 4) rfl)) (fun _ h9 => h9) rfl dX2_keep_26 ?_
    refine lv_iload_n hx hb dX2_keep_29 rfl (lv_at hl 1 rfl) ?_
    refine lv_aload_n hx hb dX2_keep_30 rfl (lv_at hl 0 rfl) ?_
    refine va_get (D := G.1) (ci := 2) (C := RX2) (T := TX2) (N := 10) hx hb hts iX2_keep_X2 hown hK.1 hP 0 rfl rfl 1 (by decide) (hts (.fieldLink RX2 16 "BoardClock" "theSeed" "I") (List.mem_of_getElem? (i := 5) rfl)) (fun _ h9 => h9) rfl dX2_keep_31 ?_
    obtain ⟨hi6, hF⟩ := zc_inE hF
    refine zc_iast hx hb hK.1 hP hD hS 3 0 rfl rfl hi6 rfl dX2_keep_34 (fun H locs hP hS => ?_)
    obtain ⟨b7, eb7, hF⟩ := zc_letX hF
    have hP : va_P G.1 vwCl (zc_bc G ba na pa b7) H := by rw [eb7]; exact hP
    have hD : va_D A (zc_bc G ba na pa b7) := zc_bcD hD
    refine lv_aload_n hx hb dX2_keep_35 rfl (lv_at hl 0 rfl) ?_
    refine va_get (D := G.1) (ci := 2) (C := RX2) (T := TX2) (N := 10) hx hb hts iX2_keep_X2 hown hK.1 hP 0 rfl rfl 7 (by decide) (hts (.fieldLink RX2 37 "BoardClock" "imageKept" "[Z") (List.mem_of_getElem? (i := 6) rfl)) (fun _ h9 => h9) rfl dX2_keep_36 ?_
    refine lv_iload_n hx hb dX2_keep_39 rfl (lv_at hl 1 rfl) ?_
    refine lv_iconst (v := (1 : Int32)) hx hb dX2_keep_40 (by decide) ?_
    obtain ⟨hi8, hF⟩ := zc_inE hF
    refine zc_zast (x1 := (1 : Int32)) hx hb hK.1 hP hD hS 4 2 rfl rfl hi8 rfl (by decide) dX2_keep_41 (fun H locs hP hS => ?_)
    obtain ⟨b9, eb9, hF⟩ := zc_letX hF
    have hP : va_P G.1 vwCl (zc_bc G ba na pa b9) H := by rw [eb9]; exact hP
    have hD : va_D A (zc_bc G ba na pa b9) := zc_bcD hD
    refine lv_aload_n hx hb dX2_keep_42 rfl (lv_at hl 0 rfl) ?_
    refine lv_iconst (v := (0 : Int32)) hx hb dX2_keep_43 (by decide) ?_
    refine va_put (D := G.1) (ci := 2) (v := .int (0 : Int32)) (ty := .int) (C := RX2) (T := TX2) (N := 10) hx hb hts iX2_keep_X2 tyX2 tyX2_ok nmX2 hown hK.1 hP hD hS 0 rfl rfl 4 (by decide) (hts (.fieldLink RX2 27 "BoardClock" "undoable" "I") (List.mem_of_getElem? (i := 7) rfl)) (fun _ h9 => h9) rfl (by decide +kernel) rfl rfl (Nat.le_of_ble_eq_true rfl) dX2_keep_44 (fun H locs hP _ hS => ?_)
    obtain ⟨b10, eb10, hF⟩ := zc_letX hF
    have hP : va_P G.1 vwCl (zc_bc G ba na pa b10) H := by rw [eb10]; exact hP
    have hD : va_D A (zc_bc G ba na pa b10) := zc_bcD hD
    refine lv_iconst (v := (1 : Int32)) hx hb dX2_keep_47 (by decide) ?_
    obtain rfl := Option.some.inj hF
    exact W.iret hx hb hr (fun t ht hW => ⟨⟨_, (), rfl, rfl, zc_hp ht hP⟩, hS.F ht⟩) hS.2.2 dX2_keep_48
  · have hF := zc_pos c2 hF
    refine lv_ldc hx hb hown (hts (.constant RX2 140 (-1000000001)) (List.mem_of_getElem? (i := 1) rfl)) dX2_keep_9 ?_
    obtain rfl := Option.some.inj hF
    exact W.iret hx hb hr (fun t ht hW => ⟨⟨_, (), rfl, rfl, zc_hp ht hP⟩, hS.F ht⟩) hS.2.2 dX2_keep_11
def fX2_goBack (b : zc_B) (a1 : Int32) : Option (Int32 × zc_B) := Option.bind (fX2_isWithin a1 (0 : Int32) (1 : Int32)) fun (r1 : Int32) => if r1 = 0 then (some ((-1000000001 : Int32), b)) else (zc_in a1 2 (if (b.2.1 1 a1.toNatClampNeg) = 0 then (some ((-1000000003 : Int32), b)) else (zc_in a1 2 (Option.bind (fX1_copyFrom b.2.2.1 (b.2.2.2 (a1.toNatClampNeg + 20))) fun (r6 : zc_S) => zc_let (zc_bs b r6) fun (b7 : zc_B) => zc_in a1 2 (zc_let (zc_bI b7 0 (b7.2.1 0 a1.toNatClampNeg)) fun (b9 : zc_B) => zc_let (zc_bI b9 2 (0 : Int32)) fun (b10 : zc_B) => some ((1 : Int32), b10))))))
theorem iX2_goBack_X2 : ∀ w ∈ wsX20, w ∈ wsX2_goBack := fun _ h => List.mem_cons_of_mem _ (List.mem_append_left _ (List.mem_append_left _ (List.mem_append_right _ h)))
set_option maxHeartbeats 4000000 in
set_option maxRecDepth 100000 in
theorem kX2_goBack (l : Launch) (G : zc_G) (ba na : Nat → Nat) (pa : Nat → Nat → Nat) (sz : Nat) {b : zc_B} {a1 : Int32} {r0 : Int32 × zc_B} (hF : fX2_goBack b a1 = some r0) : Met l yX2_goBack wsX2_goBack ({ frames := 3, cells := 0, slots := 0, locals := 102 }) (zc_Pm G [.ref (ba 0), .int a1] (zc_bc G ba na pa b) sz) (zc_Qi G r0.1 (zc_bc G ba na pa r0.2) (va_A (zc_bc G ba na pa b) sz)) 0 0 (va_A (zc_bc G ba na pa b) sz) := by
  refine Met.ofW (cc := cX2_goBack) (maxL := 2) (ret := (some .int)) (by decide) rfl ?_
  intro p e s m args below meth c s₁ B hml hv
  obtain ⟨rfl, hsz, hP, hK, hD0⟩ := hv
  have hx := B.exec
  have hb := B.bytes
  have hr := B.returns
  have hts := atoms_spec (ws := wsX2_goBack) B.pre
  have hown : s.vm.findClass RX2 = some m.cls := findClass_of_methodNamed B.named
  have hlocks := B.notSynchronized
  subst hsz
  have hD := hD0.self (sz := s.heap.size)
  generalize hAe : va_A (zc_bc G ba na pa b) s.heap.size = A at hD ⊢
  have hA : ∀ q : Nat, s.heap.size ≤ q → A q := fun q h => by rw [← hAe]; exact Or.inr h
  have hS : va_S A s.heap s.heap [] := va_S.rf
  have hl := lv_entry ([.ref (ba 0), .int a1]) (n := 2) (Nat.le_of_ble_eq_true rfl)
  rw [lg_entry_eq]
  generalize (lg_sl ([.ref (ba 0), .int a1]) ++ List.replicate (2 - (lg_sl ([.ref (ba 0), .int a1])).length) Slot.unset).toArray = ls at hl ⊢
  have hl : lv_has ls 2 [(0, .ref (ba 0)), (1, .int a1)] := hl
  refine lv_iload_n hx hb dX2_goBack_0 rfl (lv_at hl 1 rfl) ?_
  refine lv_iconst (v := (0 : Int32)) hx hb dX2_goBack_1 (by decide) ?_
  refine lv_iconst (v := (1 : Int32)) hx hb dX2_goBack_2 (by decide) ?_
  obtain ⟨r1, er1, hF⟩ := zc_bind hF
  refine zc_ci (va_runS (As := [.int _, .int _, .int _]) ⟨hx, hb, hml, hown, hts⟩ (kX2_isWithin l G er1) (va_cwS 3 hts gX2_goBack_X2_isWithin rfl rfl rfl (by decide +kernel) ⟨Nat.le_of_ble_eq_true rfl, Nat.le_of_ble_eq_true rfl⟩) (zc_preS hK (show va_P G.1 vwCl [] _ from fun k q h => by simp at h)) rfl rfl hl.1 rfl (lv_room (Nat.le_of_ble_eq_true rfl)) dX2_goBack_3 ⟨Nat.le_of_ble_eq_true rfl, Nat.le_of_ble_eq_true rfl⟩) ?_
  refine lv_if_ne (tgt := 12) hx hb dX2_goBack_6 (by decide) (fun c2 => ?_) (fun c2 => ?_)
  · have hF := zc_neg c2 hF
    refine lv_aload_n hx hb dX2_goBack_12 rfl (lv_at hl 0 rfl) ?_
    refine va_get (D := G.1) (ci := 2) (C := RX2) (T := TX2) (N := 10) hx hb hts iX2_goBack_X2 hown hK.1 hP 0 rfl rfl 7 (by decide) (hts (.fieldLink RX2 37 "BoardClock" "imageKept" "[Z") (List.mem_of_getElem? (i := 2) rfl)) (fun _ h9 => h9) rfl dX2_goBack_13 ?_
    refine lv_iload_n hx hb dX2_goBack_16 rfl (lv_at hl 1 rfl) ?_
    obtain ⟨hi3, hF⟩ := zc_inE hF
    refine zc_zald hx hb hK.1 hP 4 2 rfl rfl hi3 rfl dX2_goBack_17 ?_
    refine lv_if_ne (tgt := 24) hx hb dX2_goBack_18 (by decide) (fun c4 => ?_) (fun c4 => ?_)
    · have hF := zc_neg c4 hF
      refine lv_aload_n hx hb dX2_goBack_24 rfl (lv_at hl 0 rfl) ?_
      refine va_get (D := G.1) (ci := 2) (C := RX2) (T := TX2) (N := 10) hx hb hts iX2_goBack_X2 hown hK.1 hP 0 rfl rfl 0 (by decide) (hts (.fieldLink RX2 10 "BoardClock" "now" "LBoardClock$State;") (List.mem_of_getElem? (i := 4) rfl)) (fun _ h9 => h9) rfl dX2_goBack_25 ?_
      refine lv_aload_n hx hb dX2_goBack_28 rfl (lv_at hl 0 rfl) ?_
      refine va_get (D := G.1) (ci := 2) (C := RX2) (T := TX2) (N := 10) hx hb hts iX2_goBack_X2 hown hK.1 hP 0 rfl rfl 5 (by decide) (hts (.fieldLink RX2 30 "BoardClock" "images" "[LBoardClock$State;") (List.mem_of_getElem? (i := 5) rfl)) (fun _ h9 => h9) rfl dX2_goBack_29 ?_
      refine lv_iload_n hx hb dX2_goBack_32 rfl (lv_at hl 1 rfl) ?_
      obtain ⟨hi5, hF⟩ := zc_inE hF
      refine va_aldq hx hb hK.1 hP 2 3 rfl rfl hi5 dX2_goBack_33 ?_
      refine W.eq (g2 := F0 m 34 ls (.ref (pa (a1.toNatClampNeg + 20) 0) :: _)) rfl ?_
      obtain ⟨r6, er6, hF⟩ := zc_bind hF
      refine zc_poolFrom (k := (a1.toNatClampNeg + 20)) (by have := zc_vlt hi5; omega) hP hD hS hA (va_runV (As := [.ref _]) ⟨hx, hb, hml, hown, hts⟩ (kX1_copyFrom l G na (pa (a1.toNatClampNeg + 20)) _ er6) (cwV 1 hts gX2_goBack_X1_copyFrom rfl rfl rfl (by decide +kernel) ⟨Nat.le_of_ble_eq_true rfl, Nat.le_of_ble_eq_true rfl⟩) (zc_preFrom hK hP hD (by have := zc_vlt hi5; omega)) rfl rfl hl.1 rfl (lv_room (Nat.le_of_ble_eq_true rfl)) dX2_goBack_34 ⟨Nat.le_of_ble_eq_true rfl, Nat.le_of_ble_eq_true rfl⟩) (fun H locs hP hS => ?_)
      obtain ⟨b7, eb7, hF⟩ := zc_letX hF
      have hP : va_P G.1 vwCl (zc_bc G ba na pa b7) H := by rw [eb7]; exact hP
      have hD : va_D A (zc_bc G ba na pa b7) := zc_bcD hD
      refine lv_aload_n hx hb dX2_goBack_37 rfl (lv_at hl 0 rfl) ?_
      refine lv_aload_n hx hb dX2_goBack_38 rfl (lv_at hl 0 rfl) ?_
      refine va_get (D := G.1) (ci := 2) (C := RX2) (T := TX2) (N := 10) hx hb hts iX2_goBack_X2 hown hK.1 hP 0 rfl rfl 6 (by decide) (hts (.fieldLink RX2 33 "BoardClock" "imageSeeds" "[I") (List.mem_of_getElem? (i := 6) rfl)) (fun _ h9 => h9) rfl dX2_goBack_39 ?_
      refine lv_iload_n hx hb dX2_goBack_42 rfl (lv_at hl 1 rfl) ?_
      obtain ⟨hi8, hF⟩ := zc_inE hF
      refine zc_iald hx hb hK.1 hP 3 0 rfl rfl hi8 rfl dX2_goBack_43 ?_
      refine va_put (D := G.1) (ci := 2) (v := .int (b7.2.1 0 a1.toNatClampNeg)) (ty := .int) (C := RX2) (T := TX2) (N := 10) hx hb hts iX2_goBack_X2 tyX2 tyX2_ok nmX2 hown hK.1 hP hD hS 0 rfl rfl 1 (by decide) (hts (.fieldLink RX2 16 "BoardClock" "theSeed" "I") (List.mem_of_getElem? (i := 7) rfl)) (fun _ h9 => h9) rfl (by decide +kernel) rfl rfl (Nat.le_of_ble_eq_true rfl) dX2_goBack_44 (fun H locs hP _ hS => ?_)
      obtain ⟨b9, eb9, hF⟩ := zc_letX hF
      have hP : va_P G.1 vwCl (zc_bc G ba na pa b9) H := by rw [eb9]; exact hP
      have hD : va_D A (zc_bc G ba na pa b9) := zc_bcD hD
      refine lv_aload_n hx hb dX2_goBack_47 rfl (lv_at hl 0 rfl) ?_
      refine lv_iconst (v := (0 : Int32)) hx hb dX2_goBack_48 (by decide) ?_
      refine va_put (D := G.1) (ci := 2) (v := .int (0 : Int32)) (ty := .int) (C := RX2) (T := TX2) (N := 10) hx hb hts iX2_goBack_X2 tyX2 tyX2_ok nmX2 hown hK.1 hP hD hS 0 rfl rfl 4 (by decide) (hts (.fieldLink RX2 27 "BoardClock" "undoable" "I") (List.mem_of_getElem? (i := 8) rfl)) (fun _ h9 => h9) rfl (by decide +kernel) rfl rfl (Nat.le_of_ble_eq_true rfl) dX2_goBack_49 (fun H locs hP _ hS => ?_)
      obtain ⟨b10, eb10, hF⟩ := zc_letX hF
      have hP : va_P G.1 vwCl (zc_bc G ba na pa b10) H := by rw [eb10]; exact hP
      have hD : va_D A (zc_bc G ba na pa b10) := zc_bcD hD
      refine lv_iconst (v := (1 : Int32)) hx hb dX2_goBack_52 (by decide) ?_
      obtain rfl := Option.some.inj hF
      exact W.iret hx hb hr (fun t ht hW => ⟨⟨_, (), rfl, rfl, zc_hp ht hP⟩, hS.F ht⟩) hS.2.2 dX2_goBack_53
    · have hF := zc_pos c4 hF
      refine lv_ldc hx hb hown (hts (.constant RX2 208 (-1000000003)) (List.mem_of_getElem? (i := 3) rfl)) dX2_goBack_21 ?_
      obtain rfl := Option.some.inj hF
      exact W.iret hx hb hr (fun t ht hW => ⟨⟨_, (), rfl, rfl, zc_hp ht hP⟩, hS.F ht⟩) hS.2.2 dX2_goBack_23
  · have hF := zc_pos c2 hF
    refine lv_ldc hx hb hown (hts (.constant RX2 140 (-1000000001)) (List.mem_of_getElem? (i := 1) rfl)) dX2_goBack_9 ?_
    obtain rfl := Option.some.inj hF
    exact W.iret hx hb hr (fun t ht hW => ⟨⟨_, (), rfl, rfl, zc_hp ht hP⟩, hS.F ht⟩) hS.2.2 dX2_goBack_11
