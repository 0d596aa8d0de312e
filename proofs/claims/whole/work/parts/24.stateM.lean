def fX1_noteTicks (v : zc_S) (a1 : Int32) : Option (zc_S) := Option.bind (fX2_spanOf (v.2.1 3)) fun (r1 : Int32) => if (v.2.1 13) = 0 then (zc_let (zc_sI v 14 r1) fun (v10 : zc_S) => zc_z (v10.2.1 11) (zc_let (zc_sI v10 15 (v10.2.1 11)) fun (v12 : zc_S) => zc_let (zc_sI v12 13 ((v12.2.1 13) + a1)) fun (v13 : zc_S) => some v13)) else (if (v.2.1 14) = r1 then (if (v.2.1 11) = 0 then (zc_let (zc_sI v 15 (0 : Int32)) fun (v8 : zc_S) => zc_let (zc_sI v8 13 ((v8.2.1 13) + a1)) fun (v9 : zc_S) => some v9) else (zc_let (zc_sI v 13 ((v.2.1 13) + a1)) fun (v7 : zc_S) => some v7)) else (zc_let (zc_sI v 15 (0 : Int32)) fun (v4 : zc_S) => zc_let (zc_sI v4 13 ((v4.2.1 13) + a1)) fun (v5 : zc_S) => some v5))
theorem iX1_noteTicks_X1 : ∀ w ∈ wsX10, w ∈ wsX1_noteTicks := fun _ h => List.mem_cons_of_mem _ (List.mem_append_right _ h)
set_option maxHeartbeats 4000000 in
set_option maxRecDepth 100000 in
theorem kX1_noteTicks (l : Launch) (G : zc_G) (ad : Nat → Nat) (sz : Nat) {v : zc_S} {a1 : Int32} {r0 : zc_S} (hF : fX1_noteTicks v a1 = some r0) : Met l yX1_noteTicks wsX1_noteTicks ({ frames := 1, cells := 0, slots := 0, locals := 20 }) (zc_Pm G [.ref (ad 0), .int a1] (zc_st G ad v) sz) (zc_Qv G (zc_st G ad r0) (va_A (zc_st G ad v) sz)) 0 0 (va_A (zc_st G ad v) sz) := by
  refine Met.ofW (cc := cX1_noteTicks) (maxL := 3) (ret := none) (by decide) rfl ?_
  intro p e s m args below meth c s₁ B hml hv
  obtain ⟨rfl, hsz, hP, hK, hD0⟩ := hv
  have hx := B.exec
  have hb := B.bytes
  have hr := B.returns
  have hts := atoms_spec (ws := wsX1_noteTicks) B.pre
  have hown : s.vm.findClass RX1 = some m.cls := findClass_of_methodNamed B.named
  have hlocks := B.notSynchronized
  subst hsz
  have hD := hD0.self (sz := s.heap.size)
  generalize hAe : va_A (zc_st G ad v) s.heap.size = A at hD ⊢
  have hA : ∀ q : Nat, s.heap.size ≤ q → A q := fun q h => by rw [← hAe]; exact Or.inr h
  have hS : va_S A s.heap s.heap [] := va_S.rf
  have hl := lv_entry ([.ref (ad 0), .int a1]) (n := 3) (Nat.le_of_ble_eq_true rfl)
  rw [lg_entry_eq]
  generalize (lg_sl ([.ref (ad 0), .int a1]) ++ List.replicate (3 - (lg_sl ([.ref (ad 0), .int a1])).length) Slot.unset).toArray = ls at hl ⊢
  have hl : lv_has ls 3 [(0, .ref (ad 0)), (1, .int a1)] := hl
  refine lv_aload_n hx hb dX1_noteTicks_0 rfl (lv_at hl 0 rfl) ?_
  refine va_get (D := G.1) (ci := 1) (C := RX1) (T := TX1) (N := 18) hx hb hts iX1_noteTicks_X1 hown hK.1 hP 0 rfl rfl 3 (by decide) (hts (.fieldLink RX1 21 "BoardClock$State" "warmth" "I") (List.mem_of_getElem? (i := 1) rfl)) (fun _ h9 => h9) rfl dX1_noteTicks_1 ?_
  obtain ⟨r1, er1, hF⟩ := zc_bind hF
  refine zc_ci (va_runSN (As := [.int _]) ⟨hx, hb, hml, hown, hts⟩ (kX2_spanOf l G er1) ⟨va_cnB 1 hts gX1_noteTicks_X2_spanOf_n108 rfl rfl rfl hK.2.2.2.2.2.2.2.1 (hts (.initialized RX2) (List.mem_of_getElem? (i := 7) rfl)) (by decide +kernel) ⟨Nat.le_of_ble_eq_true rfl, Nat.le_of_ble_eq_true rfl⟩, (hts (.static yX2_spanOf) (List.mem_of_getElem? (i := 6) rfl)), trivial⟩ (zc_preS hK (show va_P G.1 vwCl [] _ from fun k q h => by simp at h)) rfl rfl hl.1 rfl (lv_room (Nat.le_of_ble_eq_true rfl)) dX1_noteTicks_4 ⟨Nat.le_of_ble_eq_true rfl, Nat.le_of_ble_eq_true rfl⟩) ?_
  refine lv_istore_n (lv' := [(2, .int r1), (0, .ref (ad 0)), (1, .int a1)]) hx hb dX1_noteTicks_7 rfl hl (by decide) rfl (fun ls hl => ?_)
  refine lv_aload_n hx hb dX1_noteTicks_8 rfl (lv_at hl 1 rfl) ?_
  refine va_get (D := G.1) (ci := 1) (C := RX1) (T := TX1) (N := 18) hx hb hts iX1_noteTicks_X1 hown hK.1 hP 0 rfl rfl 13 (by decide) (hts (.fieldLink RX1 53 "BoardClock$State" "ticks" "I") (List.mem_of_getElem? (i := 2) rfl)) (fun _ h9 => h9) rfl dX1_noteTicks_9 ?_
  refine lv_if_ne (tgt := 31) hx hb dX1_noteTicks_12 (by decide) (fun c2 => ?_) (fun c2 => ?_)
  · have hF := zc_neg c2 hF
    refine lv_aload_n hx hb dX1_noteTicks_31 rfl (lv_at hl 1 rfl) ?_
    refine va_get (D := G.1) (ci := 1) (C := RX1) (T := TX1) (N := 18) hx hb hts iX1_noteTicks_X1 hown hK.1 hP 0 rfl rfl 14 (by decide) (hts (.fieldLink RX1 56 "BoardClock$State" "tickSpan" "I") (List.mem_of_getElem? (i := 3) rfl)) (fun _ h9 => h9) rfl dX1_noteTicks_32 ?_
    refine lv_iload_n hx hb dX1_noteTicks_35 rfl (lv_at hl 0 rfl) ?_
    refine lv_icmp_ne (tgt := 46) hx hb dX1_noteTicks_36 (by decide) (fun c3 => ?_) (fun c3 => ?_)
    · have hF := zc_neg c3 hF
      refine lv_aload_n hx hb dX1_noteTicks_46 rfl (lv_at hl 1 rfl) ?_
      refine lv_iconst (v := (0 : Int32)) hx hb dX1_noteTicks_47 (by decide) ?_
      refine va_put (D := G.1) (ci := 1) (v := .int (0 : Int32)) (ty := .boolean) (C := RX1) (T := TX1) (N := 18) hx hb hts iX1_noteTicks_X1 tyX1 tyX1_ok nmX1 hown hK.1 hP hD hS 0 rfl rfl 15 (by decide) (hts (.fieldLink RX1 59 "BoardClock$State" "steady" "Z") (List.mem_of_getElem? (i := 5) rfl)) (fun _ h9 => h9) rfl (by decide +kernel) (by decide) (by decide) (Nat.le_of_ble_eq_true rfl) dX1_noteTicks_48 (fun H locs hP _ hS => ?_)
      obtain ⟨v4, ev4, hF⟩ := zc_letX hF
      have hP : va_P G.1 vwCl (zc_st G ad v4) H := by rw [ev4]; exact hP
      have hD : va_D A (zc_st G ad v4) := zc_Ds hD rfl
      refine lv_aload_n hx hb dX1_noteTicks_51 rfl (lv_at hl 1 rfl) ?_
      refine lv_dup hx hb dX1_noteTicks_52 rfl ?_
      refine va_get (D := G.1) (ci := 1) (C := RX1) (T := TX1) (N := 18) hx hb hts iX1_noteTicks_X1 hown hK.1 hP 0 rfl rfl 13 (by decide) (hts (.fieldLink RX1 53 "BoardClock$State" "ticks" "I") (List.mem_of_getElem? (i := 2) rfl)) (fun _ h9 => h9) rfl dX1_noteTicks_53 ?_
      refine lv_iload_n hx hb dX1_noteTicks_56 rfl (lv_at hl 2 rfl) ?_
      refine lv_iadd hx hb dX1_noteTicks_57 ?_
      refine va_put (D := G.1) (ci := 1) (v := .int ((v4.2.1 13) + a1)) (ty := .int) (C := RX1) (T := TX1) (N := 18) hx hb hts iX1_noteTicks_X1 tyX1 tyX1_ok nmX1 hown hK.1 hP hD hS 0 rfl rfl 13 (by decide) (hts (.fieldLink RX1 53 "BoardClock$State" "ticks" "I") (List.mem_of_getElem? (i := 2) rfl)) (fun _ h9 => h9) rfl (by decide +kernel) rfl rfl (Nat.le_of_ble_eq_true rfl) dX1_noteTicks_58 (fun H locs hP _ hS => ?_)
      obtain ⟨v5, ev5, hF⟩ := zc_letX hF
      have hP : va_P G.1 vwCl (zc_st G ad v5) H := by rw [ev5]; exact hP
      have hD : va_D A (zc_st G ad v5) := zc_Ds hD rfl
      obtain rfl := Option.some.inj hF
      exact W.vret hx hb hr (fun t ht hW => ⟨⟨(), rfl, trivial, zc_hp ht hP⟩, hS.F ht⟩) hS.2.2 dX1_noteTicks_61
    · have hF := zc_pos c3 hF
      refine lv_aload_n hx hb dX1_noteTicks_39 rfl (lv_at hl 1 rfl) ?_
      refine va_get (D := G.1) (ci := 1) (C := RX1) (T := TX1) (N := 18) hx hb hts iX1_noteTicks_X1 hown hK.1 hP 0 rfl rfl 11 (by decide) (hts (.fieldLink RX1 46 "BoardClock$State" "powered" "Z") (List.mem_of_getElem? (i := 4) rfl)) (fun _ h9 => h9) rfl dX1_noteTicks_40 ?_
      refine lv_if_ne (tgt := 51) hx hb dX1_noteTicks_43 (by decide) (fun c6 => ?_) (fun c6 => ?_)
      · have hF := zc_neg c6 hF
        refine lv_aload_n hx hb dX1_noteTicks_51 rfl (lv_at hl 1 rfl) ?_
        refine lv_dup hx hb dX1_noteTicks_52 rfl ?_
        refine va_get (D := G.1) (ci := 1) (C := RX1) (T := TX1) (N := 18) hx hb hts iX1_noteTicks_X1 hown hK.1 hP 0 rfl rfl 13 (by decide) (hts (.fieldLink RX1 53 "BoardClock$State" "ticks" "I") (List.mem_of_getElem? (i := 2) rfl)) (fun _ h9 => h9) rfl dX1_noteTicks_53 ?_
        refine lv_iload_n hx hb dX1_noteTicks_56 rfl (lv_at hl 2 rfl) ?_
        refine lv_iadd hx hb dX1_noteTicks_57 ?_
        refine va_put (D := G.1) (ci := 1) (v := .int ((v.2.1 13) + a1)) (ty := .int) (C := RX1) (T := TX1) (N := 18) hx hb hts iX1_noteTicks_X1 tyX1 tyX1_ok nmX1 hown hK.1 hP hD hS 0 rfl rfl 13 (by decide) (hts (.fieldLink RX1 53 "BoardClock$State" "ticks" "I") (List.mem_of_getElem? (i := 2) rfl)) (fun _ h9 => h9) rfl (by decide +kernel) rfl rfl (Nat.le_of_ble_eq_true rfl) dX1_noteTicks_58 (fun H locs hP _ hS => ?_)
        obtain ⟨v7, ev7, hF⟩ := zc_letX hF
        have hP : va_P G.1 vwCl (zc_st G ad v7) H := by rw [ev7]; exact hP
        have hD : va_D A (zc_st G ad v7) := zc_Ds hD rfl
        obtain rfl := Option.some.inj hF
        exact W.vret hx hb hr (fun t ht hW => ⟨⟨(), rfl, trivial, zc_hp ht hP⟩, hS.F ht⟩) hS.2.2 dX1_noteTicks_61
      · have hF := zc_pos c6 hF
        refine lv_aload_n hx hb dX1_noteTicks_46 rfl (lv_at hl 1 rfl) ?_
        refine lv_iconst (v := (0 : Int32)) hx hb dX1_noteTicks_47 (by decide) ?_
        refine va_put (D := G.1) (ci := 1) (v := .int (0 : Int32)) (ty := .boolean) (C := RX1) (T := TX1) (N := 18) hx hb hts iX1_noteTicks_X1 tyX1 tyX1_ok nmX1 hown hK.1 hP hD hS 0 rfl rfl 15 (by decide) (hts (.fieldLink RX1 59 "BoardClock$State" "steady" "Z") (List.mem_of_getElem? (i := 5) rfl)) (fun _ h9 => h9) rfl (by decide +kernel) (by decide) (by decide) (Nat.le_of_ble_eq_true rfl) dX1_noteTicks_48 (fun H locs hP _ hS => ?_)
        obtain ⟨v8, ev8, hF⟩ := zc_letX hF
        have hP : va_P G.1 vwCl (zc_st G ad v8) H := by rw [ev8]; exact hP
        have hD : va_D A (zc_st G ad v8) := zc_Ds hD rfl
        refine lv_aload_n hx hb dX1_noteTicks_51 rfl (lv_at hl 1 rfl) ?_
        refine lv_dup hx hb dX1_noteTicks_52 rfl ?_
        refine va_get (D := G.1) (ci := 1) (C := RX1) (T := TX1) (N := 18) hx hb hts iX1_noteTicks_X1 hown hK.1 hP 0 rfl rfl 13 (by decide) (hts (.fieldLink RX1 53 "BoardClock$State" "ticks" "I") (List.mem_of_getElem? (i := 2) rfl)) (fun _ h9 => h9) rfl dX1_noteTicks_53 ?_
        refine lv_iload_n hx hb dX1_noteTicks_56 rfl (lv_at hl 2 rfl) ?_
        refine lv_iadd hx hb dX1_noteTicks_57 ?_
        refine va_put (D := G.1) (ci := 1) (v := .int ((v8.2.1 13) + a1)) (ty := .int) (C := RX1) (T := TX1) (N := 18) hx hb hts iX1_noteTicks_X1 tyX1 tyX1_ok nmX1 hown hK.1 hP hD hS 0 rfl rfl 13 (by decide) (hts (.fieldLink RX1 53 "BoardClock$State" "ticks" "I") (List.mem_of_getElem? (i := 2) rfl)) (fun _ h9 => h9) rfl (by decide +kernel) rfl rfl (Nat.le_of_ble_eq_true rfl) dX1_noteTicks_58 (fun H locs hP _ hS => ?_)
        obtain ⟨v9, ev9, hF⟩ := zc_letX hF
        have hP : va_P G.1 vwCl (zc_st G ad v9) H := by rw [ev9]; exact hP
        have hD : va_D A (zc_st G ad v9) := zc_Ds hD rfl
        obtain rfl := Option.some.inj hF
        exact W.vret hx hb hr (fun t ht hW => ⟨⟨(), rfl, trivial, zc_hp ht hP⟩, hS.F ht⟩) hS.2.2 dX1_noteTicks_61
  · have hF := zc_pos c2 hF
    refine lv_aload_n hx hb dX1_noteTicks_15 rfl (lv_at hl 1 rfl) ?_
    refine lv_iload_n hx hb dX1_noteTicks_16 rfl (lv_at hl 0 rfl) ?_
    refine va_put (D := G.1) (ci := 1) (v := .int r1) (ty := .int) (C := RX1) (T := TX1) (N := 18) hx hb hts iX1_noteTicks_X1 tyX1 tyX1_ok nmX1 hown hK.1 hP hD hS 0 rfl rfl 14 (by decide) (hts (.fieldLink RX1 56 "BoardClock$State" "tickSpan" "I") (List.mem_of_getElem? (i := 3) rfl)) (fun _ h9 => h9) rfl (by decide +kernel) rfl rfl (Nat.le_of_ble_eq_true rfl) dX1_noteTicks_17 (fun H locs hP _ hS => ?_)
    obtain ⟨v10, ev10, hF⟩ := zc_letX hF
    have hP : va_P G.1 vwCl (zc_st G ad v10) H := by rw [ev10]; exact hP
    have hD : va_D A (zc_st G ad v10) := zc_Ds hD rfl
    refine lv_aload_n hx hb dX1_noteTicks_20 rfl (lv_at hl 1 rfl) ?_
    refine lv_aload_n hx hb dX1_noteTicks_21 rfl (lv_at hl 1 rfl) ?_
    refine va_get (D := G.1) (ci := 1) (C := RX1) (T := TX1) (N := 18) hx hb hts iX1_noteTicks_X1 hown hK.1 hP 0 rfl rfl 11 (by decide) (hts (.fieldLink RX1 46 "BoardClock$State" "powered" "Z") (List.mem_of_getElem? (i := 4) rfl)) (fun _ h9 => h9) rfl dX1_noteTicks_22 ?_
    obtain ⟨hz11, hF⟩ := zc_zE hF
    refine va_put (D := G.1) (ci := 1) (v := .int (v10.2.1 11)) (ty := .boolean) (C := RX1) (T := TX1) (N := 18) hx hb hts iX1_noteTicks_X1 tyX1 tyX1_ok nmX1 hown hK.1 hP hD hS 0 rfl rfl 15 (by decide) (hts (.fieldLink RX1 59 "BoardClock$State" "steady" "Z") (List.mem_of_getElem? (i := 5) rfl)) (fun _ h9 => h9) rfl (by decide +kernel) hz11.1 hz11.2 (Nat.le_of_ble_eq_true rfl) dX1_noteTicks_25 (fun H locs hP _ hS => ?_)
    obtain ⟨v12, ev12, hF⟩ := zc_letX hF
    have hP : va_P G.1 vwCl (zc_st G ad v12) H := by rw [ev12]; exact hP
    have hD : va_D A (zc_st G ad v12) := zc_Ds hD rfl
    refine lv_goto (tgt := 51) hx hb dX1_noteTicks_28 (by decide) ?_
    refine lv_aload_n hx hb dX1_noteTicks_51 rfl (lv_at hl 1 rfl) ?_
    refine lv_dup hx hb dX1_noteTicks_52 rfl ?_
    refine va_get (D := G.1) (ci := 1) (C := RX1) (T := TX1) (N := 18) hx hb hts iX1_noteTicks_X1 hown hK.1 hP 0 rfl rfl 13 (by decide) (hts (.fieldLink RX1 53 "BoardClock$State" "ticks" "I") (List.mem_of_getElem? (i := 2) rfl)) (fun _ h9 => h9) rfl dX1_noteTicks_53 ?_
    refine lv_iload_n hx hb dX1_noteTicks_56 rfl (lv_at hl 2 rfl) ?_
    refine lv_iadd hx hb dX1_noteTicks_57 ?_
    refine va_put (D := G.1) (ci := 1) (v := .int ((v12.2.1 13) + a1)) (ty := .int) (C := RX1) (T := TX1) (N := 18) hx hb hts iX1_noteTicks_X1 tyX1 tyX1_ok nmX1 hown hK.1 hP hD hS 0 rfl rfl 13 (by decide) (hts (.fieldLink RX1 53 "BoardClock$State" "ticks" "I") (List.mem_of_getElem? (i := 2) rfl)) (fun _ h9 => h9) rfl (by decide +kernel) rfl rfl (Nat.le_of_ble_eq_true rfl) dX1_noteTicks_58 (fun H locs hP _ hS => ?_)
    obtain ⟨v13, ev13, hF⟩ := zc_letX hF
    have hP : va_P G.1 vwCl (zc_st G ad v13) H := by rw [ev13]; exact hP
    have hD : va_D A (zc_st G ad v13) := zc_Ds hD rfl
    obtain rfl := Option.some.inj hF
    exact W.vret hx hb hr (fun t ht hW => ⟨⟨(), rfl, trivial, zc_hp ht hP⟩, hS.F ht⟩) hS.2.2 dX1_noteTicks_61
def fX1_learnFrom (v : zc_S) (a1 : Int64) : Option (zc_S) := if (v.2.1 13) ≤ 0 then (some v) else (if (v.2.1 15) = 0 then (some v) else (Option.bind (fX2_isSpan (v.2.1 14)) fun (r3 : Int32) => if r3 = 0 then (some v) else (Option.bind (fX1_aim v) fun (r5 : Int64) => zc_nzL ((2 : Int64) * ((v.2.1 13)).toInt64) (zc_let (((r5 - a1) * (16 : Int64)) / ((2 : Int64) * ((v.2.1 13)).toInt64)) fun (x7 : Int64) => zc_in (v.2.1 14) 9 (Option.bind (fX2_heldBetween (((v.2.2.1 ((v.2.1 14)).toNatClampNeg)).toInt64 + x7) (-9999 : Int64) (9999 : Int64)) fun (r9 : Int64) => zc_in (v.2.1 14) 9 (zc_let (zc_sa v ((v.2.1 14)).toNatClampNeg (r9).toInt32) fun (v11 : zc_S) => some v11))))))
theorem iX1_learnFrom_X1 : ∀ w ∈ wsX10, w ∈ wsX1_learnFrom := fun _ h => List.mem_cons_of_mem _ (List.mem_append_right _ h)
set_option maxHeartbeats 4000000 in
set_option maxRecDepth 100000 in
theorem kX1_learnFrom (l : Launch) (G : zc_G) (ad : Nat → Nat) (sz : Nat) {v : zc_S} {a1 : Int64} {r0 : zc_S} (hF : fX1_learnFrom v a1 = some r0) : Met l yX1_learnFrom wsX1_learnFrom ({ frames := 2, cells := 0, slots := 0, locals := 50 }) (zc_Pm G [.ref (ad 0), .long a1] (zc_st G ad v) sz) (zc_Qv G (zc_st G ad r0) (va_A (zc_st G ad v) sz)) 0 0 (va_A (zc_st G ad v) sz) := by
  refine Met.ofW (cc := cX1_learnFrom) (maxL := 5) (ret := none) (by decide) rfl ?_
  intro p e s m args below meth c s₁ B hml hv
  obtain ⟨rfl, hsz, hP, hK, hD0⟩ := hv
  have hx := B.exec
  have hb := B.bytes
  have hr := B.returns
  have hts := atoms_spec (ws := wsX1_learnFrom) B.pre
  have hown : s.vm.findClass RX1 = some m.cls := findClass_of_methodNamed B.named
  have hlocks := B.notSynchronized
  subst hsz
  have hD := hD0.self (sz := s.heap.size)
  generalize hAe : va_A (zc_st G ad v) s.heap.size = A at hD ⊢
  have hA : ∀ q : Nat, s.heap.size ≤ q → A q := fun q h => by rw [← hAe]; exact Or.inr h
  have hS : va_S A s.heap s.heap [] := va_S.rf
  have hl := lv_entry ([.ref (ad 0), .long a1]) (n := 5) (Nat.le_of_ble_eq_true rfl)
  rw [lg_entry_eq]
  generalize (lg_sl ([.ref (ad 0), .long a1]) ++ List.replicate (5 - (lg_sl ([.ref (ad 0), .long a1])).length) Slot.unset).toArray = ls at hl ⊢
  have hl : lv_has ls 5 [(0, .ref (ad 0)), (1, .long a1)] := hl
  refine lv_aload_n hx hb dX1_learnFrom_0 rfl (lv_at hl 0 rfl) ?_
  refine va_get (D := G.1) (ci := 1) (C := RX1) (T := TX1) (N := 18) hx hb hts iX1_learnFrom_X1 hown hK.1 hP 0 rfl rfl 13 (by decide) (hts (.fieldLink RX1 53 "BoardClock$State" "ticks" "I") (List.mem_of_getElem? (i := 1) rfl)) (fun _ h9 => h9) rfl dX1_learnFrom_1 ?_
  refine lv_if_le (tgt := 76) hx hb dX1_learnFrom_4 (by decide) (fun c1 => ?_) (fun c1 => ?_)
  · have hF := zc_pos c1 hF
    obtain rfl := Option.some.inj hF
    exact W.vret hx hb hr (fun t ht hW => ⟨⟨(), rfl, trivial, zc_hp ht hP⟩, hS.F ht⟩) hS.2.2 dX1_learnFrom_76
  · have hF := zc_neg c1 hF
    refine lv_aload_n hx hb dX1_learnFrom_7 rfl (lv_at hl 0 rfl) ?_
    refine va_get (D := G.1) (ci := 1) (C := RX1) (T := TX1) (N := 18) hx hb hts iX1_learnFrom_X1 hown hK.1 hP 0 rfl rfl 15 (by decide) (hts (.fieldLink RX1 59 "BoardClock$State" "steady" "Z") (List.mem_of_getElem? (i := 2) rfl)) (fun _ h9 => h9) rfl dX1_learnFrom_8 ?_
    refine lv_if_eq (tgt := 76) hx hb dX1_learnFrom_11 (by decide) (fun c2 => ?_) (fun c2 => ?_)
    · have hF := zc_pos c2 hF
      obtain rfl := Option.some.inj hF
      exact W.vret hx hb hr (fun t ht hW => ⟨⟨(), rfl, trivial, zc_hp ht hP⟩, hS.F ht⟩) hS.2.2 dX1_learnFrom_76
    · have hF := zc_neg c2 hF
      refine lv_aload_n hx hb dX1_learnFrom_14 rfl (lv_at hl 0 rfl) ?_
      refine va_get (D := G.1) (ci := 1) (C := RX1) (T := TX1) (N := 18) hx hb hts iX1_learnFrom_X1 hown hK.1 hP 0 rfl rfl 14 (by decide) (hts (.fieldLink RX1 56 "BoardClock$State" "tickSpan" "I") (List.mem_of_getElem? (i := 3) rfl)) (fun _ h9 => h9) rfl dX1_learnFrom_15 ?_
      obtain ⟨r3, er3, hF⟩ := zc_bind hF
      refine zc_ci (va_runSN (As := [.int _]) ⟨hx, hb, hml, hown, hts⟩ (kX2_isSpan l G er3) ⟨va_cnB 1 hts gX1_learnFrom_X2_isSpan_n92 rfl rfl rfl hK.2.2.2.1 (hts (.initialized RX2) (List.mem_of_getElem? (i := 10) rfl)) (by decide +kernel) ⟨Nat.le_of_ble_eq_true rfl, Nat.le_of_ble_eq_true rfl⟩, (hts (.static yX2_isSpan) (List.mem_of_getElem? (i := 9) rfl)), trivial⟩ (zc_preS hK (show va_P G.1 vwCl [] _ from fun k q h => by simp at h)) rfl rfl hl.1 rfl (lv_room (Nat.le_of_ble_eq_true rfl)) dX1_learnFrom_18 ⟨Nat.le_of_ble_eq_true rfl, Nat.le_of_ble_eq_true rfl⟩) ?_
      refine lv_if_eq (tgt := 76) hx hb dX1_learnFrom_21 (by decide) (fun c4 => ?_) (fun c4 => ?_)
      · have hF := zc_pos c4 hF
        obtain rfl := Option.some.inj hF
        exact W.vret hx hb hr (fun t ht hW => ⟨⟨(), rfl, trivial, zc_hp ht hP⟩, hS.F ht⟩) hS.2.2 dX1_learnFrom_76
      · have hF := zc_neg c4 hF
        refine lv_aload_n hx hb dX1_learnFrom_24 rfl (lv_at hl 0 rfl) ?_
        obtain ⟨r5, er5, hF⟩ := zc_bind hF
        refine zc_cl (va_runV (As := []) ⟨hx, hb, hml, hown, hts⟩ (kX1_aim l G ad er5) (cwV 0 hts gX1_learnFrom_X1_aim rfl rfl rfl (by decide +kernel) ⟨Nat.le_of_ble_eq_true rfl, Nat.le_of_ble_eq_true rfl⟩) (zc_preV hK hP 0 rfl rfl) rfl rfl hl.1 rfl (lv_room (Nat.le_of_ble_eq_true rfl)) dX1_learnFrom_25 ⟨Nat.le_of_ble_eq_true rfl, Nat.le_of_ble_eq_true rfl⟩) ?_
        refine lv_lload_n hx hb dX1_learnFrom_28 rfl (lv_at hl 1 rfl) ?_
        refine lv_lsub hx hb dX1_learnFrom_29 ?_
        refine lv_ldc2 hx hb hown (hts (.constantLong RX1 106 (16)) (List.mem_of_getElem? (i := 4) rfl)) dX1_learnFrom_30 ?_
        refine lv_lmul hx hb dX1_learnFrom_33 ?_
        refine lv_ldc2 hx hb hown (hts (.constantLong RX1 163 (2)) (List.mem_of_getElem? (i := 5) rfl)) dX1_learnFrom_34 ?_
        refine lv_aload_n hx hb dX1_learnFrom_37 rfl (lv_at hl 0 rfl) ?_
        refine va_get (D := G.1) (ci := 1) (C := RX1) (T := TX1) (N := 18) hx hb hts iX1_learnFrom_X1 hown hK.1 hP 0 rfl rfl 13 (by decide) (hts (.fieldLink RX1 53 "BoardClock$State" "ticks" "I") (List.mem_of_getElem? (i := 1) rfl)) (fun _ h9 => h9) rfl dX1_learnFrom_38 ?_
        refine lv_i2l hx hb dX1_learnFrom_41 rfl ?_
        refine lv_lmul hx hb dX1_learnFrom_42 ?_
        obtain ⟨hnz6, hF⟩ := zc_nzLE hF
        refine lv_ldiv hx hb dX1_learnFrom_43 hnz6 ?_
        refine lv_topl (fun x7 ex7 => ?_)
        have hF := zc_letE ex7 hF
        refine lv_lstore_n (lv' := [(3, .long x7), (0, .ref (ad 0)), (1, .long a1)]) hx hb dX1_learnFrom_44 rfl hl (by decide) rfl (fun ls hl => ?_)
        refine lv_aload_n hx hb dX1_learnFrom_45 rfl (lv_at hl 1 rfl) ?_
        refine va_get (D := G.1) (ci := 1) (C := RX1) (T := TX1) (N := 18) hx hb hts iX1_learnFrom_X1 hown hK.1 hP 0 rfl rfl 16 (by decide) (hts (.fieldLink RX1 62 "BoardClock$State" "learned" "[I") (List.mem_of_getElem? (i := 6) rfl)) (fun _ h9 => h9) rfl dX1_learnFrom_46 ?_
        refine lv_aload_n hx hb dX1_learnFrom_49 rfl (lv_at hl 1 rfl) ?_
        refine va_get (D := G.1) (ci := 1) (C := RX1) (T := TX1) (N := 18) hx hb hts iX1_learnFrom_X1 hown hK.1 hP 0 rfl rfl 14 (by decide) (hts (.fieldLink RX1 56 "BoardClock$State" "tickSpan" "I") (List.mem_of_getElem? (i := 3) rfl)) (fun _ h9 => h9) rfl dX1_learnFrom_50 ?_
        refine lv_aload_n hx hb dX1_learnFrom_53 rfl (lv_at hl 1 rfl) ?_
        refine va_get (D := G.1) (ci := 1) (C := RX1) (T := TX1) (N := 18) hx hb hts iX1_learnFrom_X1 hown hK.1 hP 0 rfl rfl 16 (by decide) (hts (.fieldLink RX1 62 "BoardClock$State" "learned" "[I") (List.mem_of_getElem? (i := 6) rfl)) (fun _ h9 => h9) rfl dX1_learnFrom_54 ?_
        refine lv_aload_n hx hb dX1_learnFrom_57 rfl (lv_at hl 1 rfl) ?_
        refine va_get (D := G.1) (ci := 1) (C := RX1) (T := TX1) (N := 18) hx hb hts iX1_learnFrom_X1 hown hK.1 hP 0 rfl rfl 14 (by decide) (hts (.fieldLink RX1 56 "BoardClock$State" "tickSpan" "I") (List.mem_of_getElem? (i := 3) rfl)) (fun _ h9 => h9) rfl dX1_learnFrom_58 ?_
        obtain ⟨hi8, hF⟩ := zc_inE hF
        refine zc_iald hx hb hK.1 hP 1 0 rfl rfl hi8 rfl dX1_learnFrom_61 ?_
        refine lv_i2l hx hb dX1_learnFrom_62 rfl ?_
        refine lv_lload_n hx hb dX1_learnFrom_63 rfl (lv_at hl 0 rfl) ?_
        refine lv_ladd hx hb dX1_learnFrom_64 ?_
        refine lv_ldc2 hx hb hown (hts (.constantLong RX1 165 (-9999)) (List.mem_of_getElem? (i := 7) rfl)) dX1_learnFrom_65 ?_
        refine lv_ldc2 hx hb hown (hts (.constantLong RX1 167 (9999)) (List.mem_of_getElem? (i := 8) rfl)) dX1_learnFrom_68 ?_
        obtain ⟨r9, er9, hF⟩ := zc_bind hF
        refine zc_cl (va_runSN (As := [.long _, .long _, .long _]) ⟨hx, hb, hml, hown, hts⟩ (kX2_heldBetween l G er9) ⟨va_cnB 3 hts gX1_learnFrom_X2_heldBetween_n111 rfl rfl rfl hK.2.2.2.2.2.2.2.2.1 (hts (.initialized RX2) (List.mem_of_getElem? (i := 10) rfl)) (by decide +kernel) ⟨Nat.le_of_ble_eq_true rfl, Nat.le_of_ble_eq_true rfl⟩, (hts (.static yX2_heldBetween) (List.mem_of_getElem? (i := 19) rfl)), trivial⟩ (zc_preS hK (show va_P G.1 vwCl [] _ from fun k q h => by simp at h)) rfl rfl hl.1 rfl (lv_room (Nat.le_of_ble_eq_true rfl)) dX1_learnFrom_71 ⟨Nat.le_of_ble_eq_true rfl, Nat.le_of_ble_eq_true rfl⟩) ?_
        refine lv_l2i hx hb dX1_learnFrom_74 rfl ?_
        obtain ⟨hi10, hF⟩ := zc_inE hF
        refine zc_iast hx hb hK.1 hP hD hS 1 0 rfl rfl hi10 rfl dX1_learnFrom_75 (fun H locs hP hS => ?_)
        obtain ⟨v11, ev11, hF⟩ := zc_letX hF
        have hP : va_P G.1 vwCl (zc_st G ad v11) H := by rw [ev11]; exact hP
        have hD : va_D A (zc_st G ad v11) := zc_Ds hD rfl
        obtain rfl := Option.some.inj hF
        exact W.vret hx hb hr (fun t ht hW => ⟨⟨(), rfl, trivial, zc_hp ht hP⟩, hS.F ht⟩) hS.2.2 dX1_learnFrom_76
def fX1_aimBetween (v : zc_S) (a1 : Int64) (a2 : Int64) : Option (zc_S) := Option.bind (fJ9_floorDiv_f86c9 (a1 + a2) (32 : Int64)) fun (r1 : Int64) => zc_let (zc_sI v 9 ((if ((r1 * (16 : Int64)) - a1) < (a2 - (r1 * (16 : Int64))) then (a2 - (r1 * (16 : Int64))) else ((r1 * (16 : Int64)) - a1))).toInt32) fun (v2 : zc_S) => zc_let (zc_sL v2 2 (r1 - (v2.1 1))) fun (v3 : zc_S) => some v3
theorem iX1_aimBetween_X1 : ∀ w ∈ wsX10, w ∈ wsX1_aimBetween := fun _ h => List.mem_cons_of_mem _ (List.mem_append_right _ h)
set_option maxHeartbeats 4000000 in
set_option maxRecDepth 100000 in
theorem kX1_aimBetween (l : Launch) (G : zc_G) (ad : Nat → Nat) (sz : Nat) {v : zc_S} {a1 : Int64} {a2 : Int64} {r0 : zc_S} (hF : fX1_aimBetween v a1 a2 = some r0) : Met l yX1_aimBetween wsX1_aimBetween ({ frames := 1, cells := 0, slots := 0, locals := 25 }) (zc_Pm G [.ref (ad 0), .long a1, .long a2] (zc_st G ad v) sz) (zc_Qv G (zc_st G ad r0) (va_A (zc_st G ad v) sz)) 0 0 (va_A (zc_st G ad v) sz) := by
  refine Met.ofW (cc := cX1_aimBetween) (maxL := 7) (ret := none) (by decide) rfl ?_
  intro p e s m args below meth c s₁ B hml hv
  obtain ⟨rfl, hsz, hP, hK, hD0⟩ := hv
  have hx := B.exec
  have hb := B.bytes
  have hr := B.returns
  have hts := atoms_spec (ws := wsX1_aimBetween) B.pre
  have hown : s.vm.findClass RX1 = some m.cls := findClass_of_methodNamed B.named
  have hlocks := B.notSynchronized
  subst hsz
  have hD := hD0.self (sz := s.heap.size)
  generalize hAe : va_A (zc_st G ad v) s.heap.size = A at hD ⊢
  have hA : ∀ q : Nat, s.heap.size ≤ q → A q := fun q h => by rw [← hAe]; exact Or.inr h
  have hS : va_S A s.heap s.heap [] := va_S.rf
  have hl := lv_entry ([.ref (ad 0), .long a1, .long a2]) (n := 7) (Nat.le_of_ble_eq_true rfl)
  rw [lg_entry_eq]
  generalize (lg_sl ([.ref (ad 0), .long a1, .long a2]) ++ List.replicate (7 - (lg_sl ([.ref (ad 0), .long a1, .long a2])).length) Slot.unset).toArray = ls at hl ⊢
  have hl : lv_has ls 7 [(0, .ref (ad 0)), (1, .long a1), (3, .long a2)] := hl
  refine lv_lload_n hx hb dX1_aimBetween_0 rfl (lv_at hl 1 rfl) ?_
  refine lv_lload_n hx hb dX1_aimBetween_1 rfl (lv_at hl 2 rfl) ?_
  refine lv_ladd hx hb dX1_aimBetween_2 ?_
  refine lv_ldc2 hx hb hown (hts (.constantLong RX1 169 (32)) (List.mem_of_getElem? (i := 1) rfl)) dX1_aimBetween_3 ?_
  obtain ⟨r1, er1, hF⟩ := zc_bind hF
  refine zc_cl (va_runS (As := [.long _, .long _]) ⟨hx, hb, hml, hown, hts⟩ (kJ9_floorDiv_f86c9 l G er1) (va_cwS 2 hts gX1_aimBetween_J9_floorDiv_f86c9 rfl rfl rfl (by decide +kernel) ⟨Nat.le_of_ble_eq_true rfl, Nat.le_of_ble_eq_true rfl⟩) (zc_preS hK (show va_P G.1 vwCl [] _ from fun k q h => by simp at h)) rfl rfl hl.1 rfl (lv_room (Nat.le_of_ble_eq_true rfl)) dX1_aimBetween_6 ⟨Nat.le_of_ble_eq_true rfl, Nat.le_of_ble_eq_true rfl⟩) ?_
  refine lv_lstore (lv' := [(5, .long r1), (0, .ref (ad 0)), (1, .long a1), (3, .long a2)]) hx hb dX1_aimBetween_9 hl (by decide) rfl (fun ls hl => ?_)
  refine lv_aload_n hx hb dX1_aimBetween_11 rfl (lv_at hl 1 rfl) ?_
  refine lv_lload_n hx hb dX1_aimBetween_12 rfl (lv_at hl 3 rfl) ?_
  refine lv_lload hx hb dX1_aimBetween_13 (lv_at hl 0 rfl) ?_
  refine lv_ldc2 hx hb hown (hts (.constantLong RX1 106 (16)) (List.mem_of_getElem? (i := 2) rfl)) dX1_aimBetween_15 ?_
  refine lv_lmul hx hb dX1_aimBetween_18 ?_
  refine lv_lsub hx hb dX1_aimBetween_19 ?_
  refine lv_lload hx hb dX1_aimBetween_20 (lv_at hl 0 rfl) ?_
  refine lv_ldc2 hx hb hown (hts (.constantLong RX1 106 (16)) (List.mem_of_getElem? (i := 2) rfl)) dX1_aimBetween_22 ?_
  refine lv_lmul hx hb dX1_aimBetween_25 ?_
  refine lv_lload_n hx hb dX1_aimBetween_26 rfl (lv_at hl 2 rfl) ?_
  refine lv_lsub hx hb dX1_aimBetween_27 ?_
  refine va_mmax_long hx hb (hml.trans hl.1.symm) hown (hts (.methodLink RX1 156 Lib.MathLoose.max_long.x) (List.mem_of_getElem? (i := 3) rfl)) (hts (.static Lib.MathLoose.max_long.x) (List.mem_of_getElem? (i := 4) rfl)) (hts (.initialized "java/lang/Math") (List.mem_of_getElem? (i := 5) rfl)) (hts (.code Lib.MathLoose.max_long.x Lib.MathLoose.max_long.code 4 (some .long)) (List.mem_of_getElem? (i := 6) rfl)) (Nat.le_of_ble_eq_true rfl) (Nat.le_of_ble_eq_true rfl) (Nat.zero_le _) (Nat.zero_le _) dX1_aimBetween_28 ?_
  refine lv_l2i hx hb dX1_aimBetween_31 rfl ?_
  refine va_put (D := G.1) (ci := 1) (v := .int ((if ((r1 * (16 : Int64)) - a1) < (a2 - (r1 * (16 : Int64))) then (a2 - (r1 * (16 : Int64))) else ((r1 * (16 : Int64)) - a1))).toInt32) (ty := .int) (C := RX1) (T := TX1) (N := 18) hx hb hts iX1_aimBetween_X1 tyX1 tyX1_ok nmX1 hown hK.1 hP hD hS 0 rfl rfl 9 (by decide) (hts (.fieldLink RX1 40 "BoardClock$State" "width" "I") (List.mem_of_getElem? (i := 7) rfl)) (fun _ h9 => h9) rfl (by decide +kernel) rfl rfl (Nat.le_of_ble_eq_true rfl) dX1_aimBetween_32 (fun H locs hP _ hS => ?_)
  obtain ⟨v2, ev2, hF⟩ := zc_letX hF
  have hP : va_P G.1 vwCl (zc_st G ad v2) H := by rw [ev2]; exact hP
  have hD : va_D A (zc_st G ad v2) := zc_Ds hD rfl
  refine lv_aload_n hx hb dX1_aimBetween_35 rfl (lv_at hl 1 rfl) ?_
  refine lv_lload hx hb dX1_aimBetween_36 (lv_at hl 0 rfl) ?_
  refine lv_aload_n hx hb dX1_aimBetween_38 rfl (lv_at hl 1 rfl) ?_
  refine va_get (D := G.1) (ci := 1) (C := RX1) (T := TX1) (N := 18) hx hb hts iX1_aimBetween_X1 hown hK.1 hP 0 rfl rfl 1 (by decide) (hts (.fieldLink RX1 15 "BoardClock$State" "boardTime" "J") (List.mem_of_getElem? (i := 8) rfl)) (fun _ h9 => h9) rfl dX1_aimBetween_39 ?_
  refine lv_lsub hx hb dX1_aimBetween_42 ?_
  refine va_put (D := G.1) (ci := 1) (v := .long (r1 - (v2.1 1))) (ty := .long) (C := RX1) (T := TX1) (N := 18) hx hb hts iX1_aimBetween_X1 tyX1 tyX1_ok nmX1 hown hK.1 hP hD hS 0 rfl rfl 2 (by decide) (hts (.fieldLink RX1 18 "BoardClock$State" "ahead" "J") (List.mem_of_getElem? (i := 9) rfl)) (fun _ h9 => h9) rfl (by decide +kernel) rfl rfl (Nat.le_of_ble_eq_true rfl) dX1_aimBetween_43 (fun H locs hP _ hS => ?_)
  obtain ⟨v3, ev3, hF⟩ := zc_letX hF
  have hP : va_P G.1 vwCl (zc_st G ad v3) H := by rw [ev3]; exact hP
  have hD : va_D A (zc_st G ad v3) := zc_Ds hD rfl
  obtain rfl := Option.some.inj hF
  exact W.vret hx hb hr (fun t ht hW => ⟨⟨(), rfl, trivial, zc_hp ht hP⟩, hS.F ht⟩) hS.2.2 dX1_aimBetween_46
def fX1_takeIn (v : zc_S) (a1 : Int32) (a2 : Int32) : Option (Int32 × zc_S) := zc_let ((v.1 0) + a1.toInt64) fun (x1 : Int64) => Option.bind (fX1_learnFrom v x1) fun (r2 : zc_S) => zc_let ((x1 - a2.toInt64) * (16 : Int64)) fun (x3 : Int64) => zc_let ((x1 + a2.toInt64) * (16 : Int64)) fun (x4 : Int64) => Option.bind (fX1_aim r2) fun (r5 : Int64) => zc_let (if ((r5 * (16 : Int64)) - ((r2.2.1 9)).toInt64) < x3 then x3 else ((r5 * (16 : Int64)) - ((r2.2.1 9)).toInt64)) fun (x6 : Int64) => Option.bind (fX1_aim r2) fun (r7 : Int64) => zc_let (if ((r7 * (16 : Int64)) + ((r2.2.1 9)).toInt64) < x4 then ((r7 * (16 : Int64)) + ((r2.2.1 9)).toInt64) else x4) fun (x8 : Int64) => if (lg_cmp x6 x8) ≤ 0 then (Option.bind (fX1_aimBetween r2 x6 x8) fun (r11 : zc_S) => zc_let (zc_sI r11 13 (0 : Int32)) fun (v12 : zc_S) => some ((0 : Int32), v12)) else (zc_let (zc_sI r2 12 ((r2.2.1 12) + (1 : Int32))) fun (v14 : zc_S) => Option.bind (fX1_aimBetween v14 x3 x4) fun (r15 : zc_S) => zc_let (zc_sI r15 13 (0 : Int32)) fun (v16 : zc_S) => some ((1 : Int32), v16))
theorem iX1_takeIn_X1 : ∀ w ∈ wsX10, w ∈ wsX1_takeIn := fun _ h => List.mem_cons_of_mem _ (List.mem_append_right _ h)
set_option maxHeartbeats 4000000 in
set_option maxRecDepth 100000 in
theorem kX1_takeIn (l : Launch) (G : zc_G) (ad : Nat → Nat) (sz : Nat) {v : zc_S} {a1 : Int32} {a2 : Int32} {r0 : Int32 × zc_S} (hF : fX1_takeIn v a1 a2 = some r0) : Met l yX1_takeIn wsX1_takeIn ({ frames := 3, cells := 0, slots := 0, locals := 74 }) (zc_Pm G [.ref (ad 0), .int a1, .int a2] (zc_st G ad v) sz) (zc_Qi G r0.1 (zc_st G ad r0.2) (va_A (zc_st G ad v) sz)) 0 0 (va_A (zc_st G ad v) sz) := by
  refine Met.ofW (cc := cX1_takeIn) (maxL := 14) (ret := (some .boolean)) (by decide) rfl ?_
  intro p e s m args below meth c s₁ B hml hv
  obtain ⟨rfl, hsz, hP, hK, hD0⟩ := hv
  have hx := B.exec
  have hb := B.bytes
  have hr := B.returns
  have hts := atoms_spec (ws := wsX1_takeIn) B.pre
  have hown : s.vm.findClass RX1 = some m.cls := findClass_of_methodNamed B.named
  have hlocks := B.notSynchronized
  subst hsz
  have hD := hD0.self (sz := s.heap.size)
  generalize hAe : va_A (zc_st G ad v) s.heap.size = A at hD ⊢
  have hA : ∀ q : Nat, s.heap.size ≤ q → A q := fun q h => by rw [← hAe]; exact Or.inr h
  have hS : va_S A s.heap s.heap [] := va_S.rf
  have hl := lv_entry ([.ref (ad 0), .int a1, .int a2]) (n := 14) (Nat.le_of_ble_eq_true rfl)
  rw [lg_entry_eq]
  generalize (lg_sl ([.ref (ad 0), .int a1, .int a2]) ++ List.replicate (14 - (lg_sl ([.ref (ad 0), .int a1, .int a2])).length) Slot.unset).toArray = ls at hl ⊢
  have hl : lv_has ls 14 [(0, .ref (ad 0)), (1, .int a1), (2, .int a2)] := hl
  refine lv_aload_n hx hb dX1_takeIn_0 rfl (lv_at hl 0 rfl) ?_
  refine va_get (D := G.1) (ci := 1) (C := RX1) (T := TX1) (N := 18) hx hb hts iX1_takeIn_X1 hown hK.1 hP 0 rfl rfl 0 (by decide) (hts (.fieldLink RX1 9 "BoardClock$State" "trueTime" "J") (List.mem_of_getElem? (i := 1) rfl)) (fun _ h9 => h9) rfl dX1_takeIn_1 ?_
  refine lv_iload_n hx hb dX1_takeIn_4 rfl (lv_at hl 1 rfl) ?_
  refine lv_i2l hx hb dX1_takeIn_5 rfl ?_
  refine lv_ladd hx hb dX1_takeIn_6 ?_
  refine lv_topl (fun x1 ex1 => ?_)
  have hF := zc_letE ex1 hF
  refine lv_lstore_n (lv' := [(3, .long x1), (0, .ref (ad 0)), (1, .int a1), (2, .int a2)]) hx hb dX1_takeIn_7 rfl hl (by decide) rfl (fun ls hl => ?_)
  refine lv_aload_n hx hb dX1_takeIn_8 rfl (lv_at hl 1 rfl) ?_
  refine lv_lload_n hx hb dX1_takeIn_9 rfl (lv_at hl 0 rfl) ?_
  obtain ⟨r2, er2, hF⟩ := zc_bind hF
  refine zc_mv (X := zc_st G ad v) (pl := []) (wc := zc_st G ad v) (w1 := zc_st G ad r2) (wr := []) hP hD hS hA [0, 1, 2, 3, 4, 5, 6] [] rfl (by decide) rfl (by decide) (by decide) rfl (va_runV (As := [.long _]) ⟨hx, hb, hml, hown, hts⟩ (kX1_learnFrom l G ad _ er2) (cwV 1 hts gX1_takeIn_X1_learnFrom rfl rfl rfl (by decide +kernel) ⟨Nat.le_of_ble_eq_true rfl, Nat.le_of_ble_eq_true rfl⟩) (zc_preVm hK hP hD 0 rfl rfl) rfl rfl hl.1 rfl (lv_room (Nat.le_of_ble_eq_true rfl)) dX1_takeIn_10 ⟨Nat.le_of_ble_eq_true rfl, Nat.le_of_ble_eq_true rfl⟩) (fun H locs hP hD hS => ?_)
  have hP : va_P G.1 vwCl (zc_st G ad r2) H := hP
  have hD : va_D A (zc_st G ad r2) := hD
  refine lv_lload_n hx hb dX1_takeIn_13 rfl (lv_at hl 0 rfl) ?_
  refine lv_iload_n hx hb dX1_takeIn_14 rfl (lv_at hl 3 rfl) ?_
  refine lv_i2l hx hb dX1_takeIn_15 rfl ?_
  refine lv_lsub hx hb dX1_takeIn_16 ?_
  refine lv_ldc2 hx hb hown (hts (.constantLong RX1 106 (16)) (List.mem_of_getElem? (i := 2) rfl)) dX1_takeIn_17 ?_
  refine lv_lmul hx hb dX1_takeIn_20 ?_
  refine lv_topl (fun x3 ex3 => ?_)
  have hF := zc_letE ex3 hF
  refine lv_lstore (lv' := [(5, .long x3), (3, .long x1), (0, .ref (ad 0)), (1, .int a1), (2, .int a2)]) hx hb dX1_takeIn_21 hl (by decide) rfl (fun ls hl => ?_)
  refine lv_lload_n hx hb dX1_takeIn_23 rfl (lv_at hl 1 rfl) ?_
  refine lv_iload_n hx hb dX1_takeIn_24 rfl (lv_at hl 4 rfl) ?_
  refine lv_i2l hx hb dX1_takeIn_25 rfl ?_
  refine lv_ladd hx hb dX1_takeIn_26 ?_
  refine lv_ldc2 hx hb hown (hts (.constantLong RX1 106 (16)) (List.mem_of_getElem? (i := 2) rfl)) dX1_takeIn_27 ?_
  refine lv_lmul hx hb dX1_takeIn_30 ?_
  refine lv_topl (fun x4 ex4 => ?_)
  have hF := zc_letE ex4 hF
  refine lv_lstore (lv' := [(7, .long x4), (5, .long x3), (3, .long x1), (0, .ref (ad 0)), (1, .int a1), (2, .int a2)]) hx hb dX1_takeIn_31 hl (by decide) rfl (fun ls hl => ?_)
  refine lv_lload hx hb dX1_takeIn_33 (lv_at hl 1 rfl) ?_
  refine lv_aload_n hx hb dX1_takeIn_35 rfl (lv_at hl 3 rfl) ?_
  obtain ⟨r5, er5, hF⟩ := zc_bind hF
  refine zc_cl (va_runV (As := []) ⟨hx, hb, hml, hown, hts⟩ (kX1_aim l G ad er5) (cwV 0 hts gX1_takeIn_X1_aim rfl rfl rfl (by decide +kernel) ⟨Nat.le_of_ble_eq_true rfl, Nat.le_of_ble_eq_true rfl⟩) (zc_preV hK hP 0 rfl rfl) rfl rfl hl.1 rfl (lv_room (Nat.le_of_ble_eq_true rfl)) dX1_takeIn_36 ⟨Nat.le_of_ble_eq_true rfl, Nat.le_of_ble_eq_true rfl⟩) ?_
  refine lv_ldc2 hx hb hown (hts (.constantLong RX1 106 (16)) (List.mem_of_getElem? (i := 2) rfl)) dX1_takeIn_39 ?_
  refine lv_lmul hx hb dX1_takeIn_42 ?_
  refine lv_aload_n hx hb dX1_takeIn_43 rfl (lv_at hl 3 rfl) ?_
  refine va_get (D := G.1) (ci := 1) (C := RX1) (T := TX1) (N := 18) hx hb hts iX1_takeIn_X1 hown hK.1 hP 0 rfl rfl 9 (by decide) (hts (.fieldLink RX1 40 "BoardClock$State" "width" "I") (List.mem_of_getElem? (i := 3) rfl)) (fun _ h9 => h9) rfl dX1_takeIn_44 ?_
  refine lv_i2l hx hb dX1_takeIn_47 rfl ?_
  refine lv_lsub hx hb dX1_takeIn_48 ?_
  refine va_mmax_long hx hb (hml.trans hl.1.symm) hown (hts (.methodLink RX1 156 Lib.MathLoose.max_long.x) (List.mem_of_getElem? (i := 4) rfl)) (hts (.static Lib.MathLoose.max_long.x) (List.mem_of_getElem? (i := 5) rfl)) (hts (.initialized "java/lang/Math") (List.mem_of_getElem? (i := 6) rfl)) (hts (.code Lib.MathLoose.max_long.x Lib.MathLoose.max_long.code 4 (some .long)) (List.mem_of_getElem? (i := 7) rfl)) (Nat.le_of_ble_eq_true rfl) (Nat.le_of_ble_eq_true rfl) (Nat.zero_le _) (Nat.zero_le _) dX1_takeIn_49 ?_
  refine lv_topl (fun x6 ex6 => ?_)
  have hF := zc_letE ex6 hF
  refine lv_lstore (lv' := [(9, .long x6), (7, .long x4), (5, .long x3), (3, .long x1), (0, .ref (ad 0)), (1, .int a1), (2, .int a2)]) hx hb dX1_takeIn_52 hl (by decide) rfl (fun ls hl => ?_)
  refine lv_lload hx hb dX1_takeIn_54 (lv_at hl 1 rfl) ?_
  refine lv_aload_n hx hb dX1_takeIn_56 rfl (lv_at hl 4 rfl) ?_
  obtain ⟨r7, er7, hF⟩ := zc_bind hF
  refine zc_cl (va_runV (As := []) ⟨hx, hb, hml, hown, hts⟩ (kX1_aim l G ad er7) (cwV 0 hts gX1_takeIn_X1_aim rfl rfl rfl (by decide +kernel) ⟨Nat.le_of_ble_eq_true rfl, Nat.le_of_ble_eq_true rfl⟩) (zc_preV hK hP 0 rfl rfl) rfl rfl hl.1 rfl (lv_room (Nat.le_of_ble_eq_true rfl)) dX1_takeIn_57 ⟨Nat.le_of_ble_eq_true rfl, Nat.le_of_ble_eq_true rfl⟩) ?_
  refine lv_ldc2 hx hb hown (hts (.constantLong RX1 106 (16)) (List.mem_of_getElem? (i := 2) rfl)) dX1_takeIn_60 ?_
  refine lv_lmul hx hb dX1_takeIn_63 ?_
  refine lv_aload_n hx hb dX1_takeIn_64 rfl (lv_at hl 4 rfl) ?_
  refine va_get (D := G.1) (ci := 1) (C := RX1) (T := TX1) (N := 18) hx hb hts iX1_takeIn_X1 hown hK.1 hP 0 rfl rfl 9 (by decide) (hts (.fieldLink RX1 40 "BoardClock$State" "width" "I") (List.mem_of_getElem? (i := 3) rfl)) (fun _ h9 => h9) rfl dX1_takeIn_65 ?_
  refine lv_i2l hx hb dX1_takeIn_68 rfl ?_
  refine lv_ladd hx hb dX1_takeIn_69 ?_
  refine va_mmin_long hx hb (hml.trans hl.1.symm) hown (hts (.methodLink RX1 145 Lib.MathLoose.min_long.x) (List.mem_of_getElem? (i := 8) rfl)) (hts (.static Lib.MathLoose.min_long.x) (List.mem_of_getElem? (i := 9) rfl)) (hts (.initialized "java/lang/Math") (List.mem_of_getElem? (i := 6) rfl)) (hts (.code Lib.MathLoose.min_long.x Lib.MathLoose.min_long.code 4 (some .long)) (List.mem_of_getElem? (i := 10) rfl)) (Nat.le_of_ble_eq_true rfl) (Nat.le_of_ble_eq_true rfl) (Nat.zero_le _) (Nat.zero_le _) dX1_takeIn_70 ?_
  refine lv_topl (fun x8 ex8 => ?_)
  have hF := zc_letE ex8 hF
  refine lv_lstore (lv' := [(11, .long x8), (9, .long x6), (7, .long x4), (5, .long x3), (3, .long x1), (0, .ref (ad 0)), (1, .int a1), (2, .int a2)]) hx hb dX1_takeIn_73 hl (by decide) rfl (fun ls hl => ?_)
  refine lv_lload hx hb dX1_takeIn_75 (lv_at hl 1 rfl) ?_
  refine lv_lload hx hb dX1_takeIn_77 (lv_at hl 0 rfl) ?_
  refine W.lcmp hx hb dX1_takeIn_79 ?_
  refine lv_if_le (tgt := 87) hx hb dX1_takeIn_80 (by decide) (fun c9 => ?_) (fun c9 => ?_)
  · have hF := zc_pos c9 hF
    refine lv_iconst (v := (0 : Int32)) hx hb dX1_takeIn_87 (by decide) ?_
    refine lv_istore (lv' := [(13, .int (0 : Int32)), (11, .long x8), (9, .long x6), (7, .long x4), (5, .long x3), (3, .long x1), (0, .ref (ad 0)), (1, .int a1), (2, .int a2)]) hx hb dX1_takeIn_88 hl (by decide) rfl (fun ls hl => ?_)
    refine lv_iload hx hb dX1_takeIn_90 (lv_at hl 0 rfl) ?_
    refine lv_if_eq (tgt := 116) hx hb dX1_takeIn_92 (by decide) (fun c10 => ?_) (fun c10 => absurd c10 (by decide))
    refine lv_aload_n hx hb dX1_takeIn_116 rfl (lv_at hl 6 rfl) ?_
    refine lv_lload hx hb dX1_takeIn_117 (lv_at hl 2 rfl) ?_
    refine lv_lload hx hb dX1_takeIn_119 (lv_at hl 1 rfl) ?_
    obtain ⟨r11, er11, hF⟩ := zc_bind hF
    refine zc_mv (X := zc_st G ad r2) (pl := []) (wc := zc_st G ad r2) (w1 := zc_st G ad r11) (wr := []) hP hD hS hA [0, 1, 2, 3, 4, 5, 6] [] rfl (by decide) rfl (by decide) (by decide) rfl (va_runV (As := [.long _, .long _]) ⟨hx, hb, hml, hown, hts⟩ (kX1_aimBetween l G ad _ er11) (cwV 2 hts gX1_takeIn_X1_aimBetween rfl rfl rfl (by decide +kernel) ⟨Nat.le_of_ble_eq_true rfl, Nat.le_of_ble_eq_true rfl⟩) (zc_preVm hK hP hD 0 rfl rfl) rfl rfl hl.1 rfl (lv_room (Nat.le_of_ble_eq_true rfl)) dX1_takeIn_121 ⟨Nat.le_of_ble_eq_true rfl, Nat.le_of_ble_eq_true rfl⟩) (fun H locs hP hD hS => ?_)
    have hP : va_P G.1 vwCl (zc_st G ad r11) H := hP
    have hD : va_D A (zc_st G ad r11) := hD
    refine lv_aload_n hx hb dX1_takeIn_124 rfl (lv_at hl 6 rfl) ?_
    refine lv_iconst (v := (0 : Int32)) hx hb dX1_takeIn_125 (by decide) ?_
    refine va_put (D := G.1) (ci := 1) (v := .int (0 : Int32)) (ty := .int) (C := RX1) (T := TX1) (N := 18) hx hb hts iX1_takeIn_X1 tyX1 tyX1_ok nmX1 hown hK.1 hP hD hS 0 rfl rfl 13 (by decide) (hts (.fieldLink RX1 53 "BoardClock$State" "ticks" "I") (List.mem_of_getElem? (i := 12) rfl)) (fun _ h9 => h9) rfl (by decide +kernel) rfl rfl (Nat.le_of_ble_eq_true rfl) dX1_takeIn_126 (fun H locs hP _ hS => ?_)
    obtain ⟨v12, ev12, hF⟩ := zc_letX hF
    have hP : va_P G.1 vwCl (zc_st G ad v12) H := by rw [ev12]; exact hP
    have hD : va_D A (zc_st G ad v12) := zc_Ds hD rfl
    refine lv_iload hx hb dX1_takeIn_129 (lv_at hl 0 rfl) ?_
    obtain rfl := Option.some.inj hF
    exact W.zret hx hb hr (by decide) (fun t ht hW => ⟨⟨_, (), rfl, rfl, zc_hp ht hP⟩, hS.F ht⟩) hS.2.2 dX1_takeIn_131
  · have hF := zc_neg c9 hF
    refine lv_iconst (v := (1 : Int32)) hx hb dX1_takeIn_83 (by decide) ?_
    refine lv_goto (tgt := 88) hx hb dX1_takeIn_84 (by decide) ?_
    refine lv_istore (lv' := [(13, .int (1 : Int32)), (11, .long x8), (9, .long x6), (7, .long x4), (5, .long x3), (3, .long x1), (0, .ref (ad 0)), (1, .int a1), (2, .int a2)]) hx hb dX1_takeIn_88 hl (by decide) rfl (fun ls hl => ?_)
    refine lv_iload hx hb dX1_takeIn_90 (lv_at hl 0 rfl) ?_
    refine lv_if_eq (tgt := 116) hx hb dX1_takeIn_92 (by decide) (fun c13 => absurd c13 (by decide)) (fun c13 => ?_)
    refine lv_aload_n hx hb dX1_takeIn_95 rfl (lv_at hl 6 rfl) ?_
    refine lv_dup hx hb dX1_takeIn_96 rfl ?_
    refine va_get (D := G.1) (ci := 1) (C := RX1) (T := TX1) (N := 18) hx hb hts iX1_takeIn_X1 hown hK.1 hP 0 rfl rfl 12 (by decide) (hts (.fieldLink RX1 50 "BoardClock$State" "broken" "I") (List.mem_of_getElem? (i := 11) rfl)) (fun _ h9 => h9) rfl dX1_takeIn_97 ?_
    refine lv_iconst (v := (1 : Int32)) hx hb dX1_takeIn_100 (by decide) ?_
    refine lv_iadd hx hb dX1_takeIn_101 ?_
    refine va_put (D := G.1) (ci := 1) (v := .int ((r2.2.1 12) + (1 : Int32))) (ty := .int) (C := RX1) (T := TX1) (N := 18) hx hb hts iX1_takeIn_X1 tyX1 tyX1_ok nmX1 hown hK.1 hP hD hS 0 rfl rfl 12 (by decide) (hts (.fieldLink RX1 50 "BoardClock$State" "broken" "I") (List.mem_of_getElem? (i := 11) rfl)) (fun _ h9 => h9) rfl (by decide +kernel) rfl rfl (Nat.le_of_ble_eq_true rfl) dX1_takeIn_102 (fun H locs hP _ hS => ?_)
    obtain ⟨v14, ev14, hF⟩ := zc_letX hF
    have hP : va_P G.1 vwCl (zc_st G ad v14) H := by rw [ev14]; exact hP
    have hD : va_D A (zc_st G ad v14) := zc_Ds hD rfl
    refine lv_aload_n hx hb dX1_takeIn_105 rfl (lv_at hl 6 rfl) ?_
    refine lv_lload hx hb dX1_takeIn_106 (lv_at hl 4 rfl) ?_
    refine lv_lload hx hb dX1_takeIn_108 (lv_at hl 3 rfl) ?_
    obtain ⟨r15, er15, hF⟩ := zc_bind hF
    refine zc_mv (X := zc_st G ad v14) (pl := []) (wc := zc_st G ad v14) (w1 := zc_st G ad r15) (wr := []) hP hD hS hA [0, 1, 2, 3, 4, 5, 6] [] rfl (by decide) rfl (by decide) (by decide) rfl (va_runV (As := [.long _, .long _]) ⟨hx, hb, hml, hown, hts⟩ (kX1_aimBetween l G ad _ er15) (cwV 2 hts gX1_takeIn_X1_aimBetween rfl rfl rfl (by decide +kernel) ⟨Nat.le_of_ble_eq_true rfl, Nat.le_of_ble_eq_true rfl⟩) (zc_preVm hK hP hD 0 rfl rfl) rfl rfl hl.1 rfl (lv_room (Nat.le_of_ble_eq_true rfl)) dX1_takeIn_110 ⟨Nat.le_of_ble_eq_true rfl, Nat.le_of_ble_eq_true rfl⟩) (fun H locs hP hD hS => ?_)
    have hP : va_P G.1 vwCl (zc_st G ad r15) H := hP
    have hD : va_D A (zc_st G ad r15) := hD
    refine lv_goto (tgt := 124) hx hb dX1_takeIn_113 (by decide) ?_
    refine lv_aload_n hx hb dX1_takeIn_124 rfl (lv_at hl 6 rfl) ?_
    refine lv_iconst (v := (0 : Int32)) hx hb dX1_takeIn_125 (by decide) ?_
    refine va_put (D := G.1) (ci := 1) (v := .int (0 : Int32)) (ty := .int) (C := RX1) (T := TX1) (N := 18) hx hb hts iX1_takeIn_X1 tyX1 tyX1_ok nmX1 hown hK.1 hP hD hS 0 rfl rfl 13 (by decide) (hts (.fieldLink RX1 53 "BoardClock$State" "ticks" "I") (List.mem_of_getElem? (i := 12) rfl)) (fun _ h9 => h9) rfl (by decide +kernel) rfl rfl (Nat.le_of_ble_eq_true rfl) dX1_takeIn_126 (fun H locs hP _ hS => ?_)
    obtain ⟨v16, ev16, hF⟩ := zc_letX hF
    have hP : va_P G.1 vwCl (zc_st G ad v16) H := by rw [ev16]; exact hP
    have hD : va_D A (zc_st G ad v16) := zc_Ds hD rfl
    refine lv_iload hx hb dX1_takeIn_129 (lv_at hl 0 rfl) ?_
    obtain rfl := Option.some.inj hF
    exact W.zret hx hb hr (by decide) (fun t ht hW => ⟨⟨_, (), rfl, rfl, zc_hp ht hP⟩, hS.F ht⟩) hS.2.2 dX1_takeIn_131
def fX1_pass (N : Nat) (v : zc_S) (a1 : Int32) : Option (Int32 × zc_S) := Option.bind (fX1_minuteNumber v) fun (r1 : Int64) => Option.bind (fX1_noteTicks v a1) fun (r2 : zc_S) => zc_let (zc_sL r2 0 ((r2.1 0) + (a1.toInt64 * (60000 : Int64)))) fun (v3 : zc_S) => Option.bind (fX1_boardTimeAfter v3 a1) fun (r4 : Int64) => zc_let (zc_sL v3 1 r4) fun (v5 : zc_S) => if (v5.2.1 11) = 0 then (Option.bind (fX1_widthPerTick v5) fun (r7 : Int32) => zc_let (zc_sI v5 9 ((if (999999999 : Int64) < (((v5.2.1 9)).toInt64 + (a1.toInt64 * r7.toInt64)) then (999999999 : Int64) else (((v5.2.1 9)).toInt64 + (a1.toInt64 * r7.toInt64)))).toInt32) fun (v8 : zc_S) => Option.bind (fX1_minuteNumber v8) fun (r9 : Int64) => Option.bind (fX0_ring N v8.2.2.2 r1 r9) fun (r10 : Int32 × zc_Q) => zc_let (zc_sq v8 r10.2) fun (v11 : zc_S) => some (r10.1, v11)) else (Option.bind (fX1_stepsAfter v5 a1) fun (r12 : Int64) => zc_let (zc_sL v5 2 ((v5.1 2) - r12)) fun (v13 : zc_S) => Option.bind (fX1_sixteenthsAfter v13 a1) fun (r14 : Int64) => Option.bind (fJ9_floorMod_f86c9 r14 (16 : Int64)) fun (r15 : Int64) => zc_let (zc_sI v13 7 (r15).toInt32) fun (v16 : zc_S) => Option.bind (fX1_widthPerTick v16) fun (r17 : Int32) => zc_let (zc_sI v16 9 ((if (999999999 : Int64) < (((v16.2.1 9)).toInt64 + (a1.toInt64 * r17.toInt64)) then (999999999 : Int64) else (((v16.2.1 9)).toInt64 + (a1.toInt64 * r17.toInt64)))).toInt32) fun (v18 : zc_S) => Option.bind (fX1_minuteNumber v18) fun (r19 : Int64) => Option.bind (fX0_ring N v18.2.2.2 r1 r19) fun (r20 : Int32 × zc_Q) => zc_let (zc_sq v18 r20.2) fun (v21 : zc_S) => some (r20.1, v21))
theorem iX1_pass_X1 : ∀ w ∈ wsX10, w ∈ wsX1_pass := fun _ h => List.mem_cons_of_mem _ (List.mem_append_left _ (List.mem_append_right _ h))
set_option maxHeartbeats 4000000 in
set_option maxRecDepth 100000 in
theorem kX1_pass (l : Launch) (G : zc_G) (ad : Nat → Nat) (sz : Nat) {N : Nat} {v : zc_S} {a1 : Int32} {r0 : Int32 × zc_S} (hF : fX1_pass N v a1 = some r0) : Met l yX1_pass wsX1_pass ({ frames := 4, cells := 0, slots := 0, locals := 108 }) (zc_Pm G [.ref (ad 0), .int a1] (zc_st G ad v) sz) (zc_Qi G r0.1 (zc_st G ad r0.2) (va_A (zc_st G ad v) sz)) 0 0 (va_A (zc_st G ad v) sz) := by
  refine Met.ofW (cc := cX1_pass) (maxL := 4) (ret := (some .int)) (by decide) rfl ?_
  intro p e s m args below meth c s₁ B hml hv
  obtain ⟨rfl, hsz, hP, hK, hD0⟩ := hv
  have hx := B.exec
  have hb := B.bytes
  have hr := B.returns
  have hts := atoms_spec (ws := wsX1_pass) B.pre
  have hown : s.vm.findClass RX1 = some m.cls := findClass_of_methodNamed B.named
  have hlocks := B.notSynchronized
  subst hsz
  have hD := hD0.self (sz := s.heap.size)
  generalize hAe : va_A (zc_st G ad v) s.heap.size = A at hD ⊢
  have hA : ∀ q : Nat, s.heap.size ≤ q → A q := fun q h => by rw [← hAe]; exact Or.inr h
  have hS : va_S A s.heap s.heap [] := va_S.rf
  have hl := lv_entry ([.ref (ad 0), .int a1]) (n := 4) (Nat.le_of_ble_eq_true rfl)
  rw [lg_entry_eq]
  generalize (lg_sl ([.ref (ad 0), .int a1]) ++ List.replicate (4 - (lg_sl ([.ref (ad 0), .int a1])).length) Slot.unset).toArray = ls at hl ⊢
  have hl : lv_has ls 4 [(0, .ref (ad 0)), (1, .int a1)] := hl
  refine lv_aload_n hx hb dX1_pass_0 rfl (lv_at hl 0 rfl) ?_
  obtain ⟨r1, er1, hF⟩ := zc_bind hF
  refine zc_cl (va_runV (As := []) ⟨hx, hb, hml, hown, hts⟩ (kX1_minuteNumber l G ad er1) (cwV 0 hts gX1_pass_X1_minuteNumber rfl rfl rfl (by decide +kernel) ⟨Nat.le_of_ble_eq_true rfl, Nat.le_of_ble_eq_true rfl⟩) (zc_preV hK hP 0 rfl rfl) rfl rfl hl.1 rfl (lv_room (Nat.le_of_ble_eq_true rfl)) dX1_pass_1 ⟨Nat.le_of_ble_eq_true rfl, Nat.le_of_ble_eq_true rfl⟩) ?_
  refine lv_lstore_n (lv' := [(2, .long r1), (0, .ref (ad 0)), (1, .int a1)]) hx hb dX1_pass_4 rfl hl (by decide) rfl (fun ls hl => ?_)
  refine lv_aload_n hx hb dX1_pass_5 rfl (lv_at hl 1 rfl) ?_
  refine lv_iload_n hx hb dX1_pass_6 rfl (lv_at hl 2 rfl) ?_
  obtain ⟨r2, er2, hF⟩ := zc_bind hF
  refine zc_mv (X := zc_st G ad v) (pl := []) (wc := zc_st G ad v) (w1 := zc_st G ad r2) (wr := []) hP hD hS hA [0, 1, 2, 3, 4, 5, 6] [] rfl (by decide) rfl (by decide) (by decide) rfl (va_runV (As := [.int _]) ⟨hx, hb, hml, hown, hts⟩ (kX1_noteTicks l G ad _ er2) (cwV 1 hts gX1_pass_X1_noteTicks rfl rfl rfl (by decide +kernel) ⟨Nat.le_of_ble_eq_true rfl, Nat.le_of_ble_eq_true rfl⟩) (zc_preVm hK hP hD 0 rfl rfl) rfl rfl hl.1 rfl (lv_room (Nat.le_of_ble_eq_true rfl)) dX1_pass_7 ⟨Nat.le_of_ble_eq_true rfl, Nat.le_of_ble_eq_true rfl⟩) (fun H locs hP hD hS => ?_)
  have hP : va_P G.1 vwCl (zc_st G ad r2) H := hP
  have hD : va_D A (zc_st G ad r2) := hD
  refine lv_aload_n hx hb dX1_pass_10 rfl (lv_at hl 1 rfl) ?_
  refine lv_dup hx hb dX1_pass_11 rfl ?_
  refine va_get (D := G.1) (ci := 1) (C := RX1) (T := TX1) (N := 18) hx hb hts iX1_pass_X1 hown hK.1 hP 0 rfl rfl 0 (by decide) (hts (.fieldLink RX1 9 "BoardClock$State" "trueTime" "J") (List.mem_of_getElem? (i := 1) rfl)) (fun _ h9 => h9) rfl dX1_pass_12 ?_
  refine lv_iload_n hx hb dX1_pass_15 rfl (lv_at hl 2 rfl) ?_
  refine lv_i2l hx hb dX1_pass_16 rfl ?_
  refine lv_ldc2 hx hb hown (hts (.constantLong RX1 83 (60000)) (List.mem_of_getElem? (i := 2) rfl)) dX1_pass_17 ?_
  refine lv_lmul hx hb dX1_pass_20 ?_
  refine lv_ladd hx hb dX1_pass_21 ?_
  refine va_put (D := G.1) (ci := 1) (v := .long ((r2.1 0) + (a1.toInt64 * (60000 : Int64)))) (ty := .long) (C := RX1) (T := TX1) (N := 18) hx hb hts iX1_pass_X1 tyX1 tyX1_ok nmX1 hown hK.1 hP hD hS 0 rfl rfl 0 (by decide) (hts (.fieldLink RX1 9 "BoardClock$State" "trueTime" "J") (List.mem_of_getElem? (i := 1) rfl)) (fun _ h9 => h9) rfl (by decide +kernel) rfl rfl (Nat.le_of_ble_eq_true rfl) dX1_pass_22 (fun H locs hP _ hS => ?_)
  obtain ⟨v3, ev3, hF⟩ := zc_letX hF
  have hP : va_P G.1 vwCl (zc_st G ad v3) H := by rw [ev3]; exact hP
  have hD : va_D A (zc_st G ad v3) := zc_Ds hD rfl
  refine lv_aload_n hx hb dX1_pass_25 rfl (lv_at hl 1 rfl) ?_
  refine lv_aload_n hx hb dX1_pass_26 rfl (lv_at hl 1 rfl) ?_
  refine lv_iload_n hx hb dX1_pass_27 rfl (lv_at hl 2 rfl) ?_
  obtain ⟨r4, er4, hF⟩ := zc_bind hF
  refine zc_cl (va_runV (As := [.int _]) ⟨hx, hb, hml, hown, hts⟩ (kX1_boardTimeAfter l G ad er4) (cwV 1 hts gX1_pass_X1_boardTimeAfter rfl rfl rfl (by decide +kernel) ⟨Nat.le_of_ble_eq_true rfl, Nat.le_of_ble_eq_true rfl⟩) (zc_preV hK hP 0 rfl rfl) rfl rfl hl.1 rfl (lv_room (Nat.le_of_ble_eq_true rfl)) dX1_pass_28 ⟨Nat.le_of_ble_eq_true rfl, Nat.le_of_ble_eq_true rfl⟩) ?_
  refine va_put (D := G.1) (ci := 1) (v := .long r4) (ty := .long) (C := RX1) (T := TX1) (N := 18) hx hb hts iX1_pass_X1 tyX1 tyX1_ok nmX1 hown hK.1 hP hD hS 0 rfl rfl 1 (by decide) (hts (.fieldLink RX1 15 "BoardClock$State" "boardTime" "J") (List.mem_of_getElem? (i := 3) rfl)) (fun _ h9 => h9) rfl (by decide +kernel) rfl rfl (Nat.le_of_ble_eq_true rfl) dX1_pass_31 (fun H locs hP _ hS => ?_)
  obtain ⟨v5, ev5, hF⟩ := zc_letX hF
  have hP : va_P G.1 vwCl (zc_st G ad v5) H := by rw [ev5]; exact hP
  have hD : va_D A (zc_st G ad v5) := zc_Ds hD rfl
  refine lv_aload_n hx hb dX1_pass_34 rfl (lv_at hl 1 rfl) ?_
  refine va_get (D := G.1) (ci := 1) (C := RX1) (T := TX1) (N := 18) hx hb hts iX1_pass_X1 hown hK.1 hP 0 rfl rfl 11 (by decide) (hts (.fieldLink RX1 46 "BoardClock$State" "powered" "Z") (List.mem_of_getElem? (i := 4) rfl)) (fun _ h9 => h9) rfl dX1_pass_35 ?_
  refine lv_if_eq (tgt := 71) hx hb dX1_pass_38 (by decide) (fun c6 => ?_) (fun c6 => ?_)
  · have hF := zc_pos c6 hF
    refine lv_aload_n hx hb dX1_pass_71 rfl (lv_at hl 1 rfl) ?_
    refine lv_aload_n hx hb dX1_pass_72 rfl (lv_at hl 1 rfl) ?_
    refine va_get (D := G.1) (ci := 1) (C := RX1) (T := TX1) (N := 18) hx hb hts iX1_pass_X1 hown hK.1 hP 0 rfl rfl 9 (by decide) (hts (.fieldLink RX1 40 "BoardClock$State" "width" "I") (List.mem_of_getElem? (i := 8) rfl)) (fun _ h9 => h9) rfl dX1_pass_73 ?_
    refine lv_i2l hx hb dX1_pass_76 rfl ?_
    refine lv_iload_n hx hb dX1_pass_77 rfl (lv_at hl 2 rfl) ?_
    refine lv_i2l hx hb dX1_pass_78 rfl ?_
    refine lv_aload_n hx hb dX1_pass_79 rfl (lv_at hl 1 rfl) ?_
    obtain ⟨r7, er7, hF⟩ := zc_bind hF
    refine zc_ci (va_runV (As := []) ⟨hx, hb, hml, hown, hts⟩ (kX1_widthPerTick l G ad er7) (cwV 0 hts gX1_pass_X1_widthPerTick rfl rfl rfl (by decide +kernel) ⟨Nat.le_of_ble_eq_true rfl, Nat.le_of_ble_eq_true rfl⟩) (zc_preV hK hP 0 rfl rfl) rfl rfl hl.1 rfl (lv_room (Nat.le_of_ble_eq_true rfl)) dX1_pass_80 ⟨Nat.le_of_ble_eq_true rfl, Nat.le_of_ble_eq_true rfl⟩) ?_
    refine lv_i2l hx hb dX1_pass_83 rfl ?_
    refine lv_lmul hx hb dX1_pass_84 ?_
    refine lv_ladd hx hb dX1_pass_85 ?_
    refine lv_ldc2 hx hb hown (hts (.constantLong RX1 143 (999999999)) (List.mem_of_getElem? (i := 9) rfl)) dX1_pass_86 ?_
    refine va_mmin_long hx hb (hml.trans hl.1.symm) hown (hts (.methodLink RX1 145 Lib.MathLoose.min_long.x) (List.mem_of_getElem? (i := 10) rfl)) (hts (.static Lib.MathLoose.min_long.x) (List.mem_of_getElem? (i := 11) rfl)) (hts (.initialized "java/lang/Math") (List.mem_of_getElem? (i := 12) rfl)) (hts (.code Lib.MathLoose.min_long.x Lib.MathLoose.min_long.code 4 (some .long)) (List.mem_of_getElem? (i := 13) rfl)) (Nat.le_of_ble_eq_true rfl) (Nat.le_of_ble_eq_true rfl) (Nat.zero_le _) (Nat.zero_le _) dX1_pass_89 ?_
    refine lv_l2i hx hb dX1_pass_92 rfl ?_
    refine va_put (D := G.1) (ci := 1) (v := .int ((if (999999999 : Int64) < (((v5.2.1 9)).toInt64 + (a1.toInt64 * r7.toInt64)) then (999999999 : Int64) else (((v5.2.1 9)).toInt64 + (a1.toInt64 * r7.toInt64)))).toInt32) (ty := .int) (C := RX1) (T := TX1) (N := 18) hx hb hts iX1_pass_X1 tyX1 tyX1_ok nmX1 hown hK.1 hP hD hS 0 rfl rfl 9 (by decide) (hts (.fieldLink RX1 40 "BoardClock$State" "width" "I") (List.mem_of_getElem? (i := 8) rfl)) (fun _ h9 => h9) rfl (by decide +kernel) rfl rfl (Nat.le_of_ble_eq_true rfl) dX1_pass_93 (fun H locs hP _ hS => ?_)
    obtain ⟨v8, ev8, hF⟩ := zc_letX hF
    have hP : va_P G.1 vwCl (zc_st G ad v8) H := by rw [ev8]; exact hP
    have hD : va_D A (zc_st G ad v8) := zc_Ds hD rfl
    refine lv_aload_n hx hb dX1_pass_96 rfl (lv_at hl 1 rfl) ?_
    refine va_get (D := G.1) (ci := 1) (C := RX1) (T := TX1) (N := 18) hx hb hts iX1_pass_X1 hown hK.1 hP 0 rfl rfl 17 (by decide) (hts (.fieldLink RX1 69 "BoardClock$State" "alarms" "LBoardClock$Alarms;") (List.mem_of_getElem? (i := 14) rfl)) (fun _ h9 => h9) rfl dX1_pass_97 ?_
    refine lv_lload_n hx hb dX1_pass_100 rfl (lv_at hl 0 rfl) ?_
    refine lv_aload_n hx hb dX1_pass_101 rfl (lv_at hl 1 rfl) ?_
    obtain ⟨r9, er9, hF⟩ := zc_bind hF
    refine zc_cl (va_runV (As := []) ⟨hx, hb, hml, hown, hts⟩ (kX1_minuteNumber l G ad er9) (cwV 0 hts gX1_pass_X1_minuteNumber rfl rfl rfl (by decide +kernel) ⟨Nat.le_of_ble_eq_true rfl, Nat.le_of_ble_eq_true rfl⟩) (zc_preV hK hP 0 rfl rfl) rfl rfl hl.1 rfl (lv_room (Nat.le_of_ble_eq_true rfl)) dX1_pass_102 ⟨Nat.le_of_ble_eq_true rfl, Nat.le_of_ble_eq_true rfl⟩) ?_
    obtain ⟨r10, er10, hF⟩ := zc_bind hF
    refine zc_mi (X := zc_st G ad v8) (pl := []) (wc := zc_al G ad v8.2.2.2) (w1 := zc_al G ad r10.2) (wr := (zc_st G ad v8).take 2) hP hD hS hA [2, 3, 4, 5, 6] [0, 1] rfl (by decide) rfl (by decide) (by decide) rfl (va_runV (As := [.long _, .long _]) ⟨hx, hb, hml, hown, hts⟩ (kX0_ring l G ad _ er10) (cwV 2 hts gX1_pass_X0_ring rfl rfl rfl (by decide +kernel) ⟨Nat.le_of_ble_eq_true rfl, Nat.le_of_ble_eq_true rfl⟩) (zc_preVm hK (hP.sub (ws' := zc_al G ad v8.2.2.2) [2, 3, 4, 5, 6] rfl) (hD.sub (ws' := zc_al G ad v8.2.2.2) [2, 3, 4, 5, 6] (by decide) rfl) 0 rfl rfl) rfl rfl hl.1 rfl (lv_room (Nat.le_of_ble_eq_true rfl)) dX1_pass_105 ⟨Nat.le_of_ble_eq_true rfl, Nat.le_of_ble_eq_true rfl⟩) (fun H locs hP hD hS => ?_)
    obtain ⟨v11, ev11, hF⟩ := zc_letX hF
    have hP : va_P G.1 vwCl (zc_st G ad v11) H := by rw [ev11]; exact hP
    have hD : va_D A (zc_st G ad v11) := zc_Ds hD rfl
    obtain rfl := Option.some.inj hF
    exact W.iret hx hb hr (fun t ht hW => ⟨⟨_, (), rfl, rfl, zc_hp ht hP⟩, hS.F ht⟩) hS.2.2 dX1_pass_108
  · have hF := zc_neg c6 hF
    refine lv_aload_n hx hb dX1_pass_41 rfl (lv_at hl 1 rfl) ?_
    refine lv_dup hx hb dX1_pass_42 rfl ?_
    refine va_get (D := G.1) (ci := 1) (C := RX1) (T := TX1) (N := 18) hx hb hts iX1_pass_X1 hown hK.1 hP 0 rfl rfl 2 (by decide) (hts (.fieldLink RX1 18 "BoardClock$State" "ahead" "J") (List.mem_of_getElem? (i := 5) rfl)) (fun _ h9 => h9) rfl dX1_pass_43 ?_
    refine lv_aload_n hx hb dX1_pass_46 rfl (lv_at hl 1 rfl) ?_
    refine lv_iload_n hx hb dX1_pass_47 rfl (lv_at hl 2 rfl) ?_
    obtain ⟨r12, er12, hF⟩ := zc_bind hF
    refine zc_cl (va_runV (As := [.int _]) ⟨hx, hb, hml, hown, hts⟩ (kX1_stepsAfter l G ad er12) (cwV 1 hts gX1_pass_X1_stepsAfter rfl rfl rfl (by decide +kernel) ⟨Nat.le_of_ble_eq_true rfl, Nat.le_of_ble_eq_true rfl⟩) (zc_preV hK hP 0 rfl rfl) rfl rfl hl.1 rfl (lv_room (Nat.le_of_ble_eq_true rfl)) dX1_pass_48 ⟨Nat.le_of_ble_eq_true rfl, Nat.le_of_ble_eq_true rfl⟩) ?_
    refine lv_lsub hx hb dX1_pass_51 ?_
    refine va_put (D := G.1) (ci := 1) (v := .long ((v5.1 2) - r12)) (ty := .long) (C := RX1) (T := TX1) (N := 18) hx hb hts iX1_pass_X1 tyX1 tyX1_ok nmX1 hown hK.1 hP hD hS 0 rfl rfl 2 (by decide) (hts (.fieldLink RX1 18 "BoardClock$State" "ahead" "J") (List.mem_of_getElem? (i := 5) rfl)) (fun _ h9 => h9) rfl (by decide +kernel) rfl rfl (Nat.le_of_ble_eq_true rfl) dX1_pass_52 (fun H locs hP _ hS => ?_)
    obtain ⟨v13, ev13, hF⟩ := zc_letX hF
    have hP : va_P G.1 vwCl (zc_st G ad v13) H := by rw [ev13]; exact hP
    have hD : va_D A (zc_st G ad v13) := zc_Ds hD rfl
    refine lv_aload_n hx hb dX1_pass_55 rfl (lv_at hl 1 rfl) ?_
    refine lv_aload_n hx hb dX1_pass_56 rfl (lv_at hl 1 rfl) ?_
    refine lv_iload_n hx hb dX1_pass_57 rfl (lv_at hl 2 rfl) ?_
    obtain ⟨r14, er14, hF⟩ := zc_bind hF
    refine zc_cl (va_runV (As := [.int _]) ⟨hx, hb, hml, hown, hts⟩ (kX1_sixteenthsAfter l G ad er14) (cwV 1 hts gX1_pass_X1_sixteenthsAfter rfl rfl rfl (by decide +kernel) ⟨Nat.le_of_ble_eq_true rfl, Nat.le_of_ble_eq_true rfl⟩) (zc_preV hK hP 0 rfl rfl) rfl rfl hl.1 rfl (lv_room (Nat.le_of_ble_eq_true rfl)) dX1_pass_58 ⟨Nat.le_of_ble_eq_true rfl, Nat.le_of_ble_eq_true rfl⟩) ?_
    refine lv_ldc2 hx hb hown (hts (.constantLong RX1 106 (16)) (List.mem_of_getElem? (i := 6) rfl)) dX1_pass_61 ?_
    obtain ⟨r15, er15, hF⟩ := zc_bind hF
    refine zc_cl (va_runS (As := [.long _, .long _]) ⟨hx, hb, hml, hown, hts⟩ (kJ9_floorMod_f86c9 l G er15) (va_cwS 2 hts gX1_pass_J9_floorMod_f86c9 rfl rfl rfl (by decide +kernel) ⟨Nat.le_of_ble_eq_true rfl, Nat.le_of_ble_eq_true rfl⟩) (zc_preS hK (show va_P G.1 vwCl [] _ from fun k q h => by simp at h)) rfl rfl hl.1 rfl (lv_room (Nat.le_of_ble_eq_true rfl)) dX1_pass_64 ⟨Nat.le_of_ble_eq_true rfl, Nat.le_of_ble_eq_true rfl⟩) ?_
    refine lv_l2i hx hb dX1_pass_67 rfl ?_
    refine va_put (D := G.1) (ci := 1) (v := .int (r15).toInt32) (ty := .int) (C := RX1) (T := TX1) (N := 18) hx hb hts iX1_pass_X1 tyX1 tyX1_ok nmX1 hown hK.1 hP hD hS 0 rfl rfl 7 (by decide) (hts (.fieldLink RX1 34 "BoardClock$State" "rest" "I") (List.mem_of_getElem? (i := 7) rfl)) (fun _ h9 => h9) rfl (by decide +kernel) rfl rfl (Nat.le_of_ble_eq_true rfl) dX1_pass_68 (fun H locs hP _ hS => ?_)
    obtain ⟨v16, ev16, hF⟩ := zc_letX hF
    have hP : va_P G.1 vwCl (zc_st G ad v16) H := by rw [ev16]; exact hP
    have hD : va_D A (zc_st G ad v16) := zc_Ds hD rfl
    refine lv_aload_n hx hb dX1_pass_71 rfl (lv_at hl 1 rfl) ?_
    refine lv_aload_n hx hb dX1_pass_72 rfl (lv_at hl 1 rfl) ?_
    refine va_get (D := G.1) (ci := 1) (C := RX1) (T := TX1) (N := 18) hx hb hts iX1_pass_X1 hown hK.1 hP 0 rfl rfl 9 (by decide) (hts (.fieldLink RX1 40 "BoardClock$State" "width" "I") (List.mem_of_getElem? (i := 8) rfl)) (fun _ h9 => h9) rfl dX1_pass_73 ?_
    refine lv_i2l hx hb dX1_pass_76 rfl ?_
    refine lv_iload_n hx hb dX1_pass_77 rfl (lv_at hl 2 rfl) ?_
    refine lv_i2l hx hb dX1_pass_78 rfl ?_
    refine lv_aload_n hx hb dX1_pass_79 rfl (lv_at hl 1 rfl) ?_
    obtain ⟨r17, er17, hF⟩ := zc_bind hF
    refine zc_ci (va_runV (As := []) ⟨hx, hb, hml, hown, hts⟩ (kX1_widthPerTick l G ad er17) (cwV 0 hts gX1_pass_X1_widthPerTick rfl rfl rfl (by decide +kernel) ⟨Nat.le_of_ble_eq_true rfl, Nat.le_of_ble_eq_true rfl⟩) (zc_preV hK hP 0 rfl rfl) rfl rfl hl.1 rfl (lv_room (Nat.le_of_ble_eq_true rfl)) dX1_pass_80 ⟨Nat.le_of_ble_eq_true rfl, Nat.le_of_ble_eq_true rfl⟩) ?_
    refine lv_i2l hx hb dX1_pass_83 rfl ?_
    refine lv_lmul hx hb dX1_pass_84 ?_
    refine lv_ladd hx hb dX1_pass_85 ?_
    refine lv_ldc2 hx hb hown (hts (.constantLong RX1 143 (999999999)) (List.mem_of_getElem? (i := 9) rfl)) dX1_pass_86 ?_
    refine va_mmin_long hx hb (hml.trans hl.1.symm) hown (hts (.methodLink RX1 145 Lib.MathLoose.min_long.x) (List.mem_of_getElem? (i := 10) rfl)) (hts (.static Lib.MathLoose.min_long.x) (List.mem_of_getElem? (i := 11) rfl)) (hts (.initialized "java/lang/Math") (List.mem_of_getElem? (i := 12) rfl)) (hts (.code Lib.MathLoose.min_long.x Lib.MathLoose.min_long.code 4 (some .long)) (List.mem_of_getElem? (i := 13) rfl)) (Nat.le_of_ble_eq_true rfl) (Nat.le_of_ble_eq_true rfl) (Nat.zero_le _) (Nat.zero_le _) dX1_pass_89 ?_
    refine lv_l2i hx hb dX1_pass_92 rfl ?_
    refine va_put (D := G.1) (ci := 1) (v := .int ((if (999999999 : Int64) < (((v16.2.1 9)).toInt64 + (a1.toInt64 * r17.toInt64)) then (999999999 : Int64) else (((v16.2.1 9)).toInt64 + (a1.toInt64 * r17.toInt64)))).toInt32) (ty := .int) (C := RX1) (T := TX1) (N := 18) hx hb hts iX1_pass_X1 tyX1 tyX1_ok nmX1 hown hK.1 hP hD hS 0 rfl rfl 9 (by decide) (hts (.fieldLink RX1 40 "BoardClock$State" "width" "I") (List.mem_of_getElem? (i := 8) rfl)) (fun _ h9 => h9) rfl (by decide +kernel) rfl rfl (Nat.le_of_ble_eq_true rfl) dX1_pass_93 (fun H locs hP _ hS => ?_)
    obtain ⟨v18, ev18, hF⟩ := zc_letX hF
    have hP : va_P G.1 vwCl (zc_st G ad v18) H := by rw [ev18]; exact hP
    have hD : va_D A (zc_st G ad v18) := zc_Ds hD rfl
    refine lv_aload_n hx hb dX1_pass_96 rfl (lv_at hl 1 rfl) ?_
    refine va_get (D := G.1) (ci := 1) (C := RX1) (T := TX1) (N := 18) hx hb hts iX1_pass_X1 hown hK.1 hP 0 rfl rfl 17 (by decide) (hts (.fieldLink RX1 69 "BoardClock$State" "alarms" "LBoardClock$Alarms;") (List.mem_of_getElem? (i := 14) rfl)) (fun _ h9 => h9) rfl dX1_pass_97 ?_
    refine lv_lload_n hx hb dX1_pass_100 rfl (lv_at hl 0 rfl) ?_
    refine lv_aload_n hx hb dX1_pass_101 rfl (lv_at hl 1 rfl) ?_
    obtain ⟨r19, er19, hF⟩ := zc_bind hF
    refine zc_cl (va_runV (As := []) ⟨hx, hb, hml, hown, hts⟩ (kX1_minuteNumber l G ad er19) (cwV 0 hts gX1_pass_X1_minuteNumber rfl rfl rfl (by decide +kernel) ⟨Nat.le_of_ble_eq_true rfl, Nat.le_of_ble_eq_true rfl⟩) (zc_preV hK hP 0 rfl rfl) rfl rfl hl.1 rfl (lv_room (Nat.le_of_ble_eq_true rfl)) dX1_pass_102 ⟨Nat.le_of_ble_eq_true rfl, Nat.le_of_ble_eq_true rfl⟩) ?_
    obtain ⟨r20, er20, hF⟩ := zc_bind hF
    refine zc_mi (X := zc_st G ad v18) (pl := []) (wc := zc_al G ad v18.2.2.2) (w1 := zc_al G ad r20.2) (wr := (zc_st G ad v18).take 2) hP hD hS hA [2, 3, 4, 5, 6] [0, 1] rfl (by decide) rfl (by decide) (by decide) rfl (va_runV (As := [.long _, .long _]) ⟨hx, hb, hml, hown, hts⟩ (kX0_ring l G ad _ er20) (cwV 2 hts gX1_pass_X0_ring rfl rfl rfl (by decide +kernel) ⟨Nat.le_of_ble_eq_true rfl, Nat.le_of_ble_eq_true rfl⟩) (zc_preVm hK (hP.sub (ws' := zc_al G ad v18.2.2.2) [2, 3, 4, 5, 6] rfl) (hD.sub (ws' := zc_al G ad v18.2.2.2) [2, 3, 4, 5, 6] (by decide) rfl) 0 rfl rfl) rfl rfl hl.1 rfl (lv_room (Nat.le_of_ble_eq_true rfl)) dX1_pass_105 ⟨Nat.le_of_ble_eq_true rfl, Nat.le_of_ble_eq_true rfl⟩) (fun H locs hP hD hS => ?_)
    obtain ⟨v21, ev21, hF⟩ := zc_letX hF
    have hP : va_P G.1 vwCl (zc_st G ad v21) H := by rw [ev21]; exact hP
    have hD : va_D A (zc_st G ad v21) := zc_Ds hD rfl
    obtain rfl := Option.some.inj hF
    exact W.iret hx hb hr (fun t ht hW => ⟨⟨_, (), rfl, rfl, zc_hp ht hP⟩, hS.F ht⟩) hS.2.2 dX1_pass_108
