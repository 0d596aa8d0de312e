def fX1_copyFrom (v : zc_S) (w : zc_S) : Option (zc_S) := zc_let (zc_sL v 0 (w.1 0)) fun (v1 : zc_S) => zc_let (zc_sL v1 1 (w.1 1)) fun (v2 : zc_S) => zc_let (zc_sL v2 2 (w.1 2)) fun (v3 : zc_S) => zc_let (zc_sI v3 3 (w.2.1 3)) fun (v4 : zc_S) => zc_let (zc_sI v4 4 (w.2.1 4)) fun (v5 : zc_S) => zc_let (zc_sI v5 5 (w.2.1 5)) fun (v6 : zc_S) => zc_let (zc_sI v6 6 (w.2.1 6)) fun (v7 : zc_S) => zc_let (zc_sI v7 7 (w.2.1 7)) fun (v8 : zc_S) => zc_let (zc_sI v8 8 (w.2.1 8)) fun (v9 : zc_S) => zc_let (zc_sI v9 9 (w.2.1 9)) fun (v10 : zc_S) => zc_let (zc_sI v10 10 (w.2.1 10)) fun (v11 : zc_S) => zc_z (w.2.1 11) (zc_let (zc_sI v11 11 (w.2.1 11)) fun (v13 : zc_S) => zc_let (zc_sI v13 12 (w.2.1 12)) fun (v14 : zc_S) => zc_let (zc_sI v14 13 (w.2.1 13)) fun (v15 : zc_S) => zc_let (zc_sI v15 14 (w.2.1 14)) fun (v16 : zc_S) => zc_z (w.2.1 15) (zc_let (zc_sI v16 15 (w.2.1 15)) fun (v18 : zc_S) => zc_let (zc_sf v18 (va_cpy (w.2.2.1) (v18.2.2.1) 0 0 9)) fun (v19 : zc_S) => Option.bind (fX0_copyFrom v19.2.2.2 w.2.2.2) fun (r20 : zc_Q) => zc_let (zc_sq v19 r20) fun (v21 : zc_S) => some v21))
theorem iX1_copyFrom_X1 : ∀ w ∈ wsX10, w ∈ wsX1_copyFrom := fun _ h => List.mem_cons_of_mem _ (List.mem_append_left _ (List.mem_append_right _ h))
set_option maxHeartbeats 4000000 in
set_option maxRecDepth 100000 in
theorem kX1_copyFrom (l : Launch) (G : zc_G) (ad ae : Nat → Nat) (sz : Nat) {v : zc_S} {w : zc_S} {r0 : zc_S} (hF : fX1_copyFrom v w = some r0) : Met l yX1_copyFrom wsX1_copyFrom ({ frames := 2, cells := 0, slots := 0, locals := 81 }) (zc_Pm G [.ref (ad 0), .ref (ae 0)] (zc_st G ad v ++ zc_st G ae w) sz) (zc_Qv G (zc_st G ad r0 ++ zc_st G ae w) (va_A (zc_st G ad v ++ zc_st G ae w) sz)) 0 0 (va_A (zc_st G ad v ++ zc_st G ae w) sz) := by
  refine Met.ofW (cc := cX1_copyFrom) (maxL := 2) (ret := none) (by decide) rfl ?_
  intro p e s m args below meth c s₁ B hml hv
  obtain ⟨rfl, hsz, hP, hK, hD0⟩ := hv
  have hx := B.exec
  have hb := B.bytes
  have hr := B.returns
  have hts := atoms_spec (ws := wsX1_copyFrom) B.pre
  have hown : s.vm.findClass RX1 = some m.cls := findClass_of_methodNamed B.named
  have hlocks := B.notSynchronized
  subst hsz
  have hD := hD0.self (sz := s.heap.size)
  generalize hAe : va_A (zc_st G ad v ++ zc_st G ae w) s.heap.size = A at hD ⊢
  have hA : ∀ q : Nat, s.heap.size ≤ q → A q := fun q h => by rw [← hAe]; exact Or.inr h
  have hS : va_S A s.heap s.heap [] := va_S.rf
  have hl := lv_entry ([.ref (ad 0), .ref (ae 0)]) (n := 2) (Nat.le_of_ble_eq_true rfl)
  rw [lg_entry_eq]
  generalize (lg_sl ([.ref (ad 0), .ref (ae 0)]) ++ List.replicate (2 - (lg_sl ([.ref (ad 0), .ref (ae 0)])).length) Slot.unset).toArray = ls at hl ⊢
  have hl : lv_has ls 2 [(0, .ref (ad 0)), (1, .ref (ae 0))] := hl
  refine lv_aload_n hx hb dX1_copyFrom_0 rfl (lv_at hl 0 rfl) ?_
  refine lv_aload_n hx hb dX1_copyFrom_1 rfl (lv_at hl 1 rfl) ?_
  refine va_get (D := G.1) (ci := 1) (C := RX1) (T := TX1) (N := 18) hx hb hts iX1_copyFrom_X1 hown hK.1 hP 7 rfl rfl 0 (by decide) (hts (.fieldLink RX1 9 "BoardClock$State" "trueTime" "J") (List.mem_of_getElem? (i := 1) rfl)) (fun _ h9 => h9) rfl dX1_copyFrom_2 ?_
  refine va_put (D := G.1) (ci := 1) (v := .long (w.1 0)) (ty := .long) (C := RX1) (T := TX1) (N := 18) hx hb hts iX1_copyFrom_X1 tyX1 tyX1_ok nmX1 hown hK.1 hP hD hS 0 rfl rfl 0 (by decide) (hts (.fieldLink RX1 9 "BoardClock$State" "trueTime" "J") (List.mem_of_getElem? (i := 1) rfl)) (fun _ h9 => h9) rfl (by decide +kernel) rfl rfl (Nat.le_of_ble_eq_true rfl) dX1_copyFrom_5 (fun H locs hP _ hS => ?_)
  obtain ⟨v1, ev1, hF⟩ := zc_letX hF
  have hP : va_P G.1 vwCl (zc_st G ad v1 ++ zc_st G ae w) H := by rw [ev1]; exact hP
  have hD : va_D A (zc_st G ad v1 ++ zc_st G ae w) := zc_Ds hD rfl
  refine lv_aload_n hx hb dX1_copyFrom_8 rfl (lv_at hl 0 rfl) ?_
  refine lv_aload_n hx hb dX1_copyFrom_9 rfl (lv_at hl 1 rfl) ?_
  refine va_get (D := G.1) (ci := 1) (C := RX1) (T := TX1) (N := 18) hx hb hts iX1_copyFrom_X1 hown hK.1 hP 7 rfl rfl 1 (by decide) (hts (.fieldLink RX1 15 "BoardClock$State" "boardTime" "J") (List.mem_of_getElem? (i := 2) rfl)) (fun _ h9 => h9) rfl dX1_copyFrom_10 ?_
  refine va_put (D := G.1) (ci := 1) (v := .long (w.1 1)) (ty := .long) (C := RX1) (T := TX1) (N := 18) hx hb hts iX1_copyFrom_X1 tyX1 tyX1_ok nmX1 hown hK.1 hP hD hS 0 rfl rfl 1 (by decide) (hts (.fieldLink RX1 15 "BoardClock$State" "boardTime" "J") (List.mem_of_getElem? (i := 2) rfl)) (fun _ h9 => h9) rfl (by decide +kernel) rfl rfl (Nat.le_of_ble_eq_true rfl) dX1_copyFrom_13 (fun H locs hP _ hS => ?_)
  obtain ⟨v2, ev2, hF⟩ := zc_letX hF
  have hP : va_P G.1 vwCl (zc_st G ad v2 ++ zc_st G ae w) H := by rw [ev2]; exact hP
  have hD : va_D A (zc_st G ad v2 ++ zc_st G ae w) := zc_Ds hD rfl
  refine lv_aload_n hx hb dX1_copyFrom_16 rfl (lv_at hl 0 rfl) ?_
  refine lv_aload_n hx hb dX1_copyFrom_17 rfl (lv_at hl 1 rfl) ?_
  refine va_get (D := G.1) (ci := 1) (C := RX1) (T := TX1) (N := 18) hx hb hts iX1_copyFrom_X1 hown hK.1 hP 7 rfl rfl 2 (by decide) (hts (.fieldLink RX1 18 "BoardClock$State" "ahead" "J") (List.mem_of_getElem? (i := 3) rfl)) (fun _ h9 => h9) rfl dX1_copyFrom_18 ?_
  refine va_put (D := G.1) (ci := 1) (v := .long (w.1 2)) (ty := .long) (C := RX1) (T := TX1) (N := 18) hx hb hts iX1_copyFrom_X1 tyX1 tyX1_ok nmX1 hown hK.1 hP hD hS 0 rfl rfl 2 (by decide) (hts (.fieldLink RX1 18 "BoardClock$State" "ahead" "J") (List.mem_of_getElem? (i := 3) rfl)) (fun _ h9 => h9) rfl (by decide +kernel) rfl rfl (Nat.le_of_ble_eq_true rfl) dX1_copyFrom_21 (fun H locs hP _ hS => ?_)
  obtain ⟨v3, ev3, hF⟩ := zc_letX hF
  have hP : va_P G.1 vwCl (zc_st G ad v3 ++ zc_st G ae w) H := by rw [ev3]; exact hP
  have hD : va_D A (zc_st G ad v3 ++ zc_st G ae w) := zc_Ds hD rfl
  refine lv_aload_n hx hb dX1_copyFrom_24 rfl (lv_at hl 0 rfl) ?_
  refine lv_aload_n hx hb dX1_copyFrom_25 rfl (lv_at hl 1 rfl) ?_
  refine va_get (D := G.1) (ci := 1) (C := RX1) (T := TX1) (N := 18) hx hb hts iX1_copyFrom_X1 hown hK.1 hP 7 rfl rfl 3 (by decide) (hts (.fieldLink RX1 21 "BoardClock$State" "warmth" "I") (List.mem_of_getElem? (i := 4) rfl)) (fun _ h9 => h9) rfl dX1_copyFrom_26 ?_
  refine va_put (D := G.1) (ci := 1) (v := .int (w.2.1 3)) (ty := .int) (C := RX1) (T := TX1) (N := 18) hx hb hts iX1_copyFrom_X1 tyX1 tyX1_ok nmX1 hown hK.1 hP hD hS 0 rfl rfl 3 (by decide) (hts (.fieldLink RX1 21 "BoardClock$State" "warmth" "I") (List.mem_of_getElem? (i := 4) rfl)) (fun _ h9 => h9) rfl (by decide +kernel) rfl rfl (Nat.le_of_ble_eq_true rfl) dX1_copyFrom_29 (fun H locs hP _ hS => ?_)
  obtain ⟨v4, ev4, hF⟩ := zc_letX hF
  have hP : va_P G.1 vwCl (zc_st G ad v4 ++ zc_st G ae w) H := by rw [ev4]; exact hP
  have hD : va_D A (zc_st G ad v4 ++ zc_st G ae w) := zc_Ds hD rfl
  refine lv_aload_n hx hb dX1_copyFrom_32 rfl (lv_at hl 0 rfl) ?_
  refine lv_aload_n hx hb dX1_copyFrom_33 rfl (lv_at hl 1 rfl) ?_
  refine va_get (D := G.1) (ci := 1) (C := RX1) (T := TX1) (N := 18) hx hb hts iX1_copyFrom_X1 hown hK.1 hP 7 rfl rfl 4 (by decide) (hts (.fieldLink RX1 25 "BoardClock$State" "top" "I") (List.mem_of_getElem? (i := 5) rfl)) (fun _ h9 => h9) rfl dX1_copyFrom_34 ?_
  refine va_put (D := G.1) (ci := 1) (v := .int (w.2.1 4)) (ty := .int) (C := RX1) (T := TX1) (N := 18) hx hb hts iX1_copyFrom_X1 tyX1 tyX1_ok nmX1 hown hK.1 hP hD hS 0 rfl rfl 4 (by decide) (hts (.fieldLink RX1 25 "BoardClock$State" "top" "I") (List.mem_of_getElem? (i := 5) rfl)) (fun _ h9 => h9) rfl (by decide +kernel) rfl rfl (Nat.le_of_ble_eq_true rfl) dX1_copyFrom_37 (fun H locs hP _ hS => ?_)
  obtain ⟨v5, ev5, hF⟩ := zc_letX hF
  have hP : va_P G.1 vwCl (zc_st G ad v5 ++ zc_st G ae w) H := by rw [ev5]; exact hP
  have hD : va_D A (zc_st G ad v5 ++ zc_st G ae w) := zc_Ds hD rfl
  refine lv_aload_n hx hb dX1_copyFrom_40 rfl (lv_at hl 0 rfl) ?_
  refine lv_aload_n hx hb dX1_copyFrom_41 rfl (lv_at hl 1 rfl) ?_
  refine va_get (D := G.1) (ci := 1) (C := RX1) (T := TX1) (N := 18) hx hb hts iX1_copyFrom_X1 hown hK.1 hP 7 rfl rfl 5 (by decide) (hts (.fieldLink RX1 28 "BoardClock$State" "curve" "I") (List.mem_of_getElem? (i := 6) rfl)) (fun _ h9 => h9) rfl dX1_copyFrom_42 ?_
  refine va_put (D := G.1) (ci := 1) (v := .int (w.2.1 5)) (ty := .int) (C := RX1) (T := TX1) (N := 18) hx hb hts iX1_copyFrom_X1 tyX1 tyX1_ok nmX1 hown hK.1 hP hD hS 0 rfl rfl 5 (by decide) (hts (.fieldLink RX1 28 "BoardClock$State" "curve" "I") (List.mem_of_getElem? (i := 6) rfl)) (fun _ h9 => h9) rfl (by decide +kernel) rfl rfl (Nat.le_of_ble_eq_true rfl) dX1_copyFrom_45 (fun H locs hP _ hS => ?_)
  obtain ⟨v6, ev6, hF⟩ := zc_letX hF
  have hP : va_P G.1 vwCl (zc_st G ad v6 ++ zc_st G ae w) H := by rw [ev6]; exact hP
  have hD : va_D A (zc_st G ad v6 ++ zc_st G ae w) := zc_Ds hD rfl
  refine lv_aload_n hx hb dX1_copyFrom_48 rfl (lv_at hl 0 rfl) ?_
  refine lv_aload_n hx hb dX1_copyFrom_49 rfl (lv_at hl 1 rfl) ?_
  refine va_get (D := G.1) (ci := 1) (C := RX1) (T := TX1) (N := 18) hx hb hts iX1_copyFrom_X1 hown hK.1 hP 7 rfl rfl 6 (by decide) (hts (.fieldLink RX1 31 "BoardClock$State" "base" "I") (List.mem_of_getElem? (i := 7) rfl)) (fun _ h9 => h9) rfl dX1_copyFrom_50 ?_
  refine va_put (D := G.1) (ci := 1) (v := .int (w.2.1 6)) (ty := .int) (C := RX1) (T := TX1) (N := 18) hx hb hts iX1_copyFrom_X1 tyX1 tyX1_ok nmX1 hown hK.1 hP hD hS 0 rfl rfl 6 (by decide) (hts (.fieldLink RX1 31 "BoardClock$State" "base" "I") (List.mem_of_getElem? (i := 7) rfl)) (fun _ h9 => h9) rfl (by decide +kernel) rfl rfl (Nat.le_of_ble_eq_true rfl) dX1_copyFrom_53 (fun H locs hP _ hS => ?_)
  obtain ⟨v7, ev7, hF⟩ := zc_letX hF
  have hP : va_P G.1 vwCl (zc_st G ad v7 ++ zc_st G ae w) H := by rw [ev7]; exact hP
  have hD : va_D A (zc_st G ad v7 ++ zc_st G ae w) := zc_Ds hD rfl
  refine lv_aload_n hx hb dX1_copyFrom_56 rfl (lv_at hl 0 rfl) ?_
  refine lv_aload_n hx hb dX1_copyFrom_57 rfl (lv_at hl 1 rfl) ?_
  refine va_get (D := G.1) (ci := 1) (C := RX1) (T := TX1) (N := 18) hx hb hts iX1_copyFrom_X1 hown hK.1 hP 7 rfl rfl 7 (by decide) (hts (.fieldLink RX1 34 "BoardClock$State" "rest" "I") (List.mem_of_getElem? (i := 8) rfl)) (fun _ h9 => h9) rfl dX1_copyFrom_58 ?_
  refine va_put (D := G.1) (ci := 1) (v := .int (w.2.1 7)) (ty := .int) (C := RX1) (T := TX1) (N := 18) hx hb hts iX1_copyFrom_X1 tyX1 tyX1_ok nmX1 hown hK.1 hP hD hS 0 rfl rfl 7 (by decide) (hts (.fieldLink RX1 34 "BoardClock$State" "rest" "I") (List.mem_of_getElem? (i := 8) rfl)) (fun _ h9 => h9) rfl (by decide +kernel) rfl rfl (Nat.le_of_ble_eq_true rfl) dX1_copyFrom_61 (fun H locs hP _ hS => ?_)
  obtain ⟨v8, ev8, hF⟩ := zc_letX hF
  have hP : va_P G.1 vwCl (zc_st G ad v8 ++ zc_st G ae w) H := by rw [ev8]; exact hP
  have hD : va_D A (zc_st G ad v8 ++ zc_st G ae w) := zc_Ds hD rfl
  refine lv_aload_n hx hb dX1_copyFrom_64 rfl (lv_at hl 0 rfl) ?_
  refine lv_aload_n hx hb dX1_copyFrom_65 rfl (lv_at hl 1 rfl) ?_
  refine va_get (D := G.1) (ci := 1) (C := RX1) (T := TX1) (N := 18) hx hb hts iX1_copyFrom_X1 hown hK.1 hP 7 rfl rfl 8 (by decide) (hts (.fieldLink RX1 37 "BoardClock$State" "step" "I") (List.mem_of_getElem? (i := 9) rfl)) (fun _ h9 => h9) rfl dX1_copyFrom_66 ?_
  refine va_put (D := G.1) (ci := 1) (v := .int (w.2.1 8)) (ty := .int) (C := RX1) (T := TX1) (N := 18) hx hb hts iX1_copyFrom_X1 tyX1 tyX1_ok nmX1 hown hK.1 hP hD hS 0 rfl rfl 8 (by decide) (hts (.fieldLink RX1 37 "BoardClock$State" "step" "I") (List.mem_of_getElem? (i := 9) rfl)) (fun _ h9 => h9) rfl (by decide +kernel) rfl rfl (Nat.le_of_ble_eq_true rfl) dX1_copyFrom_69 (fun H locs hP _ hS => ?_)
  obtain ⟨v9, ev9, hF⟩ := zc_letX hF
  have hP : va_P G.1 vwCl (zc_st G ad v9 ++ zc_st G ae w) H := by rw [ev9]; exact hP
  have hD : va_D A (zc_st G ad v9 ++ zc_st G ae w) := zc_Ds hD rfl
  refine lv_aload_n hx hb dX1_copyFrom_72 rfl (lv_at hl 0 rfl) ?_
  refine lv_aload_n hx hb dX1_copyFrom_73 rfl (lv_at hl 1 rfl) ?_
  refine va_get (D := G.1) (ci := 1) (C := RX1) (T := TX1) (N := 18) hx hb hts iX1_copyFrom_X1 hown hK.1 hP 7 rfl rfl 9 (by decide) (hts (.fieldLink RX1 40 "BoardClock$State" "width" "I") (List.mem_of_getElem? (i := 10) rfl)) (fun _ h9 => h9) rfl dX1_copyFrom_74 ?_
  refine va_put (D := G.1) (ci := 1) (v := .int (w.2.1 9)) (ty := .int) (C := RX1) (T := TX1) (N := 18) hx hb hts iX1_copyFrom_X1 tyX1 tyX1_ok nmX1 hown hK.1 hP hD hS 0 rfl rfl 9 (by decide) (hts (.fieldLink RX1 40 "BoardClock$State" "width" "I") (List.mem_of_getElem? (i := 10) rfl)) (fun _ h9 => h9) rfl (by decide +kernel) rfl rfl (Nat.le_of_ble_eq_true rfl) dX1_copyFrom_77 (fun H locs hP _ hS => ?_)
  obtain ⟨v10, ev10, hF⟩ := zc_letX hF
  have hP : va_P G.1 vwCl (zc_st G ad v10 ++ zc_st G ae w) H := by rw [ev10]; exact hP
  have hD : va_D A (zc_st G ad v10 ++ zc_st G ae w) := zc_Ds hD rfl
  refine lv_aload_n hx hb dX1_copyFrom_80 rfl (lv_at hl 0 rfl) ?_
  refine lv_aload_n hx hb dX1_copyFrom_81 rfl (lv_at hl 1 rfl) ?_
  refine va_get (D := G.1) (ci := 1) (C := RX1) (T := TX1) (N := 18) hx hb hts iX1_copyFrom_X1 hown hK.1 hP 7 rfl rfl 10 (by decide) (hts (.fieldLink RX1 43 "BoardClock$State" "wider" "I") (List.mem_of_getElem? (i := 11) rfl)) (fun _ h9 => h9) rfl dX1_copyFrom_82 ?_
  refine va_put (D := G.1) (ci := 1) (v := .int (w.2.1 10)) (ty := .int) (C := RX1) (T := TX1) (N := 18) hx hb hts iX1_copyFrom_X1 tyX1 tyX1_ok nmX1 hown hK.1 hP hD hS 0 rfl rfl 10 (by decide) (hts (.fieldLink RX1 43 "BoardClock$State" "wider" "I") (List.mem_of_getElem? (i := 11) rfl)) (fun _ h9 => h9) rfl (by decide +kernel) rfl rfl (Nat.le_of_ble_eq_true rfl) dX1_copyFrom_85 (fun H locs hP _ hS => ?_)
  obtain ⟨v11, ev11, hF⟩ := zc_letX hF
  have hP : va_P G.1 vwCl (zc_st G ad v11 ++ zc_st G ae w) H := by rw [ev11]; exact hP
  have hD : va_D A (zc_st G ad v11 ++ zc_st G ae w) := zc_Ds hD rfl
  refine lv_aload_n hx hb dX1_copyFrom_88 rfl (lv_at hl 0 rfl) ?_
  refine lv_aload_n hx hb dX1_copyFrom_89 rfl (lv_at hl 1 rfl) ?_
  refine va_get (D := G.1) (ci := 1) (C := RX1) (T := TX1) (N := 18) hx hb hts iX1_copyFrom_X1 hown hK.1 hP 7 rfl rfl 11 (by decide) (hts (.fieldLink RX1 46 "BoardClock$State" "powered" "Z") (List.mem_of_getElem? (i := 12) rfl)) (fun _ h9 => h9) rfl dX1_copyFrom_90 ?_
  obtain ⟨hz12, hF⟩ := zc_zE hF
  refine va_put (D := G.1) (ci := 1) (v := .int (w.2.1 11)) (ty := .boolean) (C := RX1) (T := TX1) (N := 18) hx hb hts iX1_copyFrom_X1 tyX1 tyX1_ok nmX1 hown hK.1 hP hD hS 0 rfl rfl 11 (by decide) (hts (.fieldLink RX1 46 "BoardClock$State" "powered" "Z") (List.mem_of_getElem? (i := 12) rfl)) (fun _ h9 => h9) rfl (by decide +kernel) hz12.1 hz12.2 (Nat.le_of_ble_eq_true rfl) dX1_copyFrom_93 (fun H locs hP _ hS => ?_)
  obtain ⟨v13, ev13, hF⟩ := zc_letX hF
  have hP : va_P G.1 vwCl (zc_st G ad v13 ++ zc_st G ae w) H := by rw [ev13]; exact hP
  have hD : va_D A (zc_st G ad v13 ++ zc_st G ae w) := zc_Ds hD rfl
  refine lv_aload_n hx hb dX1_copyFrom_96 rfl (lv_at hl 0 rfl) ?_
  refine lv_aload_n hx hb dX1_copyFrom_97 rfl (lv_at hl 1 rfl) ?_
  refine va_get (D := G.1) (ci := 1) (C := RX1) (T := TX1) (N := 18) hx hb hts iX1_copyFrom_X1 hown hK.1 hP 7 rfl rfl 12 (by decide) (hts (.fieldLink RX1 50 "BoardClock$State" "broken" "I") (List.mem_of_getElem? (i := 13) rfl)) (fun _ h9 => h9) rfl dX1_copyFrom_98 ?_
  refine va_put (D := G.1) (ci := 1) (v := .int (w.2.1 12)) (ty := .int) (C := RX1) (T := TX1) (N := 18) hx hb hts iX1_copyFrom_X1 tyX1 tyX1_ok nmX1 hown hK.1 hP hD hS 0 rfl rfl 12 (by decide) (hts (.fieldLink RX1 50 "BoardClock$State" "broken" "I") (List.mem_of_getElem? (i := 13) rfl)) (fun _ h9 => h9) rfl (by decide +kernel) rfl rfl (Nat.le_of_ble_eq_true rfl) dX1_copyFrom_101 (fun H locs hP _ hS => ?_)
  obtain ⟨v14, ev14, hF⟩ := zc_letX hF
  have hP : va_P G.1 vwCl (zc_st G ad v14 ++ zc_st G ae w) H := by rw [ev14]; exact hP
  have hD : va_D A (zc_st G ad v14 ++ zc_st G ae w) := zc_Ds hD rfl
  refine lv_aload_n hx hb dX1_copyFrom_104 rfl (lv_at hl 0 rfl) ?_
  refine lv_aload_n hx hb dX1_copyFrom_105 rfl (lv_at hl 1 rfl) ?_
  refine va_get (D := G.1) (ci := 1) (C := RX1) (T := TX1) (N := 18) hx hb hts iX1_copyFrom_X1 hown hK.1 hP 7 rfl rfl 13 (by decide) (hts (.fieldLink RX1 53 "BoardClock$State" "ticks" "I") (List.mem_of_getElem? (i := 14) rfl)) (fun _ h9 => h9) rfl dX1_copyFrom_106 ?_
  refine va_put (D := G.1) (ci := 1) (v := .int (w.2.1 13)) (ty := .int) (C := RX1) (T := TX1) (N := 18) hx hb hts iX1_copyFrom_X1 tyX1 tyX1_ok nmX1 hown hK.1 hP hD hS 0 rfl rfl 13 (by decide) (hts (.fieldLink RX1 53 "BoardClock$State" "ticks" "I") (List.mem_of_getElem? (i := 14) rfl)) (fun _ h9 => h9) rfl (by decide +kernel) rfl rfl (Nat.le_of_ble_eq_true rfl) dX1_copyFrom_109 (fun H locs hP _ hS => ?_)
  obtain ⟨v15, ev15, hF⟩ := zc_letX hF
  have hP : va_P G.1 vwCl (zc_st G ad v15 ++ zc_st G ae w) H := by rw [ev15]; exact hP
  have hD : va_D A (zc_st G ad v15 ++ zc_st G ae w) := zc_Ds hD rfl
  refine lv_aload_n hx hb dX1_copyFrom_112 rfl (lv_at hl 0 rfl) ?_
  refine lv_aload_n hx hb dX1_copyFrom_113 rfl (lv_at hl 1 rfl) ?_
  refine va_get (D := G.1) (ci := 1) (C := RX1) (T := TX1) (N := 18) hx hb hts iX1_copyFrom_X1 hown hK.1 hP 7 rfl rfl 14 (by decide) (hts (.fieldLink RX1 56 "BoardClock$State" "tickSpan" "I") (List.mem_of_getElem? (i := 15) rfl)) (fun _ h9 => h9) rfl dX1_copyFrom_114 ?_
  refine va_put (D := G.1) (ci := 1) (v := .int (w.2.1 14)) (ty := .int) (C := RX1) (T := TX1) (N := 18) hx hb hts iX1_copyFrom_X1 tyX1 tyX1_ok nmX1 hown hK.1 hP hD hS 0 rfl rfl 14 (by decide) (hts (.fieldLink RX1 56 "BoardClock$State" "tickSpan" "I") (List.mem_of_getElem? (i := 15) rfl)) (fun _ h9 => h9) rfl (by decide +kernel) rfl rfl (Nat.le_of_ble_eq_true rfl) dX1_copyFrom_117 (fun H locs hP _ hS => ?_)
  obtain ⟨v16, ev16, hF⟩ := zc_letX hF
  have hP : va_P G.1 vwCl (zc_st G ad v16 ++ zc_st G ae w) H := by rw [ev16]; exact hP
  have hD : va_D A (zc_st G ad v16 ++ zc_st G ae w) := zc_Ds hD rfl
  refine lv_aload_n hx hb dX1_copyFrom_120 rfl (lv_at hl 0 rfl) ?_
  refine lv_aload_n hx hb dX1_copyFrom_121 rfl (lv_at hl 1 rfl) ?_
  refine va_get (D := G.1) (ci := 1) (C := RX1) (T := TX1) (N := 18) hx hb hts iX1_copyFrom_X1 hown hK.1 hP 7 rfl rfl 15 (by decide) (hts (.fieldLink RX1 59 "BoardClock$State" "steady" "Z") (List.mem_of_getElem? (i := 16) rfl)) (fun _ h9 => h9) rfl dX1_copyFrom_122 ?_
  obtain ⟨hz17, hF⟩ := zc_zE hF
  refine va_put (D := G.1) (ci := 1) (v := .int (w.2.1 15)) (ty := .boolean) (C := RX1) (T := TX1) (N := 18) hx hb hts iX1_copyFrom_X1 tyX1 tyX1_ok nmX1 hown hK.1 hP hD hS 0 rfl rfl 15 (by decide) (hts (.fieldLink RX1 59 "BoardClock$State" "steady" "Z") (List.mem_of_getElem? (i := 16) rfl)) (fun _ h9 => h9) rfl (by decide +kernel) hz17.1 hz17.2 (Nat.le_of_ble_eq_true rfl) dX1_copyFrom_125 (fun H locs hP _ hS => ?_)
  obtain ⟨v18, ev18, hF⟩ := zc_letX hF
  have hP : va_P G.1 vwCl (zc_st G ad v18 ++ zc_st G ae w) H := by rw [ev18]; exact hP
  have hD : va_D A (zc_st G ad v18 ++ zc_st G ae w) := zc_Ds hD rfl
  refine lv_aload_n hx hb dX1_copyFrom_128 rfl (lv_at hl 1 rfl) ?_
  refine va_get (D := G.1) (ci := 1) (C := RX1) (T := TX1) (N := 18) hx hb hts iX1_copyFrom_X1 hown hK.1 hP 7 rfl rfl 16 (by decide) (hts (.fieldLink RX1 62 "BoardClock$State" "learned" "[I") (List.mem_of_getElem? (i := 17) rfl)) (fun _ h9 => h9) rfl dX1_copyFrom_129 ?_
  refine lv_iconst (v := (0 : Int32)) hx hb dX1_copyFrom_132 (by decide) ?_
  refine lv_aload_n hx hb dX1_copyFrom_133 rfl (lv_at hl 0 rfl) ?_
  refine va_get (D := G.1) (ci := 1) (C := RX1) (T := TX1) (N := 18) hx hb hts iX1_copyFrom_X1 hown hK.1 hP 0 rfl rfl 16 (by decide) (hts (.fieldLink RX1 62 "BoardClock$State" "learned" "[I") (List.mem_of_getElem? (i := 17) rfl)) (fun _ h9 => h9) rfl dX1_copyFrom_134 ?_
  refine lv_iconst (v := (0 : Int32)) hx hb dX1_copyFrom_137 (by decide) ?_
  refine lv_bipush (v := (9 : Int32)) hx hb dX1_copyFrom_138 (by decide) ?_
  refine va_copyi hx hb (hml.trans hl.1.symm) hown (hts (.methodLink RX1 73 arraycopyName) (List.mem_of_getElem? (i := 18) rfl)) (hts (.native arraycopyName) (List.mem_of_getElem? (i := 19) rfl)) (hts (.static arraycopyName) (List.mem_of_getElem? (i := 20) rfl)) (hts (.initialized "java/lang/System") (List.mem_of_getElem? (i := 21) rfl)) hK.1 hP hD hS 8 1 0 0 rfl rfl rfl rfl rfl (by decide) (by decide) (by decide) (by decide) (by decide) (fun _ _ => rfl) (Nat.le_of_ble_eq_true rfl) (by decide +kernel) dX1_copyFrom_140 (fun H locs hP _ hS => ?_)
  obtain ⟨v19, ev19, hF⟩ := zc_letX hF
  have hP : va_P G.1 vwCl (zc_st G ad v19 ++ zc_st G ae w) H := by rw [ev19]; exact hP
  have hD : va_D A (zc_st G ad v19 ++ zc_st G ae w) := zc_Ds hD rfl
  refine lv_aload_n hx hb dX1_copyFrom_143 rfl (lv_at hl 0 rfl) ?_
  refine va_get (D := G.1) (ci := 1) (C := RX1) (T := TX1) (N := 18) hx hb hts iX1_copyFrom_X1 hown hK.1 hP 0 rfl rfl 17 (by decide) (hts (.fieldLink RX1 69 "BoardClock$State" "alarms" "LBoardClock$Alarms;") (List.mem_of_getElem? (i := 22) rfl)) (fun _ h9 => h9) rfl dX1_copyFrom_144 ?_
  refine lv_aload_n hx hb dX1_copyFrom_147 rfl (lv_at hl 1 rfl) ?_
  refine va_get (D := G.1) (ci := 1) (C := RX1) (T := TX1) (N := 18) hx hb hts iX1_copyFrom_X1 hown hK.1 hP 7 rfl rfl 17 (by decide) (hts (.fieldLink RX1 69 "BoardClock$State" "alarms" "LBoardClock$Alarms;") (List.mem_of_getElem? (i := 22) rfl)) (fun _ h9 => h9) rfl dX1_copyFrom_148 ?_
  obtain ⟨r20, er20, hF⟩ := zc_bind hF
  refine zc_mv (X := zc_st G ad v19 ++ zc_st G ae w) (pl := []) (wc := zc_al G ad v19.2.2.2 ++ zc_al G ae w.2.2.2) (w1 := zc_al G ad r20 ++ zc_al G ae w.2.2.2) (wr := [((ad 0), .inr (1, [.long (v19.1 0), .long (v19.1 1), .long (v19.1 2), .int (v19.2.1 3), .int (v19.2.1 4), .int (v19.2.1 5), .int (v19.2.1 6), .int (v19.2.1 7), .int (v19.2.1 8), .int (v19.2.1 9), .int (v19.2.1 10), .int (v19.2.1 11), .int (v19.2.1 12), .int (v19.2.1 13), .int (v19.2.1 14), .int (v19.2.1 15), .ref (ad 1), .ref (ad 2)])), ((ad 1), .inl (G.2 0, 9, .inl (v19.2.2.1))), ((ae 0), .inr (1, [.long (w.1 0), .long (w.1 1), .long (w.1 2), .int (w.2.1 3), .int (w.2.1 4), .int (w.2.1 5), .int (w.2.1 6), .int (w.2.1 7), .int (w.2.1 8), .int (w.2.1 9), .int (w.2.1 10), .int (w.2.1 11), .int (w.2.1 12), .int (w.2.1 13), .int (w.2.1 14), .int (w.2.1 15), .ref (ae 1), .ref (ae 2)])), ((ae 1), .inl (G.2 0, 9, .inl (w.2.2.1)))]) hP hD hS hA [2, 3, 4, 5, 6, 9, 10, 11, 12, 13] [0, 1, 7, 8] rfl (by decide) rfl (by decide) (by decide) rfl (va_runV (As := [.ref _]) ⟨hx, hb, hml, hown, hts⟩ (kX0_copyFrom l G ad ae _ er20) (cwV 1 hts gX1_copyFrom_X0_copyFrom rfl rfl rfl (by decide +kernel) ⟨Nat.le_of_ble_eq_true rfl, Nat.le_of_ble_eq_true rfl⟩) (zc_preVm hK (hP.sub (ws' := zc_al G ad v19.2.2.2 ++ zc_al G ae w.2.2.2) [2, 3, 4, 5, 6, 9, 10, 11, 12, 13] rfl) (hD.sub (ws' := zc_al G ad v19.2.2.2 ++ zc_al G ae w.2.2.2) [2, 3, 4, 5, 6, 9, 10, 11, 12, 13] (by decide) rfl) 0 rfl rfl) rfl rfl hl.1 rfl (lv_room (Nat.le_of_ble_eq_true rfl)) dX1_copyFrom_151 ⟨Nat.le_of_ble_eq_true rfl, Nat.le_of_ble_eq_true rfl⟩) (fun H locs hP hD hS => ?_)
  have hP := hP.sub (ws' := zc_st G ad (zc_sq v19 r20) ++ zc_st G ae w) [0, 1, 4, 5, 6, 7, 8, 2, 3, 9, 10, 11, 12, 13] rfl
  have hD := hD.sub (ws' := zc_st G ad (zc_sq v19 r20) ++ zc_st G ae w) [0, 1, 4, 5, 6, 7, 8, 2, 3, 9, 10, 11, 12, 13] (by decide) rfl
  obtain ⟨v21, ev21, hF⟩ := zc_letX hF
  have hP : va_P G.1 vwCl (zc_st G ad v21 ++ zc_st G ae w) H := by rw [ev21]; exact hP
  have hD : va_D A (zc_st G ad v21 ++ zc_st G ae w) := zc_Ds hD rfl
  obtain rfl := Option.some.inj hF
  exact W.vret hx hb hr (fun t ht hW => ⟨⟨(), rfl, trivial, zc_hp ht hP⟩, hS.F ht⟩) hS.2.2 dX1_copyFrom_154
