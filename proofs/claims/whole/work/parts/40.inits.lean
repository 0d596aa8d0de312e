/-! what a constructor makes -/
theorem zc_RAfc {U : State} {cA : ClassId} {ty : FieldType} (h : va_RA U cA ty) : U.vm.findClass ("[" ++ ty.toString) = some cA := by
  cases ty with
  | object C => obtain ⟨kA, comp, -, -, -, h⟩ := h; exact h
  | _ => exact h
theorem zc_sameT {D : va_G} {cl : List vw_C} {tys tys' : List (ClassId × FieldType)} {U : State} {t : FieldType} {c c' : ClassId} (h : va_K D cl tys U) {i : Nat} (hi : tys[i]? = some (c, t)) (h' : va_K D cl tys' U) {j : Nat} (hj : tys'[j]? = some (c', t)) : c = c' := by
  have h1 := zc_RAfc (h.2 i _ hi).2
  have h2 := zc_RAfc (h'.2 j _ hj).2
  rw [h1] at h2
  exact Option.some.inj h2
def zc_ads (l : List Nat) : Nat → Nat := fun k => l.getD k 0
def zc_q0 : zc_Q := (0, fun _ _ => 0)
def zc_s0 : zc_S := ((fun _ => 0), (fun k => ([0, 0, 0, 25, 25, 3, 0, 0, 20, 0, 160, 1, 0, 0, 0, 0] : List Int32).getD k 0), (fun _ => 0), zc_q0)
def zc_m0f : Nat → Int64 := vp_updL (vp_updL (vp_updL (vp_updL (vp_updL (vp_updL (vp_updL (fun _ => 0) 4 25) 5 25) 6 3) 9 20) 10 160) 11 1) 13 (-1)
def zc_m0 : zc_M := ((fun k => if k = 0 then zc_m0f else fun _ => 0), (fun _ _ => 0), (fun _ => 0), 0)
theorem iX0_init_X0 : ∀ w ∈ wsX00, w ∈ wsX0_init := fun _ h => List.mem_cons_of_mem _ (List.mem_append_right _ h)
set_option maxHeartbeats 4000000 in
set_option maxRecDepth 100000 in
theorem kX0_init (l : Launch) (G : zc_G) (h0 sz : Nat) : Met l yX0_init wsX0_init ({ frames := 1, cells := 4, slots := 24, locals := 20 }) (zc_Pm G [.ref h0] [(h0, .inr (0, [.int 0, .null, .null, .null, .null]))] sz) (va_Qv (fun ad : Nat → Nat => ad 2 = h0) (fun ad t => va_P G.1 vwCl (zc_al G ad zc_q0) t.heap ∧ va_D (va_A [(h0, .inr (0, [.int 0, .null, .null, .null, .null]))] sz) (zc_al G ad zc_q0)) (va_A [(h0, .inr (0, [.int 0, .null, .null, .null, .null]))] sz)) 4 24 (va_A [(h0, .inr (0, [.int 0, .null, .null, .null, .null]))] sz) := by
  refine Met.ofW (cc := cX0_init) (maxL := 1) (ret := none) (by decide) rfl ?_
  intro p e s m args below meth c s₁ B hml hv
  obtain ⟨rfl, hsz, hP, hK, hD0⟩ := hv
  have hx := B.exec
  have hb := B.bytes
  have hr := B.returns
  have hts := atoms_spec (ws := wsX0_init) B.pre
  have hown : s.vm.findClass RX0 = some m.cls := findClass_of_methodNamed B.named
  have hlocks := B.notSynchronized
  have hin : meth.name = "<init>" := (name_of_methodNamed B.named B.method).1
  subst hsz
  have hD := hD0.self (sz := s.heap.size)
  generalize hAe : va_A [(h0, .inr (0, [.int 0, .null, .null, .null, .null]))] s.heap.size = A at hD ⊢
  have hA : ∀ q : Nat, s.heap.size ≤ q → A q := fun q h => by rw [← hAe]; exact Or.inr h
  have hS : va_S A s.heap s.heap [] := va_S.rf
  have hl := lv_entry ([.ref h0]) (n := 1) (Nat.le_of_ble_eq_true rfl)
  rw [lg_entry_eq]
  generalize (lg_sl ([.ref h0]) ++ List.replicate (1 - (lg_sl ([.ref h0])).length) Slot.unset).toArray = ls at hl ⊢
  have hl : lv_has ls 1 [(0, .ref h0)] := hl
  refine lv_aload_n hx hb dX0_init_0 rfl (lv_at hl 0 rfl) ?_
  refine W.objInit hx hb hown (hts (.methodLink RX0 3 objectInit) (List.mem_of_getElem? (i := 1) rfl)) (hts (.instanceMethod objectInit) (List.mem_of_getElem? (i := 2) rfl)) (hts (.code objectInit ⟨#[0xb1]⟩ 1 none) (List.mem_of_getElem? (i := 3) rfl)) rfl (by rw [hml]; exact hl.1) rfl dX0_init_1 (Nat.le_of_ble_eq_true rfl) (Nat.le_of_ble_eq_true rfl) ?_
  refine W.eq (g2 := F0 m 4 ls []) rfl ?_
  refine lv_aload_n hx hb dX0_init_4 rfl (lv_at hl 0 rfl) ?_
  refine lv_iconst (v := (0 : Int32)) hx hb dX0_init_5 (by decide) ?_
  refine va_put (D := G.1) (ci := 0) (v := .int (0 : Int32)) (ty := .int) (C := RX0) (T := TX0) (N := 5) hx hb hts iX0_init_X0 tyX0 tyX0_ok nmX0 hown hK.1 hP hD hS 0 rfl rfl 0 (by decide) (hts (.fieldLink RX0 9 "BoardClock$Alarms" "count" "I") (List.mem_of_getElem? (i := 4) rfl)) (fun _ h9 => h9) rfl (by decide +kernel) rfl rfl (Nat.le_of_ble_eq_true rfl) dX0_init_6 (fun H locs hP hD hS => ?_)
  have hP : va_P G.1 vwCl ([(h0, .inr (0, [.int (0 : Int32), .null, .null, .null, .null]))]) H := hP
  have hD : va_D A ([(h0, .inr (0, [.int (0 : Int32), .null, .null, .null, .null]))]) := hD
  refine lv_aload_n hx hb dX0_init_9 rfl (lv_at hl 0 rfl) ?_
  refine lv_bipush (v := (6 : Int32)) hx hb dX0_init_10 (by decide) ?_
  refine va_newa (atype := .int) (ty := .int) (N' := 6) (a0 := (6, .inl (fun _ => 0))) hx hb (hts (.arrayClass .int) (List.mem_of_getElem? (i := 5) rfl)) rfl hK.1 hP hD hS hA (fun _ => rfl) (by decide) (by decide) (Nat.le_of_ble_eq_true rfl) (Nat.le_of_ble_eq_true rfl) (Nat.le_of_ble_eq_true rfl) dX0_init_12 (fun q12 cA H hK2 hP hD hS => ?_)
  obtain rfl := zc_sameT hK.1 (i := 0) rfl hK2 (j := 4) rfl
  have hP : va_P G.1 vwCl ([(h0, .inr (0, [.int (0 : Int32), .null, .null, .null, .null])), (q12, .inl (G.2 0, 6, .inl (fun _ => 0)))]) H := hP
  have hD : va_D A ([(h0, .inr (0, [.int (0 : Int32), .null, .null, .null, .null])), (q12, .inl (G.2 0, 6, .inl (fun _ => 0)))]) := hD
  refine va_putF (D := G.1) (ci := 0) (v := .ref q12) (ty := .array .int) (C := RX0) (T := TX0) (N := 5) hx hb hts iX0_init_X0 tyX0 tyX0_ok nmX0 hown hK.1 hP hD hS 0 rfl rfl 1 (by decide) (hts (.fieldLink RX0 15 "BoardClock$Alarms" "minutes" "[I") (List.mem_of_getElem? (i := 6) rfl)) (fun _ h9 => h9) rfl hin rfl (by decide +kernel) rfl rfl (Nat.le_of_ble_eq_true rfl) dX0_init_14 (fun H locs hP hD hS => ?_)
  have hP : va_P G.1 vwCl ([(h0, .inr (0, [.int (0 : Int32), .ref q12, .null, .null, .null])), (q12, .inl (G.2 0, 6, .inl (fun _ => 0)))]) H := hP
  have hD : va_D A ([(h0, .inr (0, [.int (0 : Int32), .ref q12, .null, .null, .null])), (q12, .inl (G.2 0, 6, .inl (fun _ => 0)))]) := hD
  refine lv_aload_n hx hb dX0_init_17 rfl (lv_at hl 0 rfl) ?_
  refine lv_bipush (v := (6 : Int32)) hx hb dX0_init_18 (by decide) ?_
  refine va_newa (atype := .int) (ty := .int) (N' := 6) (a0 := (6, .inl (fun _ => 0))) hx hb (hts (.arrayClass .int) (List.mem_of_getElem? (i := 5) rfl)) rfl hK.1 hP hD hS hA (fun _ => rfl) (by decide) (by decide) (Nat.le_of_ble_eq_true rfl) (Nat.le_of_ble_eq_true rfl) (Nat.le_of_ble_eq_true rfl) dX0_init_20 (fun q20 cA H hK2 hP hD hS => ?_)
  obtain rfl := zc_sameT hK.1 (i := 0) rfl hK2 (j := 4) rfl
  have hP : va_P G.1 vwCl ([(h0, .inr (0, [.int (0 : Int32), .ref q12, .null, .null, .null])), (q12, .inl (G.2 0, 6, .inl (fun _ => 0))), (q20, .inl (G.2 0, 6, .inl (fun _ => 0)))]) H := hP
  have hD : va_D A ([(h0, .inr (0, [.int (0 : Int32), .ref q12, .null, .null, .null])), (q12, .inl (G.2 0, 6, .inl (fun _ => 0))), (q20, .inl (G.2 0, 6, .inl (fun _ => 0)))]) := hD
  refine va_putF (D := G.1) (ci := 0) (v := .ref q20) (ty := .array .int) (C := RX0) (T := TX0) (N := 5) hx hb hts iX0_init_X0 tyX0 tyX0_ok nmX0 hown hK.1 hP hD hS 0 rfl rfl 2 (by decide) (hts (.fieldLink RX0 19 "BoardClock$Alarms" "hours" "[I") (List.mem_of_getElem? (i := 7) rfl)) (fun _ h9 => h9) rfl hin rfl (by decide +kernel) rfl rfl (Nat.le_of_ble_eq_true rfl) dX0_init_22 (fun H locs hP hD hS => ?_)
  have hP : va_P G.1 vwCl ([(h0, .inr (0, [.int (0 : Int32), .ref q12, .ref q20, .null, .null])), (q12, .inl (G.2 0, 6, .inl (fun _ => 0))), (q20, .inl (G.2 0, 6, .inl (fun _ => 0)))]) H := hP
  have hD : va_D A ([(h0, .inr (0, [.int (0 : Int32), .ref q12, .ref q20, .null, .null])), (q12, .inl (G.2 0, 6, .inl (fun _ => 0))), (q20, .inl (G.2 0, 6, .inl (fun _ => 0)))]) := hD
  refine lv_aload_n hx hb dX0_init_25 rfl (lv_at hl 0 rfl) ?_
  refine lv_bipush (v := (6 : Int32)) hx hb dX0_init_26 (by decide) ?_
  refine va_newa (atype := .int) (ty := .int) (N' := 6) (a0 := (6, .inl (fun _ => 0))) hx hb (hts (.arrayClass .int) (List.mem_of_getElem? (i := 5) rfl)) rfl hK.1 hP hD hS hA (fun _ => rfl) (by decide) (by decide) (Nat.le_of_ble_eq_true rfl) (Nat.le_of_ble_eq_true rfl) (Nat.le_of_ble_eq_true rfl) dX0_init_28 (fun q28 cA H hK2 hP hD hS => ?_)
  obtain rfl := zc_sameT hK.1 (i := 0) rfl hK2 (j := 4) rfl
  have hP : va_P G.1 vwCl ([(h0, .inr (0, [.int (0 : Int32), .ref q12, .ref q20, .null, .null])), (q12, .inl (G.2 0, 6, .inl (fun _ => 0))), (q20, .inl (G.2 0, 6, .inl (fun _ => 0))), (q28, .inl (G.2 0, 6, .inl (fun _ => 0)))]) H := hP
  have hD : va_D A ([(h0, .inr (0, [.int (0 : Int32), .ref q12, .ref q20, .null, .null])), (q12, .inl (G.2 0, 6, .inl (fun _ => 0))), (q20, .inl (G.2 0, 6, .inl (fun _ => 0))), (q28, .inl (G.2 0, 6, .inl (fun _ => 0)))]) := hD
  refine va_putF (D := G.1) (ci := 0) (v := .ref q28) (ty := .array .int) (C := RX0) (T := TX0) (N := 5) hx hb hts iX0_init_X0 tyX0 tyX0_ok nmX0 hown hK.1 hP hD hS 0 rfl rfl 3 (by decide) (hts (.fieldLink RX0 22 "BoardClock$Alarms" "weekdays" "[I") (List.mem_of_getElem? (i := 8) rfl)) (fun _ h9 => h9) rfl hin rfl (by decide +kernel) rfl rfl (Nat.le_of_ble_eq_true rfl) dX0_init_30 (fun H locs hP hD hS => ?_)
  have hP : va_P G.1 vwCl ([(h0, .inr (0, [.int (0 : Int32), .ref q12, .ref q20, .ref q28, .null])), (q12, .inl (G.2 0, 6, .inl (fun _ => 0))), (q20, .inl (G.2 0, 6, .inl (fun _ => 0))), (q28, .inl (G.2 0, 6, .inl (fun _ => 0)))]) H := hP
  have hD : va_D A ([(h0, .inr (0, [.int (0 : Int32), .ref q12, .ref q20, .ref q28, .null])), (q12, .inl (G.2 0, 6, .inl (fun _ => 0))), (q20, .inl (G.2 0, 6, .inl (fun _ => 0))), (q28, .inl (G.2 0, 6, .inl (fun _ => 0)))]) := hD
  refine lv_aload_n hx hb dX0_init_33 rfl (lv_at hl 0 rfl) ?_
  refine lv_bipush (v := (6 : Int32)) hx hb dX0_init_34 (by decide) ?_
  refine va_newa (atype := .int) (ty := .int) (N' := 6) (a0 := (6, .inl (fun _ => 0))) hx hb (hts (.arrayClass .int) (List.mem_of_getElem? (i := 5) rfl)) rfl hK.1 hP hD hS hA (fun _ => rfl) (by decide) (by decide) (Nat.le_of_ble_eq_true rfl) (Nat.le_of_ble_eq_true rfl) (Nat.le_of_ble_eq_true rfl) dX0_init_36 (fun q36 cA H hK2 hP hD hS => ?_)
  obtain rfl := zc_sameT hK.1 (i := 0) rfl hK2 (j := 4) rfl
  have hP : va_P G.1 vwCl ([(h0, .inr (0, [.int (0 : Int32), .ref q12, .ref q20, .ref q28, .null])), (q12, .inl (G.2 0, 6, .inl (fun _ => 0))), (q20, .inl (G.2 0, 6, .inl (fun _ => 0))), (q28, .inl (G.2 0, 6, .inl (fun _ => 0))), (q36, .inl (G.2 0, 6, .inl (fun _ => 0)))]) H := hP
  have hD : va_D A ([(h0, .inr (0, [.int (0 : Int32), .ref q12, .ref q20, .ref q28, .null])), (q12, .inl (G.2 0, 6, .inl (fun _ => 0))), (q20, .inl (G.2 0, 6, .inl (fun _ => 0))), (q28, .inl (G.2 0, 6, .inl (fun _ => 0))), (q36, .inl (G.2 0, 6, .inl (fun _ => 0)))]) := hD
  refine va_putF (D := G.1) (ci := 0) (v := .ref q36) (ty := .array .int) (C := RX0) (T := TX0) (N := 5) hx hb hts iX0_init_X0 tyX0 tyX0_ok nmX0 hown hK.1 hP hD hS 0 rfl rfl 4 (by decide) (hts (.fieldLink RX0 25 "BoardClock$Alarms" "rung" "[I") (List.mem_of_getElem? (i := 9) rfl)) (fun _ h9 => h9) rfl hin rfl (by decide +kernel) rfl rfl (Nat.le_of_ble_eq_true rfl) dX0_init_38 (fun H locs hP hD hS => ?_)
  have hP : va_P G.1 vwCl ([(h0, .inr (0, [.int (0 : Int32), .ref q12, .ref q20, .ref q28, .ref q36])), (q12, .inl (G.2 0, 6, .inl (fun _ => 0))), (q20, .inl (G.2 0, 6, .inl (fun _ => 0))), (q28, .inl (G.2 0, 6, .inl (fun _ => 0))), (q36, .inl (G.2 0, 6, .inl (fun _ => 0)))]) H := hP
  have hD : va_D A ([(h0, .inr (0, [.int (0 : Int32), .ref q12, .ref q20, .ref q28, .ref q36])), (q12, .inl (G.2 0, 6, .inl (fun _ => 0))), (q20, .inl (G.2 0, 6, .inl (fun _ => 0))), (q28, .inl (G.2 0, 6, .inl (fun _ => 0))), (q36, .inl (G.2 0, 6, .inl (fun _ => 0)))]) := hD
  refine W.widen (k := 4) (n := 24) (by decide) (by decide) ?_
  exact W.vret hx hb hr (fun t ht hW => ⟨⟨zc_ads [0, 0, h0, q12, q20, q28, q36], rfl, rfl, zc_hp ht hP, hD⟩, hS.F ht⟩) hS.2.2 dX0_init_41
theorem iX1_init_X0 : ∀ w ∈ wsX00, w ∈ wsX1_init := fun _ h => List.mem_cons_of_mem _ (List.mem_append_right _ h)
theorem iX1_init_X1 : ∀ w ∈ wsX10, w ∈ wsX1_init := fun _ h => List.mem_cons_of_mem _ (List.mem_append_left _ (List.mem_append_right _ h))
set_option maxHeartbeats 4000000 in
set_option maxRecDepth 100000 in
theorem kX1_init (l : Launch) (G : zc_G) (h0 sz : Nat) : Met l yX1_init wsX1_init ({ frames := 2, cells := 6, slots := 38, locals := 40 }) (zc_Pm G [.ref h0] [(h0, .inr (1, [.long 0, .long 0, .long 0, .int 0, .int 0, .int 0, .int 0, .int 0, .int 0, .int 0, .int 0, .int 0, .int 0, .int 0, .int 0, .int 0, .null, .null]))] sz) (va_Qv (fun ad : Nat → Nat => ad 0 = h0) (fun ad t => va_P G.1 vwCl (zc_st G ad zc_s0) t.heap ∧ va_D (va_A [(h0, .inr (1, [.long 0, .long 0, .long 0, .int 0, .int 0, .int 0, .int 0, .int 0, .int 0, .int 0, .int 0, .int 0, .int 0, .int 0, .int 0, .int 0, .null, .null]))] sz) (zc_st G ad zc_s0)) (va_A [(h0, .inr (1, [.long 0, .long 0, .long 0, .int 0, .int 0, .int 0, .int 0, .int 0, .int 0, .int 0, .int 0, .int 0, .int 0, .int 0, .int 0, .int 0, .null, .null]))] sz)) 6 38 (va_A [(h0, .inr (1, [.long 0, .long 0, .long 0, .int 0, .int 0, .int 0, .int 0, .int 0, .int 0, .int 0, .int 0, .int 0, .int 0, .int 0, .int 0, .int 0, .null, .null]))] sz) := by
  refine Met.ofW (cc := cX1_init) (maxL := 1) (ret := none) (by decide) rfl ?_
  intro p e s m args below meth c s₁ B hml hv
  obtain ⟨rfl, hsz, hP, hK, hD0⟩ := hv
  have hx := B.exec
  have hb := B.bytes
  have hr := B.returns
  have hts := atoms_spec (ws := wsX1_init) B.pre
  have hown : s.vm.findClass RX1 = some m.cls := findClass_of_methodNamed B.named
  have hlocks := B.notSynchronized
  have hin : meth.name = "<init>" := (name_of_methodNamed B.named B.method).1
  subst hsz
  have hD := hD0.self (sz := s.heap.size)
  generalize hAe : va_A [(h0, .inr (1, [.long 0, .long 0, .long 0, .int 0, .int 0, .int 0, .int 0, .int 0, .int 0, .int 0, .int 0, .int 0, .int 0, .int 0, .int 0, .int 0, .null, .null]))] s.heap.size = A at hD ⊢
  have hA : ∀ q : Nat, s.heap.size ≤ q → A q := fun q h => by rw [← hAe]; exact Or.inr h
  have hS : va_S A s.heap s.heap [] := va_S.rf
  have hl := lv_entry ([.ref h0]) (n := 1) (Nat.le_of_ble_eq_true rfl)
  rw [lg_entry_eq]
  generalize (lg_sl ([.ref h0]) ++ List.replicate (1 - (lg_sl ([.ref h0])).length) Slot.unset).toArray = ls at hl ⊢
  have hl : lv_has ls 1 [(0, .ref h0)] := hl
  refine lv_aload_n hx hb dX1_init_0 rfl (lv_at hl 0 rfl) ?_
  refine W.objInit hx hb hown (hts (.methodLink RX1 3 objectInit) (List.mem_of_getElem? (i := 1) rfl)) (hts (.instanceMethod objectInit) (List.mem_of_getElem? (i := 2) rfl)) (hts (.code objectInit ⟨#[0xb1]⟩ 1 none) (List.mem_of_getElem? (i := 3) rfl)) rfl (by rw [hml]; exact hl.1) rfl dX1_init_1 (Nat.le_of_ble_eq_true rfl) (Nat.le_of_ble_eq_true rfl) ?_
  refine W.eq (g2 := F0 m 4 ls []) rfl ?_
  refine lv_aload_n hx hb dX1_init_4 rfl (lv_at hl 0 rfl) ?_
  refine lv_lconst (v := (0 : Int64)) hx hb dX1_init_5 (by decide) ?_
  refine va_put (D := G.1) (ci := 1) (v := .long (0 : Int64)) (ty := .long) (C := RX1) (T := TX1) (N := 18) hx hb hts iX1_init_X1 tyX1 tyX1_ok nmX1 hown hK.1 hP hD hS 0 rfl rfl 0 (by decide) (hts (.fieldLink RX1 9 "BoardClock$State" "trueTime" "J") (List.mem_of_getElem? (i := 4) rfl)) (fun _ h9 => h9) rfl (by decide +kernel) rfl rfl (Nat.le_of_ble_eq_true rfl) dX1_init_6 (fun H locs hP hD hS => ?_)
  have hP : va_P G.1 vwCl ([(h0, .inr (1, [.long (0 : Int64), .long 0, .long 0, .int 0, .int 0, .int 0, .int 0, .int 0, .int 0, .int 0, .int 0, .int 0, .int 0, .int 0, .int 0, .int 0, .null, .null]))]) H := hP
  have hD : va_D A ([(h0, .inr (1, [.long (0 : Int64), .long 0, .long 0, .int 0, .int 0, .int 0, .int 0, .int 0, .int 0, .int 0, .int 0, .int 0, .int 0, .int 0, .int 0, .int 0, .null, .null]))]) := hD
  refine lv_aload_n hx hb dX1_init_9 rfl (lv_at hl 0 rfl) ?_
  refine lv_lconst (v := (0 : Int64)) hx hb dX1_init_10 (by decide) ?_
  refine va_put (D := G.1) (ci := 1) (v := .long (0 : Int64)) (ty := .long) (C := RX1) (T := TX1) (N := 18) hx hb hts iX1_init_X1 tyX1 tyX1_ok nmX1 hown hK.1 hP hD hS 0 rfl rfl 1 (by decide) (hts (.fieldLink RX1 15 "BoardClock$State" "boardTime" "J") (List.mem_of_getElem? (i := 5) rfl)) (fun _ h9 => h9) rfl (by decide +kernel) rfl rfl (Nat.le_of_ble_eq_true rfl) dX1_init_11 (fun H locs hP hD hS => ?_)
  have hP : va_P G.1 vwCl ([(h0, .inr (1, [.long (0 : Int64), .long (0 : Int64), .long 0, .int 0, .int 0, .int 0, .int 0, .int 0, .int 0, .int 0, .int 0, .int 0, .int 0, .int 0, .int 0, .int 0, .null, .null]))]) H := hP
  have hD : va_D A ([(h0, .inr (1, [.long (0 : Int64), .long (0 : Int64), .long 0, .int 0, .int 0, .int 0, .int 0, .int 0, .int 0, .int 0, .int 0, .int 0, .int 0, .int 0, .int 0, .int 0, .null, .null]))]) := hD
  refine lv_aload_n hx hb dX1_init_14 rfl (lv_at hl 0 rfl) ?_
  refine lv_lconst (v := (0 : Int64)) hx hb dX1_init_15 (by decide) ?_
  refine va_put (D := G.1) (ci := 1) (v := .long (0 : Int64)) (ty := .long) (C := RX1) (T := TX1) (N := 18) hx hb hts iX1_init_X1 tyX1 tyX1_ok nmX1 hown hK.1 hP hD hS 0 rfl rfl 2 (by decide) (hts (.fieldLink RX1 18 "BoardClock$State" "ahead" "J") (List.mem_of_getElem? (i := 6) rfl)) (fun _ h9 => h9) rfl (by decide +kernel) rfl rfl (Nat.le_of_ble_eq_true rfl) dX1_init_16 (fun H locs hP hD hS => ?_)
  have hP : va_P G.1 vwCl ([(h0, .inr (1, [.long (0 : Int64), .long (0 : Int64), .long (0 : Int64), .int 0, .int 0, .int 0, .int 0, .int 0, .int 0, .int 0, .int 0, .int 0, .int 0, .int 0, .int 0, .int 0, .null, .null]))]) H := hP
  have hD : va_D A ([(h0, .inr (1, [.long (0 : Int64), .long (0 : Int64), .long (0 : Int64), .int 0, .int 0, .int 0, .int 0, .int 0, .int 0, .int 0, .int 0, .int 0, .int 0, .int 0, .int 0, .int 0, .null, .null]))]) := hD
  refine lv_aload_n hx hb dX1_init_19 rfl (lv_at hl 0 rfl) ?_
  refine lv_bipush (v := (25 : Int32)) hx hb dX1_init_20 (by decide) ?_
  refine va_put (D := G.1) (ci := 1) (v := .int (25 : Int32)) (ty := .int) (C := RX1) (T := TX1) (N := 18) hx hb hts iX1_init_X1 tyX1 tyX1_ok nmX1 hown hK.1 hP hD hS 0 rfl rfl 3 (by decide) (hts (.fieldLink RX1 21 "BoardClock$State" "warmth" "I") (List.mem_of_getElem? (i := 7) rfl)) (fun _ h9 => h9) rfl (by decide +kernel) rfl rfl (Nat.le_of_ble_eq_true rfl) dX1_init_22 (fun H locs hP hD hS => ?_)
  have hP : va_P G.1 vwCl ([(h0, .inr (1, [.long (0 : Int64), .long (0 : Int64), .long (0 : Int64), .int (25 : Int32), .int 0, .int 0, .int 0, .int 0, .int 0, .int 0, .int 0, .int 0, .int 0, .int 0, .int 0, .int 0, .null, .null]))]) H := hP
  have hD : va_D A ([(h0, .inr (1, [.long (0 : Int64), .long (0 : Int64), .long (0 : Int64), .int (25 : Int32), .int 0, .int 0, .int 0, .int 0, .int 0, .int 0, .int 0, .int 0, .int 0, .int 0, .int 0, .int 0, .null, .null]))]) := hD
  refine lv_aload_n hx hb dX1_init_25 rfl (lv_at hl 0 rfl) ?_
  refine lv_bipush (v := (25 : Int32)) hx hb dX1_init_26 (by decide) ?_
  refine va_put (D := G.1) (ci := 1) (v := .int (25 : Int32)) (ty := .int) (C := RX1) (T := TX1) (N := 18) hx hb hts iX1_init_X1 tyX1 tyX1_ok nmX1 hown hK.1 hP hD hS 0 rfl rfl 4 (by decide) (hts (.fieldLink RX1 25 "BoardClock$State" "top" "I") (List.mem_of_getElem? (i := 8) rfl)) (fun _ h9 => h9) rfl (by decide +kernel) rfl rfl (Nat.le_of_ble_eq_true rfl) dX1_init_28 (fun H locs hP hD hS => ?_)
  have hP : va_P G.1 vwCl ([(h0, .inr (1, [.long (0 : Int64), .long (0 : Int64), .long (0 : Int64), .int (25 : Int32), .int (25 : Int32), .int 0, .int 0, .int 0, .int 0, .int 0, .int 0, .int 0, .int 0, .int 0, .int 0, .int 0, .null, .null]))]) H := hP
  have hD : va_D A ([(h0, .inr (1, [.long (0 : Int64), .long (0 : Int64), .long (0 : Int64), .int (25 : Int32), .int (25 : Int32), .int 0, .int 0, .int 0, .int 0, .int 0, .int 0, .int 0, .int 0, .int 0, .int 0, .int 0, .null, .null]))]) := hD
  refine lv_aload_n hx hb dX1_init_31 rfl (lv_at hl 0 rfl) ?_
  refine lv_iconst (v := (3 : Int32)) hx hb dX1_init_32 (by decide) ?_
  refine va_put (D := G.1) (ci := 1) (v := .int (3 : Int32)) (ty := .int) (C := RX1) (T := TX1) (N := 18) hx hb hts iX1_init_X1 tyX1 tyX1_ok nmX1 hown hK.1 hP hD hS 0 rfl rfl 5 (by decide) (hts (.fieldLink RX1 28 "BoardClock$State" "curve" "I") (List.mem_of_getElem? (i := 9) rfl)) (fun _ h9 => h9) rfl (by decide +kernel) rfl rfl (Nat.le_of_ble_eq_true rfl) dX1_init_33 (fun H locs hP hD hS => ?_)
  have hP : va_P G.1 vwCl ([(h0, .inr (1, [.long (0 : Int64), .long (0 : Int64), .long (0 : Int64), .int (25 : Int32), .int (25 : Int32), .int (3 : Int32), .int 0, .int 0, .int 0, .int 0, .int 0, .int 0, .int 0, .int 0, .int 0, .int 0, .null, .null]))]) H := hP
  have hD : va_D A ([(h0, .inr (1, [.long (0 : Int64), .long (0 : Int64), .long (0 : Int64), .int (25 : Int32), .int (25 : Int32), .int (3 : Int32), .int 0, .int 0, .int 0, .int 0, .int 0, .int 0, .int 0, .int 0, .int 0, .int 0, .null, .null]))]) := hD
  refine lv_aload_n hx hb dX1_init_36 rfl (lv_at hl 0 rfl) ?_
  refine lv_iconst (v := (0 : Int32)) hx hb dX1_init_37 (by decide) ?_
  refine va_put (D := G.1) (ci := 1) (v := .int (0 : Int32)) (ty := .int) (C := RX1) (T := TX1) (N := 18) hx hb hts iX1_init_X1 tyX1 tyX1_ok nmX1 hown hK.1 hP hD hS 0 rfl rfl 6 (by decide) (hts (.fieldLink RX1 31 "BoardClock$State" "base" "I") (List.mem_of_getElem? (i := 10) rfl)) (fun _ h9 => h9) rfl (by decide +kernel) rfl rfl (Nat.le_of_ble_eq_true rfl) dX1_init_38 (fun H locs hP hD hS => ?_)
  have hP : va_P G.1 vwCl ([(h0, .inr (1, [.long (0 : Int64), .long (0 : Int64), .long (0 : Int64), .int (25 : Int32), .int (25 : Int32), .int (3 : Int32), .int (0 : Int32), .int 0, .int 0, .int 0, .int 0, .int 0, .int 0, .int 0, .int 0, .int 0, .null, .null]))]) H := hP
  have hD : va_D A ([(h0, .inr (1, [.long (0 : Int64), .long (0 : Int64), .long (0 : Int64), .int (25 : Int32), .int (25 : Int32), .int (3 : Int32), .int (0 : Int32), .int 0, .int 0, .int 0, .int 0, .int 0, .int 0, .int 0, .int 0, .int 0, .null, .null]))]) := hD
  refine lv_aload_n hx hb dX1_init_41 rfl (lv_at hl 0 rfl) ?_
  refine lv_iconst (v := (0 : Int32)) hx hb dX1_init_42 (by decide) ?_
  refine va_put (D := G.1) (ci := 1) (v := .int (0 : Int32)) (ty := .int) (C := RX1) (T := TX1) (N := 18) hx hb hts iX1_init_X1 tyX1 tyX1_ok nmX1 hown hK.1 hP hD hS 0 rfl rfl 7 (by decide) (hts (.fieldLink RX1 34 "BoardClock$State" "rest" "I") (List.mem_of_getElem? (i := 11) rfl)) (fun _ h9 => h9) rfl (by decide +kernel) rfl rfl (Nat.le_of_ble_eq_true rfl) dX1_init_43 (fun H locs hP hD hS => ?_)
  have hP : va_P G.1 vwCl ([(h0, .inr (1, [.long (0 : Int64), .long (0 : Int64), .long (0 : Int64), .int (25 : Int32), .int (25 : Int32), .int (3 : Int32), .int (0 : Int32), .int (0 : Int32), .int 0, .int 0, .int 0, .int 0, .int 0, .int 0, .int 0, .int 0, .null, .null]))]) H := hP
  have hD : va_D A ([(h0, .inr (1, [.long (0 : Int64), .long (0 : Int64), .long (0 : Int64), .int (25 : Int32), .int (25 : Int32), .int (3 : Int32), .int (0 : Int32), .int (0 : Int32), .int 0, .int 0, .int 0, .int 0, .int 0, .int 0, .int 0, .int 0, .null, .null]))]) := hD
  refine lv_aload_n hx hb dX1_init_46 rfl (lv_at hl 0 rfl) ?_
  refine lv_bipush (v := (20 : Int32)) hx hb dX1_init_47 (by decide) ?_
  refine va_put (D := G.1) (ci := 1) (v := .int (20 : Int32)) (ty := .int) (C := RX1) (T := TX1) (N := 18) hx hb hts iX1_init_X1 tyX1 tyX1_ok nmX1 hown hK.1 hP hD hS 0 rfl rfl 8 (by decide) (hts (.fieldLink RX1 37 "BoardClock$State" "step" "I") (List.mem_of_getElem? (i := 12) rfl)) (fun _ h9 => h9) rfl (by decide +kernel) rfl rfl (Nat.le_of_ble_eq_true rfl) dX1_init_49 (fun H locs hP hD hS => ?_)
  have hP : va_P G.1 vwCl ([(h0, .inr (1, [.long (0 : Int64), .long (0 : Int64), .long (0 : Int64), .int (25 : Int32), .int (25 : Int32), .int (3 : Int32), .int (0 : Int32), .int (0 : Int32), .int (20 : Int32), .int 0, .int 0, .int 0, .int 0, .int 0, .int 0, .int 0, .null, .null]))]) H := hP
  have hD : va_D A ([(h0, .inr (1, [.long (0 : Int64), .long (0 : Int64), .long (0 : Int64), .int (25 : Int32), .int (25 : Int32), .int (3 : Int32), .int (0 : Int32), .int (0 : Int32), .int (20 : Int32), .int 0, .int 0, .int 0, .int 0, .int 0, .int 0, .int 0, .null, .null]))]) := hD
  refine lv_aload_n hx hb dX1_init_52 rfl (lv_at hl 0 rfl) ?_
  refine lv_iconst (v := (0 : Int32)) hx hb dX1_init_53 (by decide) ?_
  refine va_put (D := G.1) (ci := 1) (v := .int (0 : Int32)) (ty := .int) (C := RX1) (T := TX1) (N := 18) hx hb hts iX1_init_X1 tyX1 tyX1_ok nmX1 hown hK.1 hP hD hS 0 rfl rfl 9 (by decide) (hts (.fieldLink RX1 40 "BoardClock$State" "width" "I") (List.mem_of_getElem? (i := 13) rfl)) (fun _ h9 => h9) rfl (by decide +kernel) rfl rfl (Nat.le_of_ble_eq_true rfl) dX1_init_54 (fun H locs hP hD hS => ?_)
  have hP : va_P G.1 vwCl ([(h0, .inr (1, [.long (0 : Int64), .long (0 : Int64), .long (0 : Int64), .int (25 : Int32), .int (25 : Int32), .int (3 : Int32), .int (0 : Int32), .int (0 : Int32), .int (20 : Int32), .int (0 : Int32), .int 0, .int 0, .int 0, .int 0, .int 0, .int 0, .null, .null]))]) H := hP
  have hD : va_D A ([(h0, .inr (1, [.long (0 : Int64), .long (0 : Int64), .long (0 : Int64), .int (25 : Int32), .int (25 : Int32), .int (3 : Int32), .int (0 : Int32), .int (0 : Int32), .int (20 : Int32), .int (0 : Int32), .int 0, .int 0, .int 0, .int 0, .int 0, .int 0, .null, .null]))]) := hD
  refine lv_aload_n hx hb dX1_init_57 rfl (lv_at hl 0 rfl) ?_
  refine lv_sipush (v := (160 : Int32)) hx hb dX1_init_58 (by decide) ?_
  refine va_put (D := G.1) (ci := 1) (v := .int (160 : Int32)) (ty := .int) (C := RX1) (T := TX1) (N := 18) hx hb hts iX1_init_X1 tyX1 tyX1_ok nmX1 hown hK.1 hP hD hS 0 rfl rfl 10 (by decide) (hts (.fieldLink RX1 43 "BoardClock$State" "wider" "I") (List.mem_of_getElem? (i := 14) rfl)) (fun _ h9 => h9) rfl (by decide +kernel) rfl rfl (Nat.le_of_ble_eq_true rfl) dX1_init_61 (fun H locs hP hD hS => ?_)
  have hP : va_P G.1 vwCl ([(h0, .inr (1, [.long (0 : Int64), .long (0 : Int64), .long (0 : Int64), .int (25 : Int32), .int (25 : Int32), .int (3 : Int32), .int (0 : Int32), .int (0 : Int32), .int (20 : Int32), .int (0 : Int32), .int (160 : Int32), .int 0, .int 0, .int 0, .int 0, .int 0, .null, .null]))]) H := hP
  have hD : va_D A ([(h0, .inr (1, [.long (0 : Int64), .long (0 : Int64), .long (0 : Int64), .int (25 : Int32), .int (25 : Int32), .int (3 : Int32), .int (0 : Int32), .int (0 : Int32), .int (20 : Int32), .int (0 : Int32), .int (160 : Int32), .int 0, .int 0, .int 0, .int 0, .int 0, .null, .null]))]) := hD
  refine lv_aload_n hx hb dX1_init_64 rfl (lv_at hl 0 rfl) ?_
  refine lv_iconst (v := (1 : Int32)) hx hb dX1_init_65 (by decide) ?_
  refine va_put (D := G.1) (ci := 1) (v := .int (1 : Int32)) (ty := .boolean) (C := RX1) (T := TX1) (N := 18) hx hb hts iX1_init_X1 tyX1 tyX1_ok nmX1 hown hK.1 hP hD hS 0 rfl rfl 11 (by decide) (hts (.fieldLink RX1 46 "BoardClock$State" "powered" "Z") (List.mem_of_getElem? (i := 15) rfl)) (fun _ h9 => h9) rfl (by decide +kernel) (by decide) (by decide) (Nat.le_of_ble_eq_true rfl) dX1_init_66 (fun H locs hP hD hS => ?_)
  have hP : va_P G.1 vwCl ([(h0, .inr (1, [.long (0 : Int64), .long (0 : Int64), .long (0 : Int64), .int (25 : Int32), .int (25 : Int32), .int (3 : Int32), .int (0 : Int32), .int (0 : Int32), .int (20 : Int32), .int (0 : Int32), .int (160 : Int32), .int (1 : Int32), .int 0, .int 0, .int 0, .int 0, .null, .null]))]) H := hP
  have hD : va_D A ([(h0, .inr (1, [.long (0 : Int64), .long (0 : Int64), .long (0 : Int64), .int (25 : Int32), .int (25 : Int32), .int (3 : Int32), .int (0 : Int32), .int (0 : Int32), .int (20 : Int32), .int (0 : Int32), .int (160 : Int32), .int (1 : Int32), .int 0, .int 0, .int 0, .int 0, .null, .null]))]) := hD
  refine lv_aload_n hx hb dX1_init_69 rfl (lv_at hl 0 rfl) ?_
  refine lv_iconst (v := (0 : Int32)) hx hb dX1_init_70 (by decide) ?_
  refine va_put (D := G.1) (ci := 1) (v := .int (0 : Int32)) (ty := .int) (C := RX1) (T := TX1) (N := 18) hx hb hts iX1_init_X1 tyX1 tyX1_ok nmX1 hown hK.1 hP hD hS 0 rfl rfl 12 (by decide) (hts (.fieldLink RX1 50 "BoardClock$State" "broken" "I") (List.mem_of_getElem? (i := 16) rfl)) (fun _ h9 => h9) rfl (by decide +kernel) rfl rfl (Nat.le_of_ble_eq_true rfl) dX1_init_71 (fun H locs hP hD hS => ?_)
  have hP : va_P G.1 vwCl ([(h0, .inr (1, [.long (0 : Int64), .long (0 : Int64), .long (0 : Int64), .int (25 : Int32), .int (25 : Int32), .int (3 : Int32), .int (0 : Int32), .int (0 : Int32), .int (20 : Int32), .int (0 : Int32), .int (160 : Int32), .int (1 : Int32), .int (0 : Int32), .int 0, .int 0, .int 0, .null, .null]))]) H := hP
  have hD : va_D A ([(h0, .inr (1, [.long (0 : Int64), .long (0 : Int64), .long (0 : Int64), .int (25 : Int32), .int (25 : Int32), .int (3 : Int32), .int (0 : Int32), .int (0 : Int32), .int (20 : Int32), .int (0 : Int32), .int (160 : Int32), .int (1 : Int32), .int (0 : Int32), .int 0, .int 0, .int 0, .null, .null]))]) := hD
  refine lv_aload_n hx hb dX1_init_74 rfl (lv_at hl 0 rfl) ?_
  refine lv_iconst (v := (0 : Int32)) hx hb dX1_init_75 (by decide) ?_
  refine va_put (D := G.1) (ci := 1) (v := .int (0 : Int32)) (ty := .int) (C := RX1) (T := TX1) (N := 18) hx hb hts iX1_init_X1 tyX1 tyX1_ok nmX1 hown hK.1 hP hD hS 0 rfl rfl 13 (by decide) (hts (.fieldLink RX1 53 "BoardClock$State" "ticks" "I") (List.mem_of_getElem? (i := 17) rfl)) (fun _ h9 => h9) rfl (by decide +kernel) rfl rfl (Nat.le_of_ble_eq_true rfl) dX1_init_76 (fun H locs hP hD hS => ?_)
  have hP : va_P G.1 vwCl ([(h0, .inr (1, [.long (0 : Int64), .long (0 : Int64), .long (0 : Int64), .int (25 : Int32), .int (25 : Int32), .int (3 : Int32), .int (0 : Int32), .int (0 : Int32), .int (20 : Int32), .int (0 : Int32), .int (160 : Int32), .int (1 : Int32), .int (0 : Int32), .int (0 : Int32), .int 0, .int 0, .null, .null]))]) H := hP
  have hD : va_D A ([(h0, .inr (1, [.long (0 : Int64), .long (0 : Int64), .long (0 : Int64), .int (25 : Int32), .int (25 : Int32), .int (3 : Int32), .int (0 : Int32), .int (0 : Int32), .int (20 : Int32), .int (0 : Int32), .int (160 : Int32), .int (1 : Int32), .int (0 : Int32), .int (0 : Int32), .int 0, .int 0, .null, .null]))]) := hD
  refine lv_aload_n hx hb dX1_init_79 rfl (lv_at hl 0 rfl) ?_
  refine lv_iconst (v := (0 : Int32)) hx hb dX1_init_80 (by decide) ?_
  refine va_put (D := G.1) (ci := 1) (v := .int (0 : Int32)) (ty := .int) (C := RX1) (T := TX1) (N := 18) hx hb hts iX1_init_X1 tyX1 tyX1_ok nmX1 hown hK.1 hP hD hS 0 rfl rfl 14 (by decide) (hts (.fieldLink RX1 56 "BoardClock$State" "tickSpan" "I") (List.mem_of_getElem? (i := 18) rfl)) (fun _ h9 => h9) rfl (by decide +kernel) rfl rfl (Nat.le_of_ble_eq_true rfl) dX1_init_81 (fun H locs hP hD hS => ?_)
  have hP : va_P G.1 vwCl ([(h0, .inr (1, [.long (0 : Int64), .long (0 : Int64), .long (0 : Int64), .int (25 : Int32), .int (25 : Int32), .int (3 : Int32), .int (0 : Int32), .int (0 : Int32), .int (20 : Int32), .int (0 : Int32), .int (160 : Int32), .int (1 : Int32), .int (0 : Int32), .int (0 : Int32), .int (0 : Int32), .int 0, .null, .null]))]) H := hP
  have hD : va_D A ([(h0, .inr (1, [.long (0 : Int64), .long (0 : Int64), .long (0 : Int64), .int (25 : Int32), .int (25 : Int32), .int (3 : Int32), .int (0 : Int32), .int (0 : Int32), .int (20 : Int32), .int (0 : Int32), .int (160 : Int32), .int (1 : Int32), .int (0 : Int32), .int (0 : Int32), .int (0 : Int32), .int 0, .null, .null]))]) := hD
  refine lv_aload_n hx hb dX1_init_84 rfl (lv_at hl 0 rfl) ?_
  refine lv_iconst (v := (0 : Int32)) hx hb dX1_init_85 (by decide) ?_
  refine va_put (D := G.1) (ci := 1) (v := .int (0 : Int32)) (ty := .boolean) (C := RX1) (T := TX1) (N := 18) hx hb hts iX1_init_X1 tyX1 tyX1_ok nmX1 hown hK.1 hP hD hS 0 rfl rfl 15 (by decide) (hts (.fieldLink RX1 59 "BoardClock$State" "steady" "Z") (List.mem_of_getElem? (i := 19) rfl)) (fun _ h9 => h9) rfl (by decide +kernel) (by decide) (by decide) (Nat.le_of_ble_eq_true rfl) dX1_init_86 (fun H locs hP hD hS => ?_)
  have hP : va_P G.1 vwCl ([(h0, .inr (1, [.long (0 : Int64), .long (0 : Int64), .long (0 : Int64), .int (25 : Int32), .int (25 : Int32), .int (3 : Int32), .int (0 : Int32), .int (0 : Int32), .int (20 : Int32), .int (0 : Int32), .int (160 : Int32), .int (1 : Int32), .int (0 : Int32), .int (0 : Int32), .int (0 : Int32), .int (0 : Int32), .null, .null]))]) H := hP
  have hD : va_D A ([(h0, .inr (1, [.long (0 : Int64), .long (0 : Int64), .long (0 : Int64), .int (25 : Int32), .int (25 : Int32), .int (3 : Int32), .int (0 : Int32), .int (0 : Int32), .int (20 : Int32), .int (0 : Int32), .int (160 : Int32), .int (1 : Int32), .int (0 : Int32), .int (0 : Int32), .int (0 : Int32), .int (0 : Int32), .null, .null]))]) := hD
  refine lv_aload_n hx hb dX1_init_89 rfl (lv_at hl 0 rfl) ?_
  refine lv_bipush (v := (9 : Int32)) hx hb dX1_init_90 (by decide) ?_
  refine va_newa (atype := .int) (ty := .int) (N' := 9) (a0 := (9, .inl (fun _ => 0))) hx hb (hts (.arrayClass .int) (List.mem_of_getElem? (i := 20) rfl)) rfl hK.1 hP hD hS hA (fun _ => rfl) (by decide) (by decide) (Nat.le_of_ble_eq_true rfl) (Nat.le_of_ble_eq_true rfl) (Nat.le_of_ble_eq_true rfl) dX1_init_92 (fun q92 cA H hK2 hP hD hS => ?_)
  obtain rfl := zc_sameT hK.1 (i := 0) rfl hK2 (j := 4) rfl
  have hP : va_P G.1 vwCl ([(h0, .inr (1, [.long (0 : Int64), .long (0 : Int64), .long (0 : Int64), .int (25 : Int32), .int (25 : Int32), .int (3 : Int32), .int (0 : Int32), .int (0 : Int32), .int (20 : Int32), .int (0 : Int32), .int (160 : Int32), .int (1 : Int32), .int (0 : Int32), .int (0 : Int32), .int (0 : Int32), .int (0 : Int32), .null, .null])), (q92, .inl (G.2 0, 9, .inl (fun _ => 0)))]) H := hP
  have hD : va_D A ([(h0, .inr (1, [.long (0 : Int64), .long (0 : Int64), .long (0 : Int64), .int (25 : Int32), .int (25 : Int32), .int (3 : Int32), .int (0 : Int32), .int (0 : Int32), .int (20 : Int32), .int (0 : Int32), .int (160 : Int32), .int (1 : Int32), .int (0 : Int32), .int (0 : Int32), .int (0 : Int32), .int (0 : Int32), .null, .null])), (q92, .inl (G.2 0, 9, .inl (fun _ => 0)))]) := hD
  refine va_putF (D := G.1) (ci := 1) (v := .ref q92) (ty := .array .int) (C := RX1) (T := TX1) (N := 18) hx hb hts iX1_init_X1 tyX1 tyX1_ok nmX1 hown hK.1 hP hD hS 0 rfl rfl 16 (by decide) (hts (.fieldLink RX1 62 "BoardClock$State" "learned" "[I") (List.mem_of_getElem? (i := 21) rfl)) (fun _ h9 => h9) rfl hin rfl (by decide +kernel) rfl rfl (Nat.le_of_ble_eq_true rfl) dX1_init_94 (fun H locs hP hD hS => ?_)
  have hP : va_P G.1 vwCl ([(h0, .inr (1, [.long (0 : Int64), .long (0 : Int64), .long (0 : Int64), .int (25 : Int32), .int (25 : Int32), .int (3 : Int32), .int (0 : Int32), .int (0 : Int32), .int (20 : Int32), .int (0 : Int32), .int (160 : Int32), .int (1 : Int32), .int (0 : Int32), .int (0 : Int32), .int (0 : Int32), .int (0 : Int32), .ref q92, .null])), (q92, .inl (G.2 0, 9, .inl (fun _ => 0)))]) H := hP
  have hD : va_D A ([(h0, .inr (1, [.long (0 : Int64), .long (0 : Int64), .long (0 : Int64), .int (25 : Int32), .int (25 : Int32), .int (3 : Int32), .int (0 : Int32), .int (0 : Int32), .int (20 : Int32), .int (0 : Int32), .int (160 : Int32), .int (1 : Int32), .int (0 : Int32), .int (0 : Int32), .int (0 : Int32), .int (0 : Int32), .ref q92, .null])), (q92, .inl (G.2 0, 9, .inl (fun _ => 0)))]) := hD
  refine lv_aload_n hx hb dX1_init_97 rfl (lv_at hl 0 rfl) ?_
  refine va_new (ci := 0) (fs := [.int 0, .null, .null, .null, .null]) (C := RX0) (T := TX0) (N := 5) hx hb hts iX1_init_X0 tyX0 tyX0_ok hown (hts (.classLink RX1 66 RX0) (List.mem_of_getElem? (i := 22) rfl)) (hts (.instantiable RX0 5) (List.mem_of_getElem? (i := 23) rfl)) (hts (.initialized RX0) (List.mem_of_getElem? (i := 24) rfl)) hK.1 hP hD hS hA rfl (fun j hj => by rcases (show j = 0 ∨ j = 1 ∨ j = 2 ∨ j = 3 ∨ j = 4 by omega) with rfl | rfl | rfl | rfl | rfl <;> rfl) (Nat.le_of_ble_eq_true rfl) (Nat.le_of_ble_eq_true rfl) dX1_init_98 (fun q98 H hP hD hS => ?_)
  have hP : va_P G.1 vwCl ([(h0, .inr (1, [.long (0 : Int64), .long (0 : Int64), .long (0 : Int64), .int (25 : Int32), .int (25 : Int32), .int (3 : Int32), .int (0 : Int32), .int (0 : Int32), .int (20 : Int32), .int (0 : Int32), .int (160 : Int32), .int (1 : Int32), .int (0 : Int32), .int (0 : Int32), .int (0 : Int32), .int (0 : Int32), .ref q92, .null])), (q92, .inl (G.2 0, 9, .inl (fun _ => 0))), (q98, .inr (0, [.int 0, .null, .null, .null, .null]))]) H := hP
  have hD : va_D A ([(h0, .inr (1, [.long (0 : Int64), .long (0 : Int64), .long (0 : Int64), .int (25 : Int32), .int (25 : Int32), .int (3 : Int32), .int (0 : Int32), .int (0 : Int32), .int (20 : Int32), .int (0 : Int32), .int (160 : Int32), .int (1 : Int32), .int (0 : Int32), .int (0 : Int32), .int (0 : Int32), .int (0 : Int32), .ref q92, .null])), (q92, .inl (G.2 0, 9, .inl (fun _ => 0))), (q98, .inr (0, [.int 0, .null, .null, .null, .null]))]) := hD
  refine lv_dup hx hb dX1_init_101 rfl ?_
  have hPc := hP.sub (ws' := [(q98, .inr (0, [.int 0, .null, .null, .null, .null]))]) [2] rfl
  have hDc := hD.sub (ws' := [(q98, .inr (0, [.int 0, .null, .null, .null, .null]))]) [2] (by decide) rfl
  have hFc := va_free (wc := [(q98, .inr (0, [.int 0, .null, .null, .null, .null]))]) hD hS hA [2] rfl
  refine va_callv (va_runIN (As := []) (rest := [.ref q98, .ref h0]) ⟨hx, hb, hml, hown, hts⟩ (kX0_init l G q98 H.size) ⟨va_cnB 0 hts gX1_init_X0_init_n68 rfl rfl rfl hK.2.2.1 (hts (.initialized RX0) (List.mem_of_getElem? (i := 24) rfl)) (by decide +kernel) ⟨Nat.le_of_ble_eq_true rfl, Nat.le_of_ble_eq_true rfl⟩, rfl, (hts (.instanceMethod yX0_init) (List.mem_of_getElem? (i := 26) rfl))⟩ (zc_preSm hK hPc hDc) rfl rfl hl.1 rfl (lv_room (Nat.le_of_ble_eq_true rfl)) dX1_init_102 ⟨Nat.le_of_ble_eq_true rfl, Nat.le_of_ble_eq_true rfl⟩) hS (fun q _ h => hFc q h) hFc (fun ad t H1 locs ht hvm hw hB hz1 hk1 hS => ?_)
  obtain ⟨hP1, hD1⟩ := hB
  rw [ht] at hP1
  have hw : ad 2 = q98 := hw
  obtain ⟨hP, hD⟩ := va_join (wr := [(h0, .inr (1, [.long (0 : Int64), .long (0 : Int64), .long (0 : Int64), .int (25 : Int32), .int (25 : Int32), .int (3 : Int32), .int (0 : Int32), .int (0 : Int32), .int (20 : Int32), .int (0 : Int32), .int (160 : Int32), .int (1 : Int32), .int (0 : Int32), .int (0 : Int32), .int (0 : Int32), .int (0 : Int32), .ref q92, .null])), (q92, .inl (G.2 0, 9, .inl (fun _ => 0)))]) (w1 := zc_al G ad zc_q0) hP hD [2] [0, 1] rfl rfl (by decide) (by decide) hk1 hFc hP1 hD1
  generalize H1 = H at hP hS ⊢
  rw [← hw]
  have hP : va_P G.1 vwCl ([(h0, .inr (1, [.long (0 : Int64), .long (0 : Int64), .long (0 : Int64), .int (25 : Int32), .int (25 : Int32), .int (3 : Int32), .int (0 : Int32), .int (0 : Int32), .int (20 : Int32), .int (0 : Int32), .int (160 : Int32), .int (1 : Int32), .int (0 : Int32), .int (0 : Int32), .int (0 : Int32), .int (0 : Int32), .ref q92, .null])), (q92, .inl (G.2 0, 9, .inl (fun _ => 0)))] ++ zc_al G ad zc_q0) H := hP
  have hD : va_D A ([(h0, .inr (1, [.long (0 : Int64), .long (0 : Int64), .long (0 : Int64), .int (25 : Int32), .int (25 : Int32), .int (3 : Int32), .int (0 : Int32), .int (0 : Int32), .int (20 : Int32), .int (0 : Int32), .int (160 : Int32), .int (1 : Int32), .int (0 : Int32), .int (0 : Int32), .int (0 : Int32), .int (0 : Int32), .ref q92, .null])), (q92, .inl (G.2 0, 9, .inl (fun _ => 0)))] ++ zc_al G ad zc_q0) := hD
  refine va_putF (D := G.1) (ci := 1) (v := .ref (ad 2)) (ty := .object "BoardClock$Alarms") (C := RX1) (T := TX1) (N := 18) hx hb hts iX1_init_X1 tyX1 tyX1_ok nmX1 hown hK.1 hP hD hS 0 rfl rfl 17 (by decide) (hts (.fieldLink RX1 69 "BoardClock$State" "alarms" "LBoardClock$Alarms;") (List.mem_of_getElem? (i := 25) rfl)) (fun _ h9 => h9) rfl hin rfl (by decide +kernel) rfl rfl (Nat.le_of_ble_eq_true rfl) dX1_init_105 (fun H locs hP hD hS => ?_)
  have hP : va_P G.1 vwCl ([(h0, .inr (1, [.long (0 : Int64), .long (0 : Int64), .long (0 : Int64), .int (25 : Int32), .int (25 : Int32), .int (3 : Int32), .int (0 : Int32), .int (0 : Int32), .int (20 : Int32), .int (0 : Int32), .int (160 : Int32), .int (1 : Int32), .int (0 : Int32), .int (0 : Int32), .int (0 : Int32), .int (0 : Int32), .ref q92, .ref (ad 2)])), (q92, .inl (G.2 0, 9, .inl (fun _ => 0)))] ++ zc_al G ad zc_q0) H := hP
  have hD : va_D A ([(h0, .inr (1, [.long (0 : Int64), .long (0 : Int64), .long (0 : Int64), .int (25 : Int32), .int (25 : Int32), .int (3 : Int32), .int (0 : Int32), .int (0 : Int32), .int (20 : Int32), .int (0 : Int32), .int (160 : Int32), .int (1 : Int32), .int (0 : Int32), .int (0 : Int32), .int (0 : Int32), .int (0 : Int32), .ref q92, .ref (ad 2)])), (q92, .inl (G.2 0, 9, .inl (fun _ => 0)))] ++ zc_al G ad zc_q0) := hD
  refine W.widen (k := 6) (n := 38) (by decide) (by decide) ?_
  exact W.vret hx hb hr (fun t ht hW => ⟨⟨zc_ads [h0, q92, ad 2, ad 3, ad 4, ad 5, ad 6], rfl, rfl, zc_hp ht hP, hD⟩, hS.F ht⟩) hS.2.2 dX1_init_108
theorem iX3_init_X3 : ∀ w ∈ wsX30, w ∈ wsX3_init := fun _ h => List.mem_cons_of_mem _ (List.mem_append_right _ h)
set_option maxHeartbeats 4000000 in
set_option maxRecDepth 100000 in
theorem kX3_init (l : Launch) (G : zc_G) (h0 sz : Nat) : Met l yX3_init wsX3_init ({ frames := 1, cells := 5, slots := 1151, locals := 20 }) (zc_Pm G [.ref h0] [(h0, .inr (3, [.null, .null, .int 0, .null, .null, .null, .int 0, .long 0]))] sz) (va_Qv (fun ad : Nat → Nat => ad 0 = h0) (fun ad t => va_P G.1 vwCl (zc_mo G ad zc_m0) t.heap ∧ va_D (va_A [(h0, .inr (3, [.null, .null, .int 0, .null, .null, .null, .int 0, .long 0]))] sz) (zc_mo G ad zc_m0)) (va_A [(h0, .inr (3, [.null, .null, .int 0, .null, .null, .null, .int 0, .long 0]))] sz)) 5 1151 (va_A [(h0, .inr (3, [.null, .null, .int 0, .null, .null, .null, .int 0, .long 0]))] sz) := by
  refine Met.ofW (cc := cX3_init) (maxL := 1) (ret := none) (by decide) rfl ?_
  intro p e s m args below meth c s₁ B hml hv
  obtain ⟨rfl, hsz, hP, hK, hD0⟩ := hv
  have hx := B.exec
  have hb := B.bytes
  have hr := B.returns
  have hts := atoms_spec (ws := wsX3_init) B.pre
  have hown : s.vm.findClass RX3 = some m.cls := findClass_of_methodNamed B.named
  have hlocks := B.notSynchronized
  have hin : meth.name = "<init>" := (name_of_methodNamed B.named B.method).1
  subst hsz
  have hD := hD0.self (sz := s.heap.size)
  generalize hAe : va_A [(h0, .inr (3, [.null, .null, .int 0, .null, .null, .null, .int 0, .long 0]))] s.heap.size = A at hD ⊢
  have hA : ∀ q : Nat, s.heap.size ≤ q → A q := fun q h => by rw [← hAe]; exact Or.inr h
  have hS : va_S A s.heap s.heap [] := va_S.rf
  have hl := lv_entry ([.ref h0]) (n := 1) (Nat.le_of_ble_eq_true rfl)
  rw [lg_entry_eq]
  generalize (lg_sl ([.ref h0]) ++ List.replicate (1 - (lg_sl ([.ref h0])).length) Slot.unset).toArray = ls at hl ⊢
  have hl : lv_has ls 1 [(0, .ref h0)] := hl
  refine lv_aload_n hx hb dX3_init_0 rfl (lv_at hl 0 rfl) ?_
  refine W.objInit hx hb hown (hts (.methodLink RX3 1 objectInit) (List.mem_of_getElem? (i := 1) rfl)) (hts (.instanceMethod objectInit) (List.mem_of_getElem? (i := 2) rfl)) (hts (.code objectInit ⟨#[0xb1]⟩ 1 none) (List.mem_of_getElem? (i := 3) rfl)) rfl (by rw [hml]; exact hl.1) rfl dX3_init_1 (Nat.le_of_ble_eq_true rfl) (Nat.le_of_ble_eq_true rfl) ?_
  refine W.eq (g2 := F0 m 4 ls []) rfl ?_
  refine lv_aload_n hx hb dX3_init_4 rfl (lv_at hl 0 rfl) ?_
  refine lv_bipush (v := (49 : Int32)) hx hb dX3_init_5 (by decide) ?_
  refine va_newa (atype := .long) (ty := .long) (N' := 49) (a0 := (49, .inr (.inl (fun _ => 0)))) hx hb (hts (.arrayClass .long) (List.mem_of_getElem? (i := 4) rfl)) rfl hK.1 hP hD hS hA (fun _ => rfl) (by decide) (by decide) (Nat.le_of_ble_eq_true rfl) (Nat.le_of_ble_eq_true rfl) (Nat.le_of_ble_eq_true rfl) dX3_init_7 (fun q7 cA H hK2 hP hD hS => ?_)
  obtain rfl := zc_sameT hK.1 (i := 1) rfl hK2 (j := 4) rfl
  have hP : va_P G.1 vwCl ([(h0, .inr (3, [.null, .null, .int 0, .null, .null, .null, .int 0, .long 0])), (q7, .inl (G.2 1, 49, .inr (.inl (fun _ => 0))))]) H := hP
  have hD : va_D A ([(h0, .inr (3, [.null, .null, .int 0, .null, .null, .null, .int 0, .long 0])), (q7, .inl (G.2 1, 49, .inr (.inl (fun _ => 0))))]) := hD
  refine va_putF (D := G.1) (ci := 3) (v := .ref q7) (ty := .array .long) (C := RX3) (T := TX3) (N := 8) hx hb hts iX3_init_X3 tyX3 tyX3_ok nmX3 hown hK.1 hP hD hS 0 rfl rfl 0 (by decide) (hts (.fieldLink RX3 7 "BoardClockModel" "st" "[J") (List.mem_of_getElem? (i := 5) rfl)) (fun _ h9 => h9) rfl hin rfl (by decide +kernel) rfl rfl (Nat.le_of_ble_eq_true rfl) dX3_init_9 (fun H locs hP hD hS => ?_)
  have hP : va_P G.1 vwCl ([(h0, .inr (3, [.ref q7, .null, .int 0, .null, .null, .null, .int 0, .long 0])), (q7, .inl (G.2 1, 49, .inr (.inl (fun _ => 0))))]) H := hP
  have hD : va_D A ([(h0, .inr (3, [.ref q7, .null, .int 0, .null, .null, .null, .int 0, .long 0])), (q7, .inl (G.2 1, 49, .inr (.inl (fun _ => 0))))]) := hD
  refine lv_aload_n hx hb dX3_init_12 rfl (lv_at hl 0 rfl) ?_
  refine lv_sipush (v := (980 : Int32)) hx hb dX3_init_13 (by decide) ?_
  refine va_newa (atype := .long) (ty := .long) (N' := 980) (a0 := (980, .inr (.inl (fun _ => 0)))) hx hb (hts (.arrayClass .long) (List.mem_of_getElem? (i := 4) rfl)) rfl hK.1 hP hD hS hA (fun _ => rfl) (by decide) (by decide) (Nat.le_of_ble_eq_true rfl) (Nat.le_of_ble_eq_true rfl) (Nat.le_of_ble_eq_true rfl) dX3_init_16 (fun q16 cA H hK2 hP hD hS => ?_)
  obtain rfl := zc_sameT hK.1 (i := 1) rfl hK2 (j := 4) rfl
  have hP : va_P G.1 vwCl ([(h0, .inr (3, [.ref q7, .null, .int 0, .null, .null, .null, .int 0, .long 0])), (q7, .inl (G.2 1, 49, .inr (.inl (fun _ => 0)))), (q16, .inl (G.2 1, 980, .inr (.inl (fun _ => 0))))]) H := hP
  have hD : va_D A ([(h0, .inr (3, [.ref q7, .null, .int 0, .null, .null, .null, .int 0, .long 0])), (q7, .inl (G.2 1, 49, .inr (.inl (fun _ => 0)))), (q16, .inl (G.2 1, 980, .inr (.inl (fun _ => 0))))]) := hD
  refine va_putF (D := G.1) (ci := 3) (v := .ref q16) (ty := .array .long) (C := RX3) (T := TX3) (N := 8) hx hb hts iX3_init_X3 tyX3 tyX3_ok nmX3 hown hK.1 hP hD hS 0 rfl rfl 1 (by decide) (hts (.fieldLink RX3 13 "BoardClockModel" "past" "[J") (List.mem_of_getElem? (i := 6) rfl)) (fun _ h9 => h9) rfl hin rfl (by decide +kernel) rfl rfl (Nat.le_of_ble_eq_true rfl) dX3_init_18 (fun H locs hP hD hS => ?_)
  have hP : va_P G.1 vwCl ([(h0, .inr (3, [.ref q7, .ref q16, .int 0, .null, .null, .null, .int 0, .long 0])), (q7, .inl (G.2 1, 49, .inr (.inl (fun _ => 0)))), (q16, .inl (G.2 1, 980, .inr (.inl (fun _ => 0))))]) H := hP
  have hD : va_D A ([(h0, .inr (3, [.ref q7, .ref q16, .int 0, .null, .null, .null, .int 0, .long 0])), (q7, .inl (G.2 1, 49, .inr (.inl (fun _ => 0)))), (q16, .inl (G.2 1, 980, .inr (.inl (fun _ => 0))))]) := hD
  refine lv_aload_n hx hb dX3_init_21 rfl (lv_at hl 0 rfl) ?_
  refine lv_bipush (v := (100 : Int32)) hx hb dX3_init_22 (by decide) ?_
  refine va_newa (atype := .long) (ty := .long) (N' := 100) (a0 := (100, .inr (.inl (fun _ => 0)))) hx hb (hts (.arrayClass .long) (List.mem_of_getElem? (i := 4) rfl)) rfl hK.1 hP hD hS hA (fun _ => rfl) (by decide) (by decide) (Nat.le_of_ble_eq_true rfl) (Nat.le_of_ble_eq_true rfl) (Nat.le_of_ble_eq_true rfl) dX3_init_24 (fun q24 cA H hK2 hP hD hS => ?_)
  obtain rfl := zc_sameT hK.1 (i := 1) rfl hK2 (j := 4) rfl
  have hP : va_P G.1 vwCl ([(h0, .inr (3, [.ref q7, .ref q16, .int 0, .null, .null, .null, .int 0, .long 0])), (q7, .inl (G.2 1, 49, .inr (.inl (fun _ => 0)))), (q16, .inl (G.2 1, 980, .inr (.inl (fun _ => 0)))), (q24, .inl (G.2 1, 100, .inr (.inl (fun _ => 0))))]) H := hP
  have hD : va_D A ([(h0, .inr (3, [.ref q7, .ref q16, .int 0, .null, .null, .null, .int 0, .long 0])), (q7, .inl (G.2 1, 49, .inr (.inl (fun _ => 0)))), (q16, .inl (G.2 1, 980, .inr (.inl (fun _ => 0)))), (q24, .inl (G.2 1, 100, .inr (.inl (fun _ => 0))))]) := hD
  refine va_putF (D := G.1) (ci := 3) (v := .ref q24) (ty := .array .long) (C := RX3) (T := TX3) (N := 8) hx hb hts iX3_init_X3 tyX3 tyX3_ok nmX3 hown hK.1 hP hD hS 0 rfl rfl 3 (by decide) (hts (.fieldLink RX3 16 "BoardClockModel" "images" "[J") (List.mem_of_getElem? (i := 7) rfl)) (fun _ h9 => h9) rfl hin rfl (by decide +kernel) rfl rfl (Nat.le_of_ble_eq_true rfl) dX3_init_26 (fun H locs hP hD hS => ?_)
  have hP : va_P G.1 vwCl ([(h0, .inr (3, [.ref q7, .ref q16, .int 0, .ref q24, .null, .null, .int 0, .long 0])), (q7, .inl (G.2 1, 49, .inr (.inl (fun _ => 0)))), (q16, .inl (G.2 1, 980, .inr (.inl (fun _ => 0)))), (q24, .inl (G.2 1, 100, .inr (.inl (fun _ => 0))))]) H := hP
  have hD : va_D A ([(h0, .inr (3, [.ref q7, .ref q16, .int 0, .ref q24, .null, .null, .int 0, .long 0])), (q7, .inl (G.2 1, 49, .inr (.inl (fun _ => 0)))), (q16, .inl (G.2 1, 980, .inr (.inl (fun _ => 0)))), (q24, .inl (G.2 1, 100, .inr (.inl (fun _ => 0))))]) := hD
  refine lv_aload_n hx hb dX3_init_29 rfl (lv_at hl 0 rfl) ?_
  refine lv_iconst (v := (2 : Int32)) hx hb dX3_init_30 (by decide) ?_
  refine va_newa (atype := .boolean) (ty := .boolean) (N' := 2) (a0 := (2, .inl (fun _ => 0))) hx hb (hts (.arrayClass .boolean) (List.mem_of_getElem? (i := 8) rfl)) rfl hK.1 hP hD hS hA (fun _ => rfl) (by decide) (by decide) (Nat.le_of_ble_eq_true rfl) (Nat.le_of_ble_eq_true rfl) (Nat.le_of_ble_eq_true rfl) dX3_init_31 (fun q31 cA H hK2 hP hD hS => ?_)
  obtain rfl := zc_sameT hK.1 (i := 2) rfl hK2 (j := 4) rfl
  have hP : va_P G.1 vwCl ([(h0, .inr (3, [.ref q7, .ref q16, .int 0, .ref q24, .null, .null, .int 0, .long 0])), (q7, .inl (G.2 1, 49, .inr (.inl (fun _ => 0)))), (q16, .inl (G.2 1, 980, .inr (.inl (fun _ => 0)))), (q24, .inl (G.2 1, 100, .inr (.inl (fun _ => 0)))), (q31, .inl (G.2 2, 2, .inl (fun _ => 0)))]) H := hP
  have hD : va_D A ([(h0, .inr (3, [.ref q7, .ref q16, .int 0, .ref q24, .null, .null, .int 0, .long 0])), (q7, .inl (G.2 1, 49, .inr (.inl (fun _ => 0)))), (q16, .inl (G.2 1, 980, .inr (.inl (fun _ => 0)))), (q24, .inl (G.2 1, 100, .inr (.inl (fun _ => 0)))), (q31, .inl (G.2 2, 2, .inl (fun _ => 0)))]) := hD
  refine va_putF (D := G.1) (ci := 3) (v := .ref q31) (ty := .array .boolean) (C := RX3) (T := TX3) (N := 8) hx hb hts iX3_init_X3 tyX3 tyX3_ok nmX3 hown hK.1 hP hD hS 0 rfl rfl 4 (by decide) (hts (.fieldLink RX3 19 "BoardClockModel" "isKept" "[Z") (List.mem_of_getElem? (i := 9) rfl)) (fun _ h9 => h9) rfl hin rfl (by decide +kernel) rfl rfl (Nat.le_of_ble_eq_true rfl) dX3_init_33 (fun H locs hP hD hS => ?_)
  have hP : va_P G.1 vwCl ([(h0, .inr (3, [.ref q7, .ref q16, .int 0, .ref q24, .ref q31, .null, .int 0, .long 0])), (q7, .inl (G.2 1, 49, .inr (.inl (fun _ => 0)))), (q16, .inl (G.2 1, 980, .inr (.inl (fun _ => 0)))), (q24, .inl (G.2 1, 100, .inr (.inl (fun _ => 0)))), (q31, .inl (G.2 2, 2, .inl (fun _ => 0)))]) H := hP
  have hD : va_D A ([(h0, .inr (3, [.ref q7, .ref q16, .int 0, .ref q24, .ref q31, .null, .int 0, .long 0])), (q7, .inl (G.2 1, 49, .inr (.inl (fun _ => 0)))), (q16, .inl (G.2 1, 980, .inr (.inl (fun _ => 0)))), (q24, .inl (G.2 1, 100, .inr (.inl (fun _ => 0)))), (q31, .inl (G.2 2, 2, .inl (fun _ => 0)))]) := hD
  refine lv_aload_n hx hb dX3_init_36 rfl (lv_at hl 0 rfl) ?_
  refine lv_bipush (v := (20 : Int32)) hx hb dX3_init_37 (by decide) ?_
  refine va_newa (atype := .int) (ty := .int) (N' := 20) (a0 := (20, .inl (fun _ => 0))) hx hb (hts (.arrayClass .int) (List.mem_of_getElem? (i := 10) rfl)) rfl hK.1 hP hD hS hA (fun _ => rfl) (by decide) (by decide) (Nat.le_of_ble_eq_true rfl) (Nat.le_of_ble_eq_true rfl) (Nat.le_of_ble_eq_true rfl) dX3_init_39 (fun q39 cA H hK2 hP hD hS => ?_)
  obtain rfl := zc_sameT hK.1 (i := 0) rfl hK2 (j := 4) rfl
  have hP : va_P G.1 vwCl ([(h0, .inr (3, [.ref q7, .ref q16, .int 0, .ref q24, .ref q31, .null, .int 0, .long 0])), (q7, .inl (G.2 1, 49, .inr (.inl (fun _ => 0)))), (q16, .inl (G.2 1, 980, .inr (.inl (fun _ => 0)))), (q24, .inl (G.2 1, 100, .inr (.inl (fun _ => 0)))), (q31, .inl (G.2 2, 2, .inl (fun _ => 0))), (q39, .inl (G.2 0, 20, .inl (fun _ => 0)))]) H := hP
  have hD : va_D A ([(h0, .inr (3, [.ref q7, .ref q16, .int 0, .ref q24, .ref q31, .null, .int 0, .long 0])), (q7, .inl (G.2 1, 49, .inr (.inl (fun _ => 0)))), (q16, .inl (G.2 1, 980, .inr (.inl (fun _ => 0)))), (q24, .inl (G.2 1, 100, .inr (.inl (fun _ => 0)))), (q31, .inl (G.2 2, 2, .inl (fun _ => 0))), (q39, .inl (G.2 0, 20, .inl (fun _ => 0)))]) := hD
  refine va_putF (D := G.1) (ci := 3) (v := .ref q39) (ty := .array .int) (C := RX3) (T := TX3) (N := 8) hx hb hts iX3_init_X3 tyX3 tyX3_ok nmX3 hown hK.1 hP hD hS 0 rfl rfl 5 (by decide) (hts (.fieldLink RX3 23 "BoardClockModel" "book" "[I") (List.mem_of_getElem? (i := 11) rfl)) (fun _ h9 => h9) rfl hin rfl (by decide +kernel) rfl rfl (Nat.le_of_ble_eq_true rfl) dX3_init_41 (fun H locs hP hD hS => ?_)
  have hP : va_P G.1 vwCl ([(h0, .inr (3, [.ref q7, .ref q16, .int 0, .ref q24, .ref q31, .ref q39, .int 0, .long 0])), (q7, .inl (G.2 1, 49, .inr (.inl (fun _ => 0)))), (q16, .inl (G.2 1, 980, .inr (.inl (fun _ => 0)))), (q24, .inl (G.2 1, 100, .inr (.inl (fun _ => 0)))), (q31, .inl (G.2 2, 2, .inl (fun _ => 0))), (q39, .inl (G.2 0, 20, .inl (fun _ => 0)))]) H := hP
  have hD : va_D A ([(h0, .inr (3, [.ref q7, .ref q16, .int 0, .ref q24, .ref q31, .ref q39, .int 0, .long 0])), (q7, .inl (G.2 1, 49, .inr (.inl (fun _ => 0)))), (q16, .inl (G.2 1, 980, .inr (.inl (fun _ => 0)))), (q24, .inl (G.2 1, 100, .inr (.inl (fun _ => 0)))), (q31, .inl (G.2 2, 2, .inl (fun _ => 0))), (q39, .inl (G.2 0, 20, .inl (fun _ => 0)))]) := hD
  refine lv_aload_n hx hb dX3_init_44 rfl (lv_at hl 0 rfl) ?_
  refine va_get (D := G.1) (ci := 3) (C := RX3) (T := TX3) (N := 8) hx hb hts iX3_init_X3 hown hK.1 hP 0 rfl rfl 0 (by decide) (hts (.fieldLink RX3 7 "BoardClockModel" "st" "[J") (List.mem_of_getElem? (i := 5) rfl)) (fun _ h9 => h9) rfl dX3_init_45 ?_
  refine lv_iconst (v := (4 : Int32)) hx hb dX3_init_48 (by decide) ?_
  refine lv_ldc2 hx hb hown (hts (.constantLong RX3 27 (25)) (List.mem_of_getElem? (i := 12) rfl)) dX3_init_49 ?_
  refine zc_last (j := 4) hx hb hK.1 hP hD hS 1 1 rfl rfl (zc_vin (by decide)) (by decide) dX3_init_52 (fun H locs hP hS => ?_)
  have hP : va_P G.1 vwCl ([(h0, .inr (3, [.ref q7, .ref q16, .int 0, .ref q24, .ref q31, .ref q39, .int 0, .long 0])), (q7, .inl (G.2 1, 49, .inr (.inl (vp_updL (fun _ => 0) 4 (25 : Int64))))), (q16, .inl (G.2 1, 980, .inr (.inl (fun _ => 0)))), (q24, .inl (G.2 1, 100, .inr (.inl (fun _ => 0)))), (q31, .inl (G.2 2, 2, .inl (fun _ => 0))), (q39, .inl (G.2 0, 20, .inl (fun _ => 0)))]) H := hP
  have hD : va_D A ([(h0, .inr (3, [.ref q7, .ref q16, .int 0, .ref q24, .ref q31, .ref q39, .int 0, .long 0])), (q7, .inl (G.2 1, 49, .inr (.inl (vp_updL (fun _ => 0) 4 (25 : Int64))))), (q16, .inl (G.2 1, 980, .inr (.inl (fun _ => 0)))), (q24, .inl (G.2 1, 100, .inr (.inl (fun _ => 0)))), (q31, .inl (G.2 2, 2, .inl (fun _ => 0))), (q39, .inl (G.2 0, 20, .inl (fun _ => 0)))]) := zc_Ds hD rfl
  refine lv_aload_n hx hb dX3_init_53 rfl (lv_at hl 0 rfl) ?_
  refine va_get (D := G.1) (ci := 3) (C := RX3) (T := TX3) (N := 8) hx hb hts iX3_init_X3 hown hK.1 hP 0 rfl rfl 0 (by decide) (hts (.fieldLink RX3 7 "BoardClockModel" "st" "[J") (List.mem_of_getElem? (i := 5) rfl)) (fun _ h9 => h9) rfl dX3_init_54 ?_
  refine lv_iconst (v := (5 : Int32)) hx hb dX3_init_57 (by decide) ?_
  refine lv_ldc2 hx hb hown (hts (.constantLong RX3 27 (25)) (List.mem_of_getElem? (i := 12) rfl)) dX3_init_58 ?_
  refine zc_last (j := 5) hx hb hK.1 hP hD hS 1 1 rfl rfl (zc_vin (by decide)) (by decide) dX3_init_61 (fun H locs hP hS => ?_)
  have hP : va_P G.1 vwCl ([(h0, .inr (3, [.ref q7, .ref q16, .int 0, .ref q24, .ref q31, .ref q39, .int 0, .long 0])), (q7, .inl (G.2 1, 49, .inr (.inl (vp_updL (vp_updL (fun _ => 0) 4 (25 : Int64)) 5 (25 : Int64))))), (q16, .inl (G.2 1, 980, .inr (.inl (fun _ => 0)))), (q24, .inl (G.2 1, 100, .inr (.inl (fun _ => 0)))), (q31, .inl (G.2 2, 2, .inl (fun _ => 0))), (q39, .inl (G.2 0, 20, .inl (fun _ => 0)))]) H := hP
  have hD : va_D A ([(h0, .inr (3, [.ref q7, .ref q16, .int 0, .ref q24, .ref q31, .ref q39, .int 0, .long 0])), (q7, .inl (G.2 1, 49, .inr (.inl (vp_updL (vp_updL (fun _ => 0) 4 (25 : Int64)) 5 (25 : Int64))))), (q16, .inl (G.2 1, 980, .inr (.inl (fun _ => 0)))), (q24, .inl (G.2 1, 100, .inr (.inl (fun _ => 0)))), (q31, .inl (G.2 2, 2, .inl (fun _ => 0))), (q39, .inl (G.2 0, 20, .inl (fun _ => 0)))]) := zc_Ds hD rfl
  refine lv_aload_n hx hb dX3_init_62 rfl (lv_at hl 0 rfl) ?_
  refine va_get (D := G.1) (ci := 3) (C := RX3) (T := TX3) (N := 8) hx hb hts iX3_init_X3 hown hK.1 hP 0 rfl rfl 0 (by decide) (hts (.fieldLink RX3 7 "BoardClockModel" "st" "[J") (List.mem_of_getElem? (i := 5) rfl)) (fun _ h9 => h9) rfl dX3_init_63 ?_
  refine lv_bipush (v := (6 : Int32)) hx hb dX3_init_66 (by decide) ?_
  refine lv_ldc2 hx hb hown (hts (.constantLong RX3 29 (3)) (List.mem_of_getElem? (i := 13) rfl)) dX3_init_68 ?_
  refine zc_last (j := 6) hx hb hK.1 hP hD hS 1 1 rfl rfl (zc_vin (by decide)) (by decide) dX3_init_71 (fun H locs hP hS => ?_)
  have hP : va_P G.1 vwCl ([(h0, .inr (3, [.ref q7, .ref q16, .int 0, .ref q24, .ref q31, .ref q39, .int 0, .long 0])), (q7, .inl (G.2 1, 49, .inr (.inl (vp_updL (vp_updL (vp_updL (fun _ => 0) 4 (25 : Int64)) 5 (25 : Int64)) 6 (3 : Int64))))), (q16, .inl (G.2 1, 980, .inr (.inl (fun _ => 0)))), (q24, .inl (G.2 1, 100, .inr (.inl (fun _ => 0)))), (q31, .inl (G.2 2, 2, .inl (fun _ => 0))), (q39, .inl (G.2 0, 20, .inl (fun _ => 0)))]) H := hP
  have hD : va_D A ([(h0, .inr (3, [.ref q7, .ref q16, .int 0, .ref q24, .ref q31, .ref q39, .int 0, .long 0])), (q7, .inl (G.2 1, 49, .inr (.inl (vp_updL (vp_updL (vp_updL (fun _ => 0) 4 (25 : Int64)) 5 (25 : Int64)) 6 (3 : Int64))))), (q16, .inl (G.2 1, 980, .inr (.inl (fun _ => 0)))), (q24, .inl (G.2 1, 100, .inr (.inl (fun _ => 0)))), (q31, .inl (G.2 2, 2, .inl (fun _ => 0))), (q39, .inl (G.2 0, 20, .inl (fun _ => 0)))]) := zc_Ds hD rfl
  refine lv_aload_n hx hb dX3_init_72 rfl (lv_at hl 0 rfl) ?_
  refine va_get (D := G.1) (ci := 3) (C := RX3) (T := TX3) (N := 8) hx hb hts iX3_init_X3 hown hK.1 hP 0 rfl rfl 0 (by decide) (hts (.fieldLink RX3 7 "BoardClockModel" "st" "[J") (List.mem_of_getElem? (i := 5) rfl)) (fun _ h9 => h9) rfl dX3_init_73 ?_
  refine lv_bipush (v := (9 : Int32)) hx hb dX3_init_76 (by decide) ?_
  refine lv_ldc2 hx hb hown (hts (.constantLong RX3 31 (20)) (List.mem_of_getElem? (i := 14) rfl)) dX3_init_78 ?_
  refine zc_last (j := 9) hx hb hK.1 hP hD hS 1 1 rfl rfl (zc_vin (by decide)) (by decide) dX3_init_81 (fun H locs hP hS => ?_)
  have hP : va_P G.1 vwCl ([(h0, .inr (3, [.ref q7, .ref q16, .int 0, .ref q24, .ref q31, .ref q39, .int 0, .long 0])), (q7, .inl (G.2 1, 49, .inr (.inl (vp_updL (vp_updL (vp_updL (vp_updL (fun _ => 0) 4 (25 : Int64)) 5 (25 : Int64)) 6 (3 : Int64)) 9 (20 : Int64))))), (q16, .inl (G.2 1, 980, .inr (.inl (fun _ => 0)))), (q24, .inl (G.2 1, 100, .inr (.inl (fun _ => 0)))), (q31, .inl (G.2 2, 2, .inl (fun _ => 0))), (q39, .inl (G.2 0, 20, .inl (fun _ => 0)))]) H := hP
  have hD : va_D A ([(h0, .inr (3, [.ref q7, .ref q16, .int 0, .ref q24, .ref q31, .ref q39, .int 0, .long 0])), (q7, .inl (G.2 1, 49, .inr (.inl (vp_updL (vp_updL (vp_updL (vp_updL (fun _ => 0) 4 (25 : Int64)) 5 (25 : Int64)) 6 (3 : Int64)) 9 (20 : Int64))))), (q16, .inl (G.2 1, 980, .inr (.inl (fun _ => 0)))), (q24, .inl (G.2 1, 100, .inr (.inl (fun _ => 0)))), (q31, .inl (G.2 2, 2, .inl (fun _ => 0))), (q39, .inl (G.2 0, 20, .inl (fun _ => 0)))]) := zc_Ds hD rfl
  refine lv_aload_n hx hb dX3_init_82 rfl (lv_at hl 0 rfl) ?_
  refine va_get (D := G.1) (ci := 3) (C := RX3) (T := TX3) (N := 8) hx hb hts iX3_init_X3 hown hK.1 hP 0 rfl rfl 0 (by decide) (hts (.fieldLink RX3 7 "BoardClockModel" "st" "[J") (List.mem_of_getElem? (i := 5) rfl)) (fun _ h9 => h9) rfl dX3_init_83 ?_
  refine lv_bipush (v := (10 : Int32)) hx hb dX3_init_86 (by decide) ?_
  refine lv_ldc2 hx hb hown (hts (.constantLong RX3 33 (160)) (List.mem_of_getElem? (i := 15) rfl)) dX3_init_88 ?_
  refine zc_last (j := 10) hx hb hK.1 hP hD hS 1 1 rfl rfl (zc_vin (by decide)) (by decide) dX3_init_91 (fun H locs hP hS => ?_)
  have hP : va_P G.1 vwCl ([(h0, .inr (3, [.ref q7, .ref q16, .int 0, .ref q24, .ref q31, .ref q39, .int 0, .long 0])), (q7, .inl (G.2 1, 49, .inr (.inl (vp_updL (vp_updL (vp_updL (vp_updL (vp_updL (fun _ => 0) 4 (25 : Int64)) 5 (25 : Int64)) 6 (3 : Int64)) 9 (20 : Int64)) 10 (160 : Int64))))), (q16, .inl (G.2 1, 980, .inr (.inl (fun _ => 0)))), (q24, .inl (G.2 1, 100, .inr (.inl (fun _ => 0)))), (q31, .inl (G.2 2, 2, .inl (fun _ => 0))), (q39, .inl (G.2 0, 20, .inl (fun _ => 0)))]) H := hP
  have hD : va_D A ([(h0, .inr (3, [.ref q7, .ref q16, .int 0, .ref q24, .ref q31, .ref q39, .int 0, .long 0])), (q7, .inl (G.2 1, 49, .inr (.inl (vp_updL (vp_updL (vp_updL (vp_updL (vp_updL (fun _ => 0) 4 (25 : Int64)) 5 (25 : Int64)) 6 (3 : Int64)) 9 (20 : Int64)) 10 (160 : Int64))))), (q16, .inl (G.2 1, 980, .inr (.inl (fun _ => 0)))), (q24, .inl (G.2 1, 100, .inr (.inl (fun _ => 0)))), (q31, .inl (G.2 2, 2, .inl (fun _ => 0))), (q39, .inl (G.2 0, 20, .inl (fun _ => 0)))]) := zc_Ds hD rfl
  refine lv_aload_n hx hb dX3_init_92 rfl (lv_at hl 0 rfl) ?_
  refine va_get (D := G.1) (ci := 3) (C := RX3) (T := TX3) (N := 8) hx hb hts iX3_init_X3 hown hK.1 hP 0 rfl rfl 0 (by decide) (hts (.fieldLink RX3 7 "BoardClockModel" "st" "[J") (List.mem_of_getElem? (i := 5) rfl)) (fun _ h9 => h9) rfl dX3_init_93 ?_
  refine lv_bipush (v := (11 : Int32)) hx hb dX3_init_96 (by decide) ?_
  refine lv_lconst (v := (1 : Int64)) hx hb dX3_init_98 (by decide) ?_
  refine zc_last (j := 11) hx hb hK.1 hP hD hS 1 1 rfl rfl (zc_vin (by decide)) (by decide) dX3_init_99 (fun H locs hP hS => ?_)
  have hP : va_P G.1 vwCl ([(h0, .inr (3, [.ref q7, .ref q16, .int 0, .ref q24, .ref q31, .ref q39, .int 0, .long 0])), (q7, .inl (G.2 1, 49, .inr (.inl (vp_updL (vp_updL (vp_updL (vp_updL (vp_updL (vp_updL (fun _ => 0) 4 (25 : Int64)) 5 (25 : Int64)) 6 (3 : Int64)) 9 (20 : Int64)) 10 (160 : Int64)) 11 (1 : Int64))))), (q16, .inl (G.2 1, 980, .inr (.inl (fun _ => 0)))), (q24, .inl (G.2 1, 100, .inr (.inl (fun _ => 0)))), (q31, .inl (G.2 2, 2, .inl (fun _ => 0))), (q39, .inl (G.2 0, 20, .inl (fun _ => 0)))]) H := hP
  have hD : va_D A ([(h0, .inr (3, [.ref q7, .ref q16, .int 0, .ref q24, .ref q31, .ref q39, .int 0, .long 0])), (q7, .inl (G.2 1, 49, .inr (.inl (vp_updL (vp_updL (vp_updL (vp_updL (vp_updL (vp_updL (fun _ => 0) 4 (25 : Int64)) 5 (25 : Int64)) 6 (3 : Int64)) 9 (20 : Int64)) 10 (160 : Int64)) 11 (1 : Int64))))), (q16, .inl (G.2 1, 980, .inr (.inl (fun _ => 0)))), (q24, .inl (G.2 1, 100, .inr (.inl (fun _ => 0)))), (q31, .inl (G.2 2, 2, .inl (fun _ => 0))), (q39, .inl (G.2 0, 20, .inl (fun _ => 0)))]) := zc_Ds hD rfl
  refine lv_aload_n hx hb dX3_init_100 rfl (lv_at hl 0 rfl) ?_
  refine va_get (D := G.1) (ci := 3) (C := RX3) (T := TX3) (N := 8) hx hb hts iX3_init_X3 hown hK.1 hP 0 rfl rfl 0 (by decide) (hts (.fieldLink RX3 7 "BoardClockModel" "st" "[J") (List.mem_of_getElem? (i := 5) rfl)) (fun _ h9 => h9) rfl dX3_init_101 ?_
  refine lv_bipush (v := (13 : Int32)) hx hb dX3_init_104 (by decide) ?_
  refine lv_ldc2 hx hb hown (hts (.constantLong RX3 35 (-1)) (List.mem_of_getElem? (i := 16) rfl)) dX3_init_106 ?_
  refine zc_last (j := 13) hx hb hK.1 hP hD hS 1 1 rfl rfl (zc_vin (by decide)) (by decide) dX3_init_109 (fun H locs hP hS => ?_)
  have hP : va_P G.1 vwCl ([(h0, .inr (3, [.ref q7, .ref q16, .int 0, .ref q24, .ref q31, .ref q39, .int 0, .long 0])), (q7, .inl (G.2 1, 49, .inr (.inl (vp_updL (vp_updL (vp_updL (vp_updL (vp_updL (vp_updL (vp_updL (fun _ => 0) 4 (25 : Int64)) 5 (25 : Int64)) 6 (3 : Int64)) 9 (20 : Int64)) 10 (160 : Int64)) 11 (1 : Int64)) 13 (-1 : Int64))))), (q16, .inl (G.2 1, 980, .inr (.inl (fun _ => 0)))), (q24, .inl (G.2 1, 100, .inr (.inl (fun _ => 0)))), (q31, .inl (G.2 2, 2, .inl (fun _ => 0))), (q39, .inl (G.2 0, 20, .inl (fun _ => 0)))]) H := hP
  have hD : va_D A ([(h0, .inr (3, [.ref q7, .ref q16, .int 0, .ref q24, .ref q31, .ref q39, .int 0, .long 0])), (q7, .inl (G.2 1, 49, .inr (.inl (vp_updL (vp_updL (vp_updL (vp_updL (vp_updL (vp_updL (vp_updL (fun _ => 0) 4 (25 : Int64)) 5 (25 : Int64)) 6 (3 : Int64)) 9 (20 : Int64)) 10 (160 : Int64)) 11 (1 : Int64)) 13 (-1 : Int64))))), (q16, .inl (G.2 1, 980, .inr (.inl (fun _ => 0)))), (q24, .inl (G.2 1, 100, .inr (.inl (fun _ => 0)))), (q31, .inl (G.2 2, 2, .inl (fun _ => 0))), (q39, .inl (G.2 0, 20, .inl (fun _ => 0)))]) := zc_Ds hD rfl
  refine W.widen (k := 5) (n := 1151) (by decide) (by decide) ?_
  exact W.vret hx hb hr (fun t ht hW => ⟨⟨zc_ads [h0, q7, q16, q24, q31, q39], rfl, rfl, zc_hp ht hP, hD⟩, hS.F ht⟩) hS.2.2 dX3_init_110
