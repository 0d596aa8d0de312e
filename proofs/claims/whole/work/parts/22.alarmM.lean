def fX0_add (q : zc_Q) (a1 : Int32) (a2 : Int32) (a3 : Int32) : Option (Int32 × zc_Q) := if (q.1) < 0 then (some ((-1000000004 : Int32), q)) else (if (q.1) < (6 : Int32) then (zc_let (q.1) fun (x3 : Int32) => zc_in x3 6 (zc_let (zc_qa q 0 x3.toNatClampNeg a1) fun (q5 : zc_Q) => zc_in x3 6 (zc_let (zc_qa q5 1 x3.toNatClampNeg a2) fun (q7 : zc_Q) => zc_in x3 6 (zc_let (zc_qa q7 2 x3.toNatClampNeg a3) fun (q9 : zc_Q) => zc_in x3 6 (zc_let (zc_qa q9 3 x3.toNatClampNeg (0 : Int32)) fun (q11 : zc_Q) => zc_let (zc_qn q11 ((q11.1) + (1 : Int32))) fun (q12 : zc_Q) => some (x3, q12)))))) else (some ((-1000000004 : Int32), q)))
theorem iX0_add_X0 : ∀ w ∈ wsX00, w ∈ wsX0_add := fun _ h => List.mem_cons_of_mem _ (List.mem_append_right _ h)
set_option maxHeartbeats 4000000 in
set_option maxRecDepth 100000 in
theorem kX0_add (l : Launch) (G : zc_G) (ad : Nat → Nat) (sz : Nat) {q : zc_Q} {a1 : Int32} {a2 : Int32} {a3 : Int32} {r0 : Int32 × zc_Q} (hF : fX0_add q a1 a2 a3 = some r0) : Met l yX0_add wsX0_add ({ frames := 0, cells := 0, slots := 0, locals := 0 }) (zc_Pm G [.ref (ad 2), .int a1, .int a2, .int a3] (zc_al G ad q) sz) (zc_Qi G r0.1 (zc_al G ad r0.2) (va_A (zc_al G ad q) sz)) 0 0 (va_A (zc_al G ad q) sz) := by
  refine Met.ofW (cc := cX0_add) (maxL := 5) (ret := (some .int)) (by decide) rfl ?_
  intro p e s m args below meth c s₁ B hml hv
  obtain ⟨rfl, hsz, hP, hK, hD0⟩ := hv
  have hx := B.exec
  have hb := B.bytes
  have hr := B.returns
  have hts := atoms_spec (ws := wsX0_add) B.pre
  have hown : s.vm.findClass RX0 = some m.cls := findClass_of_methodNamed B.named
  have hlocks := B.notSynchronized
  subst hsz
  have hD := hD0.self (sz := s.heap.size)
  generalize hAe : va_A (zc_al G ad q) s.heap.size = A at hD ⊢
  have hA : ∀ q : Nat, s.heap.size ≤ q → A q := fun q h => by rw [← hAe]; exact Or.inr h
  have hS : va_S A s.heap s.heap [] := va_S.rf
  have hl := lv_entry ([.ref (ad 2), .int a1, .int a2, .int a3]) (n := 5) (Nat.le_of_ble_eq_true rfl)
  rw [lg_entry_eq]
  generalize (lg_sl ([.ref (ad 2), .int a1, .int a2, .int a3]) ++ List.replicate (5 - (lg_sl ([.ref (ad 2), .int a1, .int a2, .int a3])).length) Slot.unset).toArray = ls at hl ⊢
  have hl : lv_has ls 5 [(0, .ref (ad 2)), (1, .int a1), (2, .int a2), (3, .int a3)] := hl
  refine lv_aload_n hx hb dX0_add_0 rfl (lv_at hl 0 rfl) ?_
  refine va_get (D := G.1) (ci := 0) (C := RX0) (T := TX0) (N := 5) hx hb hts iX0_add_X0 hown hK.1 hP 0 rfl rfl 0 (by decide) (hts (.fieldLink RX0 9 "BoardClock$Alarms" "count" "I") (List.mem_of_getElem? (i := 1) rfl)) (fun _ h9 => h9) rfl dX0_add_1 ?_
  refine lv_if_lt (tgt := 16) hx hb dX0_add_4 (by decide) (fun c1 => ?_) (fun c1 => ?_)
  · have hF := zc_pos c1 hF
    refine lv_ldc hx hb hown (hts (.constant RX0 34 (-1000000004)) (List.mem_of_getElem? (i := 2) rfl)) dX0_add_16 ?_
    obtain rfl := Option.some.inj hF
    exact W.iret hx hb hr (fun t ht hW => ⟨⟨_, (), rfl, rfl, zc_hp ht hP⟩, hS.F ht⟩) hS.2.2 dX0_add_18
  · have hF := zc_neg c1 hF
    refine lv_aload_n hx hb dX0_add_7 rfl (lv_at hl 0 rfl) ?_
    refine va_get (D := G.1) (ci := 0) (C := RX0) (T := TX0) (N := 5) hx hb hts iX0_add_X0 hown hK.1 hP 0 rfl rfl 0 (by decide) (hts (.fieldLink RX0 9 "BoardClock$Alarms" "count" "I") (List.mem_of_getElem? (i := 1) rfl)) (fun _ h9 => h9) rfl dX0_add_8 ?_
    refine lv_bipush (v := (6 : Int32)) hx hb dX0_add_11 (by decide) ?_
    refine lv_icmp_lt (tgt := 19) hx hb dX0_add_13 (by decide) (fun c2 => ?_) (fun c2 => ?_)
    · have hF := zc_pos c2 hF
      refine lv_aload_n hx hb dX0_add_19 rfl (lv_at hl 0 rfl) ?_
      refine va_get (D := G.1) (ci := 0) (C := RX0) (T := TX0) (N := 5) hx hb hts iX0_add_X0 hown hK.1 hP 0 rfl rfl 0 (by decide) (hts (.fieldLink RX0 9 "BoardClock$Alarms" "count" "I") (List.mem_of_getElem? (i := 1) rfl)) (fun _ h9 => h9) rfl dX0_add_20 ?_
      refine lv_topi (fun x3 ex3 => ?_)
      have hF := zc_letE ex3 hF
      refine lv_istore (lv' := [(4, .int x3), (0, .ref (ad 2)), (1, .int a1), (2, .int a2), (3, .int a3)]) hx hb dX0_add_23 hl (by decide) rfl (fun ls hl => ?_)
      refine lv_aload_n hx hb dX0_add_25 rfl (lv_at hl 1 rfl) ?_
      refine va_get (D := G.1) (ci := 0) (C := RX0) (T := TX0) (N := 5) hx hb hts iX0_add_X0 hown hK.1 hP 0 rfl rfl 1 (by decide) (hts (.fieldLink RX0 15 "BoardClock$Alarms" "minutes" "[I") (List.mem_of_getElem? (i := 3) rfl)) (fun _ h9 => h9) rfl dX0_add_26 ?_
      refine lv_iload hx hb dX0_add_29 (lv_at hl 0 rfl) ?_
      refine lv_iload_n hx hb dX0_add_31 rfl (lv_at hl 2 rfl) ?_
      obtain ⟨hi4, hF⟩ := zc_inE hF
      refine zc_iast hx hb hK.1 hP hD hS 1 0 rfl rfl hi4 rfl dX0_add_32 (fun H locs hP hS => ?_)
      obtain ⟨q5, eq5, hF⟩ := zc_letX hF
      have hP : va_P G.1 vwCl (zc_al G ad q5) H := by rw [eq5]; exact hP
      have hD : va_D A (zc_al G ad q5) := zc_Ds hD rfl
      refine lv_aload_n hx hb dX0_add_33 rfl (lv_at hl 1 rfl) ?_
      refine va_get (D := G.1) (ci := 0) (C := RX0) (T := TX0) (N := 5) hx hb hts iX0_add_X0 hown hK.1 hP 0 rfl rfl 2 (by decide) (hts (.fieldLink RX0 19 "BoardClock$Alarms" "hours" "[I") (List.mem_of_getElem? (i := 4) rfl)) (fun _ h9 => h9) rfl dX0_add_34 ?_
      refine lv_iload hx hb dX0_add_37 (lv_at hl 0 rfl) ?_
      refine lv_iload_n hx hb dX0_add_39 rfl (lv_at hl 3 rfl) ?_
      obtain ⟨hi6, hF⟩ := zc_inE hF
      refine zc_iast hx hb hK.1 hP hD hS 2 0 rfl rfl hi6 rfl dX0_add_40 (fun H locs hP hS => ?_)
      obtain ⟨q7, eq7, hF⟩ := zc_letX hF
      have hP : va_P G.1 vwCl (zc_al G ad q7) H := by rw [eq7]; exact hP
      have hD : va_D A (zc_al G ad q7) := zc_Ds hD rfl
      refine lv_aload_n hx hb dX0_add_41 rfl (lv_at hl 1 rfl) ?_
      refine va_get (D := G.1) (ci := 0) (C := RX0) (T := TX0) (N := 5) hx hb hts iX0_add_X0 hown hK.1 hP 0 rfl rfl 3 (by decide) (hts (.fieldLink RX0 22 "BoardClock$Alarms" "weekdays" "[I") (List.mem_of_getElem? (i := 5) rfl)) (fun _ h9 => h9) rfl dX0_add_42 ?_
      refine lv_iload hx hb dX0_add_45 (lv_at hl 0 rfl) ?_
      refine lv_iload_n hx hb dX0_add_47 rfl (lv_at hl 4 rfl) ?_
      obtain ⟨hi8, hF⟩ := zc_inE hF
      refine zc_iast hx hb hK.1 hP hD hS 3 0 rfl rfl hi8 rfl dX0_add_48 (fun H locs hP hS => ?_)
      obtain ⟨q9, eq9, hF⟩ := zc_letX hF
      have hP : va_P G.1 vwCl (zc_al G ad q9) H := by rw [eq9]; exact hP
      have hD : va_D A (zc_al G ad q9) := zc_Ds hD rfl
      refine lv_aload_n hx hb dX0_add_49 rfl (lv_at hl 1 rfl) ?_
      refine va_get (D := G.1) (ci := 0) (C := RX0) (T := TX0) (N := 5) hx hb hts iX0_add_X0 hown hK.1 hP 0 rfl rfl 4 (by decide) (hts (.fieldLink RX0 25 "BoardClock$Alarms" "rung" "[I") (List.mem_of_getElem? (i := 6) rfl)) (fun _ h9 => h9) rfl dX0_add_50 ?_
      refine lv_iload hx hb dX0_add_53 (lv_at hl 0 rfl) ?_
      refine lv_iconst (v := (0 : Int32)) hx hb dX0_add_55 (by decide) ?_
      obtain ⟨hi10, hF⟩ := zc_inE hF
      refine zc_iast hx hb hK.1 hP hD hS 4 0 rfl rfl hi10 rfl dX0_add_56 (fun H locs hP hS => ?_)
      obtain ⟨q11, eq11, hF⟩ := zc_letX hF
      have hP : va_P G.1 vwCl (zc_al G ad q11) H := by rw [eq11]; exact hP
      have hD : va_D A (zc_al G ad q11) := zc_Ds hD rfl
      refine lv_aload_n hx hb dX0_add_57 rfl (lv_at hl 1 rfl) ?_
      refine lv_dup hx hb dX0_add_58 rfl ?_
      refine va_get (D := G.1) (ci := 0) (C := RX0) (T := TX0) (N := 5) hx hb hts iX0_add_X0 hown hK.1 hP 0 rfl rfl 0 (by decide) (hts (.fieldLink RX0 9 "BoardClock$Alarms" "count" "I") (List.mem_of_getElem? (i := 1) rfl)) (fun _ h9 => h9) rfl dX0_add_59 ?_
      refine lv_iconst (v := (1 : Int32)) hx hb dX0_add_62 (by decide) ?_
      refine lv_iadd hx hb dX0_add_63 ?_
      refine va_put (D := G.1) (ci := 0) (v := .int ((q11.1) + (1 : Int32))) (ty := .int) (C := RX0) (T := TX0) (N := 5) hx hb hts iX0_add_X0 tyX0 tyX0_ok nmX0 hown hK.1 hP hD hS 0 rfl rfl 0 (by decide) (hts (.fieldLink RX0 9 "BoardClock$Alarms" "count" "I") (List.mem_of_getElem? (i := 1) rfl)) (fun _ h9 => h9) rfl (by decide +kernel) rfl rfl (Nat.le_of_ble_eq_true rfl) dX0_add_64 (fun H locs hP _ hS => ?_)
      obtain ⟨q12, eq12, hF⟩ := zc_letX hF
      have hP : va_P G.1 vwCl (zc_al G ad q12) H := by rw [eq12]; exact hP
      have hD : va_D A (zc_al G ad q12) := zc_Ds hD rfl
      refine lv_iload hx hb dX0_add_67 (lv_at hl 0 rfl) ?_
      obtain rfl := Option.some.inj hF
      exact W.iret hx hb hr (fun t ht hW => ⟨⟨_, (), rfl, rfl, zc_hp ht hP⟩, hS.F ht⟩) hS.2.2 dX0_add_69
    · have hF := zc_neg c2 hF
      refine lv_ldc hx hb hown (hts (.constant RX0 34 (-1000000004)) (List.mem_of_getElem? (i := 2) rfl)) dX0_add_16 ?_
      obtain rfl := Option.some.inj hF
      exact W.iret hx hb hr (fun t ht hW => ⟨⟨_, (), rfl, rfl, zc_hp ht hP⟩, hS.F ht⟩) hS.2.2 dX0_add_18
def fX0_remove_L (N : Nat) : Nat → zc_Q → Int32 → Int32 → Option (zc_Q)
  | 0, _, _, _ => none
  | n + 1, q0, y1, y2 => if (q0.1) ≤ y2 then (some q0) else (if (6 : Int32) ≤ (y2 + (1 : Int32)) then (some q0) else (zc_in (y2 + (1 : Int32)) 6 (zc_in y2 6 (zc_let (zc_qa q0 0 y2.toNatClampNeg (q0.2 0 ((y2 + (1 : Int32))).toNatClampNeg)) fun (q8 : zc_Q) => zc_in (y2 + (1 : Int32)) 6 (zc_in y2 6 (zc_let (zc_qa q8 1 y2.toNatClampNeg (q8.2 1 ((y2 + (1 : Int32))).toNatClampNeg)) fun (q11 : zc_Q) => zc_in (y2 + (1 : Int32)) 6 (zc_in y2 6 (zc_let (zc_qa q11 2 y2.toNatClampNeg (q11.2 2 ((y2 + (1 : Int32))).toNatClampNeg)) fun (q14 : zc_Q) => zc_in (y2 + (1 : Int32)) 6 (zc_in y2 6 (zc_let (zc_qa q14 3 y2.toNatClampNeg (q14.2 3 ((y2 + (1 : Int32))).toNatClampNeg)) fun (q17 : zc_Q) => zc_let (y2 + (1 : Int32)) fun (x18 : Int32) => fX0_remove_L N n q17 y1 x18))))))))))
def fX0_remove (N : Nat) (q : zc_Q) (a1 : Int32) : Option (zc_Q) := Option.bind (fX0_has q a1) fun (r1 : Int32) => if r1 = 0 then (some q) else (zc_let (zc_qn q ((q.1) - (1 : Int32))) fun (q3 : zc_Q) => fX0_remove_L N N q3 a1 a1)
theorem iX0_remove_X0 : ∀ w ∈ wsX00, w ∈ wsX0_remove := fun _ h => List.mem_cons_of_mem _ (List.mem_append_right _ h)
set_option maxHeartbeats 4000000 in
set_option maxRecDepth 100000 in
theorem kX0_remove (l : Launch) (G : zc_G) (ad : Nat → Nat) (sz : Nat) {N : Nat} {q : zc_Q} {a1 : Int32} {r0 : zc_Q} (hF : fX0_remove N q a1 = some r0) : Met l yX0_remove wsX0_remove ({ frames := 1, cells := 0, slots := 0, locals := 21 }) (zc_Pm G [.ref (ad 2), .int a1] (zc_al G ad q) sz) (zc_Qv G (zc_al G ad r0) (va_A (zc_al G ad q) sz)) 0 0 (va_A (zc_al G ad q) sz) := by
  refine Met.ofW (cc := cX0_remove) (maxL := 3) (ret := none) (by decide) rfl ?_
  intro p e s m args below meth c s₁ B hml hv
  obtain ⟨rfl, hsz, hP, hK, hD0⟩ := hv
  have hx := B.exec
  have hb := B.bytes
  have hr := B.returns
  have hts := atoms_spec (ws := wsX0_remove) B.pre
  have hown : s.vm.findClass RX0 = some m.cls := findClass_of_methodNamed B.named
  have hlocks := B.notSynchronized
  subst hsz
  have hD := hD0.self (sz := s.heap.size)
  generalize hAe : va_A (zc_al G ad q) s.heap.size = A at hD ⊢
  have hA : ∀ q : Nat, s.heap.size ≤ q → A q := fun q h => by rw [← hAe]; exact Or.inr h
  have hS : va_S A s.heap s.heap [] := va_S.rf
  have hl := lv_entry ([.ref (ad 2), .int a1]) (n := 3) (Nat.le_of_ble_eq_true rfl)
  rw [lg_entry_eq]
  generalize (lg_sl ([.ref (ad 2), .int a1]) ++ List.replicate (3 - (lg_sl ([.ref (ad 2), .int a1])).length) Slot.unset).toArray = ls at hl ⊢
  have hl : lv_has ls 3 [(0, .ref (ad 2)), (1, .int a1)] := hl
  have loop : ∀ (n : Nat) (q0 : zc_Q) (y1 : Int32) (y2 : Int32) (H : Heap) (locs : List Loc), va_P G.1 vwCl (zc_al G ad q0) H → va_D A (zc_al G ad q0) → va_S A s.heap H locs → ∀ (ls : Array Slot), lv_has ls 3 [(0, .ref (ad 2)), (1, .int y1), (2, .int y2)] → fX0_remove_L N n q0 y1 y2 = some r0 → W p l e (headSpec wsX0_remove ({ frames := 1, cells := 0, slots := 0, locals := 21 })).room s m ([.ref (ad 2), .int a1] : List Value).toArray below meth c H locs 0 0 (MQ below (zc_Qv G (zc_al G ad r0) A) ([.ref (ad 2), .int a1] : List Value).toArray s 0 0 A) (F0 m 21 ls []) := by
    intro n
    induction n with
    | zero =>
      intro q0 y1 y2 H locs hP hD hS ls hl hF
      cases hF
    | succ n ih =>
      intro q0 y1 y2 H locs hP hD hS ls hl hF
      rw [fX0_remove_L] at hF
      refine lv_iload_n hx hb dX0_remove_21 rfl (lv_at hl 2 rfl) ?_
      refine lv_aload_n hx hb dX0_remove_22 rfl (lv_at hl 0 rfl) ?_
      refine va_get (D := G.1) (ci := 0) (C := RX0) (T := TX0) (N := 5) hx hb hts iX0_remove_X0 hown hK.1 hP 0 rfl rfl 0 (by decide) (hts (.fieldLink RX0 9 "BoardClock$Alarms" "count" "I") (List.mem_of_getElem? (i := 1) rfl)) (fun _ h9 => h9) rfl dX0_remove_23 ?_
      refine lv_icmp_ge (tgt := 99) hx hb dX0_remove_26 (by decide) (fun c4 => ?_) (fun c4 => ?_)
      · have hF := zc_pos c4 hF
        obtain rfl := Option.some.inj hF
        exact W.vret hx hb hr (fun t ht hW => ⟨⟨(), rfl, trivial, zc_hp ht hP⟩, hS.F ht⟩) hS.2.2 dX0_remove_99
      · have hF := zc_neg c4 hF
        refine lv_iload_n hx hb dX0_remove_29 rfl (lv_at hl 2 rfl) ?_
        refine lv_iconst (v := (1 : Int32)) hx hb dX0_remove_30 (by decide) ?_
        refine lv_iadd hx hb dX0_remove_31 ?_
        refine lv_bipush (v := (6 : Int32)) hx hb dX0_remove_32 (by decide) ?_
        refine lv_icmp_ge (tgt := 99) hx hb dX0_remove_34 (by decide) (fun c5 => ?_) (fun c5 => ?_)
        · have hF := zc_pos c5 hF
          obtain rfl := Option.some.inj hF
          exact W.vret hx hb hr (fun t ht hW => ⟨⟨(), rfl, trivial, zc_hp ht hP⟩, hS.F ht⟩) hS.2.2 dX0_remove_99
        · have hF := zc_neg c5 hF
          refine lv_aload_n hx hb dX0_remove_37 rfl (lv_at hl 0 rfl) ?_
          refine va_get (D := G.1) (ci := 0) (C := RX0) (T := TX0) (N := 5) hx hb hts iX0_remove_X0 hown hK.1 hP 0 rfl rfl 1 (by decide) (hts (.fieldLink RX0 15 "BoardClock$Alarms" "minutes" "[I") (List.mem_of_getElem? (i := 2) rfl)) (fun _ h9 => h9) rfl dX0_remove_38 ?_
          refine lv_iload_n hx hb dX0_remove_41 rfl (lv_at hl 2 rfl) ?_
          refine lv_aload_n hx hb dX0_remove_42 rfl (lv_at hl 0 rfl) ?_
          refine va_get (D := G.1) (ci := 0) (C := RX0) (T := TX0) (N := 5) hx hb hts iX0_remove_X0 hown hK.1 hP 0 rfl rfl 1 (by decide) (hts (.fieldLink RX0 15 "BoardClock$Alarms" "minutes" "[I") (List.mem_of_getElem? (i := 2) rfl)) (fun _ h9 => h9) rfl dX0_remove_43 ?_
          refine lv_iload_n hx hb dX0_remove_46 rfl (lv_at hl 2 rfl) ?_
          refine lv_iconst (v := (1 : Int32)) hx hb dX0_remove_47 (by decide) ?_
          refine lv_iadd hx hb dX0_remove_48 ?_
          obtain ⟨hi6, hF⟩ := zc_inE hF
          refine zc_iald hx hb hK.1 hP 1 0 rfl rfl hi6 rfl dX0_remove_49 ?_
          obtain ⟨hi7, hF⟩ := zc_inE hF
          refine zc_iast hx hb hK.1 hP hD hS 1 0 rfl rfl hi7 rfl dX0_remove_50 (fun H locs hP hS => ?_)
          obtain ⟨q8, eq8, hF⟩ := zc_letX hF
          have hP : va_P G.1 vwCl (zc_al G ad q8) H := by rw [eq8]; exact hP
          have hD : va_D A (zc_al G ad q8) := zc_Ds hD rfl
          refine lv_aload_n hx hb dX0_remove_51 rfl (lv_at hl 0 rfl) ?_
          refine va_get (D := G.1) (ci := 0) (C := RX0) (T := TX0) (N := 5) hx hb hts iX0_remove_X0 hown hK.1 hP 0 rfl rfl 2 (by decide) (hts (.fieldLink RX0 19 "BoardClock$Alarms" "hours" "[I") (List.mem_of_getElem? (i := 3) rfl)) (fun _ h9 => h9) rfl dX0_remove_52 ?_
          refine lv_iload_n hx hb dX0_remove_55 rfl (lv_at hl 2 rfl) ?_
          refine lv_aload_n hx hb dX0_remove_56 rfl (lv_at hl 0 rfl) ?_
          refine va_get (D := G.1) (ci := 0) (C := RX0) (T := TX0) (N := 5) hx hb hts iX0_remove_X0 hown hK.1 hP 0 rfl rfl 2 (by decide) (hts (.fieldLink RX0 19 "BoardClock$Alarms" "hours" "[I") (List.mem_of_getElem? (i := 3) rfl)) (fun _ h9 => h9) rfl dX0_remove_57 ?_
          refine lv_iload_n hx hb dX0_remove_60 rfl (lv_at hl 2 rfl) ?_
          refine lv_iconst (v := (1 : Int32)) hx hb dX0_remove_61 (by decide) ?_
          refine lv_iadd hx hb dX0_remove_62 ?_
          obtain ⟨hi9, hF⟩ := zc_inE hF
          refine zc_iald hx hb hK.1 hP 2 0 rfl rfl hi9 rfl dX0_remove_63 ?_
          obtain ⟨hi10, hF⟩ := zc_inE hF
          refine zc_iast hx hb hK.1 hP hD hS 2 0 rfl rfl hi10 rfl dX0_remove_64 (fun H locs hP hS => ?_)
          obtain ⟨q11, eq11, hF⟩ := zc_letX hF
          have hP : va_P G.1 vwCl (zc_al G ad q11) H := by rw [eq11]; exact hP
          have hD : va_D A (zc_al G ad q11) := zc_Ds hD rfl
          refine lv_aload_n hx hb dX0_remove_65 rfl (lv_at hl 0 rfl) ?_
          refine va_get (D := G.1) (ci := 0) (C := RX0) (T := TX0) (N := 5) hx hb hts iX0_remove_X0 hown hK.1 hP 0 rfl rfl 3 (by decide) (hts (.fieldLink RX0 22 "BoardClock$Alarms" "weekdays" "[I") (List.mem_of_getElem? (i := 4) rfl)) (fun _ h9 => h9) rfl dX0_remove_66 ?_
          refine lv_iload_n hx hb dX0_remove_69 rfl (lv_at hl 2 rfl) ?_
          refine lv_aload_n hx hb dX0_remove_70 rfl (lv_at hl 0 rfl) ?_
          refine va_get (D := G.1) (ci := 0) (C := RX0) (T := TX0) (N := 5) hx hb hts iX0_remove_X0 hown hK.1 hP 0 rfl rfl 3 (by decide) (hts (.fieldLink RX0 22 "BoardClock$Alarms" "weekdays" "[I") (List.mem_of_getElem? (i := 4) rfl)) (fun _ h9 => h9) rfl dX0_remove_71 ?_
          refine lv_iload_n hx hb dX0_remove_74 rfl (lv_at hl 2 rfl) ?_
          refine lv_iconst (v := (1 : Int32)) hx hb dX0_remove_75 (by decide) ?_
          refine lv_iadd hx hb dX0_remove_76 ?_
          obtain ⟨hi12, hF⟩ := zc_inE hF
          refine zc_iald hx hb hK.1 hP 3 0 rfl rfl hi12 rfl dX0_remove_77 ?_
          obtain ⟨hi13, hF⟩ := zc_inE hF
          refine zc_iast hx hb hK.1 hP hD hS 3 0 rfl rfl hi13 rfl dX0_remove_78 (fun H locs hP hS => ?_)
          obtain ⟨q14, eq14, hF⟩ := zc_letX hF
          have hP : va_P G.1 vwCl (zc_al G ad q14) H := by rw [eq14]; exact hP
          have hD : va_D A (zc_al G ad q14) := zc_Ds hD rfl
          refine lv_aload_n hx hb dX0_remove_79 rfl (lv_at hl 0 rfl) ?_
          refine va_get (D := G.1) (ci := 0) (C := RX0) (T := TX0) (N := 5) hx hb hts iX0_remove_X0 hown hK.1 hP 0 rfl rfl 4 (by decide) (hts (.fieldLink RX0 25 "BoardClock$Alarms" "rung" "[I") (List.mem_of_getElem? (i := 5) rfl)) (fun _ h9 => h9) rfl dX0_remove_80 ?_
          refine lv_iload_n hx hb dX0_remove_83 rfl (lv_at hl 2 rfl) ?_
          refine lv_aload_n hx hb dX0_remove_84 rfl (lv_at hl 0 rfl) ?_
          refine va_get (D := G.1) (ci := 0) (C := RX0) (T := TX0) (N := 5) hx hb hts iX0_remove_X0 hown hK.1 hP 0 rfl rfl 4 (by decide) (hts (.fieldLink RX0 25 "BoardClock$Alarms" "rung" "[I") (List.mem_of_getElem? (i := 5) rfl)) (fun _ h9 => h9) rfl dX0_remove_85 ?_
          refine lv_iload_n hx hb dX0_remove_88 rfl (lv_at hl 2 rfl) ?_
          refine lv_iconst (v := (1 : Int32)) hx hb dX0_remove_89 (by decide) ?_
          refine lv_iadd hx hb dX0_remove_90 ?_
          obtain ⟨hi15, hF⟩ := zc_inE hF
          refine zc_iald hx hb hK.1 hP 4 0 rfl rfl hi15 rfl dX0_remove_91 ?_
          obtain ⟨hi16, hF⟩ := zc_inE hF
          refine zc_iast hx hb hK.1 hP hD hS 4 0 rfl rfl hi16 rfl dX0_remove_92 (fun H locs hP hS => ?_)
          obtain ⟨q17, eq17, hF⟩ := zc_letX hF
          have hP : va_P G.1 vwCl (zc_al G ad q17) H := by rw [eq17]; exact hP
          have hD : va_D A (zc_al G ad q17) := zc_Ds hD rfl
          obtain ⟨x18, ex18⟩ : ∃ y : Int32, y = y2 + (1 : Int32) := ⟨_, rfl⟩
          have hF := zc_letE ex18 hF
          refine lv_iinc (v := x18) (lv' := [(2, .int x18), (0, .ref (ad 2)), (1, .int y1)]) hx hb dX0_remove_93 hl (k := 2) rfl (by rw [ex18]; rfl) (by decide) rfl (fun ls hl => ?_)
          refine lv_goto (tgt := 21) hx hb dX0_remove_96 (by decide) ?_
          exact ih q17 y1 x18 H locs hP hD hS ls (lv_sub hl [1, 2, 0] rfl) hF
  refine lv_aload_n hx hb dX0_remove_0 rfl (lv_at hl 0 rfl) ?_
  refine lv_iload_n hx hb dX0_remove_1 rfl (lv_at hl 1 rfl) ?_
  obtain ⟨r1, er1, hF⟩ := zc_bind hF
  refine zc_ci (va_runV (As := [.int _]) ⟨hx, hb, hml, hown, hts⟩ (kX0_has l G ad er1) (cwV 1 hts gX0_remove_X0_has rfl rfl rfl (by decide +kernel) ⟨Nat.le_of_ble_eq_true rfl, Nat.le_of_ble_eq_true rfl⟩) (zc_preV hK hP 0 rfl rfl) rfl rfl hl.1 rfl (lv_room (Nat.le_of_ble_eq_true rfl)) dX0_remove_2 ⟨Nat.le_of_ble_eq_true rfl, Nat.le_of_ble_eq_true rfl⟩) ?_
  refine lv_if_ne (tgt := 9) hx hb dX0_remove_5 (by decide) (fun c2 => ?_) (fun c2 => ?_)
  · have hF := zc_neg c2 hF
    refine lv_aload_n hx hb dX0_remove_9 rfl (lv_at hl 0 rfl) ?_
    refine lv_dup hx hb dX0_remove_10 rfl ?_
    refine va_get (D := G.1) (ci := 0) (C := RX0) (T := TX0) (N := 5) hx hb hts iX0_remove_X0 hown hK.1 hP 0 rfl rfl 0 (by decide) (hts (.fieldLink RX0 9 "BoardClock$Alarms" "count" "I") (List.mem_of_getElem? (i := 1) rfl)) (fun _ h9 => h9) rfl dX0_remove_11 ?_
    refine lv_iconst (v := (1 : Int32)) hx hb dX0_remove_14 (by decide) ?_
    refine lv_isub hx hb dX0_remove_15 ?_
    refine va_put (D := G.1) (ci := 0) (v := .int ((q.1) - (1 : Int32))) (ty := .int) (C := RX0) (T := TX0) (N := 5) hx hb hts iX0_remove_X0 tyX0 tyX0_ok nmX0 hown hK.1 hP hD hS 0 rfl rfl 0 (by decide) (hts (.fieldLink RX0 9 "BoardClock$Alarms" "count" "I") (List.mem_of_getElem? (i := 1) rfl)) (fun _ h9 => h9) rfl (by decide +kernel) rfl rfl (Nat.le_of_ble_eq_true rfl) dX0_remove_16 (fun H locs hP _ hS => ?_)
    obtain ⟨q3, eq3, hF⟩ := zc_letX hF
    have hP : va_P G.1 vwCl (zc_al G ad q3) H := by rw [eq3]; exact hP
    have hD : va_D A (zc_al G ad q3) := zc_Ds hD rfl
    refine lv_iload_n hx hb dX0_remove_19 rfl (lv_at hl 1 rfl) ?_
    refine lv_istore_n (lv' := [(2, .int a1), (0, .ref (ad 2)), (1, .int a1)]) hx hb dX0_remove_20 rfl hl (by decide) rfl (fun ls hl => ?_)
    exact loop N q3 a1 a1 _ _ hP hD hS ls (lv_sub hl [1, 2, 0] rfl) hF
  · have hF := zc_pos c2 hF
    obtain rfl := Option.some.inj hF
    exact W.vret hx hb hr (fun t ht hW => ⟨⟨(), rfl, trivial, zc_hp ht hP⟩, hS.F ht⟩) hS.2.2 dX0_remove_8
def fX0_ring_L (N : Nat) : Nat → zc_Q → Int64 → Int64 → Int32 → Int32 → Option (Int32 × zc_Q)
  | 0, _, _, _, _, _ => none
  | n + 1, q0, y1, y3, y5, y6 => if (q0.1) ≤ y6 then (some (y5, q0)) else (if (6 : Int32) ≤ y6 then (some (y5, q0)) else (Option.bind (fX0_countFitting q0 y6 y1 y3) fun (r3 : Int32) => if r3 ≤ 0 then (zc_let (y6 + (1 : Int32)) fun (x5 : Int32) => fX0_ring_L N n q0 y1 y3 y5 x5) else (zc_let (y5 ||| ((1 : Int32) <<< (y6 &&& 31))) fun (x6 : Int32) => zc_in y6 6 (zc_in y6 6 (zc_let (zc_qa q0 3 y6.toNatClampNeg (if (99999 : Int32) < ((q0.2 3 y6.toNatClampNeg) + r3) then (99999 : Int32) else ((q0.2 3 y6.toNatClampNeg) + r3))) fun (q9 : zc_Q) => zc_let (y6 + (1 : Int32)) fun (x10 : Int32) => fX0_ring_L N n q9 y1 y3 x6 x10)))))
def fX0_ring (N : Nat) (q : zc_Q) (a1 : Int64) (a2 : Int64) : Option (Int32 × zc_Q) := fX0_ring_L N N q a1 a2 (0 : Int32) (0 : Int32)
theorem iX0_ring_X0 : ∀ w ∈ wsX00, w ∈ wsX0_ring := fun _ h => List.mem_cons_of_mem _ (List.mem_append_right _ h)
set_option maxHeartbeats 4000000 in
set_option maxRecDepth 100000 in
theorem kX0_ring (l : Launch) (G : zc_G) (ad : Nat → Nat) (sz : Nat) {N : Nat} {q : zc_Q} {a1 : Int64} {a2 : Int64} {r0 : Int32 × zc_Q} (hF : fX0_ring N q a1 a2 = some r0) : Met l yX0_ring wsX0_ring ({ frames := 3, cells := 0, slots := 0, locals := 81 }) (zc_Pm G [.ref (ad 2), .long a1, .long a2] (zc_al G ad q) sz) (zc_Qi G r0.1 (zc_al G ad r0.2) (va_A (zc_al G ad q) sz)) 0 0 (va_A (zc_al G ad q) sz) := by
  refine Met.ofW (cc := cX0_ring) (maxL := 8) (ret := (some .int)) (by decide) rfl ?_
  intro p e s m args below meth c s₁ B hml hv
  obtain ⟨rfl, hsz, hP, hK, hD0⟩ := hv
  have hx := B.exec
  have hb := B.bytes
  have hr := B.returns
  have hts := atoms_spec (ws := wsX0_ring) B.pre
  have hown : s.vm.findClass RX0 = some m.cls := findClass_of_methodNamed B.named
  have hlocks := B.notSynchronized
  subst hsz
  have hD := hD0.self (sz := s.heap.size)
  generalize hAe : va_A (zc_al G ad q) s.heap.size = A at hD ⊢
  have hA : ∀ q : Nat, s.heap.size ≤ q → A q := fun q h => by rw [← hAe]; exact Or.inr h
  have hS : va_S A s.heap s.heap [] := va_S.rf
  have hl := lv_entry ([.ref (ad 2), .long a1, .long a2]) (n := 8) (Nat.le_of_ble_eq_true rfl)
  rw [lg_entry_eq]
  generalize (lg_sl ([.ref (ad 2), .long a1, .long a2]) ++ List.replicate (8 - (lg_sl ([.ref (ad 2), .long a1, .long a2])).length) Slot.unset).toArray = ls at hl ⊢
  have hl : lv_has ls 8 [(0, .ref (ad 2)), (1, .long a1), (3, .long a2)] := hl
  have loop : ∀ (n : Nat) (q0 : zc_Q) (y1 : Int64) (y3 : Int64) (y5 : Int32) (y6 : Int32) (H : Heap) (locs : List Loc), va_P G.1 vwCl (zc_al G ad q0) H → va_D A (zc_al G ad q0) → va_S A s.heap H locs → ∀ (ls : Array Slot), lv_has ls 8 [(0, .ref (ad 2)), (1, .long y1), (3, .long y3), (5, .int y5), (6, .int y6)] → fX0_ring_L N n q0 y1 y3 y5 y6 = some r0 → W p l e (headSpec wsX0_ring ({ frames := 3, cells := 0, slots := 0, locals := 81 })).room s m ([.ref (ad 2), .long a1, .long a2] : List Value).toArray below meth c H locs 0 0 (MQ below (zc_Qi G r0.1 (zc_al G ad r0.2) A) ([.ref (ad 2), .long a1, .long a2] : List Value).toArray s 0 0 A) (F0 m 6 ls []) := by
    intro n
    induction n with
    | zero =>
      intro q0 y1 y3 y5 y6 H locs hP hD hS ls hl hF
      cases hF
    | succ n ih =>
      intro q0 y1 y3 y5 y6 H locs hP hD hS ls hl hF
      rw [fX0_ring_L] at hF
      refine lv_iload hx hb dX0_ring_6 (lv_at hl 4 rfl) ?_
      refine lv_aload_n hx hb dX0_ring_8 rfl (lv_at hl 0 rfl) ?_
      refine va_get (D := G.1) (ci := 0) (C := RX0) (T := TX0) (N := 5) hx hb hts iX0_ring_X0 hown hK.1 hP 0 rfl rfl 0 (by decide) (hts (.fieldLink RX0 9 "BoardClock$Alarms" "count" "I") (List.mem_of_getElem? (i := 1) rfl)) (fun _ h9 => h9) rfl dX0_ring_9 ?_
      refine lv_icmp_ge (tgt := 74) hx hb dX0_ring_12 (by decide) (fun c1 => ?_) (fun c1 => ?_)
      · have hF := zc_pos c1 hF
        refine lv_iload hx hb dX0_ring_74 (lv_at hl 3 rfl) ?_
        obtain rfl := Option.some.inj hF
        exact W.iret hx hb hr (fun t ht hW => ⟨⟨_, (), rfl, rfl, zc_hp ht hP⟩, hS.F ht⟩) hS.2.2 dX0_ring_76
      · have hF := zc_neg c1 hF
        refine lv_iload hx hb dX0_ring_15 (lv_at hl 4 rfl) ?_
        refine lv_bipush (v := (6 : Int32)) hx hb dX0_ring_17 (by decide) ?_
        refine lv_icmp_ge (tgt := 74) hx hb dX0_ring_19 (by decide) (fun c2 => ?_) (fun c2 => ?_)
        · have hF := zc_pos c2 hF
          refine lv_iload hx hb dX0_ring_74 (lv_at hl 3 rfl) ?_
          obtain rfl := Option.some.inj hF
          exact W.iret hx hb hr (fun t ht hW => ⟨⟨_, (), rfl, rfl, zc_hp ht hP⟩, hS.F ht⟩) hS.2.2 dX0_ring_76
        · have hF := zc_neg c2 hF
          refine lv_aload_n hx hb dX0_ring_22 rfl (lv_at hl 0 rfl) ?_
          refine lv_iload hx hb dX0_ring_23 (lv_at hl 4 rfl) ?_
          refine lv_lload_n hx hb dX0_ring_25 rfl (lv_at hl 1 rfl) ?_
          refine lv_lload_n hx hb dX0_ring_26 rfl (lv_at hl 2 rfl) ?_
          obtain ⟨r3, er3, hF⟩ := zc_bind hF
          refine zc_ci (va_runV (As := [.int _, .long _, .long _]) ⟨hx, hb, hml, hown, hts⟩ (kX0_countFitting l G ad er3) (cwV 3 hts gX0_ring_X0_countFitting rfl rfl rfl (by decide +kernel) ⟨Nat.le_of_ble_eq_true rfl, Nat.le_of_ble_eq_true rfl⟩) (zc_preV hK hP 0 rfl rfl) rfl rfl hl.1 rfl (lv_room (Nat.le_of_ble_eq_true rfl)) dX0_ring_27 ⟨Nat.le_of_ble_eq_true rfl, Nat.le_of_ble_eq_true rfl⟩) ?_
          refine lv_istore (lv' := [(7, .int r3), (0, .ref (ad 2)), (1, .long y1), (3, .long y3), (5, .int y5), (6, .int y6)]) hx hb dX0_ring_30 hl (by decide) rfl (fun ls hl => ?_)
          refine lv_iload hx hb dX0_ring_32 (lv_at hl 0 rfl) ?_
          refine lv_if_le (tgt := 68) hx hb dX0_ring_34 (by decide) (fun c4 => ?_) (fun c4 => ?_)
          · have hF := zc_pos c4 hF
            obtain ⟨x5, ex5⟩ : ∃ y : Int32, y = y6 + (1 : Int32) := ⟨_, rfl⟩
            have hF := zc_letE ex5 hF
            refine lv_iinc (v := x5) (lv' := [(6, .int x5), (7, .int r3), (0, .ref (ad 2)), (1, .long y1), (3, .long y3), (5, .int y5)]) hx hb dX0_ring_68 hl (k := 5) rfl (by rw [ex5]; rfl) (by decide) rfl (fun ls hl => ?_)
            refine lv_goto (tgt := 6) hx hb dX0_ring_71 (by decide) ?_
            exact ih q0 y1 y3 y5 x5 H locs hP hD hS ls (lv_sub hl [2, 3, 4, 5, 0] rfl) hF
          · have hF := zc_neg c4 hF
            refine lv_iload hx hb dX0_ring_37 (lv_at hl 4 rfl) ?_
            refine lv_iconst (v := (1 : Int32)) hx hb dX0_ring_39 (by decide) ?_
            refine lv_iload hx hb dX0_ring_40 (lv_at hl 5 rfl) ?_
            refine lv_ishl hx hb dX0_ring_42 ?_
            refine lv_ior hx hb dX0_ring_43 ?_
            refine lv_topi (fun x6 ex6 => ?_)
            have hF := zc_letE ex6 hF
            refine lv_istore (lv' := [(5, .int x6), (7, .int r3), (0, .ref (ad 2)), (1, .long y1), (3, .long y3), (6, .int y6)]) hx hb dX0_ring_44 hl (by decide) rfl (fun ls hl => ?_)
            refine lv_aload_n hx hb dX0_ring_46 rfl (lv_at hl 2 rfl) ?_
            refine va_get (D := G.1) (ci := 0) (C := RX0) (T := TX0) (N := 5) hx hb hts iX0_ring_X0 hown hK.1 hP 0 rfl rfl 4 (by decide) (hts (.fieldLink RX0 25 "BoardClock$Alarms" "rung" "[I") (List.mem_of_getElem? (i := 2) rfl)) (fun _ h9 => h9) rfl dX0_ring_47 ?_
            refine lv_iload hx hb dX0_ring_50 (lv_at hl 5 rfl) ?_
            refine lv_aload_n hx hb dX0_ring_52 rfl (lv_at hl 2 rfl) ?_
            refine va_get (D := G.1) (ci := 0) (C := RX0) (T := TX0) (N := 5) hx hb hts iX0_ring_X0 hown hK.1 hP 0 rfl rfl 4 (by decide) (hts (.fieldLink RX0 25 "BoardClock$Alarms" "rung" "[I") (List.mem_of_getElem? (i := 2) rfl)) (fun _ h9 => h9) rfl dX0_ring_53 ?_
            refine lv_iload hx hb dX0_ring_56 (lv_at hl 5 rfl) ?_
            obtain ⟨hi7, hF⟩ := zc_inE hF
            refine zc_iald hx hb hK.1 hP 4 0 rfl rfl hi7 rfl dX0_ring_58 ?_
            refine lv_iload hx hb dX0_ring_59 (lv_at hl 1 rfl) ?_
            refine lv_iadd hx hb dX0_ring_61 ?_
            refine lv_ldc hx hb hown (hts (.constant RX0 43 (99999)) (List.mem_of_getElem? (i := 3) rfl)) dX0_ring_62 ?_
            refine va_mmin hx hb (hml.trans hl.1.symm) hown (hts (.methodLink RX0 44 Lib.Math.min.name) (List.mem_of_getElem? (i := 4) rfl)) (hts (.static Lib.Math.min.name) (List.mem_of_getElem? (i := 5) rfl)) (hts (.initialized "java/lang/Math") (List.mem_of_getElem? (i := 6) rfl)) (hts (.code Lib.Math.min.name Lib.Math.min.code 2 (some .int)) (List.mem_of_getElem? (i := 7) rfl)) (Nat.le_of_ble_eq_true rfl) (Nat.le_of_ble_eq_true rfl) (Nat.zero_le _) (Nat.zero_le _) dX0_ring_64 ?_
            obtain ⟨hi8, hF⟩ := zc_inE hF
            refine zc_iast hx hb hK.1 hP hD hS 4 0 rfl rfl hi8 rfl dX0_ring_67 (fun H locs hP hS => ?_)
            obtain ⟨q9, eq9, hF⟩ := zc_letX hF
            have hP : va_P G.1 vwCl (zc_al G ad q9) H := by rw [eq9]; exact hP
            have hD : va_D A (zc_al G ad q9) := zc_Ds hD rfl
            obtain ⟨x10, ex10⟩ : ∃ y : Int32, y = y6 + (1 : Int32) := ⟨_, rfl⟩
            have hF := zc_letE ex10 hF
            refine lv_iinc (v := x10) (lv' := [(6, .int x10), (5, .int x6), (7, .int r3), (0, .ref (ad 2)), (1, .long y1), (3, .long y3)]) hx hb dX0_ring_68 hl (k := 5) rfl (by rw [ex10]; rfl) (by decide) rfl (fun ls hl => ?_)
            refine lv_goto (tgt := 6) hx hb dX0_ring_71 (by decide) ?_
            exact ih q9 y1 y3 x6 x10 H locs hP hD hS ls (lv_sub hl [3, 4, 5, 1, 0] rfl) hF
  refine lv_iconst (v := (0 : Int32)) hx hb dX0_ring_0 (by decide) ?_
  refine lv_istore (lv' := [(5, .int (0 : Int32)), (0, .ref (ad 2)), (1, .long a1), (3, .long a2)]) hx hb dX0_ring_1 hl (by decide) rfl (fun ls hl => ?_)
  refine lv_iconst (v := (0 : Int32)) hx hb dX0_ring_3 (by decide) ?_
  refine lv_istore (lv' := [(6, .int (0 : Int32)), (5, .int (0 : Int32)), (0, .ref (ad 2)), (1, .long a1), (3, .long a2)]) hx hb dX0_ring_4 hl (by decide) rfl (fun ls hl => ?_)
  exact loop N q a1 a2 (0 : Int32) (0 : Int32) _ _ hP hD hS ls (lv_sub hl [2, 3, 4, 1, 0] rfl) hF
def fX0_copyFrom (q : zc_Q) (w : zc_Q) : Option (zc_Q) := zc_let (zc_qn q (w.1)) fun (q1 : zc_Q) => zc_let (zc_qf q1 0 (va_cpy (w.2 0) (q1.2 0) 0 0 6)) fun (q2 : zc_Q) => zc_let (zc_qf q2 1 (va_cpy (w.2 1) (q2.2 1) 0 0 6)) fun (q3 : zc_Q) => zc_let (zc_qf q3 2 (va_cpy (w.2 2) (q3.2 2) 0 0 6)) fun (q4 : zc_Q) => zc_let (zc_qf q4 3 (va_cpy (w.2 3) (q4.2 3) 0 0 6)) fun (q5 : zc_Q) => some q5
theorem iX0_copyFrom_X0 : ∀ w ∈ wsX00, w ∈ wsX0_copyFrom := fun _ h => List.mem_cons_of_mem _ (List.mem_append_right _ h)
set_option maxHeartbeats 4000000 in
set_option maxRecDepth 100000 in
theorem kX0_copyFrom (l : Launch) (G : zc_G) (ad ae : Nat → Nat) (sz : Nat) {q : zc_Q} {w : zc_Q} {r0 : zc_Q} (hF : fX0_copyFrom q w = some r0) : Met l yX0_copyFrom wsX0_copyFrom ({ frames := 1, cells := 0, slots := 0, locals := 60 }) (zc_Pm G [.ref (ad 2), .ref (ae 2)] (zc_al G ad q ++ zc_al G ae w) sz) (zc_Qv G (zc_al G ad r0 ++ zc_al G ae w) (va_A (zc_al G ad q ++ zc_al G ae w) sz)) 0 0 (va_A (zc_al G ad q ++ zc_al G ae w) sz) := by
  refine Met.ofW (cc := cX0_copyFrom) (maxL := 2) (ret := none) (by decide) rfl ?_
  intro p e s m args below meth c s₁ B hml hv
  obtain ⟨rfl, hsz, hP, hK, hD0⟩ := hv
  have hx := B.exec
  have hb := B.bytes
  have hr := B.returns
  have hts := atoms_spec (ws := wsX0_copyFrom) B.pre
  have hown : s.vm.findClass RX0 = some m.cls := findClass_of_methodNamed B.named
  have hlocks := B.notSynchronized
  subst hsz
  have hD := hD0.self (sz := s.heap.size)
  generalize hAe : va_A (zc_al G ad q ++ zc_al G ae w) s.heap.size = A at hD ⊢
  have hA : ∀ q : Nat, s.heap.size ≤ q → A q := fun q h => by rw [← hAe]; exact Or.inr h
  have hS : va_S A s.heap s.heap [] := va_S.rf
  have hl := lv_entry ([.ref (ad 2), .ref (ae 2)]) (n := 2) (Nat.le_of_ble_eq_true rfl)
  rw [lg_entry_eq]
  generalize (lg_sl ([.ref (ad 2), .ref (ae 2)]) ++ List.replicate (2 - (lg_sl ([.ref (ad 2), .ref (ae 2)])).length) Slot.unset).toArray = ls at hl ⊢
  have hl : lv_has ls 2 [(0, .ref (ad 2)), (1, .ref (ae 2))] := hl
  refine lv_aload_n hx hb dX0_copyFrom_0 rfl (lv_at hl 0 rfl) ?_
  refine lv_aload_n hx hb dX0_copyFrom_1 rfl (lv_at hl 1 rfl) ?_
  refine va_get (D := G.1) (ci := 0) (C := RX0) (T := TX0) (N := 5) hx hb hts iX0_copyFrom_X0 hown hK.1 hP 5 rfl rfl 0 (by decide) (hts (.fieldLink RX0 9 "BoardClock$Alarms" "count" "I") (List.mem_of_getElem? (i := 1) rfl)) (fun _ h9 => h9) rfl dX0_copyFrom_2 ?_
  refine va_put (D := G.1) (ci := 0) (v := .int (w.1)) (ty := .int) (C := RX0) (T := TX0) (N := 5) hx hb hts iX0_copyFrom_X0 tyX0 tyX0_ok nmX0 hown hK.1 hP hD hS 0 rfl rfl 0 (by decide) (hts (.fieldLink RX0 9 "BoardClock$Alarms" "count" "I") (List.mem_of_getElem? (i := 1) rfl)) (fun _ h9 => h9) rfl (by decide +kernel) rfl rfl (Nat.le_of_ble_eq_true rfl) dX0_copyFrom_5 (fun H locs hP _ hS => ?_)
  obtain ⟨q1, eq1, hF⟩ := zc_letX hF
  have hP : va_P G.1 vwCl (zc_al G ad q1 ++ zc_al G ae w) H := by rw [eq1]; exact hP
  have hD : va_D A (zc_al G ad q1 ++ zc_al G ae w) := zc_Ds hD rfl
  refine lv_aload_n hx hb dX0_copyFrom_8 rfl (lv_at hl 1 rfl) ?_
  refine va_get (D := G.1) (ci := 0) (C := RX0) (T := TX0) (N := 5) hx hb hts iX0_copyFrom_X0 hown hK.1 hP 5 rfl rfl 1 (by decide) (hts (.fieldLink RX0 15 "BoardClock$Alarms" "minutes" "[I") (List.mem_of_getElem? (i := 2) rfl)) (fun _ h9 => h9) rfl dX0_copyFrom_9 ?_
  refine lv_iconst (v := (0 : Int32)) hx hb dX0_copyFrom_12 (by decide) ?_
  refine lv_aload_n hx hb dX0_copyFrom_13 rfl (lv_at hl 0 rfl) ?_
  refine va_get (D := G.1) (ci := 0) (C := RX0) (T := TX0) (N := 5) hx hb hts iX0_copyFrom_X0 hown hK.1 hP 0 rfl rfl 1 (by decide) (hts (.fieldLink RX0 15 "BoardClock$Alarms" "minutes" "[I") (List.mem_of_getElem? (i := 2) rfl)) (fun _ h9 => h9) rfl dX0_copyFrom_14 ?_
  refine lv_iconst (v := (0 : Int32)) hx hb dX0_copyFrom_17 (by decide) ?_
  refine lv_bipush (v := (6 : Int32)) hx hb dX0_copyFrom_18 (by decide) ?_
  refine va_copyi hx hb (hml.trans hl.1.symm) hown (hts (.methodLink RX0 28 arraycopyName) (List.mem_of_getElem? (i := 3) rfl)) (hts (.native arraycopyName) (List.mem_of_getElem? (i := 4) rfl)) (hts (.static arraycopyName) (List.mem_of_getElem? (i := 5) rfl)) (hts (.initialized "java/lang/System") (List.mem_of_getElem? (i := 6) rfl)) hK.1 hP hD hS 6 1 0 0 rfl rfl rfl rfl rfl (by decide) (by decide) (by decide) (by decide) (by decide) (fun _ _ => rfl) (Nat.le_of_ble_eq_true rfl) (by decide +kernel) dX0_copyFrom_20 (fun H locs hP _ hS => ?_)
  obtain ⟨q2, eq2, hF⟩ := zc_letX hF
  have hP : va_P G.1 vwCl (zc_al G ad q2 ++ zc_al G ae w) H := by rw [eq2]; exact hP
  have hD : va_D A (zc_al G ad q2 ++ zc_al G ae w) := zc_Ds hD rfl
  refine lv_aload_n hx hb dX0_copyFrom_23 rfl (lv_at hl 1 rfl) ?_
  refine va_get (D := G.1) (ci := 0) (C := RX0) (T := TX0) (N := 5) hx hb hts iX0_copyFrom_X0 hown hK.1 hP 5 rfl rfl 2 (by decide) (hts (.fieldLink RX0 19 "BoardClock$Alarms" "hours" "[I") (List.mem_of_getElem? (i := 7) rfl)) (fun _ h9 => h9) rfl dX0_copyFrom_24 ?_
  refine lv_iconst (v := (0 : Int32)) hx hb dX0_copyFrom_27 (by decide) ?_
  refine lv_aload_n hx hb dX0_copyFrom_28 rfl (lv_at hl 0 rfl) ?_
  refine va_get (D := G.1) (ci := 0) (C := RX0) (T := TX0) (N := 5) hx hb hts iX0_copyFrom_X0 hown hK.1 hP 0 rfl rfl 2 (by decide) (hts (.fieldLink RX0 19 "BoardClock$Alarms" "hours" "[I") (List.mem_of_getElem? (i := 7) rfl)) (fun _ h9 => h9) rfl dX0_copyFrom_29 ?_
  refine lv_iconst (v := (0 : Int32)) hx hb dX0_copyFrom_32 (by decide) ?_
  refine lv_bipush (v := (6 : Int32)) hx hb dX0_copyFrom_33 (by decide) ?_
  refine va_copyi hx hb (hml.trans hl.1.symm) hown (hts (.methodLink RX0 28 arraycopyName) (List.mem_of_getElem? (i := 3) rfl)) (hts (.native arraycopyName) (List.mem_of_getElem? (i := 4) rfl)) (hts (.static arraycopyName) (List.mem_of_getElem? (i := 5) rfl)) (hts (.initialized "java/lang/System") (List.mem_of_getElem? (i := 6) rfl)) hK.1 hP hD hS 7 2 0 0 rfl rfl rfl rfl rfl (by decide) (by decide) (by decide) (by decide) (by decide) (fun _ _ => rfl) (Nat.le_of_ble_eq_true rfl) (by decide +kernel) dX0_copyFrom_35 (fun H locs hP _ hS => ?_)
  obtain ⟨q3, eq3, hF⟩ := zc_letX hF
  have hP : va_P G.1 vwCl (zc_al G ad q3 ++ zc_al G ae w) H := by rw [eq3]; exact hP
  have hD : va_D A (zc_al G ad q3 ++ zc_al G ae w) := zc_Ds hD rfl
  refine lv_aload_n hx hb dX0_copyFrom_38 rfl (lv_at hl 1 rfl) ?_
  refine va_get (D := G.1) (ci := 0) (C := RX0) (T := TX0) (N := 5) hx hb hts iX0_copyFrom_X0 hown hK.1 hP 5 rfl rfl 3 (by decide) (hts (.fieldLink RX0 22 "BoardClock$Alarms" "weekdays" "[I") (List.mem_of_getElem? (i := 8) rfl)) (fun _ h9 => h9) rfl dX0_copyFrom_39 ?_
  refine lv_iconst (v := (0 : Int32)) hx hb dX0_copyFrom_42 (by decide) ?_
  refine lv_aload_n hx hb dX0_copyFrom_43 rfl (lv_at hl 0 rfl) ?_
  refine va_get (D := G.1) (ci := 0) (C := RX0) (T := TX0) (N := 5) hx hb hts iX0_copyFrom_X0 hown hK.1 hP 0 rfl rfl 3 (by decide) (hts (.fieldLink RX0 22 "BoardClock$Alarms" "weekdays" "[I") (List.mem_of_getElem? (i := 8) rfl)) (fun _ h9 => h9) rfl dX0_copyFrom_44 ?_
  refine lv_iconst (v := (0 : Int32)) hx hb dX0_copyFrom_47 (by decide) ?_
  refine lv_bipush (v := (6 : Int32)) hx hb dX0_copyFrom_48 (by decide) ?_
  refine va_copyi hx hb (hml.trans hl.1.symm) hown (hts (.methodLink RX0 28 arraycopyName) (List.mem_of_getElem? (i := 3) rfl)) (hts (.native arraycopyName) (List.mem_of_getElem? (i := 4) rfl)) (hts (.static arraycopyName) (List.mem_of_getElem? (i := 5) rfl)) (hts (.initialized "java/lang/System") (List.mem_of_getElem? (i := 6) rfl)) hK.1 hP hD hS 8 3 0 0 rfl rfl rfl rfl rfl (by decide) (by decide) (by decide) (by decide) (by decide) (fun _ _ => rfl) (Nat.le_of_ble_eq_true rfl) (by decide +kernel) dX0_copyFrom_50 (fun H locs hP _ hS => ?_)
  obtain ⟨q4, eq4, hF⟩ := zc_letX hF
  have hP : va_P G.1 vwCl (zc_al G ad q4 ++ zc_al G ae w) H := by rw [eq4]; exact hP
  have hD : va_D A (zc_al G ad q4 ++ zc_al G ae w) := zc_Ds hD rfl
  refine lv_aload_n hx hb dX0_copyFrom_53 rfl (lv_at hl 1 rfl) ?_
  refine va_get (D := G.1) (ci := 0) (C := RX0) (T := TX0) (N := 5) hx hb hts iX0_copyFrom_X0 hown hK.1 hP 5 rfl rfl 4 (by decide) (hts (.fieldLink RX0 25 "BoardClock$Alarms" "rung" "[I") (List.mem_of_getElem? (i := 9) rfl)) (fun _ h9 => h9) rfl dX0_copyFrom_54 ?_
  refine lv_iconst (v := (0 : Int32)) hx hb dX0_copyFrom_57 (by decide) ?_
  refine lv_aload_n hx hb dX0_copyFrom_58 rfl (lv_at hl 0 rfl) ?_
  refine va_get (D := G.1) (ci := 0) (C := RX0) (T := TX0) (N := 5) hx hb hts iX0_copyFrom_X0 hown hK.1 hP 0 rfl rfl 4 (by decide) (hts (.fieldLink RX0 25 "BoardClock$Alarms" "rung" "[I") (List.mem_of_getElem? (i := 9) rfl)) (fun _ h9 => h9) rfl dX0_copyFrom_59 ?_
  refine lv_iconst (v := (0 : Int32)) hx hb dX0_copyFrom_62 (by decide) ?_
  refine lv_bipush (v := (6 : Int32)) hx hb dX0_copyFrom_63 (by decide) ?_
  refine va_copyi hx hb (hml.trans hl.1.symm) hown (hts (.methodLink RX0 28 arraycopyName) (List.mem_of_getElem? (i := 3) rfl)) (hts (.native arraycopyName) (List.mem_of_getElem? (i := 4) rfl)) (hts (.static arraycopyName) (List.mem_of_getElem? (i := 5) rfl)) (hts (.initialized "java/lang/System") (List.mem_of_getElem? (i := 6) rfl)) hK.1 hP hD hS 9 4 0 0 rfl rfl rfl rfl rfl (by decide) (by decide) (by decide) (by decide) (by decide) (fun _ _ => rfl) (Nat.le_of_ble_eq_true rfl) (by decide +kernel) dX0_copyFrom_65 (fun H locs hP _ hS => ?_)
  obtain ⟨q5, eq5, hF⟩ := zc_letX hF
  have hP : va_P G.1 vwCl (zc_al G ad q5 ++ zc_al G ae w) H := by rw [eq5]; exact hP
  have hD : va_D A (zc_al G ad q5 ++ zc_al G ae w) := zc_Ds hD rfl
  obtain rfl := Option.some.inj hF
  exact W.vret hx hb hr (fun t ht hW => ⟨⟨(), rfl, trivial, zc_hp ht hP⟩, hS.F ht⟩) hS.2.2 dX0_copyFrom_68
