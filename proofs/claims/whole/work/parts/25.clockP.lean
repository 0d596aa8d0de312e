def fX2_firstWrong_L (N : Nat) : Nat → zc_B → Int64 → Int32 → Option (Int32)
  | 0, _, _, _ => none
  | n + 1, b, y1, y3 => if (b.1 3) ≤ y3 then (some (-1 : Int32)) else (if (20 : Int32) ≤ y3 then (some (-1 : Int32)) else (zc_in y3 20 (if (lg_cmp ((b.2.1 2 y3.toNatClampNeg)).toInt64 y1) = 0 then (zc_let (y3 + (1 : Int32)) fun (x6 : Int32) => fX2_firstWrong_L N n b y1 x6) else (some y3))))
def fX2_firstWrong (N : Nat) (b : zc_B) : Option (Int32) := Option.bind (fX1_minuteNumber b.2.2.1) fun (r1 : Int64) => fX2_firstWrong_L N N b r1 (0 : Int32)
theorem iX2_firstWrong_X2 : ∀ w ∈ wsX20, w ∈ wsX2_firstWrong := fun _ h => List.mem_cons_of_mem _ (List.mem_append_left _ (List.mem_append_right _ h))
set_option maxHeartbeats 4000000 in
set_option maxRecDepth 100000 in
theorem kX2_firstWrong (l : Launch) (G : zc_G) (ba na : Nat → Nat) (pa : Nat → Nat → Nat) {N : Nat} {b : zc_B} {r0 : Int32} (hF : fX2_firstWrong N b = some r0) : Met l yX2_firstWrong wsX2_firstWrong ({ frames := 1, cells := 0, slots := 0, locals := 20 }) (zc_Pp G [.ref (ba 0)] (zc_bc G ba na pa b)) (vp_Si (fun r => r = r0)) 0 0 (fun _ => False) := by
  refine Met.ofW (cc := cX2_firstWrong) (maxL := 4) (ret := (some .int)) (by decide) rfl ?_
  intro p e s m args below meth c s₁ B hml hv
  obtain ⟨rfl, hP, hK⟩ := hv
  have hx := B.exec
  have hb := B.bytes
  have hr := B.returns
  have hts := atoms_spec (ws := wsX2_firstWrong) B.pre
  have hown : s.vm.findClass RX2 = some m.cls := findClass_of_methodNamed B.named
  have hlocks := B.notSynchronized
  have hl := lv_entry ([.ref (ba 0)]) (n := 4) (Nat.le_of_ble_eq_true rfl)
  rw [lg_entry_eq]
  generalize (lg_sl ([.ref (ba 0)]) ++ List.replicate (4 - (lg_sl ([.ref (ba 0)])).length) Slot.unset).toArray = ls at hl ⊢
  have hl : lv_has ls 4 [(0, .ref (ba 0))] := hl
  have loop : ∀ (n : Nat) (y1 : Int64) (y3 : Int32) (ls : Array Slot), lv_has ls 4 [(0, .ref (ba 0)), (1, .long y1), (3, .int y3)] → fX2_firstWrong_L N n b y1 y3 = some r0 → W p l e (headSpec wsX2_firstWrong ({ frames := 1, cells := 0, slots := 0, locals := 20 })).room s m ([.ref (ba 0)] : List Value).toArray below meth c s.heap [] 0 0 (MQ below (vp_Si (fun r => r = r0)) ([.ref (ba 0)] : List Value).toArray s 0 0 (fun _ => False)) (F0 m 10 ls []) := by
    intro n
    induction n with
    | zero =>
      intro y1 y3 ls hl hF
      cases hF
    | succ n ih =>
      intro y1 y3 ls hl hF
      rw [fX2_firstWrong_L] at hF
      refine lv_iload_n hx hb dX2_firstWrong_10 rfl (lv_at hl 2 rfl) ?_
      refine lv_aload_n hx hb dX2_firstWrong_11 rfl (lv_at hl 0 rfl) ?_
      refine va_get (D := G.1) (ci := 2) (C := RX2) (T := TX2) (N := 10) hx hb hts iX2_firstWrong_X2 hown hK.1 hP 0 rfl rfl 9 (by decide) (hts (.fieldLink RX2 44 "BoardClock" "entries" "I") (List.mem_of_getElem? (i := 2) rfl)) (fun _ h9 => h9) rfl dX2_firstWrong_12 ?_
      refine lv_icmp_ge (tgt := 44) hx hb dX2_firstWrong_15 (by decide) (fun c2 => ?_) (fun c2 => ?_)
      · have hF := zc_pos c2 hF
        refine lv_iconst (v := (-1 : Int32)) hx hb dX2_firstWrong_44 (by decide) ?_
        exact W.iret hx hb hr (fun t ht hW => ⟨_, rfl, Option.some.inj hF, ht⟩) (fun _ h => by cases h) dX2_firstWrong_45
      · have hF := zc_neg c2 hF
        refine lv_iload_n hx hb dX2_firstWrong_18 rfl (lv_at hl 2 rfl) ?_
        refine lv_bipush (v := (20 : Int32)) hx hb dX2_firstWrong_19 (by decide) ?_
        refine lv_icmp_ge (tgt := 44) hx hb dX2_firstWrong_21 (by decide) (fun c3 => ?_) (fun c3 => ?_)
        · have hF := zc_pos c3 hF
          refine lv_iconst (v := (-1 : Int32)) hx hb dX2_firstWrong_44 (by decide) ?_
          exact W.iret hx hb hr (fun t ht hW => ⟨_, rfl, Option.some.inj hF, ht⟩) (fun _ h => by cases h) dX2_firstWrong_45
        · have hF := zc_neg c3 hF
          refine lv_aload_n hx hb dX2_firstWrong_24 rfl (lv_at hl 0 rfl) ?_
          refine va_get (D := G.1) (ci := 2) (C := RX2) (T := TX2) (N := 10) hx hb hts iX2_firstWrong_X2 hown hK.1 hP 0 rfl rfl 8 (by decide) (hts (.fieldLink RX2 41 "BoardClock" "book" "[I") (List.mem_of_getElem? (i := 3) rfl)) (fun _ h9 => h9) rfl dX2_firstWrong_25 ?_
          refine lv_iload_n hx hb dX2_firstWrong_28 rfl (lv_at hl 2 rfl) ?_
          obtain ⟨hi4, hF⟩ := zc_inE hF
          refine zc_iald hx hb hK.1 hP 5 0 rfl rfl hi4 rfl dX2_firstWrong_29 ?_
          refine lv_i2l hx hb dX2_firstWrong_30 rfl ?_
          refine lv_lload_n hx hb dX2_firstWrong_31 rfl (lv_at hl 1 rfl) ?_
          refine W.lcmp hx hb dX2_firstWrong_32 ?_
          refine lv_if_eq (tgt := 38) hx hb dX2_firstWrong_33 (by decide) (fun c5 => ?_) (fun c5 => ?_)
          · have hF := zc_pos c5 hF
            obtain ⟨x6, ex6⟩ : ∃ y : Int32, y = y3 + (1 : Int32) := ⟨_, rfl⟩
            have hF := zc_letE ex6 hF
            refine lv_iinc (v := x6) (lv' := [(3, .int x6), (0, .ref (ba 0)), (1, .long y1)]) hx hb dX2_firstWrong_38 hl (k := 2) rfl (by rw [ex6]; rfl) (by decide) rfl (fun ls hl => ?_)
            refine lv_goto (tgt := 10) hx hb dX2_firstWrong_41 (by decide) ?_
            exact ih y1 x6 ls (lv_sub hl [1, 2, 0] rfl) hF
          · have hF := zc_neg c5 hF
            refine lv_iload_n hx hb dX2_firstWrong_36 rfl (lv_at hl 2 rfl) ?_
            exact W.iret hx hb hr (fun t ht hW => ⟨_, rfl, Option.some.inj hF, ht⟩) (fun _ h => by cases h) dX2_firstWrong_37
  refine lv_aload_n hx hb dX2_firstWrong_0 rfl (lv_at hl 0 rfl) ?_
  refine va_get (D := G.1) (ci := 2) (C := RX2) (T := TX2) (N := 10) hx hb hts iX2_firstWrong_X2 hown hK.1 hP 0 rfl rfl 0 (by decide) (hts (.fieldLink RX2 10 "BoardClock" "now" "LBoardClock$State;") (List.mem_of_getElem? (i := 1) rfl)) (fun _ h9 => h9) rfl dX2_firstWrong_1 ?_
  obtain ⟨r1, er1, hF⟩ := zc_bind hF
  refine zc_cl (va_runV (As := []) ⟨hx, hb, hml, hown, hts⟩ (kX1_minuteNumber l G na er1) (cwV 0 hts gX2_firstWrong_X1_minuteNumber rfl rfl rfl (by decide +kernel) ⟨Nat.le_of_ble_eq_true rfl, Nat.le_of_ble_eq_true rfl⟩) (zc_preV hK (hP.sub (ws' := zc_st G na b.2.2.1) [6, 7, 8, 9, 10, 11, 12] rfl) 0 rfl rfl) rfl rfl hl.1 rfl (lv_room (Nat.le_of_ble_eq_true rfl)) dX2_firstWrong_4 ⟨Nat.le_of_ble_eq_true rfl, Nat.le_of_ble_eq_true rfl⟩) ?_
  refine lv_lstore_n (lv' := [(1, .long r1), (0, .ref (ba 0))]) hx hb dX2_firstWrong_7 rfl hl (by decide) rfl (fun ls hl => ?_)
  refine lv_iconst (v := (0 : Int32)) hx hb dX2_firstWrong_8 (by decide) ?_
  refine lv_istore_n (lv' := [(3, .int (0 : Int32)), (1, .long r1), (0, .ref (ba 0))]) hx hb dX2_firstWrong_9 rfl hl (by decide) rfl (fun ls hl => ?_)
  exact loop N r1 (0 : Int32) ls (lv_sub hl [2, 1, 0] rfl) hF
def fX2_told (N : Nat) (b : zc_B) (a1 : Int32) : Option (Int32) := if a1 = (0 : Int32) then (some ((b.2.2.1.2.1 3) + (20 : Int32))) else (if a1 = (1 : Int32) then (Option.bind (fX2_spanOf (b.2.2.1.2.1 3)) fun (r3 : Int32) => some r3) else (if a1 = (2 : Int32) then (Option.bind (fX1_offAt b.2.2.1 (b.2.2.1.2.1 3)) fun (r5 : Int32) => some (r5 + (10000 : Int32))) else (if a1 = (3 : Int32) then (some (b.2.2.1.2.1 7)) else (if a1 = (4 : Int32) then (if (lg_cmp (b.2.2.1.1 2) (0 : Int64)) = 0 then (Option.bind (fX2_asInt (1 : Int32)) fun (r10 : Int32) => some r10) else (Option.bind (fX2_asInt (0 : Int32)) fun (r9 : Int32) => some r9)) else (if a1 = (5 : Int32) then (some (b.2.2.1.2.1 9)) else (if a1 = (6 : Int32) then (some (b.2.2.1.2.1 8)) else (if a1 = (7 : Int32) then (some (b.2.2.1.2.1 10)) else (if a1 = (8 : Int32) then (Option.bind (fX2_asInt (b.2.2.1.2.1 11)) fun (r15 : Int32) => some r15) else (if a1 = (9 : Int32) then (some (b.2.2.1.2.1 13)) else (if a1 = (10 : Int32) then (some (b.2.2.1.2.1 12)) else (if a1 = (11 : Int32) then (Option.bind (fX1_isWithinBounds b.2.2.1) fun (r19 : Int32) => Option.bind (fX2_asInt r19) fun (r20 : Int32) => some r20) else (if a1 = (12 : Int32) then (some (b.2.2.1.2.2.2.1)) else (if a1 = (13 : Int32) then (Option.bind (fX0_totalRings N b.2.2.1.2.2.2) fun (r23 : Int32) => some r23) else (if a1 = (14 : Int32) then (Option.bind (fX1_ticksUntilDone b.2.2.1) fun (r25 : Int32) => some r25) else (if a1 = (15 : Int32) then (some (b.1 3)) else (if a1 = (16 : Int32) then (Option.bind (fX2_firstWrong N b) fun (r28 : Int32) => some r28) else (if a1 = (17 : Int32) then (some (b.1 2)) else (some (-1000000002 : Int32)))))))))))))))))))
theorem iX2_told_X0 : ∀ w ∈ wsX00, w ∈ wsX2_told := fun _ h => List.mem_cons_of_mem _ (List.mem_append_right _ h)
theorem iX2_told_X1 : ∀ w ∈ wsX10, w ∈ wsX2_told := fun _ h => List.mem_cons_of_mem _ (List.mem_append_left _ (List.mem_append_right _ h))
theorem iX2_told_X2 : ∀ w ∈ wsX20, w ∈ wsX2_told := fun _ h => List.mem_cons_of_mem _ (List.mem_append_left _ (List.mem_append_left _ (List.mem_append_right _ h)))
set_option maxHeartbeats 4000000 in
set_option maxRecDepth 100000 in
theorem kX2_told (l : Launch) (G : zc_G) (ba na : Nat → Nat) (pa : Nat → Nat → Nat) {N : Nat} {b : zc_B} {a1 : Int32} {r0 : Int32} (hF : fX2_told N b a1 = some r0) : Met l yX2_told wsX2_told ({ frames := 2, cells := 0, slots := 0, locals := 47 }) (zc_Pp G [.ref (ba 0), .int a1] (zc_bc G ba na pa b)) (vp_Si (fun r => r = r0)) 0 0 (fun _ => False) := by
  refine Met.ofW (cc := cX2_told) (maxL := 2) (ret := (some .int)) (by decide) rfl ?_
  intro p e s m args below meth c s₁ B hml hv
  obtain ⟨rfl, hP, hK⟩ := hv
  have hx := B.exec
  have hb := B.bytes
  have hr := B.returns
  have hts := atoms_spec (ws := wsX2_told) B.pre
  have hown : s.vm.findClass RX2 = some m.cls := findClass_of_methodNamed B.named
  have hlocks := B.notSynchronized
  have hl := lv_entry ([.ref (ba 0), .int a1]) (n := 2) (Nat.le_of_ble_eq_true rfl)
  rw [lg_entry_eq]
  generalize (lg_sl ([.ref (ba 0), .int a1]) ++ List.replicate (2 - (lg_sl ([.ref (ba 0), .int a1])).length) Slot.unset).toArray = ls at hl ⊢
  have hl : lv_has ls 2 [(0, .ref (ba 0)), (1, .int a1)] := hl
  refine lv_iload_n hx hb dX2_told_0 rfl (lv_at hl 1 rfl) ?_
  by_cases c1 : a1 = (0 : Int32)
  · have hF := zc_pos c1 hF
    refine W.eq (g2 := F0 m 1 ls [.int (0 : Int32)]) (by rw [c1]) ?_
    refine lv_tableIn (off := 87) (tgt := 88) hx hb dX2_told_1 (by decide) (by decide) (by decide) (by decide) ?_
    refine lv_aload_n hx hb dX2_told_88 rfl (lv_at hl 0 rfl) ?_
    refine va_get (D := G.1) (ci := 2) (C := RX2) (T := TX2) (N := 10) hx hb hts iX2_told_X2 hown hK.1 hP 0 rfl rfl 0 (by decide) (hts (.fieldLink RX2 10 "BoardClock" "now" "LBoardClock$State;") (List.mem_of_getElem? (i := 1) rfl)) (fun _ h9 => h9) rfl dX2_told_89 ?_
    refine va_get (D := G.1) (ci := 1) (C := RX1) (T := TX1) (N := 18) hx hb hts iX2_told_X1 hown hK.1 hP 6 rfl rfl 3 (by decide) (hts (.fieldLink RX2 47 "BoardClock$State" "warmth" "I") (List.mem_of_getElem? (i := 2) rfl)) (fun _ h9 => h9) rfl dX2_told_92 ?_
    refine lv_bipush (v := (20 : Int32)) hx hb dX2_told_95 (by decide) ?_
    refine lv_iadd hx hb dX2_told_97 ?_
    exact W.iret hx hb hr (fun t ht hW => ⟨_, rfl, Option.some.inj hF, ht⟩) (fun _ h => by cases h) dX2_told_98
  · have hF := zc_neg c1 hF
    by_cases c2 : a1 = (1 : Int32)
    · have hF := zc_pos c2 hF
      refine W.eq (g2 := F0 m 1 ls [.int (1 : Int32)]) (by rw [c2]) ?_
      refine lv_tableIn (off := 98) (tgt := 99) hx hb dX2_told_1 (by decide) (by decide) (by decide) (by decide) ?_
      refine lv_aload_n hx hb dX2_told_99 rfl (lv_at hl 0 rfl) ?_
      refine va_get (D := G.1) (ci := 2) (C := RX2) (T := TX2) (N := 10) hx hb hts iX2_told_X2 hown hK.1 hP 0 rfl rfl 0 (by decide) (hts (.fieldLink RX2 10 "BoardClock" "now" "LBoardClock$State;") (List.mem_of_getElem? (i := 1) rfl)) (fun _ h9 => h9) rfl dX2_told_100 ?_
      refine va_get (D := G.1) (ci := 1) (C := RX1) (T := TX1) (N := 18) hx hb hts iX2_told_X1 hown hK.1 hP 6 rfl rfl 3 (by decide) (hts (.fieldLink RX2 47 "BoardClock$State" "warmth" "I") (List.mem_of_getElem? (i := 2) rfl)) (fun _ h9 => h9) rfl dX2_told_103 ?_
      obtain ⟨r3, er3, hF⟩ := zc_bind hF
      refine zc_ci (va_runS (As := [.int _]) ⟨hx, hb, hml, hown, hts⟩ (kX2_spanOf l G er3) (va_cwS 1 hts gX2_told_X2_spanOf rfl rfl rfl (by decide +kernel) ⟨Nat.le_of_ble_eq_true rfl, Nat.le_of_ble_eq_true rfl⟩) (zc_preS hK (show va_P G.1 vwCl [] _ from fun k q h => by simp at h)) rfl rfl hl.1 rfl (lv_room (Nat.le_of_ble_eq_true rfl)) dX2_told_106 ⟨Nat.le_of_ble_eq_true rfl, Nat.le_of_ble_eq_true rfl⟩) ?_
      exact W.iret hx hb hr (fun t ht hW => ⟨_, rfl, Option.some.inj hF, ht⟩) (fun _ h => by cases h) dX2_told_109
    · have hF := zc_neg c2 hF
      by_cases c4 : a1 = (2 : Int32)
      · have hF := zc_pos c4 hF
        refine W.eq (g2 := F0 m 1 ls [.int (2 : Int32)]) (by rw [c4]) ?_
        refine lv_tableIn (off := 109) (tgt := 110) hx hb dX2_told_1 (by decide) (by decide) (by decide) (by decide) ?_
        refine lv_aload_n hx hb dX2_told_110 rfl (lv_at hl 0 rfl) ?_
        refine va_get (D := G.1) (ci := 2) (C := RX2) (T := TX2) (N := 10) hx hb hts iX2_told_X2 hown hK.1 hP 0 rfl rfl 0 (by decide) (hts (.fieldLink RX2 10 "BoardClock" "now" "LBoardClock$State;") (List.mem_of_getElem? (i := 1) rfl)) (fun _ h9 => h9) rfl dX2_told_111 ?_
        refine lv_aload_n hx hb dX2_told_114 rfl (lv_at hl 0 rfl) ?_
        refine va_get (D := G.1) (ci := 2) (C := RX2) (T := TX2) (N := 10) hx hb hts iX2_told_X2 hown hK.1 hP 0 rfl rfl 0 (by decide) (hts (.fieldLink RX2 10 "BoardClock" "now" "LBoardClock$State;") (List.mem_of_getElem? (i := 1) rfl)) (fun _ h9 => h9) rfl dX2_told_115 ?_
        refine va_get (D := G.1) (ci := 1) (C := RX1) (T := TX1) (N := 18) hx hb hts iX2_told_X1 hown hK.1 hP 6 rfl rfl 3 (by decide) (hts (.fieldLink RX2 47 "BoardClock$State" "warmth" "I") (List.mem_of_getElem? (i := 2) rfl)) (fun _ h9 => h9) rfl dX2_told_118 ?_
        obtain ⟨r5, er5, hF⟩ := zc_bind hF
        refine zc_ci (va_runV (As := [.int _]) ⟨hx, hb, hml, hown, hts⟩ (kX1_offAt l G na er5) (cwV 1 hts gX2_told_X1_offAt rfl rfl rfl (by decide +kernel) ⟨Nat.le_of_ble_eq_true rfl, Nat.le_of_ble_eq_true rfl⟩) (zc_preV hK (hP.sub (ws' := zc_st G na b.2.2.1) [6, 7, 8, 9, 10, 11, 12] rfl) 0 rfl rfl) rfl rfl hl.1 rfl (lv_room (Nat.le_of_ble_eq_true rfl)) dX2_told_121 ⟨Nat.le_of_ble_eq_true rfl, Nat.le_of_ble_eq_true rfl⟩) ?_
        refine lv_sipush (v := (10000 : Int32)) hx hb dX2_told_124 (by decide) ?_
        refine lv_iadd hx hb dX2_told_127 ?_
        exact W.iret hx hb hr (fun t ht hW => ⟨_, rfl, Option.some.inj hF, ht⟩) (fun _ h => by cases h) dX2_told_128
      · have hF := zc_neg c4 hF
        by_cases c6 : a1 = (3 : Int32)
        · have hF := zc_pos c6 hF
          refine W.eq (g2 := F0 m 1 ls [.int (3 : Int32)]) (by rw [c6]) ?_
          refine lv_tableIn (off := 128) (tgt := 129) hx hb dX2_told_1 (by decide) (by decide) (by decide) (by decide) ?_
          refine lv_aload_n hx hb dX2_told_129 rfl (lv_at hl 0 rfl) ?_
          refine va_get (D := G.1) (ci := 2) (C := RX2) (T := TX2) (N := 10) hx hb hts iX2_told_X2 hown hK.1 hP 0 rfl rfl 0 (by decide) (hts (.fieldLink RX2 10 "BoardClock" "now" "LBoardClock$State;") (List.mem_of_getElem? (i := 1) rfl)) (fun _ h9 => h9) rfl dX2_told_130 ?_
          refine va_get (D := G.1) (ci := 1) (C := RX1) (T := TX1) (N := 18) hx hb hts iX2_told_X1 hown hK.1 hP 6 rfl rfl 7 (by decide) (hts (.fieldLink RX2 57 "BoardClock$State" "rest" "I") (List.mem_of_getElem? (i := 3) rfl)) (fun _ h9 => h9) rfl dX2_told_133 ?_
          exact W.iret hx hb hr (fun t ht hW => ⟨_, rfl, Option.some.inj hF, ht⟩) (fun _ h => by cases h) dX2_told_136
        · have hF := zc_neg c6 hF
          by_cases c7 : a1 = (4 : Int32)
          · have hF := zc_pos c7 hF
            refine W.eq (g2 := F0 m 1 ls [.int (4 : Int32)]) (by rw [c7]) ?_
            refine lv_tableIn (off := 136) (tgt := 137) hx hb dX2_told_1 (by decide) (by decide) (by decide) (by decide) ?_
            refine lv_aload_n hx hb dX2_told_137 rfl (lv_at hl 0 rfl) ?_
            refine va_get (D := G.1) (ci := 2) (C := RX2) (T := TX2) (N := 10) hx hb hts iX2_told_X2 hown hK.1 hP 0 rfl rfl 0 (by decide) (hts (.fieldLink RX2 10 "BoardClock" "now" "LBoardClock$State;") (List.mem_of_getElem? (i := 1) rfl)) (fun _ h9 => h9) rfl dX2_told_138 ?_
            refine va_get (D := G.1) (ci := 1) (C := RX1) (T := TX1) (N := 18) hx hb hts iX2_told_X1 hown hK.1 hP 6 rfl rfl 2 (by decide) (hts (.fieldLink RX2 60 "BoardClock$State" "ahead" "J") (List.mem_of_getElem? (i := 4) rfl)) (fun _ h9 => h9) rfl dX2_told_141 ?_
            refine lv_lconst (v := (0 : Int64)) hx hb dX2_told_144 (by decide) ?_
            refine W.lcmp hx hb dX2_told_145 ?_
            refine lv_if_ne (tgt := 153) hx hb dX2_told_146 (by decide) (fun c8 => ?_) (fun c8 => ?_)
            · have hF := zc_neg c8 hF
              refine lv_iconst (v := (0 : Int32)) hx hb dX2_told_153 (by decide) ?_
              obtain ⟨r9, er9, hF⟩ := zc_bind hF
              refine zc_ci (va_runS (As := [.int _]) ⟨hx, hb, hml, hown, hts⟩ (kX2_asInt l G er9) (va_cwS 1 hts gX2_told_X2_asInt rfl rfl rfl (by decide +kernel) ⟨Nat.le_of_ble_eq_true rfl, Nat.le_of_ble_eq_true rfl⟩) (zc_preS hK (show va_P G.1 vwCl [] _ from fun k q h => by simp at h)) rfl rfl hl.1 rfl (lv_room (Nat.le_of_ble_eq_true rfl)) dX2_told_154 ⟨Nat.le_of_ble_eq_true rfl, Nat.le_of_ble_eq_true rfl⟩) ?_
              exact W.iret hx hb hr (fun t ht hW => ⟨_, rfl, Option.some.inj hF, ht⟩) (fun _ h => by cases h) dX2_told_157
            · have hF := zc_pos c8 hF
              refine lv_iconst (v := (1 : Int32)) hx hb dX2_told_149 (by decide) ?_
              refine lv_goto (tgt := 154) hx hb dX2_told_150 (by decide) ?_
              obtain ⟨r10, er10, hF⟩ := zc_bind hF
              refine zc_ci (va_runS (As := [.int _]) ⟨hx, hb, hml, hown, hts⟩ (kX2_asInt l G er10) (va_cwS 1 hts gX2_told_X2_asInt rfl rfl rfl (by decide +kernel) ⟨Nat.le_of_ble_eq_true rfl, Nat.le_of_ble_eq_true rfl⟩) (zc_preS hK (show va_P G.1 vwCl [] _ from fun k q h => by simp at h)) rfl rfl hl.1 rfl (lv_room (Nat.le_of_ble_eq_true rfl)) dX2_told_154 ⟨Nat.le_of_ble_eq_true rfl, Nat.le_of_ble_eq_true rfl⟩) ?_
              exact W.iret hx hb hr (fun t ht hW => ⟨_, rfl, Option.some.inj hF, ht⟩) (fun _ h => by cases h) dX2_told_157
          · have hF := zc_neg c7 hF
            by_cases c11 : a1 = (5 : Int32)
            · have hF := zc_pos c11 hF
              refine W.eq (g2 := F0 m 1 ls [.int (5 : Int32)]) (by rw [c11]) ?_
              refine lv_tableIn (off := 157) (tgt := 158) hx hb dX2_told_1 (by decide) (by decide) (by decide) (by decide) ?_
              refine lv_aload_n hx hb dX2_told_158 rfl (lv_at hl 0 rfl) ?_
              refine va_get (D := G.1) (ci := 2) (C := RX2) (T := TX2) (N := 10) hx hb hts iX2_told_X2 hown hK.1 hP 0 rfl rfl 0 (by decide) (hts (.fieldLink RX2 10 "BoardClock" "now" "LBoardClock$State;") (List.mem_of_getElem? (i := 1) rfl)) (fun _ h9 => h9) rfl dX2_told_159 ?_
              refine va_get (D := G.1) (ci := 1) (C := RX1) (T := TX1) (N := 18) hx hb hts iX2_told_X1 hown hK.1 hP 6 rfl rfl 9 (by decide) (hts (.fieldLink RX2 68 "BoardClock$State" "width" "I") (List.mem_of_getElem? (i := 5) rfl)) (fun _ h9 => h9) rfl dX2_told_162 ?_
              exact W.iret hx hb hr (fun t ht hW => ⟨_, rfl, Option.some.inj hF, ht⟩) (fun _ h => by cases h) dX2_told_165
            · have hF := zc_neg c11 hF
              by_cases c12 : a1 = (6 : Int32)
              · have hF := zc_pos c12 hF
                refine W.eq (g2 := F0 m 1 ls [.int (6 : Int32)]) (by rw [c12]) ?_
                refine lv_tableIn (off := 165) (tgt := 166) hx hb dX2_told_1 (by decide) (by decide) (by decide) (by decide) ?_
                refine lv_aload_n hx hb dX2_told_166 rfl (lv_at hl 0 rfl) ?_
                refine va_get (D := G.1) (ci := 2) (C := RX2) (T := TX2) (N := 10) hx hb hts iX2_told_X2 hown hK.1 hP 0 rfl rfl 0 (by decide) (hts (.fieldLink RX2 10 "BoardClock" "now" "LBoardClock$State;") (List.mem_of_getElem? (i := 1) rfl)) (fun _ h9 => h9) rfl dX2_told_167 ?_
                refine va_get (D := G.1) (ci := 1) (C := RX1) (T := TX1) (N := 18) hx hb hts iX2_told_X1 hown hK.1 hP 6 rfl rfl 8 (by decide) (hts (.fieldLink RX2 71 "BoardClock$State" "step" "I") (List.mem_of_getElem? (i := 6) rfl)) (fun _ h9 => h9) rfl dX2_told_170 ?_
                exact W.iret hx hb hr (fun t ht hW => ⟨_, rfl, Option.some.inj hF, ht⟩) (fun _ h => by cases h) dX2_told_173
              · have hF := zc_neg c12 hF
                by_cases c13 : a1 = (7 : Int32)
                · have hF := zc_pos c13 hF
                  refine W.eq (g2 := F0 m 1 ls [.int (7 : Int32)]) (by rw [c13]) ?_
                  refine lv_tableIn (off := 173) (tgt := 174) hx hb dX2_told_1 (by decide) (by decide) (by decide) (by decide) ?_
                  refine lv_aload_n hx hb dX2_told_174 rfl (lv_at hl 0 rfl) ?_
                  refine va_get (D := G.1) (ci := 2) (C := RX2) (T := TX2) (N := 10) hx hb hts iX2_told_X2 hown hK.1 hP 0 rfl rfl 0 (by decide) (hts (.fieldLink RX2 10 "BoardClock" "now" "LBoardClock$State;") (List.mem_of_getElem? (i := 1) rfl)) (fun _ h9 => h9) rfl dX2_told_175 ?_
                  refine va_get (D := G.1) (ci := 1) (C := RX1) (T := TX1) (N := 18) hx hb hts iX2_told_X1 hown hK.1 hP 6 rfl rfl 10 (by decide) (hts (.fieldLink RX2 74 "BoardClock$State" "wider" "I") (List.mem_of_getElem? (i := 7) rfl)) (fun _ h9 => h9) rfl dX2_told_178 ?_
                  exact W.iret hx hb hr (fun t ht hW => ⟨_, rfl, Option.some.inj hF, ht⟩) (fun _ h => by cases h) dX2_told_181
                · have hF := zc_neg c13 hF
                  by_cases c14 : a1 = (8 : Int32)
                  · have hF := zc_pos c14 hF
                    refine W.eq (g2 := F0 m 1 ls [.int (8 : Int32)]) (by rw [c14]) ?_
                    refine lv_tableIn (off := 181) (tgt := 182) hx hb dX2_told_1 (by decide) (by decide) (by decide) (by decide) ?_
                    refine lv_aload_n hx hb dX2_told_182 rfl (lv_at hl 0 rfl) ?_
                    refine va_get (D := G.1) (ci := 2) (C := RX2) (T := TX2) (N := 10) hx hb hts iX2_told_X2 hown hK.1 hP 0 rfl rfl 0 (by decide) (hts (.fieldLink RX2 10 "BoardClock" "now" "LBoardClock$State;") (List.mem_of_getElem? (i := 1) rfl)) (fun _ h9 => h9) rfl dX2_told_183 ?_
                    refine va_get (D := G.1) (ci := 1) (C := RX1) (T := TX1) (N := 18) hx hb hts iX2_told_X1 hown hK.1 hP 6 rfl rfl 11 (by decide) (hts (.fieldLink RX2 77 "BoardClock$State" "powered" "Z") (List.mem_of_getElem? (i := 8) rfl)) (fun _ h9 => h9) rfl dX2_told_186 ?_
                    obtain ⟨r15, er15, hF⟩ := zc_bind hF
                    refine zc_ci (va_runS (As := [.int _]) ⟨hx, hb, hml, hown, hts⟩ (kX2_asInt l G er15) (va_cwS 1 hts gX2_told_X2_asInt rfl rfl rfl (by decide +kernel) ⟨Nat.le_of_ble_eq_true rfl, Nat.le_of_ble_eq_true rfl⟩) (zc_preS hK (show va_P G.1 vwCl [] _ from fun k q h => by simp at h)) rfl rfl hl.1 rfl (lv_room (Nat.le_of_ble_eq_true rfl)) dX2_told_189 ⟨Nat.le_of_ble_eq_true rfl, Nat.le_of_ble_eq_true rfl⟩) ?_
                    exact W.iret hx hb hr (fun t ht hW => ⟨_, rfl, Option.some.inj hF, ht⟩) (fun _ h => by cases h) dX2_told_192
                  · have hF := zc_neg c14 hF
                    by_cases c16 : a1 = (9 : Int32)
                    · have hF := zc_pos c16 hF
                      refine W.eq (g2 := F0 m 1 ls [.int (9 : Int32)]) (by rw [c16]) ?_
                      refine lv_tableIn (off := 192) (tgt := 193) hx hb dX2_told_1 (by decide) (by decide) (by decide) (by decide) ?_
                      refine lv_aload_n hx hb dX2_told_193 rfl (lv_at hl 0 rfl) ?_
                      refine va_get (D := G.1) (ci := 2) (C := RX2) (T := TX2) (N := 10) hx hb hts iX2_told_X2 hown hK.1 hP 0 rfl rfl 0 (by decide) (hts (.fieldLink RX2 10 "BoardClock" "now" "LBoardClock$State;") (List.mem_of_getElem? (i := 1) rfl)) (fun _ h9 => h9) rfl dX2_told_194 ?_
                      refine va_get (D := G.1) (ci := 1) (C := RX1) (T := TX1) (N := 18) hx hb hts iX2_told_X1 hown hK.1 hP 6 rfl rfl 13 (by decide) (hts (.fieldLink RX2 81 "BoardClock$State" "ticks" "I") (List.mem_of_getElem? (i := 9) rfl)) (fun _ h9 => h9) rfl dX2_told_197 ?_
                      exact W.iret hx hb hr (fun t ht hW => ⟨_, rfl, Option.some.inj hF, ht⟩) (fun _ h => by cases h) dX2_told_200
                    · have hF := zc_neg c16 hF
                      by_cases c17 : a1 = (10 : Int32)
                      · have hF := zc_pos c17 hF
                        refine W.eq (g2 := F0 m 1 ls [.int (10 : Int32)]) (by rw [c17]) ?_
                        refine lv_tableIn (off := 200) (tgt := 201) hx hb dX2_told_1 (by decide) (by decide) (by decide) (by decide) ?_
                        refine lv_aload_n hx hb dX2_told_201 rfl (lv_at hl 0 rfl) ?_
                        refine va_get (D := G.1) (ci := 2) (C := RX2) (T := TX2) (N := 10) hx hb hts iX2_told_X2 hown hK.1 hP 0 rfl rfl 0 (by decide) (hts (.fieldLink RX2 10 "BoardClock" "now" "LBoardClock$State;") (List.mem_of_getElem? (i := 1) rfl)) (fun _ h9 => h9) rfl dX2_told_202 ?_
                        refine va_get (D := G.1) (ci := 1) (C := RX1) (T := TX1) (N := 18) hx hb hts iX2_told_X1 hown hK.1 hP 6 rfl rfl 12 (by decide) (hts (.fieldLink RX2 84 "BoardClock$State" "broken" "I") (List.mem_of_getElem? (i := 10) rfl)) (fun _ h9 => h9) rfl dX2_told_205 ?_
                        exact W.iret hx hb hr (fun t ht hW => ⟨_, rfl, Option.some.inj hF, ht⟩) (fun _ h => by cases h) dX2_told_208
                      · have hF := zc_neg c17 hF
                        by_cases c18 : a1 = (11 : Int32)
                        · have hF := zc_pos c18 hF
                          refine W.eq (g2 := F0 m 1 ls [.int (11 : Int32)]) (by rw [c18]) ?_
                          refine lv_tableIn (off := 208) (tgt := 209) hx hb dX2_told_1 (by decide) (by decide) (by decide) (by decide) ?_
                          refine lv_aload_n hx hb dX2_told_209 rfl (lv_at hl 0 rfl) ?_
                          refine va_get (D := G.1) (ci := 2) (C := RX2) (T := TX2) (N := 10) hx hb hts iX2_told_X2 hown hK.1 hP 0 rfl rfl 0 (by decide) (hts (.fieldLink RX2 10 "BoardClock" "now" "LBoardClock$State;") (List.mem_of_getElem? (i := 1) rfl)) (fun _ h9 => h9) rfl dX2_told_210 ?_
                          obtain ⟨r19, er19, hF⟩ := zc_bind hF
                          refine zc_ci (va_runV (As := []) ⟨hx, hb, hml, hown, hts⟩ (kX1_isWithinBounds l G na er19) (cwV 0 hts gX2_told_X1_isWithinBounds rfl rfl rfl (by decide +kernel) ⟨Nat.le_of_ble_eq_true rfl, Nat.le_of_ble_eq_true rfl⟩) (zc_preV hK (hP.sub (ws' := zc_st G na b.2.2.1) [6, 7, 8, 9, 10, 11, 12] rfl) 0 rfl rfl) rfl rfl hl.1 rfl (lv_room (Nat.le_of_ble_eq_true rfl)) dX2_told_213 ⟨Nat.le_of_ble_eq_true rfl, Nat.le_of_ble_eq_true rfl⟩) ?_
                          obtain ⟨r20, er20, hF⟩ := zc_bind hF
                          refine zc_ci (va_runS (As := [.int _]) ⟨hx, hb, hml, hown, hts⟩ (kX2_asInt l G er20) (va_cwS 1 hts gX2_told_X2_asInt rfl rfl rfl (by decide +kernel) ⟨Nat.le_of_ble_eq_true rfl, Nat.le_of_ble_eq_true rfl⟩) (zc_preS hK (show va_P G.1 vwCl [] _ from fun k q h => by simp at h)) rfl rfl hl.1 rfl (lv_room (Nat.le_of_ble_eq_true rfl)) dX2_told_216 ⟨Nat.le_of_ble_eq_true rfl, Nat.le_of_ble_eq_true rfl⟩) ?_
                          exact W.iret hx hb hr (fun t ht hW => ⟨_, rfl, Option.some.inj hF, ht⟩) (fun _ h => by cases h) dX2_told_219
                        · have hF := zc_neg c18 hF
                          by_cases c21 : a1 = (12 : Int32)
                          · have hF := zc_pos c21 hF
                            refine W.eq (g2 := F0 m 1 ls [.int (12 : Int32)]) (by rw [c21]) ?_
                            refine lv_tableIn (off := 219) (tgt := 220) hx hb dX2_told_1 (by decide) (by decide) (by decide) (by decide) ?_
                            refine lv_aload_n hx hb dX2_told_220 rfl (lv_at hl 0 rfl) ?_
                            refine va_get (D := G.1) (ci := 2) (C := RX2) (T := TX2) (N := 10) hx hb hts iX2_told_X2 hown hK.1 hP 0 rfl rfl 0 (by decide) (hts (.fieldLink RX2 10 "BoardClock" "now" "LBoardClock$State;") (List.mem_of_getElem? (i := 1) rfl)) (fun _ h9 => h9) rfl dX2_told_221 ?_
                            refine va_get (D := G.1) (ci := 1) (C := RX1) (T := TX1) (N := 18) hx hb hts iX2_told_X1 hown hK.1 hP 6 rfl rfl 17 (by decide) (hts (.fieldLink RX2 91 "BoardClock$State" "alarms" "LBoardClock$Alarms;") (List.mem_of_getElem? (i := 11) rfl)) (fun _ h9 => h9) rfl dX2_told_224 ?_
                            refine va_get (D := G.1) (ci := 0) (C := RX0) (T := TX0) (N := 5) hx hb hts iX2_told_X0 hown hK.1 hP 8 rfl rfl 0 (by decide) (hts (.fieldLink RX2 95 "BoardClock$Alarms" "count" "I") (List.mem_of_getElem? (i := 12) rfl)) (fun _ h9 => h9) rfl dX2_told_227 ?_
                            exact W.iret hx hb hr (fun t ht hW => ⟨_, rfl, Option.some.inj hF, ht⟩) (fun _ h => by cases h) dX2_told_230
                          · have hF := zc_neg c21 hF
                            by_cases c22 : a1 = (13 : Int32)
                            · have hF := zc_pos c22 hF
                              refine W.eq (g2 := F0 m 1 ls [.int (13 : Int32)]) (by rw [c22]) ?_
                              refine lv_tableIn (off := 230) (tgt := 231) hx hb dX2_told_1 (by decide) (by decide) (by decide) (by decide) ?_
                              refine lv_aload_n hx hb dX2_told_231 rfl (lv_at hl 0 rfl) ?_
                              refine va_get (D := G.1) (ci := 2) (C := RX2) (T := TX2) (N := 10) hx hb hts iX2_told_X2 hown hK.1 hP 0 rfl rfl 0 (by decide) (hts (.fieldLink RX2 10 "BoardClock" "now" "LBoardClock$State;") (List.mem_of_getElem? (i := 1) rfl)) (fun _ h9 => h9) rfl dX2_told_232 ?_
                              refine va_get (D := G.1) (ci := 1) (C := RX1) (T := TX1) (N := 18) hx hb hts iX2_told_X1 hown hK.1 hP 6 rfl rfl 17 (by decide) (hts (.fieldLink RX2 91 "BoardClock$State" "alarms" "LBoardClock$Alarms;") (List.mem_of_getElem? (i := 11) rfl)) (fun _ h9 => h9) rfl dX2_told_235 ?_
                              obtain ⟨r23, er23, hF⟩ := zc_bind hF
                              refine zc_ci (va_runV (As := []) ⟨hx, hb, hml, hown, hts⟩ (kX0_totalRings l G na er23) (cwV 0 hts gX2_told_X0_totalRings rfl rfl rfl (by decide +kernel) ⟨Nat.le_of_ble_eq_true rfl, Nat.le_of_ble_eq_true rfl⟩) (zc_preV hK (hP.sub (ws' := zc_al G na b.2.2.1.2.2.2) [8, 9, 10, 11, 12] rfl) 0 rfl rfl) rfl rfl hl.1 rfl (lv_room (Nat.le_of_ble_eq_true rfl)) dX2_told_238 ⟨Nat.le_of_ble_eq_true rfl, Nat.le_of_ble_eq_true rfl⟩) ?_
                              exact W.iret hx hb hr (fun t ht hW => ⟨_, rfl, Option.some.inj hF, ht⟩) (fun _ h => by cases h) dX2_told_241
                            · have hF := zc_neg c22 hF
                              by_cases c24 : a1 = (14 : Int32)
                              · have hF := zc_pos c24 hF
                                refine W.eq (g2 := F0 m 1 ls [.int (14 : Int32)]) (by rw [c24]) ?_
                                refine lv_tableIn (off := 241) (tgt := 242) hx hb dX2_told_1 (by decide) (by decide) (by decide) (by decide) ?_
                                refine lv_aload_n hx hb dX2_told_242 rfl (lv_at hl 0 rfl) ?_
                                refine va_get (D := G.1) (ci := 2) (C := RX2) (T := TX2) (N := 10) hx hb hts iX2_told_X2 hown hK.1 hP 0 rfl rfl 0 (by decide) (hts (.fieldLink RX2 10 "BoardClock" "now" "LBoardClock$State;") (List.mem_of_getElem? (i := 1) rfl)) (fun _ h9 => h9) rfl dX2_told_243 ?_
                                obtain ⟨r25, er25, hF⟩ := zc_bind hF
                                refine zc_ci (va_runV (As := []) ⟨hx, hb, hml, hown, hts⟩ (kX1_ticksUntilDone l G na er25) (cwV 0 hts gX2_told_X1_ticksUntilDone rfl rfl rfl (by decide +kernel) ⟨Nat.le_of_ble_eq_true rfl, Nat.le_of_ble_eq_true rfl⟩) (zc_preV hK (hP.sub (ws' := zc_st G na b.2.2.1) [6, 7, 8, 9, 10, 11, 12] rfl) 0 rfl rfl) rfl rfl hl.1 rfl (lv_room (Nat.le_of_ble_eq_true rfl)) dX2_told_246 ⟨Nat.le_of_ble_eq_true rfl, Nat.le_of_ble_eq_true rfl⟩) ?_
                                exact W.iret hx hb hr (fun t ht hW => ⟨_, rfl, Option.some.inj hF, ht⟩) (fun _ h => by cases h) dX2_told_249
                              · have hF := zc_neg c24 hF
                                by_cases c26 : a1 = (15 : Int32)
                                · have hF := zc_pos c26 hF
                                  refine W.eq (g2 := F0 m 1 ls [.int (15 : Int32)]) (by rw [c26]) ?_
                                  refine lv_tableIn (off := 249) (tgt := 250) hx hb dX2_told_1 (by decide) (by decide) (by decide) (by decide) ?_
                                  refine lv_aload_n hx hb dX2_told_250 rfl (lv_at hl 0 rfl) ?_
                                  refine va_get (D := G.1) (ci := 2) (C := RX2) (T := TX2) (N := 10) hx hb hts iX2_told_X2 hown hK.1 hP 0 rfl rfl 9 (by decide) (hts (.fieldLink RX2 44 "BoardClock" "entries" "I") (List.mem_of_getElem? (i := 13) rfl)) (fun _ h9 => h9) rfl dX2_told_251 ?_
                                  exact W.iret hx hb hr (fun t ht hW => ⟨_, rfl, Option.some.inj hF, ht⟩) (fun _ h => by cases h) dX2_told_254
                                · have hF := zc_neg c26 hF
                                  by_cases c27 : a1 = (16 : Int32)
                                  · have hF := zc_pos c27 hF
                                    refine W.eq (g2 := F0 m 1 ls [.int (16 : Int32)]) (by rw [c27]) ?_
                                    refine lv_tableIn (off := 254) (tgt := 255) hx hb dX2_told_1 (by decide) (by decide) (by decide) (by decide) ?_
                                    refine lv_aload_n hx hb dX2_told_255 rfl (lv_at hl 0 rfl) ?_
                                    obtain ⟨r28, er28, hF⟩ := zc_bind hF
                                    refine zc_ci (va_runV (As := []) ⟨hx, hb, hml, hown, hts⟩ (kX2_firstWrong l G ba na pa er28) (cwV 0 hts gX2_told_X2_firstWrong rfl rfl rfl (by decide +kernel) ⟨Nat.le_of_ble_eq_true rfl, Nat.le_of_ble_eq_true rfl⟩) (zc_preV hK hP 0 rfl rfl) rfl rfl hl.1 rfl (lv_room (Nat.le_of_ble_eq_true rfl)) dX2_told_256 ⟨Nat.le_of_ble_eq_true rfl, Nat.le_of_ble_eq_true rfl⟩) ?_
                                    exact W.iret hx hb hr (fun t ht hW => ⟨_, rfl, Option.some.inj hF, ht⟩) (fun _ h => by cases h) dX2_told_259
                                  · have hF := zc_neg c27 hF
                                    by_cases c29 : a1 = (17 : Int32)
                                    · have hF := zc_pos c29 hF
                                      refine W.eq (g2 := F0 m 1 ls [.int (17 : Int32)]) (by rw [c29]) ?_
                                      refine lv_tableIn (off := 259) (tgt := 260) hx hb dX2_told_1 (by decide) (by decide) (by decide) (by decide) ?_
                                      refine lv_aload_n hx hb dX2_told_260 rfl (lv_at hl 0 rfl) ?_
                                      refine va_get (D := G.1) (ci := 2) (C := RX2) (T := TX2) (N := 10) hx hb hts iX2_told_X2 hown hK.1 hP 0 rfl rfl 4 (by decide) (hts (.fieldLink RX2 27 "BoardClock" "undoable" "I") (List.mem_of_getElem? (i := 14) rfl)) (fun _ h9 => h9) rfl dX2_told_261 ?_
                                      exact W.iret hx hb hr (fun t ht hW => ⟨_, rfl, Option.some.inj hF, ht⟩) (fun _ h => by cases h) dX2_told_264
                                    · have hF := zc_neg c29 hF
                                      have t0_1 := lv_neT (a := 0) c1 (by decide)
                                      have t1_1 := lv_neT (a := 1) c2 (by decide)
                                      have t2_1 := lv_neT (a := 2) c4 (by decide)
                                      have t3_1 := lv_neT (a := 3) c6 (by decide)
                                      have t4_1 := lv_neT (a := 4) c7 (by decide)
                                      have t5_1 := lv_neT (a := 5) c11 (by decide)
                                      have t6_1 := lv_neT (a := 6) c12 (by decide)
                                      have t7_1 := lv_neT (a := 7) c13 (by decide)
                                      have t8_1 := lv_neT (a := 8) c14 (by decide)
                                      have t9_1 := lv_neT (a := 9) c16 (by decide)
                                      have t10_1 := lv_neT (a := 10) c17 (by decide)
                                      have t11_1 := lv_neT (a := 11) c18 (by decide)
                                      have t12_1 := lv_neT (a := 12) c21 (by decide)
                                      have t13_1 := lv_neT (a := 13) c22 (by decide)
                                      have t14_1 := lv_neT (a := 14) c24 (by decide)
                                      have t15_1 := lv_neT (a := 15) c26 (by decide)
                                      have t16_1 := lv_neT (a := 16) c27 (by decide)
                                      have t17_1 := lv_neT (a := 17) c29 (by decide)
                                      refine lv_tableOut (tgt := 265) hx hb dX2_told_1 (by omega) (by decide) ?_
                                      refine lv_ldc hx hb hown (hts (.constant RX2 110 (-1000000002)) (List.mem_of_getElem? (i := 15) rfl)) dX2_told_265 ?_
                                      exact W.iret hx hb hr (fun t ht hW => ⟨_, rfl, Option.some.inj hF, ht⟩) (fun _ h => by cases h) dX2_told_267
def fX2_time (b : zc_B) (a1 : Int32) : Option (Int64) := if a1 = (0 : Int32) then (some (b.2.2.1.1 0)) else (if a1 = (1 : Int32) then (some (b.2.2.1.1 1)) else (if a1 = (2 : Int32) then (Option.bind (fX1_aim b.2.2.1) fun (r4 : Int64) => some r4) else (some (-1 : Int64))))
theorem iX2_time_X1 : ∀ w ∈ wsX10, w ∈ wsX2_time := fun _ h => List.mem_cons_of_mem _ (List.mem_append_right _ h)
theorem iX2_time_X2 : ∀ w ∈ wsX20, w ∈ wsX2_time := fun _ h => List.mem_cons_of_mem _ (List.mem_append_left _ (List.mem_append_right _ h))
set_option maxHeartbeats 4000000 in
set_option maxRecDepth 100000 in
theorem kX2_time (l : Launch) (G : zc_G) (ba na : Nat → Nat) (pa : Nat → Nat → Nat) {b : zc_B} {a1 : Int32} {r0 : Int64} (hF : fX2_time b a1 = some r0) : Met l yX2_time wsX2_time ({ frames := 1, cells := 0, slots := 0, locals := 20 }) (zc_Pp G [.ref (ba 0), .int a1] (zc_bc G ba na pa b)) (vp_Sl (fun r => r = r0)) 0 0 (fun _ => False) := by
  refine Met.ofW (cc := cX2_time) (maxL := 2) (ret := (some .long)) (by decide) rfl ?_
  intro p e s m args below meth c s₁ B hml hv
  obtain ⟨rfl, hP, hK⟩ := hv
  have hx := B.exec
  have hb := B.bytes
  have hr := B.returns
  have hts := atoms_spec (ws := wsX2_time) B.pre
  have hown : s.vm.findClass RX2 = some m.cls := findClass_of_methodNamed B.named
  have hlocks := B.notSynchronized
  have hl := lv_entry ([.ref (ba 0), .int a1]) (n := 2) (Nat.le_of_ble_eq_true rfl)
  rw [lg_entry_eq]
  generalize (lg_sl ([.ref (ba 0), .int a1]) ++ List.replicate (2 - (lg_sl ([.ref (ba 0), .int a1])).length) Slot.unset).toArray = ls at hl ⊢
  have hl : lv_has ls 2 [(0, .ref (ba 0)), (1, .int a1)] := hl
  refine lv_iload_n hx hb dX2_time_0 rfl (lv_at hl 1 rfl) ?_
  by_cases c1 : a1 = (0 : Int32)
  · have hF := zc_pos c1 hF
    refine W.eq (g2 := F0 m 1 ls [.int (0 : Int32)]) (by rw [c1]) ?_
    refine lv_tableIn (off := 27) (tgt := 28) hx hb dX2_time_1 (by decide) (by decide) (by decide) (by decide) ?_
    refine lv_aload_n hx hb dX2_time_28 rfl (lv_at hl 0 rfl) ?_
    refine va_get (D := G.1) (ci := 2) (C := RX2) (T := TX2) (N := 10) hx hb hts iX2_time_X2 hown hK.1 hP 0 rfl rfl 0 (by decide) (hts (.fieldLink RX2 10 "BoardClock" "now" "LBoardClock$State;") (List.mem_of_getElem? (i := 1) rfl)) (fun _ h9 => h9) rfl dX2_time_29 ?_
    refine va_get (D := G.1) (ci := 1) (C := RX1) (T := TX1) (N := 18) hx hb hts iX2_time_X1 hown hK.1 hP 6 rfl rfl 0 (by decide) (hts (.fieldLink RX2 111 "BoardClock$State" "trueTime" "J") (List.mem_of_getElem? (i := 2) rfl)) (fun _ h9 => h9) rfl dX2_time_32 ?_
    exact W.lret hx hb hr (fun t ht hW => ⟨_, rfl, Option.some.inj hF, ht⟩) (fun _ h => by cases h) dX2_time_35
  · have hF := zc_neg c1 hF
    by_cases c2 : a1 = (1 : Int32)
    · have hF := zc_pos c2 hF
      refine W.eq (g2 := F0 m 1 ls [.int (1 : Int32)]) (by rw [c2]) ?_
      refine lv_tableIn (off := 35) (tgt := 36) hx hb dX2_time_1 (by decide) (by decide) (by decide) (by decide) ?_
      refine lv_aload_n hx hb dX2_time_36 rfl (lv_at hl 0 rfl) ?_
      refine va_get (D := G.1) (ci := 2) (C := RX2) (T := TX2) (N := 10) hx hb hts iX2_time_X2 hown hK.1 hP 0 rfl rfl 0 (by decide) (hts (.fieldLink RX2 10 "BoardClock" "now" "LBoardClock$State;") (List.mem_of_getElem? (i := 1) rfl)) (fun _ h9 => h9) rfl dX2_time_37 ?_
      refine va_get (D := G.1) (ci := 1) (C := RX1) (T := TX1) (N := 18) hx hb hts iX2_time_X1 hown hK.1 hP 6 rfl rfl 1 (by decide) (hts (.fieldLink RX2 114 "BoardClock$State" "boardTime" "J") (List.mem_of_getElem? (i := 3) rfl)) (fun _ h9 => h9) rfl dX2_time_40 ?_
      exact W.lret hx hb hr (fun t ht hW => ⟨_, rfl, Option.some.inj hF, ht⟩) (fun _ h => by cases h) dX2_time_43
    · have hF := zc_neg c2 hF
      by_cases c3 : a1 = (2 : Int32)
      · have hF := zc_pos c3 hF
        refine W.eq (g2 := F0 m 1 ls [.int (2 : Int32)]) (by rw [c3]) ?_
        refine lv_tableIn (off := 43) (tgt := 44) hx hb dX2_time_1 (by decide) (by decide) (by decide) (by decide) ?_
        refine lv_aload_n hx hb dX2_time_44 rfl (lv_at hl 0 rfl) ?_
        refine va_get (D := G.1) (ci := 2) (C := RX2) (T := TX2) (N := 10) hx hb hts iX2_time_X2 hown hK.1 hP 0 rfl rfl 0 (by decide) (hts (.fieldLink RX2 10 "BoardClock" "now" "LBoardClock$State;") (List.mem_of_getElem? (i := 1) rfl)) (fun _ h9 => h9) rfl dX2_time_45 ?_
        obtain ⟨r4, er4, hF⟩ := zc_bind hF
        refine zc_cl (va_runV (As := []) ⟨hx, hb, hml, hown, hts⟩ (kX1_aim l G na er4) (cwV 0 hts gX2_time_X1_aim rfl rfl rfl (by decide +kernel) ⟨Nat.le_of_ble_eq_true rfl, Nat.le_of_ble_eq_true rfl⟩) (zc_preV hK (hP.sub (ws' := zc_st G na b.2.2.1) [6, 7, 8, 9, 10, 11, 12] rfl) 0 rfl rfl) rfl rfl hl.1 rfl (lv_room (Nat.le_of_ble_eq_true rfl)) dX2_time_48 ⟨Nat.le_of_ble_eq_true rfl, Nat.le_of_ble_eq_true rfl⟩) ?_
        exact W.lret hx hb hr (fun t ht hW => ⟨_, rfl, Option.some.inj hF, ht⟩) (fun _ h => by cases h) dX2_time_51
      · have hF := zc_neg c3 hF
        have t0_1 := lv_neT (a := 0) c1 (by decide)
        have t1_1 := lv_neT (a := 1) c2 (by decide)
        have t2_1 := lv_neT (a := 2) c3 (by decide)
        refine lv_tableOut (tgt := 52) hx hb dX2_time_1 (by omega) (by decide) ?_
        refine lv_ldc2 hx hb hown (hts (.constantLong RX2 121 (-1)) (List.mem_of_getElem? (i := 4) rfl)) dX2_time_52 ?_
        exact W.lret hx hb hr (fun t ht hW => ⟨_, rfl, Option.some.inj hF, ht⟩) (fun _ h => by cases h) dX2_time_55
def fX2_calendar (b : zc_B) (a1 : Int32) : Option (Int32) := Option.bind (fX1_minuteNumber b.2.2.1) fun (r1 : Int64) => if a1 = (0 : Int32) then (some (r1).toInt32) else (if a1 = (1 : Int32) then (Option.bind (fX2_minuteOf r1) fun (r4 : Int32) => some r4) else (if a1 = (2 : Int32) then (Option.bind (fX2_hourOf r1) fun (r6 : Int32) => some r6) else (if a1 = (3 : Int32) then (Option.bind (fX2_weekdayOf r1) fun (r8 : Int32) => some r8) else (some (-1000000002 : Int32)))))
theorem iX2_calendar_X2 : ∀ w ∈ wsX20, w ∈ wsX2_calendar := fun _ h => List.mem_cons_of_mem _ (List.mem_append_left _ (List.mem_append_right _ h))
set_option maxHeartbeats 4000000 in
set_option maxRecDepth 100000 in
theorem kX2_calendar (l : Launch) (G : zc_G) (ba na : Nat → Nat) (pa : Nat → Nat → Nat) {b : zc_B} {a1 : Int32} {r0 : Int32} (hF : fX2_calendar b a1 = some r0) : Met l yX2_calendar wsX2_calendar ({ frames := 1, cells := 0, slots := 0, locals := 21 }) (zc_Pp G [.ref (ba 0), .int a1] (zc_bc G ba na pa b)) (vp_Si (fun r => r = r0)) 0 0 (fun _ => False) := by
  refine Met.ofW (cc := cX2_calendar) (maxL := 4) (ret := (some .int)) (by decide) rfl ?_
  intro p e s m args below meth c s₁ B hml hv
  obtain ⟨rfl, hP, hK⟩ := hv
  have hx := B.exec
  have hb := B.bytes
  have hr := B.returns
  have hts := atoms_spec (ws := wsX2_calendar) B.pre
  have hown : s.vm.findClass RX2 = some m.cls := findClass_of_methodNamed B.named
  have hlocks := B.notSynchronized
  have hl := lv_entry ([.ref (ba 0), .int a1]) (n := 4) (Nat.le_of_ble_eq_true rfl)
  rw [lg_entry_eq]
  generalize (lg_sl ([.ref (ba 0), .int a1]) ++ List.replicate (4 - (lg_sl ([.ref (ba 0), .int a1])).length) Slot.unset).toArray = ls at hl ⊢
  have hl : lv_has ls 4 [(0, .ref (ba 0)), (1, .int a1)] := hl
  refine lv_aload_n hx hb dX2_calendar_0 rfl (lv_at hl 0 rfl) ?_
  refine va_get (D := G.1) (ci := 2) (C := RX2) (T := TX2) (N := 10) hx hb hts iX2_calendar_X2 hown hK.1 hP 0 rfl rfl 0 (by decide) (hts (.fieldLink RX2 10 "BoardClock" "now" "LBoardClock$State;") (List.mem_of_getElem? (i := 1) rfl)) (fun _ h9 => h9) rfl dX2_calendar_1 ?_
  obtain ⟨r1, er1, hF⟩ := zc_bind hF
  refine zc_cl (va_runV (As := []) ⟨hx, hb, hml, hown, hts⟩ (kX1_minuteNumber l G na er1) (cwV 0 hts gX2_calendar_X1_minuteNumber rfl rfl rfl (by decide +kernel) ⟨Nat.le_of_ble_eq_true rfl, Nat.le_of_ble_eq_true rfl⟩) (zc_preV hK (hP.sub (ws' := zc_st G na b.2.2.1) [6, 7, 8, 9, 10, 11, 12] rfl) 0 rfl rfl) rfl rfl hl.1 rfl (lv_room (Nat.le_of_ble_eq_true rfl)) dX2_calendar_4 ⟨Nat.le_of_ble_eq_true rfl, Nat.le_of_ble_eq_true rfl⟩) ?_
  refine lv_lstore_n (lv' := [(2, .long r1), (0, .ref (ba 0)), (1, .int a1)]) hx hb dX2_calendar_7 rfl hl (by decide) rfl (fun ls hl => ?_)
  refine lv_iload_n hx hb dX2_calendar_8 rfl (lv_at hl 2 rfl) ?_
  by_cases c2 : a1 = (0 : Int32)
  · have hF := zc_pos c2 hF
    refine W.eq (g2 := F0 m 9 ls [.int (0 : Int32)]) (by rw [c2]) ?_
    refine lv_tableIn (off := 31) (tgt := 40) hx hb dX2_calendar_9 (by decide) (by decide) (by decide) (by decide) ?_
    refine lv_lload_n hx hb dX2_calendar_40 rfl (lv_at hl 0 rfl) ?_
    refine lv_l2i hx hb dX2_calendar_41 rfl ?_
    exact W.iret hx hb hr (fun t ht hW => ⟨_, rfl, Option.some.inj hF, ht⟩) (fun _ h => by cases h) dX2_calendar_42
  · have hF := zc_neg c2 hF
    by_cases c3 : a1 = (1 : Int32)
    · have hF := zc_pos c3 hF
      refine W.eq (g2 := F0 m 9 ls [.int (1 : Int32)]) (by rw [c3]) ?_
      refine lv_tableIn (off := 34) (tgt := 43) hx hb dX2_calendar_9 (by decide) (by decide) (by decide) (by decide) ?_
      refine lv_lload_n hx hb dX2_calendar_43 rfl (lv_at hl 0 rfl) ?_
      obtain ⟨r4, er4, hF⟩ := zc_bind hF
      refine zc_ci (va_runS (As := [.long _]) ⟨hx, hb, hml, hown, hts⟩ (kX2_minuteOf l G er4) (va_cwS 1 hts gX2_calendar_X2_minuteOf rfl rfl rfl (by decide +kernel) ⟨Nat.le_of_ble_eq_true rfl, Nat.le_of_ble_eq_true rfl⟩) (zc_preS hK (show va_P G.1 vwCl [] _ from fun k q h => by simp at h)) rfl rfl hl.1 rfl (lv_room (Nat.le_of_ble_eq_true rfl)) dX2_calendar_44 ⟨Nat.le_of_ble_eq_true rfl, Nat.le_of_ble_eq_true rfl⟩) ?_
      exact W.iret hx hb hr (fun t ht hW => ⟨_, rfl, Option.some.inj hF, ht⟩) (fun _ h => by cases h) dX2_calendar_47
    · have hF := zc_neg c3 hF
      by_cases c5 : a1 = (2 : Int32)
      · have hF := zc_pos c5 hF
        refine W.eq (g2 := F0 m 9 ls [.int (2 : Int32)]) (by rw [c5]) ?_
        refine lv_tableIn (off := 39) (tgt := 48) hx hb dX2_calendar_9 (by decide) (by decide) (by decide) (by decide) ?_
        refine lv_lload_n hx hb dX2_calendar_48 rfl (lv_at hl 0 rfl) ?_
        obtain ⟨r6, er6, hF⟩ := zc_bind hF
        refine zc_ci (va_runS (As := [.long _]) ⟨hx, hb, hml, hown, hts⟩ (kX2_hourOf l G er6) (va_cwS 1 hts gX2_calendar_X2_hourOf rfl rfl rfl (by decide +kernel) ⟨Nat.le_of_ble_eq_true rfl, Nat.le_of_ble_eq_true rfl⟩) (zc_preS hK (show va_P G.1 vwCl [] _ from fun k q h => by simp at h)) rfl rfl hl.1 rfl (lv_room (Nat.le_of_ble_eq_true rfl)) dX2_calendar_49 ⟨Nat.le_of_ble_eq_true rfl, Nat.le_of_ble_eq_true rfl⟩) ?_
        exact W.iret hx hb hr (fun t ht hW => ⟨_, rfl, Option.some.inj hF, ht⟩) (fun _ h => by cases h) dX2_calendar_52
      · have hF := zc_neg c5 hF
        by_cases c7 : a1 = (3 : Int32)
        · have hF := zc_pos c7 hF
          refine W.eq (g2 := F0 m 9 ls [.int (3 : Int32)]) (by rw [c7]) ?_
          refine lv_tableIn (off := 44) (tgt := 53) hx hb dX2_calendar_9 (by decide) (by decide) (by decide) (by decide) ?_
          refine lv_lload_n hx hb dX2_calendar_53 rfl (lv_at hl 0 rfl) ?_
          obtain ⟨r8, er8, hF⟩ := zc_bind hF
          refine zc_ci (va_runS (As := [.long _]) ⟨hx, hb, hml, hown, hts⟩ (kX2_weekdayOf l G er8) (va_cwS 1 hts gX2_calendar_X2_weekdayOf rfl rfl rfl (by decide +kernel) ⟨Nat.le_of_ble_eq_true rfl, Nat.le_of_ble_eq_true rfl⟩) (zc_preS hK (show va_P G.1 vwCl [] _ from fun k q h => by simp at h)) rfl rfl hl.1 rfl (lv_room (Nat.le_of_ble_eq_true rfl)) dX2_calendar_54 ⟨Nat.le_of_ble_eq_true rfl, Nat.le_of_ble_eq_true rfl⟩) ?_
          exact W.iret hx hb hr (fun t ht hW => ⟨_, rfl, Option.some.inj hF, ht⟩) (fun _ h => by cases h) dX2_calendar_57
        · have hF := zc_neg c7 hF
          have t0_9 := lv_neT (a := 0) c2 (by decide)
          have t1_9 := lv_neT (a := 1) c3 (by decide)
          have t2_9 := lv_neT (a := 2) c5 (by decide)
          have t3_9 := lv_neT (a := 3) c7 (by decide)
          refine lv_tableOut (tgt := 58) hx hb dX2_calendar_9 (by omega) (by decide) ?_
          refine lv_ldc hx hb hown (hts (.constant RX2 110 (-1000000002)) (List.mem_of_getElem? (i := 2) rfl)) dX2_calendar_58 ?_
          exact W.iret hx hb hr (fun t ht hW => ⟨_, rfl, Option.some.inj hF, ht⟩) (fun _ h => by cases h) dX2_calendar_60
def fX2_span (b : zc_B) (a1 : Int32) (a2 : Int32) : Option (Int32) := Option.bind (fX2_isSpan a1) fun (r1 : Int32) => if r1 = 0 then (some (-1000000001 : Int32)) else (if a2 = (0 : Int32) then (zc_in a1 9 (some ((b.2.2.1.2.2.1 a1.toNatClampNeg) + (10000 : Int32)))) else (if a2 = (1 : Int32) then (Option.bind (fX1_fitOf b.2.2.1 a1) fun (r6 : Int32) => some (r6 + (100000 : Int32))) else (some (-1000000002 : Int32))))
theorem iX2_span_X1 : ∀ w ∈ wsX10, w ∈ wsX2_span := fun _ h => List.mem_cons_of_mem _ (List.mem_append_right _ h)
theorem iX2_span_X2 : ∀ w ∈ wsX20, w ∈ wsX2_span := fun _ h => List.mem_cons_of_mem _ (List.mem_append_left _ (List.mem_append_right _ h))
set_option maxHeartbeats 4000000 in
set_option maxRecDepth 100000 in
theorem kX2_span (l : Launch) (G : zc_G) (ba na : Nat → Nat) (pa : Nat → Nat → Nat) {b : zc_B} {a1 : Int32} {a2 : Int32} {r0 : Int32} (hF : fX2_span b a1 a2 = some r0) : Met l yX2_span wsX2_span ({ frames := 3, cells := 0, slots := 0, locals := 63 }) (zc_Pp G [.ref (ba 0), .int a1, .int a2] (zc_bc G ba na pa b)) (vp_Si (fun r => r = r0)) 0 0 (fun _ => False) := by
  refine Met.ofW (cc := cX2_span) (maxL := 3) (ret := (some .int)) (by decide) rfl ?_
  intro p e s m args below meth c s₁ B hml hv
  obtain ⟨rfl, hP, hK⟩ := hv
  have hx := B.exec
  have hb := B.bytes
  have hr := B.returns
  have hts := atoms_spec (ws := wsX2_span) B.pre
  have hown : s.vm.findClass RX2 = some m.cls := findClass_of_methodNamed B.named
  have hlocks := B.notSynchronized
  have hl := lv_entry ([.ref (ba 0), .int a1, .int a2]) (n := 3) (Nat.le_of_ble_eq_true rfl)
  rw [lg_entry_eq]
  generalize (lg_sl ([.ref (ba 0), .int a1, .int a2]) ++ List.replicate (3 - (lg_sl ([.ref (ba 0), .int a1, .int a2])).length) Slot.unset).toArray = ls at hl ⊢
  have hl : lv_has ls 3 [(0, .ref (ba 0)), (1, .int a1), (2, .int a2)] := hl
  refine lv_iload_n hx hb dX2_span_0 rfl (lv_at hl 1 rfl) ?_
  obtain ⟨r1, er1, hF⟩ := zc_bind hF
  refine zc_ci (va_runS (As := [.int _]) ⟨hx, hb, hml, hown, hts⟩ (kX2_isSpan l G er1) (va_cwS 1 hts gX2_span_X2_isSpan rfl rfl rfl (by decide +kernel) ⟨Nat.le_of_ble_eq_true rfl, Nat.le_of_ble_eq_true rfl⟩) (zc_preS hK (show va_P G.1 vwCl [] _ from fun k q h => by simp at h)) rfl rfl hl.1 rfl (lv_room (Nat.le_of_ble_eq_true rfl)) dX2_span_1 ⟨Nat.le_of_ble_eq_true rfl, Nat.le_of_ble_eq_true rfl⟩) ?_
  refine lv_if_ne (tgt := 10) hx hb dX2_span_4 (by decide) (fun c2 => ?_) (fun c2 => ?_)
  · have hF := zc_neg c2 hF
    refine lv_iload_n hx hb dX2_span_10 rfl (lv_at hl 2 rfl) ?_
    by_cases c3 : a2 = (0 : Int32)
    · have hF := zc_pos c3 hF
      refine W.eq (g2 := F0 m 11 ls [.int (0 : Int32)]) (by rw [c3]) ?_
      refine lv_lookup (off := 25) (tgt := 36) hx hb dX2_span_11 (by decide) (by decide) (by decide) ?_
      refine lv_aload_n hx hb dX2_span_36 rfl (lv_at hl 0 rfl) ?_
      refine va_get (D := G.1) (ci := 2) (C := RX2) (T := TX2) (N := 10) hx hb hts iX2_span_X2 hown hK.1 hP 0 rfl rfl 0 (by decide) (hts (.fieldLink RX2 10 "BoardClock" "now" "LBoardClock$State;") (List.mem_of_getElem? (i := 2) rfl)) (fun _ h9 => h9) rfl dX2_span_37 ?_
      refine va_get (D := G.1) (ci := 1) (C := RX1) (T := TX1) (N := 18) hx hb hts iX2_span_X1 hown hK.1 hP 6 rfl rfl 16 (by decide) (hts (.fieldLink RX2 141 "BoardClock$State" "learned" "[I") (List.mem_of_getElem? (i := 3) rfl)) (fun _ h9 => h9) rfl dX2_span_40 ?_
      refine lv_iload_n hx hb dX2_span_43 rfl (lv_at hl 1 rfl) ?_
      obtain ⟨hi4, hF⟩ := zc_inE hF
      refine zc_iald hx hb hK.1 hP 7 0 rfl rfl hi4 rfl dX2_span_44 ?_
      refine lv_sipush (v := (10000 : Int32)) hx hb dX2_span_45 (by decide) ?_
      refine lv_iadd hx hb dX2_span_48 ?_
      exact W.iret hx hb hr (fun t ht hW => ⟨_, rfl, Option.some.inj hF, ht⟩) (fun _ h => by cases h) dX2_span_49
    · have hF := zc_neg c3 hF
      by_cases c5 : a2 = (1 : Int32)
      · have hF := zc_pos c5 hF
        refine W.eq (g2 := F0 m 11 ls [.int (1 : Int32)]) (by rw [c5]) ?_
        refine lv_lookup (off := 39) (tgt := 50) hx hb dX2_span_11 (by decide) (by decide) (by decide) ?_
        refine lv_aload_n hx hb dX2_span_50 rfl (lv_at hl 0 rfl) ?_
        refine va_get (D := G.1) (ci := 2) (C := RX2) (T := TX2) (N := 10) hx hb hts iX2_span_X2 hown hK.1 hP 0 rfl rfl 0 (by decide) (hts (.fieldLink RX2 10 "BoardClock" "now" "LBoardClock$State;") (List.mem_of_getElem? (i := 2) rfl)) (fun _ h9 => h9) rfl dX2_span_51 ?_
        refine lv_iload_n hx hb dX2_span_54 rfl (lv_at hl 1 rfl) ?_
        obtain ⟨r6, er6, hF⟩ := zc_bind hF
        refine zc_ci (va_runV (As := [.int _]) ⟨hx, hb, hml, hown, hts⟩ (kX1_fitOf l G na er6) (cwV 1 hts gX2_span_X1_fitOf rfl rfl rfl (by decide +kernel) ⟨Nat.le_of_ble_eq_true rfl, Nat.le_of_ble_eq_true rfl⟩) (zc_preV hK (hP.sub (ws' := zc_st G na b.2.2.1) [6, 7, 8, 9, 10, 11, 12] rfl) 0 rfl rfl) rfl rfl hl.1 rfl (lv_room (Nat.le_of_ble_eq_true rfl)) dX2_span_55 ⟨Nat.le_of_ble_eq_true rfl, Nat.le_of_ble_eq_true rfl⟩) ?_
        refine lv_ldc hx hb hown (hts (.constant RX2 147 (100000)) (List.mem_of_getElem? (i := 4) rfl)) dX2_span_58 ?_
        refine lv_iadd hx hb dX2_span_60 ?_
        exact W.iret hx hb hr (fun t ht hW => ⟨_, rfl, Option.some.inj hF, ht⟩) (fun _ h => by cases h) dX2_span_61
      · have hF := zc_neg c5 hF
        refine lv_lookup (off := 51) (tgt := 62) hx hb dX2_span_11 (by decide) (by show Op.lookupswitch.offset [(0, 25), (1, 39)] 51 _ = _; rw [lv_osw c3 (by decide), lv_osw c5 (by decide)]; rfl) (by decide) ?_
        refine lv_ldc hx hb hown (hts (.constant RX2 110 (-1000000002)) (List.mem_of_getElem? (i := 5) rfl)) dX2_span_62 ?_
        exact W.iret hx hb hr (fun t ht hW => ⟨_, rfl, Option.some.inj hF, ht⟩) (fun _ h => by cases h) dX2_span_64
  · have hF := zc_pos c2 hF
    refine lv_ldc hx hb hown (hts (.constant RX2 140 (-1000000001)) (List.mem_of_getElem? (i := 1) rfl)) dX2_span_7 ?_
    exact W.iret hx hb hr (fun t ht hW => ⟨_, rfl, Option.some.inj hF, ht⟩) (fun _ h => by cases h) dX2_span_9
def fX2_alarmAt (N : Nat) (b : zc_B) (a1 : Int32) (a2 : Int32) : Option (Int32) := Option.bind (fX0_has b.2.2.1.2.2.2 a1) fun (r1 : Int32) => if r1 = 0 then (some (-1000000001 : Int32)) else (if a2 = (0 : Int32) then (zc_in a1 6 (some (b.2.2.1.2.2.2.2 0 a1.toNatClampNeg))) else (if a2 = (1 : Int32) then (zc_in a1 6 (some (b.2.2.1.2.2.2.2 1 a1.toNatClampNeg))) else (if a2 = (2 : Int32) then (zc_in a1 6 (some (b.2.2.1.2.2.2.2 2 a1.toNatClampNeg))) else (if a2 = (3 : Int32) then (zc_in a1 6 (some (b.2.2.1.2.2.2.2 3 a1.toNatClampNeg))) else (if a2 = (4 : Int32) then (Option.bind (fX1_minuteNumber b.2.2.1) fun (r12 : Int64) => Option.bind (fX0_nextFit N b.2.2.1.2.2.2 a1 r12) fun (r13 : Int64) => some (r13).toInt32) else (some (-1000000002 : Int32)))))))
theorem iX2_alarmAt_X0 : ∀ w ∈ wsX00, w ∈ wsX2_alarmAt := fun _ h => List.mem_cons_of_mem _ (List.mem_append_right _ h)
theorem iX2_alarmAt_X1 : ∀ w ∈ wsX10, w ∈ wsX2_alarmAt := fun _ h => List.mem_cons_of_mem _ (List.mem_append_left _ (List.mem_append_right _ h))
theorem iX2_alarmAt_X2 : ∀ w ∈ wsX20, w ∈ wsX2_alarmAt := fun _ h => List.mem_cons_of_mem _ (List.mem_append_left _ (List.mem_append_left _ (List.mem_append_right _ h)))
set_option maxHeartbeats 4000000 in
set_option maxRecDepth 100000 in
theorem kX2_alarmAt (l : Launch) (G : zc_G) (ba na : Nat → Nat) (pa : Nat → Nat → Nat) {N : Nat} {b : zc_B} {a1 : Int32} {a2 : Int32} {r0 : Int32} (hF : fX2_alarmAt N b a1 a2 = some r0) : Met l yX2_alarmAt wsX2_alarmAt ({ frames := 2, cells := 0, slots := 0, locals := 48 }) (zc_Pp G [.ref (ba 0), .int a1, .int a2] (zc_bc G ba na pa b)) (vp_Si (fun r => r = r0)) 0 0 (fun _ => False) := by
  refine Met.ofW (cc := cX2_alarmAt) (maxL := 4) (ret := (some .int)) (by decide) rfl ?_
  intro p e s m args below meth c s₁ B hml hv
  obtain ⟨rfl, hP, hK⟩ := hv
  have hx := B.exec
  have hb := B.bytes
  have hr := B.returns
  have hts := atoms_spec (ws := wsX2_alarmAt) B.pre
  have hown : s.vm.findClass RX2 = some m.cls := findClass_of_methodNamed B.named
  have hlocks := B.notSynchronized
  have hl := lv_entry ([.ref (ba 0), .int a1, .int a2]) (n := 4) (Nat.le_of_ble_eq_true rfl)
  rw [lg_entry_eq]
  generalize (lg_sl ([.ref (ba 0), .int a1, .int a2]) ++ List.replicate (4 - (lg_sl ([.ref (ba 0), .int a1, .int a2])).length) Slot.unset).toArray = ls at hl ⊢
  have hl : lv_has ls 4 [(0, .ref (ba 0)), (1, .int a1), (2, .int a2)] := hl
  refine lv_aload_n hx hb dX2_alarmAt_0 rfl (lv_at hl 0 rfl) ?_
  refine va_get (D := G.1) (ci := 2) (C := RX2) (T := TX2) (N := 10) hx hb hts iX2_alarmAt_X2 hown hK.1 hP 0 rfl rfl 0 (by decide) (hts (.fieldLink RX2 10 "BoardClock" "now" "LBoardClock$State;") (List.mem_of_getElem? (i := 1) rfl)) (fun _ h9 => h9) rfl dX2_alarmAt_1 ?_
  refine va_get (D := G.1) (ci := 1) (C := RX1) (T := TX1) (N := 18) hx hb hts iX2_alarmAt_X1 hown hK.1 hP 6 rfl rfl 17 (by decide) (hts (.fieldLink RX2 91 "BoardClock$State" "alarms" "LBoardClock$Alarms;") (List.mem_of_getElem? (i := 2) rfl)) (fun _ h9 => h9) rfl dX2_alarmAt_4 ?_
  refine lv_astore_n (lv' := [(3, .ref (na 2)), (0, .ref (ba 0)), (1, .int a1), (2, .int a2)]) hx hb dX2_alarmAt_7 rfl hl (by decide) rfl (fun ls hl => ?_)
  refine lv_aload_n hx hb dX2_alarmAt_8 rfl (lv_at hl 0 rfl) ?_
  refine lv_iload_n hx hb dX2_alarmAt_9 rfl (lv_at hl 2 rfl) ?_
  obtain ⟨r1, er1, hF⟩ := zc_bind hF
  refine zc_ci (va_runV (As := [.int _]) ⟨hx, hb, hml, hown, hts⟩ (kX0_has l G na er1) (cwV 1 hts gX2_alarmAt_X0_has rfl rfl rfl (by decide +kernel) ⟨Nat.le_of_ble_eq_true rfl, Nat.le_of_ble_eq_true rfl⟩) (zc_preV hK (hP.sub (ws' := zc_al G na b.2.2.1.2.2.2) [8, 9, 10, 11, 12] rfl) 0 rfl rfl) rfl rfl hl.1 rfl (lv_room (Nat.le_of_ble_eq_true rfl)) dX2_alarmAt_10 ⟨Nat.le_of_ble_eq_true rfl, Nat.le_of_ble_eq_true rfl⟩) ?_
  refine lv_if_ne (tgt := 19) hx hb dX2_alarmAt_13 (by decide) (fun c2 => ?_) (fun c2 => ?_)
  · have hF := zc_neg c2 hF
    refine lv_iload_n hx hb dX2_alarmAt_19 rfl (lv_at hl 3 rfl) ?_
    by_cases c3 : a2 = (0 : Int32)
    · have hF := zc_pos c3 hF
      refine W.eq (g2 := F0 m 20 ls [.int (0 : Int32)]) (by rw [c3]) ?_
      refine lv_tableIn (off := 36) (tgt := 56) hx hb dX2_alarmAt_20 (by decide) (by decide) (by decide) (by decide) ?_
      refine lv_aload_n hx hb dX2_alarmAt_56 rfl (lv_at hl 0 rfl) ?_
      refine va_get (D := G.1) (ci := 0) (C := RX0) (T := TX0) (N := 5) hx hb hts iX2_alarmAt_X0 hown hK.1 hP 8 rfl rfl 1 (by decide) (hts (.fieldLink RX2 151 "BoardClock$Alarms" "minutes" "[I") (List.mem_of_getElem? (i := 4) rfl)) (fun _ h9 => h9) rfl dX2_alarmAt_57 ?_
      refine lv_iload_n hx hb dX2_alarmAt_60 rfl (lv_at hl 2 rfl) ?_
      obtain ⟨hi4, hF⟩ := zc_inE hF
      refine zc_iald hx hb hK.1 hP 9 0 rfl rfl hi4 rfl dX2_alarmAt_61 ?_
      exact W.iret hx hb hr (fun t ht hW => ⟨_, rfl, Option.some.inj hF, ht⟩) (fun _ h => by cases h) dX2_alarmAt_62
    · have hF := zc_neg c3 hF
      by_cases c5 : a2 = (1 : Int32)
      · have hF := zc_pos c5 hF
        refine W.eq (g2 := F0 m 20 ls [.int (1 : Int32)]) (by rw [c5]) ?_
        refine lv_tableIn (off := 43) (tgt := 63) hx hb dX2_alarmAt_20 (by decide) (by decide) (by decide) (by decide) ?_
        refine lv_aload_n hx hb dX2_alarmAt_63 rfl (lv_at hl 0 rfl) ?_
        refine va_get (D := G.1) (ci := 0) (C := RX0) (T := TX0) (N := 5) hx hb hts iX2_alarmAt_X0 hown hK.1 hP 8 rfl rfl 2 (by decide) (hts (.fieldLink RX2 154 "BoardClock$Alarms" "hours" "[I") (List.mem_of_getElem? (i := 5) rfl)) (fun _ h9 => h9) rfl dX2_alarmAt_64 ?_
        refine lv_iload_n hx hb dX2_alarmAt_67 rfl (lv_at hl 2 rfl) ?_
        obtain ⟨hi6, hF⟩ := zc_inE hF
        refine zc_iald hx hb hK.1 hP 10 0 rfl rfl hi6 rfl dX2_alarmAt_68 ?_
        exact W.iret hx hb hr (fun t ht hW => ⟨_, rfl, Option.some.inj hF, ht⟩) (fun _ h => by cases h) dX2_alarmAt_69
      · have hF := zc_neg c5 hF
        by_cases c7 : a2 = (2 : Int32)
        · have hF := zc_pos c7 hF
          refine W.eq (g2 := F0 m 20 ls [.int (2 : Int32)]) (by rw [c7]) ?_
          refine lv_tableIn (off := 50) (tgt := 70) hx hb dX2_alarmAt_20 (by decide) (by decide) (by decide) (by decide) ?_
          refine lv_aload_n hx hb dX2_alarmAt_70 rfl (lv_at hl 0 rfl) ?_
          refine va_get (D := G.1) (ci := 0) (C := RX0) (T := TX0) (N := 5) hx hb hts iX2_alarmAt_X0 hown hK.1 hP 8 rfl rfl 3 (by decide) (hts (.fieldLink RX2 157 "BoardClock$Alarms" "weekdays" "[I") (List.mem_of_getElem? (i := 6) rfl)) (fun _ h9 => h9) rfl dX2_alarmAt_71 ?_
          refine lv_iload_n hx hb dX2_alarmAt_74 rfl (lv_at hl 2 rfl) ?_
          obtain ⟨hi8, hF⟩ := zc_inE hF
          refine zc_iald hx hb hK.1 hP 11 0 rfl rfl hi8 rfl dX2_alarmAt_75 ?_
          exact W.iret hx hb hr (fun t ht hW => ⟨_, rfl, Option.some.inj hF, ht⟩) (fun _ h => by cases h) dX2_alarmAt_76
        · have hF := zc_neg c7 hF
          by_cases c9 : a2 = (3 : Int32)
          · have hF := zc_pos c9 hF
            refine W.eq (g2 := F0 m 20 ls [.int (3 : Int32)]) (by rw [c9]) ?_
            refine lv_tableIn (off := 57) (tgt := 77) hx hb dX2_alarmAt_20 (by decide) (by decide) (by decide) (by decide) ?_
            refine lv_aload_n hx hb dX2_alarmAt_77 rfl (lv_at hl 0 rfl) ?_
            refine va_get (D := G.1) (ci := 0) (C := RX0) (T := TX0) (N := 5) hx hb hts iX2_alarmAt_X0 hown hK.1 hP 8 rfl rfl 4 (by decide) (hts (.fieldLink RX2 160 "BoardClock$Alarms" "rung" "[I") (List.mem_of_getElem? (i := 7) rfl)) (fun _ h9 => h9) rfl dX2_alarmAt_78 ?_
            refine lv_iload_n hx hb dX2_alarmAt_81 rfl (lv_at hl 2 rfl) ?_
            obtain ⟨hi10, hF⟩ := zc_inE hF
            refine zc_iald hx hb hK.1 hP 12 0 rfl rfl hi10 rfl dX2_alarmAt_82 ?_
            exact W.iret hx hb hr (fun t ht hW => ⟨_, rfl, Option.some.inj hF, ht⟩) (fun _ h => by cases h) dX2_alarmAt_83
          · have hF := zc_neg c9 hF
            by_cases c11 : a2 = (4 : Int32)
            · have hF := zc_pos c11 hF
              refine W.eq (g2 := F0 m 20 ls [.int (4 : Int32)]) (by rw [c11]) ?_
              refine lv_tableIn (off := 64) (tgt := 84) hx hb dX2_alarmAt_20 (by decide) (by decide) (by decide) (by decide) ?_
              refine lv_aload_n hx hb dX2_alarmAt_84 rfl (lv_at hl 0 rfl) ?_
              refine lv_iload_n hx hb dX2_alarmAt_85 rfl (lv_at hl 2 rfl) ?_
              refine lv_aload_n hx hb dX2_alarmAt_86 rfl (lv_at hl 1 rfl) ?_
              refine va_get (D := G.1) (ci := 2) (C := RX2) (T := TX2) (N := 10) hx hb hts iX2_alarmAt_X2 hown hK.1 hP 0 rfl rfl 0 (by decide) (hts (.fieldLink RX2 10 "BoardClock" "now" "LBoardClock$State;") (List.mem_of_getElem? (i := 1) rfl)) (fun _ h9 => h9) rfl dX2_alarmAt_87 ?_
              obtain ⟨r12, er12, hF⟩ := zc_bind hF
              refine zc_cl (va_runV (As := []) ⟨hx, hb, hml, hown, hts⟩ (kX1_minuteNumber l G na er12) (cwV 0 hts gX2_alarmAt_X1_minuteNumber rfl rfl rfl (by decide +kernel) ⟨Nat.le_of_ble_eq_true rfl, Nat.le_of_ble_eq_true rfl⟩) (zc_preV hK (hP.sub (ws' := zc_st G na b.2.2.1) [6, 7, 8, 9, 10, 11, 12] rfl) 0 rfl rfl) rfl rfl hl.1 rfl (lv_room (Nat.le_of_ble_eq_true rfl)) dX2_alarmAt_90 ⟨Nat.le_of_ble_eq_true rfl, Nat.le_of_ble_eq_true rfl⟩) ?_
              obtain ⟨r13, er13, hF⟩ := zc_bind hF
              refine zc_cl (va_runV (As := [.int _, .long _]) ⟨hx, hb, hml, hown, hts⟩ (kX0_nextFit l G na er13) (cwV 2 hts gX2_alarmAt_X0_nextFit rfl rfl rfl (by decide +kernel) ⟨Nat.le_of_ble_eq_true rfl, Nat.le_of_ble_eq_true rfl⟩) (zc_preV hK (hP.sub (ws' := zc_al G na b.2.2.1.2.2.2) [8, 9, 10, 11, 12] rfl) 0 rfl rfl) rfl rfl hl.1 rfl (lv_room (Nat.le_of_ble_eq_true rfl)) dX2_alarmAt_93 ⟨Nat.le_of_ble_eq_true rfl, Nat.le_of_ble_eq_true rfl⟩) ?_
              refine lv_l2i hx hb dX2_alarmAt_96 rfl ?_
              exact W.iret hx hb hr (fun t ht hW => ⟨_, rfl, Option.some.inj hF, ht⟩) (fun _ h => by cases h) dX2_alarmAt_97
            · have hF := zc_neg c11 hF
              have t0_20 := lv_neT (a := 0) c3 (by decide)
              have t1_20 := lv_neT (a := 1) c5 (by decide)
              have t2_20 := lv_neT (a := 2) c7 (by decide)
              have t3_20 := lv_neT (a := 3) c9 (by decide)
              have t4_20 := lv_neT (a := 4) c11 (by decide)
              refine lv_tableOut (tgt := 98) hx hb dX2_alarmAt_20 (by omega) (by decide) ?_
              refine lv_ldc hx hb hown (hts (.constant RX2 110 (-1000000002)) (List.mem_of_getElem? (i := 8) rfl)) dX2_alarmAt_98 ?_
              exact W.iret hx hb hr (fun t ht hW => ⟨_, rfl, Option.some.inj hF, ht⟩) (fun _ h => by cases h) dX2_alarmAt_100
  · have hF := zc_pos c2 hF
    refine lv_ldc hx hb hown (hts (.constant RX2 140 (-1000000001)) (List.mem_of_getElem? (i := 3) rfl)) dX2_alarmAt_16 ?_
    exact W.iret hx hb hr (fun t ht hW => ⟨_, rfl, Option.some.inj hF, ht⟩) (fun _ h => by cases h) dX2_alarmAt_18
def fX2_evenly (b : zc_B) (a1 : Int32) (a2 : Int32) (a3 : Int32) : Option (Int32) := Option.bind (fX2_isWithin a1 (1 : Int32) (999 : Int32)) fun (r1 : Int32) => if r1 = 0 then (some (-1000000002 : Int32)) else (Option.bind (fX2_isWithin a2 (0 : Int32) a1) fun (r3 : Int32) => if r3 = 0 then (some (-1000000002 : Int32)) else (Option.bind (fX2_isWithin a3 (0 : Int32) (a1 - (1 : Int32))) fun (r5 : Int32) => if r5 = 0 then (some (-1000000002 : Int32)) else (zc_nz a1 (zc_nz a1 (if (((a3 + (1 : Int32)) * a2) / a1) ≤ ((a3 * a2) / a1) then (Option.bind (fX2_asInt (0 : Int32)) fun (r10 : Int32) => some r10) else (Option.bind (fX2_asInt (1 : Int32)) fun (r11 : Int32) => some r11))))))
set_option maxHeartbeats 4000000 in
set_option maxRecDepth 100000 in
theorem kX2_evenly (l : Launch) (G : zc_G) (ba na : Nat → Nat) (pa : Nat → Nat → Nat) {b : zc_B} {a1 : Int32} {a2 : Int32} {a3 : Int32} {r0 : Int32} (hF : fX2_evenly b a1 a2 a3 = some r0) : Met l yX2_evenly wsX2_evenly ({ frames := 1, cells := 0, slots := 0, locals := 22 }) (zc_Pp G [.ref (ba 0), .int a1, .int a2, .int a3] (zc_bc G ba na pa b)) (vp_Si (fun r => r = r0)) 0 0 (fun _ => False) := by
  refine Met.ofW (cc := cX2_evenly) (maxL := 4) (ret := (some .int)) (by decide) rfl ?_
  intro p e s m args below meth c s₁ B hml hv
  obtain ⟨rfl, hP, hK⟩ := hv
  have hx := B.exec
  have hb := B.bytes
  have hr := B.returns
  have hts := atoms_spec (ws := wsX2_evenly) B.pre
  have hown : s.vm.findClass RX2 = some m.cls := findClass_of_methodNamed B.named
  have hlocks := B.notSynchronized
  have hl := lv_entry ([.ref (ba 0), .int a1, .int a2, .int a3]) (n := 4) (Nat.le_of_ble_eq_true rfl)
  rw [lg_entry_eq]
  generalize (lg_sl ([.ref (ba 0), .int a1, .int a2, .int a3]) ++ List.replicate (4 - (lg_sl ([.ref (ba 0), .int a1, .int a2, .int a3])).length) Slot.unset).toArray = ls at hl ⊢
  have hl : lv_has ls 4 [(0, .ref (ba 0)), (1, .int a1), (2, .int a2), (3, .int a3)] := hl
  refine lv_iload_n hx hb dX2_evenly_0 rfl (lv_at hl 1 rfl) ?_
  refine lv_iconst (v := (1 : Int32)) hx hb dX2_evenly_1 (by decide) ?_
  refine lv_sipush (v := (999 : Int32)) hx hb dX2_evenly_2 (by decide) ?_
  obtain ⟨r1, er1, hF⟩ := zc_bind hF
  refine zc_ci (va_runS (As := [.int _, .int _, .int _]) ⟨hx, hb, hml, hown, hts⟩ (kX2_isWithin l G er1) (va_cwS 3 hts gX2_evenly_X2_isWithin rfl rfl rfl (by decide +kernel) ⟨Nat.le_of_ble_eq_true rfl, Nat.le_of_ble_eq_true rfl⟩) (zc_preS hK (show va_P G.1 vwCl [] _ from fun k q h => by simp at h)) rfl rfl hl.1 rfl (lv_room (Nat.le_of_ble_eq_true rfl)) dX2_evenly_5 ⟨Nat.le_of_ble_eq_true rfl, Nat.le_of_ble_eq_true rfl⟩) ?_
  refine lv_if_eq (tgt := 31) hx hb dX2_evenly_8 (by decide) (fun c2 => ?_) (fun c2 => ?_)
  · have hF := zc_pos c2 hF
    refine lv_ldc hx hb hown (hts (.constant RX2 110 (-1000000002)) (List.mem_of_getElem? (i := 1) rfl)) dX2_evenly_31 ?_
    exact W.iret hx hb hr (fun t ht hW => ⟨_, rfl, Option.some.inj hF, ht⟩) (fun _ h => by cases h) dX2_evenly_33
  · have hF := zc_neg c2 hF
    refine lv_iload_n hx hb dX2_evenly_11 rfl (lv_at hl 2 rfl) ?_
    refine lv_iconst (v := (0 : Int32)) hx hb dX2_evenly_12 (by decide) ?_
    refine lv_iload_n hx hb dX2_evenly_13 rfl (lv_at hl 1 rfl) ?_
    obtain ⟨r3, er3, hF⟩ := zc_bind hF
    refine zc_ci (va_runS (As := [.int _, .int _, .int _]) ⟨hx, hb, hml, hown, hts⟩ (kX2_isWithin l G er3) (va_cwS 3 hts gX2_evenly_X2_isWithin rfl rfl rfl (by decide +kernel) ⟨Nat.le_of_ble_eq_true rfl, Nat.le_of_ble_eq_true rfl⟩) (zc_preS hK (show va_P G.1 vwCl [] _ from fun k q h => by simp at h)) rfl rfl hl.1 rfl (lv_room (Nat.le_of_ble_eq_true rfl)) dX2_evenly_14 ⟨Nat.le_of_ble_eq_true rfl, Nat.le_of_ble_eq_true rfl⟩) ?_
    refine lv_if_eq (tgt := 31) hx hb dX2_evenly_17 (by decide) (fun c4 => ?_) (fun c4 => ?_)
    · have hF := zc_pos c4 hF
      refine lv_ldc hx hb hown (hts (.constant RX2 110 (-1000000002)) (List.mem_of_getElem? (i := 1) rfl)) dX2_evenly_31 ?_
      exact W.iret hx hb hr (fun t ht hW => ⟨_, rfl, Option.some.inj hF, ht⟩) (fun _ h => by cases h) dX2_evenly_33
    · have hF := zc_neg c4 hF
      refine lv_iload_n hx hb dX2_evenly_20 rfl (lv_at hl 3 rfl) ?_
      refine lv_iconst (v := (0 : Int32)) hx hb dX2_evenly_21 (by decide) ?_
      refine lv_iload_n hx hb dX2_evenly_22 rfl (lv_at hl 1 rfl) ?_
      refine lv_iconst (v := (1 : Int32)) hx hb dX2_evenly_23 (by decide) ?_
      refine lv_isub hx hb dX2_evenly_24 ?_
      obtain ⟨r5, er5, hF⟩ := zc_bind hF
      refine zc_ci (va_runS (As := [.int _, .int _, .int _]) ⟨hx, hb, hml, hown, hts⟩ (kX2_isWithin l G er5) (va_cwS 3 hts gX2_evenly_X2_isWithin rfl rfl rfl (by decide +kernel) ⟨Nat.le_of_ble_eq_true rfl, Nat.le_of_ble_eq_true rfl⟩) (zc_preS hK (show va_P G.1 vwCl [] _ from fun k q h => by simp at h)) rfl rfl hl.1 rfl (lv_room (Nat.le_of_ble_eq_true rfl)) dX2_evenly_25 ⟨Nat.le_of_ble_eq_true rfl, Nat.le_of_ble_eq_true rfl⟩) ?_
      refine lv_if_ne (tgt := 34) hx hb dX2_evenly_28 (by decide) (fun c6 => ?_) (fun c6 => ?_)
      · have hF := zc_neg c6 hF
        refine lv_iload_n hx hb dX2_evenly_34 rfl (lv_at hl 3 rfl) ?_
        refine lv_iconst (v := (1 : Int32)) hx hb dX2_evenly_35 (by decide) ?_
        refine lv_iadd hx hb dX2_evenly_36 ?_
        refine lv_iload_n hx hb dX2_evenly_37 rfl (lv_at hl 2 rfl) ?_
        refine lv_imul hx hb dX2_evenly_38 ?_
        refine lv_iload_n hx hb dX2_evenly_39 rfl (lv_at hl 1 rfl) ?_
        obtain ⟨hnz7, hF⟩ := zc_nzE hF
        refine lv_idiv hx hb dX2_evenly_40 hnz7 ?_
        refine lv_iload_n hx hb dX2_evenly_41 rfl (lv_at hl 3 rfl) ?_
        refine lv_iload_n hx hb dX2_evenly_42 rfl (lv_at hl 2 rfl) ?_
        refine lv_imul hx hb dX2_evenly_43 ?_
        refine lv_iload_n hx hb dX2_evenly_44 rfl (lv_at hl 1 rfl) ?_
        obtain ⟨hnz8, hF⟩ := zc_nzE hF
        refine lv_idiv hx hb dX2_evenly_45 hnz8 ?_
        refine lv_icmp_le (tgt := 53) hx hb dX2_evenly_46 (by decide) (fun c9 => ?_) (fun c9 => ?_)
        · have hF := zc_pos c9 hF
          refine lv_iconst (v := (0 : Int32)) hx hb dX2_evenly_53 (by decide) ?_
          obtain ⟨r10, er10, hF⟩ := zc_bind hF
          refine zc_ci (va_runS (As := [.int _]) ⟨hx, hb, hml, hown, hts⟩ (kX2_asInt l G er10) (va_cwS 1 hts gX2_evenly_X2_asInt rfl rfl rfl (by decide +kernel) ⟨Nat.le_of_ble_eq_true rfl, Nat.le_of_ble_eq_true rfl⟩) (zc_preS hK (show va_P G.1 vwCl [] _ from fun k q h => by simp at h)) rfl rfl hl.1 rfl (lv_room (Nat.le_of_ble_eq_true rfl)) dX2_evenly_54 ⟨Nat.le_of_ble_eq_true rfl, Nat.le_of_ble_eq_true rfl⟩) ?_
          exact W.iret hx hb hr (fun t ht hW => ⟨_, rfl, Option.some.inj hF, ht⟩) (fun _ h => by cases h) dX2_evenly_57
        · have hF := zc_neg c9 hF
          refine lv_iconst (v := (1 : Int32)) hx hb dX2_evenly_49 (by decide) ?_
          refine lv_goto (tgt := 54) hx hb dX2_evenly_50 (by decide) ?_
          obtain ⟨r11, er11, hF⟩ := zc_bind hF
          refine zc_ci (va_runS (As := [.int _]) ⟨hx, hb, hml, hown, hts⟩ (kX2_asInt l G er11) (va_cwS 1 hts gX2_evenly_X2_asInt rfl rfl rfl (by decide +kernel) ⟨Nat.le_of_ble_eq_true rfl, Nat.le_of_ble_eq_true rfl⟩) (zc_preS hK (show va_P G.1 vwCl [] _ from fun k q h => by simp at h)) rfl rfl hl.1 rfl (lv_room (Nat.le_of_ble_eq_true rfl)) dX2_evenly_54 ⟨Nat.le_of_ble_eq_true rfl, Nat.le_of_ble_eq_true rfl⟩) ?_
          exact W.iret hx hb hr (fun t ht hW => ⟨_, rfl, Option.some.inj hF, ht⟩) (fun _ h => by cases h) dX2_evenly_57
      · have hF := zc_pos c6 hF
        refine lv_ldc hx hb hown (hts (.constant RX2 110 (-1000000002)) (List.mem_of_getElem? (i := 1) rfl)) dX2_evenly_31 ?_
        exact W.iret hx hb hr (fun t ht hW => ⟨_, rfl, Option.some.inj hF, ht⟩) (fun _ h => by cases h) dX2_evenly_33
def fX2_after (b : zc_B) (a1 : Int32) : Option (Int64) := Option.bind (fX2_isWithin a1 (0 : Int32) (2000 : Int32)) fun (r1 : Int32) => if r1 = 0 then (some (-1 : Int64)) else (Option.bind (fX1_boardTimeAfter b.2.2.1 a1) fun (r3 : Int64) => some r3)
theorem iX2_after_X2 : ∀ w ∈ wsX20, w ∈ wsX2_after := fun _ h => List.mem_cons_of_mem _ (List.mem_append_left _ (List.mem_append_right _ h))
set_option maxHeartbeats 4000000 in
set_option maxRecDepth 100000 in
theorem kX2_after (l : Launch) (G : zc_G) (ba na : Nat → Nat) (pa : Nat → Nat → Nat) {b : zc_B} {a1 : Int32} {r0 : Int64} (hF : fX2_after b a1 = some r0) : Met l yX2_after wsX2_after ({ frames := 4, cells := 0, slots := 0, locals := 96 }) (zc_Pp G [.ref (ba 0), .int a1] (zc_bc G ba na pa b)) (vp_Sl (fun r => r = r0)) 0 0 (fun _ => False) := by
  refine Met.ofW (cc := cX2_after) (maxL := 2) (ret := (some .long)) (by decide) rfl ?_
  intro p e s m args below meth c s₁ B hml hv
  obtain ⟨rfl, hP, hK⟩ := hv
  have hx := B.exec
  have hb := B.bytes
  have hr := B.returns
  have hts := atoms_spec (ws := wsX2_after) B.pre
  have hown : s.vm.findClass RX2 = some m.cls := findClass_of_methodNamed B.named
  have hlocks := B.notSynchronized
  have hl := lv_entry ([.ref (ba 0), .int a1]) (n := 2) (Nat.le_of_ble_eq_true rfl)
  rw [lg_entry_eq]
  generalize (lg_sl ([.ref (ba 0), .int a1]) ++ List.replicate (2 - (lg_sl ([.ref (ba 0), .int a1])).length) Slot.unset).toArray = ls at hl ⊢
  have hl : lv_has ls 2 [(0, .ref (ba 0)), (1, .int a1)] := hl
  refine lv_iload_n hx hb dX2_after_0 rfl (lv_at hl 1 rfl) ?_
  refine lv_iconst (v := (0 : Int32)) hx hb dX2_after_1 (by decide) ?_
  refine lv_sipush (v := (2000 : Int32)) hx hb dX2_after_2 (by decide) ?_
  obtain ⟨r1, er1, hF⟩ := zc_bind hF
  refine zc_ci (va_runS (As := [.int _, .int _, .int _]) ⟨hx, hb, hml, hown, hts⟩ (kX2_isWithin l G er1) (va_cwS 3 hts gX2_after_X2_isWithin rfl rfl rfl (by decide +kernel) ⟨Nat.le_of_ble_eq_true rfl, Nat.le_of_ble_eq_true rfl⟩) (zc_preS hK (show va_P G.1 vwCl [] _ from fun k q h => by simp at h)) rfl rfl hl.1 rfl (lv_room (Nat.le_of_ble_eq_true rfl)) dX2_after_5 ⟨Nat.le_of_ble_eq_true rfl, Nat.le_of_ble_eq_true rfl⟩) ?_
  refine lv_if_ne (tgt := 15) hx hb dX2_after_8 (by decide) (fun c2 => ?_) (fun c2 => ?_)
  · have hF := zc_neg c2 hF
    refine lv_aload_n hx hb dX2_after_15 rfl (lv_at hl 0 rfl) ?_
    refine va_get (D := G.1) (ci := 2) (C := RX2) (T := TX2) (N := 10) hx hb hts iX2_after_X2 hown hK.1 hP 0 rfl rfl 0 (by decide) (hts (.fieldLink RX2 10 "BoardClock" "now" "LBoardClock$State;") (List.mem_of_getElem? (i := 2) rfl)) (fun _ h9 => h9) rfl dX2_after_16 ?_
    refine lv_iload_n hx hb dX2_after_19 rfl (lv_at hl 1 rfl) ?_
    obtain ⟨r3, er3, hF⟩ := zc_bind hF
    refine zc_cl (va_runV (As := [.int _]) ⟨hx, hb, hml, hown, hts⟩ (kX1_boardTimeAfter l G na er3) (cwV 1 hts gX2_after_X1_boardTimeAfter rfl rfl rfl (by decide +kernel) ⟨Nat.le_of_ble_eq_true rfl, Nat.le_of_ble_eq_true rfl⟩) (zc_preV hK (hP.sub (ws' := zc_st G na b.2.2.1) [6, 7, 8, 9, 10, 11, 12] rfl) 0 rfl rfl) rfl rfl hl.1 rfl (lv_room (Nat.le_of_ble_eq_true rfl)) dX2_after_20 ⟨Nat.le_of_ble_eq_true rfl, Nat.le_of_ble_eq_true rfl⟩) ?_
    exact W.lret hx hb hr (fun t ht hW => ⟨_, rfl, Option.some.inj hF, ht⟩) (fun _ h => by cases h) dX2_after_23
  · have hF := zc_pos c2 hF
    refine lv_ldc2 hx hb hown (hts (.constantLong RX2 121 (-1)) (List.mem_of_getElem? (i := 1) rfl)) dX2_after_11 ?_
    exact W.lret hx hb hr (fun t ht hW => ⟨_, rfl, Option.some.inj hF, ht⟩) (fun _ h => by cases h) dX2_after_14
def fX2_rings (N : Nat) (b : zc_B) (a1 : Int32) : Option (Int32) := Option.bind (fX2_isWithin a1 (0 : Int32) (2000 : Int32)) fun (r1 : Int32) => if r1 = 0 then (some (-1000000002 : Int32)) else (Option.bind (fX1_minuteNumber b.2.2.1) fun (r3 : Int64) => Option.bind (fX1_boardTimeAfter b.2.2.1 a1) fun (r4 : Int64) => Option.bind (fX0_ringsToCome N b.2.2.1.2.2.2 r3 (r4 / (60000 : Int64))) fun (r5 : Int32) => some r5)
theorem iX2_rings_X1 : ∀ w ∈ wsX10, w ∈ wsX2_rings := fun _ h => List.mem_cons_of_mem _ (List.mem_append_left _ (List.mem_append_right _ h))
theorem iX2_rings_X2 : ∀ w ∈ wsX20, w ∈ wsX2_rings := fun _ h => List.mem_cons_of_mem _ (List.mem_append_left _ (List.mem_append_left _ (List.mem_append_right _ h)))
set_option maxHeartbeats 4000000 in
set_option maxRecDepth 100000 in
theorem kX2_rings (l : Launch) (G : zc_G) (ba na : Nat → Nat) (pa : Nat → Nat → Nat) {N : Nat} {b : zc_B} {a1 : Int32} {r0 : Int32} (hF : fX2_rings N b a1 = some r0) : Met l yX2_rings wsX2_rings ({ frames := 4, cells := 0, slots := 0, locals := 107 }) (zc_Pp G [.ref (ba 0), .int a1] (zc_bc G ba na pa b)) (vp_Si (fun r => r = r0)) 0 0 (fun _ => False) := by
  refine Met.ofW (cc := cX2_rings) (maxL := 2) (ret := (some .int)) (by decide) rfl ?_
  intro p e s m args below meth c s₁ B hml hv
  obtain ⟨rfl, hP, hK⟩ := hv
  have hx := B.exec
  have hb := B.bytes
  have hr := B.returns
  have hts := atoms_spec (ws := wsX2_rings) B.pre
  have hown : s.vm.findClass RX2 = some m.cls := findClass_of_methodNamed B.named
  have hlocks := B.notSynchronized
  have hl := lv_entry ([.ref (ba 0), .int a1]) (n := 2) (Nat.le_of_ble_eq_true rfl)
  rw [lg_entry_eq]
  generalize (lg_sl ([.ref (ba 0), .int a1]) ++ List.replicate (2 - (lg_sl ([.ref (ba 0), .int a1])).length) Slot.unset).toArray = ls at hl ⊢
  have hl : lv_has ls 2 [(0, .ref (ba 0)), (1, .int a1)] := hl
  refine lv_iload_n hx hb dX2_rings_0 rfl (lv_at hl 1 rfl) ?_
  refine lv_iconst (v := (0 : Int32)) hx hb dX2_rings_1 (by decide) ?_
  refine lv_sipush (v := (2000 : Int32)) hx hb dX2_rings_2 (by decide) ?_
  obtain ⟨r1, er1, hF⟩ := zc_bind hF
  refine zc_ci (va_runS (As := [.int _, .int _, .int _]) ⟨hx, hb, hml, hown, hts⟩ (kX2_isWithin l G er1) (va_cwS 3 hts gX2_rings_X2_isWithin rfl rfl rfl (by decide +kernel) ⟨Nat.le_of_ble_eq_true rfl, Nat.le_of_ble_eq_true rfl⟩) (zc_preS hK (show va_P G.1 vwCl [] _ from fun k q h => by simp at h)) rfl rfl hl.1 rfl (lv_room (Nat.le_of_ble_eq_true rfl)) dX2_rings_5 ⟨Nat.le_of_ble_eq_true rfl, Nat.le_of_ble_eq_true rfl⟩) ?_
  refine lv_if_ne (tgt := 14) hx hb dX2_rings_8 (by decide) (fun c2 => ?_) (fun c2 => ?_)
  · have hF := zc_neg c2 hF
    refine lv_aload_n hx hb dX2_rings_14 rfl (lv_at hl 0 rfl) ?_
    refine va_get (D := G.1) (ci := 2) (C := RX2) (T := TX2) (N := 10) hx hb hts iX2_rings_X2 hown hK.1 hP 0 rfl rfl 0 (by decide) (hts (.fieldLink RX2 10 "BoardClock" "now" "LBoardClock$State;") (List.mem_of_getElem? (i := 2) rfl)) (fun _ h9 => h9) rfl dX2_rings_15 ?_
    refine va_get (D := G.1) (ci := 1) (C := RX1) (T := TX1) (N := 18) hx hb hts iX2_rings_X1 hown hK.1 hP 6 rfl rfl 17 (by decide) (hts (.fieldLink RX2 91 "BoardClock$State" "alarms" "LBoardClock$Alarms;") (List.mem_of_getElem? (i := 3) rfl)) (fun _ h9 => h9) rfl dX2_rings_18 ?_
    refine lv_aload_n hx hb dX2_rings_21 rfl (lv_at hl 0 rfl) ?_
    refine va_get (D := G.1) (ci := 2) (C := RX2) (T := TX2) (N := 10) hx hb hts iX2_rings_X2 hown hK.1 hP 0 rfl rfl 0 (by decide) (hts (.fieldLink RX2 10 "BoardClock" "now" "LBoardClock$State;") (List.mem_of_getElem? (i := 2) rfl)) (fun _ h9 => h9) rfl dX2_rings_22 ?_
    obtain ⟨r3, er3, hF⟩ := zc_bind hF
    refine zc_cl (va_runV (As := []) ⟨hx, hb, hml, hown, hts⟩ (kX1_minuteNumber l G na er3) (cwV 0 hts gX2_rings_X1_minuteNumber rfl rfl rfl (by decide +kernel) ⟨Nat.le_of_ble_eq_true rfl, Nat.le_of_ble_eq_true rfl⟩) (zc_preV hK (hP.sub (ws' := zc_st G na b.2.2.1) [6, 7, 8, 9, 10, 11, 12] rfl) 0 rfl rfl) rfl rfl hl.1 rfl (lv_room (Nat.le_of_ble_eq_true rfl)) dX2_rings_25 ⟨Nat.le_of_ble_eq_true rfl, Nat.le_of_ble_eq_true rfl⟩) ?_
    refine lv_aload_n hx hb dX2_rings_28 rfl (lv_at hl 0 rfl) ?_
    refine va_get (D := G.1) (ci := 2) (C := RX2) (T := TX2) (N := 10) hx hb hts iX2_rings_X2 hown hK.1 hP 0 rfl rfl 0 (by decide) (hts (.fieldLink RX2 10 "BoardClock" "now" "LBoardClock$State;") (List.mem_of_getElem? (i := 2) rfl)) (fun _ h9 => h9) rfl dX2_rings_29 ?_
    refine lv_iload_n hx hb dX2_rings_32 rfl (lv_at hl 1 rfl) ?_
    obtain ⟨r4, er4, hF⟩ := zc_bind hF
    refine zc_cl (va_runV (As := [.int _]) ⟨hx, hb, hml, hown, hts⟩ (kX1_boardTimeAfter l G na er4) (cwV 1 hts gX2_rings_X1_boardTimeAfter rfl rfl rfl (by decide +kernel) ⟨Nat.le_of_ble_eq_true rfl, Nat.le_of_ble_eq_true rfl⟩) (zc_preV hK (hP.sub (ws' := zc_st G na b.2.2.1) [6, 7, 8, 9, 10, 11, 12] rfl) 0 rfl rfl) rfl rfl hl.1 rfl (lv_room (Nat.le_of_ble_eq_true rfl)) dX2_rings_33 ⟨Nat.le_of_ble_eq_true rfl, Nat.le_of_ble_eq_true rfl⟩) ?_
    refine lv_ldc2 hx hb hown (hts (.constantLong RX2 223 (60000)) (List.mem_of_getElem? (i := 4) rfl)) dX2_rings_36 ?_
    refine lv_ldiv hx hb dX2_rings_39 (by decide) ?_
    obtain ⟨r5, er5, hF⟩ := zc_bind hF
    refine zc_ci (va_runV (As := [.long _, .long _]) ⟨hx, hb, hml, hown, hts⟩ (kX0_ringsToCome l G na er5) (cwV 2 hts gX2_rings_X0_ringsToCome rfl rfl rfl (by decide +kernel) ⟨Nat.le_of_ble_eq_true rfl, Nat.le_of_ble_eq_true rfl⟩) (zc_preV hK (hP.sub (ws' := zc_al G na b.2.2.1.2.2.2) [8, 9, 10, 11, 12] rfl) 0 rfl rfl) rfl rfl hl.1 rfl (lv_room (Nat.le_of_ble_eq_true rfl)) dX2_rings_40 ⟨Nat.le_of_ble_eq_true rfl, Nat.le_of_ble_eq_true rfl⟩) ?_
    exact W.iret hx hb hr (fun t ht hW => ⟨_, rfl, Option.some.inj hF, ht⟩) (fun _ h => by cases h) dX2_rings_43
  · have hF := zc_pos c2 hF
    refine lv_ldc hx hb hown (hts (.constant RX2 110 (-1000000002)) (List.mem_of_getElem? (i := 1) rfl)) dX2_rings_11 ?_
    exact W.iret hx hb hr (fun t ht hW => ⟨_, rfl, Option.some.inj hF, ht⟩) (fun _ h => by cases h) dX2_rings_13
def fX2_untilWide (b : zc_B) (a1 : Int32) : Option (Int32) := Option.bind (fX2_isWithin a1 (0 : Int32) (99999 : Int32)) fun (r1 : Int32) => if r1 = 0 then (some (-1000000002 : Int32)) else (Option.bind (fX1_ticksUntilWide b.2.2.1 (a1.toInt64 * (16 : Int64))) fun (r3 : Int32) => some r3)
theorem iX2_untilWide_X2 : ∀ w ∈ wsX20, w ∈ wsX2_untilWide := fun _ h => List.mem_cons_of_mem _ (List.mem_append_left _ (List.mem_append_right _ h))
set_option maxHeartbeats 4000000 in
set_option maxRecDepth 100000 in
theorem kX2_untilWide (l : Launch) (G : zc_G) (ba na : Nat → Nat) (pa : Nat → Nat → Nat) {b : zc_B} {a1 : Int32} {r0 : Int32} (hF : fX2_untilWide b a1 = some r0) : Met l yX2_untilWide wsX2_untilWide ({ frames := 2, cells := 0, slots := 0, locals := 43 }) (zc_Pp G [.ref (ba 0), .int a1] (zc_bc G ba na pa b)) (vp_Si (fun r => r = r0)) 0 0 (fun _ => False) := by
  refine Met.ofW (cc := cX2_untilWide) (maxL := 2) (ret := (some .int)) (by decide) rfl ?_
  intro p e s m args below meth c s₁ B hml hv
  obtain ⟨rfl, hP, hK⟩ := hv
  have hx := B.exec
  have hb := B.bytes
  have hr := B.returns
  have hts := atoms_spec (ws := wsX2_untilWide) B.pre
  have hown : s.vm.findClass RX2 = some m.cls := findClass_of_methodNamed B.named
  have hlocks := B.notSynchronized
  have hl := lv_entry ([.ref (ba 0), .int a1]) (n := 2) (Nat.le_of_ble_eq_true rfl)
  rw [lg_entry_eq]
  generalize (lg_sl ([.ref (ba 0), .int a1]) ++ List.replicate (2 - (lg_sl ([.ref (ba 0), .int a1])).length) Slot.unset).toArray = ls at hl ⊢
  have hl : lv_has ls 2 [(0, .ref (ba 0)), (1, .int a1)] := hl
  refine lv_iload_n hx hb dX2_untilWide_0 rfl (lv_at hl 1 rfl) ?_
  refine lv_iconst (v := (0 : Int32)) hx hb dX2_untilWide_1 (by decide) ?_
  refine lv_ldc hx hb hown (hts (.constant RX2 229 (99999)) (List.mem_of_getElem? (i := 1) rfl)) dX2_untilWide_2 ?_
  obtain ⟨r1, er1, hF⟩ := zc_bind hF
  refine zc_ci (va_runS (As := [.int _, .int _, .int _]) ⟨hx, hb, hml, hown, hts⟩ (kX2_isWithin l G er1) (va_cwS 3 hts gX2_untilWide_X2_isWithin rfl rfl rfl (by decide +kernel) ⟨Nat.le_of_ble_eq_true rfl, Nat.le_of_ble_eq_true rfl⟩) (zc_preS hK (show va_P G.1 vwCl [] _ from fun k q h => by simp at h)) rfl rfl hl.1 rfl (lv_room (Nat.le_of_ble_eq_true rfl)) dX2_untilWide_4 ⟨Nat.le_of_ble_eq_true rfl, Nat.le_of_ble_eq_true rfl⟩) ?_
  refine lv_if_ne (tgt := 13) hx hb dX2_untilWide_7 (by decide) (fun c2 => ?_) (fun c2 => ?_)
  · have hF := zc_neg c2 hF
    refine lv_aload_n hx hb dX2_untilWide_13 rfl (lv_at hl 0 rfl) ?_
    refine va_get (D := G.1) (ci := 2) (C := RX2) (T := TX2) (N := 10) hx hb hts iX2_untilWide_X2 hown hK.1 hP 0 rfl rfl 0 (by decide) (hts (.fieldLink RX2 10 "BoardClock" "now" "LBoardClock$State;") (List.mem_of_getElem? (i := 3) rfl)) (fun _ h9 => h9) rfl dX2_untilWide_14 ?_
    refine lv_iload_n hx hb dX2_untilWide_17 rfl (lv_at hl 1 rfl) ?_
    refine lv_i2l hx hb dX2_untilWide_18 rfl ?_
    refine lv_ldc2 hx hb hown (hts (.constantLong RX2 230 (16)) (List.mem_of_getElem? (i := 4) rfl)) dX2_untilWide_19 ?_
    refine lv_lmul hx hb dX2_untilWide_22 ?_
    obtain ⟨r3, er3, hF⟩ := zc_bind hF
    refine zc_ci (va_runV (As := [.long _]) ⟨hx, hb, hml, hown, hts⟩ (kX1_ticksUntilWide l G na er3) (cwV 1 hts gX2_untilWide_X1_ticksUntilWide rfl rfl rfl (by decide +kernel) ⟨Nat.le_of_ble_eq_true rfl, Nat.le_of_ble_eq_true rfl⟩) (zc_preV hK (hP.sub (ws' := zc_st G na b.2.2.1) [6, 7, 8, 9, 10, 11, 12] rfl) 0 rfl rfl) rfl rfl hl.1 rfl (lv_room (Nat.le_of_ble_eq_true rfl)) dX2_untilWide_23 ⟨Nat.le_of_ble_eq_true rfl, Nat.le_of_ble_eq_true rfl⟩) ?_
    exact W.iret hx hb hr (fun t ht hW => ⟨_, rfl, Option.some.inj hF, ht⟩) (fun _ h => by cases h) dX2_untilWide_26
  · have hF := zc_pos c2 hF
    refine lv_ldc hx hb hown (hts (.constant RX2 110 (-1000000002)) (List.mem_of_getElem? (i := 2) rfl)) dX2_untilWide_10 ?_
    exact W.iret hx hb hr (fun t ht hW => ⟨_, rfl, Option.some.inj hF, ht⟩) (fun _ h => by cases h) dX2_untilWide_12
