def fJ9_floorDiv_f86c9 (a1 : Int64) (a2 : Int64) : Option (Int64) := zc_nzL a2 (zc_let (a1 / a2) fun (x2 : Int64) => if 0 ≤ (lg_cmp (a1 ^^^ a2) (0 : Int64)) then (some x2) else (if (lg_cmp (x2 * a2) a1) = 0 then (some x2) else (some (x2 - (1 : Int64)))))
set_option maxHeartbeats 4000000 in
set_option maxRecDepth 100000 in
theorem kJ9_floorDiv_f86c9 (l : Launch) (G : zc_G)  {a1 : Int64} {a2 : Int64} {r0 : Int64} (hF : fJ9_floorDiv_f86c9 a1 a2 = some r0) : Met l yJ9_floorDiv_f86c9 wsJ9_floorDiv_f86c9 ({ frames := 0, cells := 0, slots := 0, locals := 0 }) (zc_Pp G [.long a1, .long a2] ([])) (vp_Sl (fun r => r = r0)) 0 0 (fun _ => False) := by
  refine va_MetF (cc := cJ9_floorDiv_f86c9) (maxL := 6) (ret := (some .long)) (by decide +kernel) rfl ?_
  intro p e s m args below meth c s₁ B hml hv
  obtain ⟨rfl, hP, hK⟩ := hv
  have hx := B.exec
  have hb := B.bytes
  have hr := B.returns
  have hts := atoms_spec (ws := wsJ9_floorDiv_f86c9) B.pre
  have hown : s.vm.findClass RJ9 = some m.cls := findClass_of_methodNamed B.named
  have hlocks := B.notSynchronized
  have hl := lv_entry ([.long a1, .long a2]) (n := 6) (Nat.le_of_ble_eq_true rfl)
  rw [lg_entry_eq]
  generalize (lg_sl ([.long a1, .long a2]) ++ List.replicate (6 - (lg_sl ([.long a1, .long a2])).length) Slot.unset).toArray = ls at hl ⊢
  have hl : lv_has ls 6 [(0, .long a1), (2, .long a2)] := hl
  refine lv_lload_n hx hb dJ9_floorDiv_f86c9_0 rfl (lv_at hl 0 rfl) ?_
  refine lv_lload_n hx hb dJ9_floorDiv_f86c9_1 rfl (lv_at hl 1 rfl) ?_
  obtain ⟨hnz1, hF⟩ := zc_nzLE hF
  refine lv_ldiv hx hb dJ9_floorDiv_f86c9_2 hnz1 ?_
  refine lv_topl (fun x2 ex2 => ?_)
  have hF := zc_letE ex2 hF
  refine lv_lstore (lv' := [(4, .long x2), (0, .long a1), (2, .long a2)]) hx hb dJ9_floorDiv_f86c9_3 hl (by decide) rfl (fun ls hl => ?_)
  refine lv_lload_n hx hb dJ9_floorDiv_f86c9_5 rfl (lv_at hl 1 rfl) ?_
  refine lv_lload_n hx hb dJ9_floorDiv_f86c9_6 rfl (lv_at hl 2 rfl) ?_
  refine lv_lxor hx hb dJ9_floorDiv_f86c9_7 ?_
  refine lv_lconst (v := (0 : Int64)) hx hb dJ9_floorDiv_f86c9_8 (by decide) ?_
  refine W.lcmp hx hb dJ9_floorDiv_f86c9_9 ?_
  refine lv_if_ge (tgt := 27) hx hb dJ9_floorDiv_f86c9_10 (by decide) (fun c3 => ?_) (fun c3 => ?_)
  · have hF := zc_pos c3 hF
    refine lv_lload hx hb dJ9_floorDiv_f86c9_27 (lv_at hl 0 rfl) ?_
    exact W.lret hx hb hr (fun t ht hW => ⟨_, rfl, Option.some.inj hF, ht⟩) (fun _ h => by cases h) dJ9_floorDiv_f86c9_29
  · have hF := zc_neg c3 hF
    refine lv_lload hx hb dJ9_floorDiv_f86c9_13 (lv_at hl 0 rfl) ?_
    refine lv_lload_n hx hb dJ9_floorDiv_f86c9_15 rfl (lv_at hl 2 rfl) ?_
    refine lv_lmul hx hb dJ9_floorDiv_f86c9_16 ?_
    refine lv_lload_n hx hb dJ9_floorDiv_f86c9_17 rfl (lv_at hl 1 rfl) ?_
    refine W.lcmp hx hb dJ9_floorDiv_f86c9_18 ?_
    refine lv_if_eq (tgt := 27) hx hb dJ9_floorDiv_f86c9_19 (by decide) (fun c4 => ?_) (fun c4 => ?_)
    · have hF := zc_pos c4 hF
      refine lv_lload hx hb dJ9_floorDiv_f86c9_27 (lv_at hl 0 rfl) ?_
      exact W.lret hx hb hr (fun t ht hW => ⟨_, rfl, Option.some.inj hF, ht⟩) (fun _ h => by cases h) dJ9_floorDiv_f86c9_29
    · have hF := zc_neg c4 hF
      refine lv_lload hx hb dJ9_floorDiv_f86c9_22 (lv_at hl 0 rfl) ?_
      refine lv_lconst (v := (1 : Int64)) hx hb dJ9_floorDiv_f86c9_24 (by decide) ?_
      refine lv_lsub hx hb dJ9_floorDiv_f86c9_25 ?_
      exact W.lret hx hb hr (fun t ht hW => ⟨_, rfl, Option.some.inj hF, ht⟩) (fun _ h => by cases h) dJ9_floorDiv_f86c9_26
def fJ9_floorMod_7cf53 (a1 : Int32) (a2 : Int32) : Option (Int32) := zc_nz a2 (zc_let (a1 - a1 / a2 * a2) fun (x2 : Int32) => if 0 ≤ (a1 ^^^ a2) then (some x2) else (if x2 = 0 then (some x2) else (some (x2 + a2))))
set_option maxHeartbeats 4000000 in
set_option maxRecDepth 100000 in
theorem kJ9_floorMod_7cf53 (l : Launch) (G : zc_G)  {a1 : Int32} {a2 : Int32} {r0 : Int32} (hF : fJ9_floorMod_7cf53 a1 a2 = some r0) : Met l yJ9_floorMod_7cf53 wsJ9_floorMod_7cf53 ({ frames := 0, cells := 0, slots := 0, locals := 0 }) (zc_Pp G [.int a1, .int a2] ([])) (vp_Si (fun r => r = r0)) 0 0 (fun _ => False) := by
  refine va_MetF (cc := cJ9_floorMod_7cf53) (maxL := 3) (ret := (some .int)) (by decide +kernel) rfl ?_
  intro p e s m args below meth c s₁ B hml hv
  obtain ⟨rfl, hP, hK⟩ := hv
  have hx := B.exec
  have hb := B.bytes
  have hr := B.returns
  have hts := atoms_spec (ws := wsJ9_floorMod_7cf53) B.pre
  have hown : s.vm.findClass RJ9 = some m.cls := findClass_of_methodNamed B.named
  have hlocks := B.notSynchronized
  have hl := lv_entry ([.int a1, .int a2]) (n := 3) (Nat.le_of_ble_eq_true rfl)
  rw [lg_entry_eq]
  generalize (lg_sl ([.int a1, .int a2]) ++ List.replicate (3 - (lg_sl ([.int a1, .int a2])).length) Slot.unset).toArray = ls at hl ⊢
  have hl : lv_has ls 3 [(0, .int a1), (1, .int a2)] := hl
  refine lv_iload_n hx hb dJ9_floorMod_7cf53_0 rfl (lv_at hl 0 rfl) ?_
  refine lv_iload_n hx hb dJ9_floorMod_7cf53_1 rfl (lv_at hl 1 rfl) ?_
  obtain ⟨hnz1, hF⟩ := zc_nzE hF
  refine lv_irem hx hb dJ9_floorMod_7cf53_2 hnz1 ?_
  refine lv_topi (fun x2 ex2 => ?_)
  have hF := zc_letE ex2 hF
  refine lv_istore_n (lv' := [(2, .int x2), (0, .int a1), (1, .int a2)]) hx hb dJ9_floorMod_7cf53_3 rfl hl (by decide) rfl (fun ls hl => ?_)
  refine lv_iload_n hx hb dJ9_floorMod_7cf53_4 rfl (lv_at hl 1 rfl) ?_
  refine lv_iload_n hx hb dJ9_floorMod_7cf53_5 rfl (lv_at hl 2 rfl) ?_
  refine lv_ixor hx hb dJ9_floorMod_7cf53_6 ?_
  refine lv_if_ge (tgt := 18) hx hb dJ9_floorMod_7cf53_7 (by decide) (fun c3 => ?_) (fun c3 => ?_)
  · have hF := zc_pos c3 hF
    refine lv_iload_n hx hb dJ9_floorMod_7cf53_18 rfl (lv_at hl 0 rfl) ?_
    exact W.iret hx hb hr (fun t ht hW => ⟨_, rfl, Option.some.inj hF, ht⟩) (fun _ h => by cases h) dJ9_floorMod_7cf53_19
  · have hF := zc_neg c3 hF
    refine lv_iload_n hx hb dJ9_floorMod_7cf53_10 rfl (lv_at hl 0 rfl) ?_
    refine lv_if_eq (tgt := 18) hx hb dJ9_floorMod_7cf53_11 (by decide) (fun c4 => ?_) (fun c4 => ?_)
    · have hF := zc_pos c4 hF
      refine lv_iload_n hx hb dJ9_floorMod_7cf53_18 rfl (lv_at hl 0 rfl) ?_
      exact W.iret hx hb hr (fun t ht hW => ⟨_, rfl, Option.some.inj hF, ht⟩) (fun _ h => by cases h) dJ9_floorMod_7cf53_19
    · have hF := zc_neg c4 hF
      refine lv_iload_n hx hb dJ9_floorMod_7cf53_14 rfl (lv_at hl 0 rfl) ?_
      refine lv_iload_n hx hb dJ9_floorMod_7cf53_15 rfl (lv_at hl 2 rfl) ?_
      refine lv_iadd hx hb dJ9_floorMod_7cf53_16 ?_
      exact W.iret hx hb hr (fun t ht hW => ⟨_, rfl, Option.some.inj hF, ht⟩) (fun _ h => by cases h) dJ9_floorMod_7cf53_17
def fJ9_floorMod_f86c9 (a1 : Int64) (a2 : Int64) : Option (Int64) := zc_nzL a2 (zc_let (a1 - a1 / a2 * a2) fun (x2 : Int64) => if 0 ≤ (lg_cmp (a1 ^^^ a2) (0 : Int64)) then (some x2) else (if (lg_cmp x2 (0 : Int64)) = 0 then (some x2) else (some (x2 + a2))))
set_option maxHeartbeats 4000000 in
set_option maxRecDepth 100000 in
theorem kJ9_floorMod_f86c9 (l : Launch) (G : zc_G)  {a1 : Int64} {a2 : Int64} {r0 : Int64} (hF : fJ9_floorMod_f86c9 a1 a2 = some r0) : Met l yJ9_floorMod_f86c9 wsJ9_floorMod_f86c9 ({ frames := 0, cells := 0, slots := 0, locals := 0 }) (zc_Pp G [.long a1, .long a2] ([])) (vp_Sl (fun r => r = r0)) 0 0 (fun _ => False) := by
  refine va_MetF (cc := cJ9_floorMod_f86c9) (maxL := 6) (ret := (some .long)) (by decide +kernel) rfl ?_
  intro p e s m args below meth c s₁ B hml hv
  obtain ⟨rfl, hP, hK⟩ := hv
  have hx := B.exec
  have hb := B.bytes
  have hr := B.returns
  have hts := atoms_spec (ws := wsJ9_floorMod_f86c9) B.pre
  have hown : s.vm.findClass RJ9 = some m.cls := findClass_of_methodNamed B.named
  have hlocks := B.notSynchronized
  have hl := lv_entry ([.long a1, .long a2]) (n := 6) (Nat.le_of_ble_eq_true rfl)
  rw [lg_entry_eq]
  generalize (lg_sl ([.long a1, .long a2]) ++ List.replicate (6 - (lg_sl ([.long a1, .long a2])).length) Slot.unset).toArray = ls at hl ⊢
  have hl : lv_has ls 6 [(0, .long a1), (2, .long a2)] := hl
  refine lv_lload_n hx hb dJ9_floorMod_f86c9_0 rfl (lv_at hl 0 rfl) ?_
  refine lv_lload_n hx hb dJ9_floorMod_f86c9_1 rfl (lv_at hl 1 rfl) ?_
  obtain ⟨hnz1, hF⟩ := zc_nzLE hF
  refine lv_lrem hx hb dJ9_floorMod_f86c9_2 hnz1 ?_
  refine lv_topl (fun x2 ex2 => ?_)
  have hF := zc_letE ex2 hF
  refine lv_lstore (lv' := [(4, .long x2), (0, .long a1), (2, .long a2)]) hx hb dJ9_floorMod_f86c9_3 hl (by decide) rfl (fun ls hl => ?_)
  refine lv_lload_n hx hb dJ9_floorMod_f86c9_5 rfl (lv_at hl 1 rfl) ?_
  refine lv_lload_n hx hb dJ9_floorMod_f86c9_6 rfl (lv_at hl 2 rfl) ?_
  refine lv_lxor hx hb dJ9_floorMod_f86c9_7 ?_
  refine lv_lconst (v := (0 : Int64)) hx hb dJ9_floorMod_f86c9_8 (by decide) ?_
  refine W.lcmp hx hb dJ9_floorMod_f86c9_9 ?_
  refine lv_if_ge (tgt := 25) hx hb dJ9_floorMod_f86c9_10 (by decide) (fun c3 => ?_) (fun c3 => ?_)
  · have hF := zc_pos c3 hF
    refine lv_lload hx hb dJ9_floorMod_f86c9_25 (lv_at hl 0 rfl) ?_
    exact W.lret hx hb hr (fun t ht hW => ⟨_, rfl, Option.some.inj hF, ht⟩) (fun _ h => by cases h) dJ9_floorMod_f86c9_27
  · have hF := zc_neg c3 hF
    refine lv_lload hx hb dJ9_floorMod_f86c9_13 (lv_at hl 0 rfl) ?_
    refine lv_lconst (v := (0 : Int64)) hx hb dJ9_floorMod_f86c9_15 (by decide) ?_
    refine W.lcmp hx hb dJ9_floorMod_f86c9_16 ?_
    refine lv_if_eq (tgt := 25) hx hb dJ9_floorMod_f86c9_17 (by decide) (fun c4 => ?_) (fun c4 => ?_)
    · have hF := zc_pos c4 hF
      refine lv_lload hx hb dJ9_floorMod_f86c9_25 (lv_at hl 0 rfl) ?_
      exact W.lret hx hb hr (fun t ht hW => ⟨_, rfl, Option.some.inj hF, ht⟩) (fun _ h => by cases h) dJ9_floorMod_f86c9_27
    · have hF := zc_neg c4 hF
      refine lv_lload hx hb dJ9_floorMod_f86c9_20 (lv_at hl 0 rfl) ?_
      refine lv_lload_n hx hb dJ9_floorMod_f86c9_22 rfl (lv_at hl 2 rfl) ?_
      refine lv_ladd hx hb dJ9_floorMod_f86c9_23 ?_
      exact W.lret hx hb hr (fun t ht hW => ⟨_, rfl, Option.some.inj hF, ht⟩) (fun _ h => by cases h) dJ9_floorMod_f86c9_24
def fX2_asInt (a1 : Int32) : Option (Int32) := if a1 = 0 then (some (0 : Int32)) else (some (1 : Int32))
set_option maxHeartbeats 4000000 in
set_option maxRecDepth 100000 in
theorem kX2_asInt (l : Launch) (G : zc_G)  {a1 : Int32} {r0 : Int32} (hF : fX2_asInt a1 = some r0) : Met l yX2_asInt wsX2_asInt ({ frames := 0, cells := 0, slots := 0, locals := 0 }) (zc_Pp G [.int a1] ([])) (vp_Si (fun r => r = r0)) 0 0 (fun _ => False) := by
  refine Met.ofW (cc := cX2_asInt) (maxL := 1) (ret := (some .int)) (by decide) rfl ?_
  intro p e s m args below meth c s₁ B hml hv
  obtain ⟨rfl, hP, hK⟩ := hv
  have hx := B.exec
  have hb := B.bytes
  have hr := B.returns
  have hts := atoms_spec (ws := wsX2_asInt) B.pre
  have hown : s.vm.findClass RX2 = some m.cls := findClass_of_methodNamed B.named
  have hlocks := B.notSynchronized
  have hl := lv_entry ([.int a1]) (n := 1) (Nat.le_of_ble_eq_true rfl)
  rw [lg_entry_eq]
  generalize (lg_sl ([.int a1]) ++ List.replicate (1 - (lg_sl ([.int a1])).length) Slot.unset).toArray = ls at hl ⊢
  have hl : lv_has ls 1 [(0, .int a1)] := hl
  refine lv_iload_n hx hb dX2_asInt_0 rfl (lv_at hl 0 rfl) ?_
  refine lv_if_eq (tgt := 8) hx hb dX2_asInt_1 (by decide) (fun c1 => ?_) (fun c1 => ?_)
  · have hF := zc_pos c1 hF
    refine lv_iconst (v := (0 : Int32)) hx hb dX2_asInt_8 (by decide) ?_
    exact W.iret hx hb hr (fun t ht hW => ⟨_, rfl, Option.some.inj hF, ht⟩) (fun _ h => by cases h) dX2_asInt_9
  · have hF := zc_neg c1 hF
    refine lv_iconst (v := (1 : Int32)) hx hb dX2_asInt_4 (by decide) ?_
    refine lv_goto (tgt := 9) hx hb dX2_asInt_5 (by decide) ?_
    exact W.iret hx hb hr (fun t ht hW => ⟨_, rfl, Option.some.inj hF, ht⟩) (fun _ h => by cases h) dX2_asInt_9
def fX2_isWithin (a1 : Int32) (a2 : Int32) (a3 : Int32) : Option (Int32) := if a1 < a2 then (some (0 : Int32)) else (if a3 < a1 then (some (0 : Int32)) else (some (1 : Int32)))
set_option maxHeartbeats 4000000 in
set_option maxRecDepth 100000 in
theorem kX2_isWithin (l : Launch) (G : zc_G)  {a1 : Int32} {a2 : Int32} {a3 : Int32} {r0 : Int32} (hF : fX2_isWithin a1 a2 a3 = some r0) : Met l yX2_isWithin wsX2_isWithin ({ frames := 0, cells := 0, slots := 0, locals := 0 }) (zc_Pp G [.int a1, .int a2, .int a3] ([])) (vp_Si (fun r => r = r0)) 0 0 (fun _ => False) := by
  refine Met.ofW (cc := cX2_isWithin) (maxL := 3) (ret := (some .boolean)) (by decide) rfl ?_
  intro p e s m args below meth c s₁ B hml hv
  obtain ⟨rfl, hP, hK⟩ := hv
  have hx := B.exec
  have hb := B.bytes
  have hr := B.returns
  have hts := atoms_spec (ws := wsX2_isWithin) B.pre
  have hown : s.vm.findClass RX2 = some m.cls := findClass_of_methodNamed B.named
  have hlocks := B.notSynchronized
  have hl := lv_entry ([.int a1, .int a2, .int a3]) (n := 3) (Nat.le_of_ble_eq_true rfl)
  rw [lg_entry_eq]
  generalize (lg_sl ([.int a1, .int a2, .int a3]) ++ List.replicate (3 - (lg_sl ([.int a1, .int a2, .int a3])).length) Slot.unset).toArray = ls at hl ⊢
  have hl : lv_has ls 3 [(0, .int a1), (1, .int a2), (2, .int a3)] := hl
  refine lv_iload_n hx hb dX2_isWithin_0 rfl (lv_at hl 0 rfl) ?_
  refine lv_iload_n hx hb dX2_isWithin_1 rfl (lv_at hl 1 rfl) ?_
  refine lv_icmp_lt (tgt := 14) hx hb dX2_isWithin_2 (by decide) (fun c1 => ?_) (fun c1 => ?_)
  · have hF := zc_pos c1 hF
    refine lv_iconst (v := (0 : Int32)) hx hb dX2_isWithin_14 (by decide) ?_
    exact W.zret hx hb hr (by decide) (fun t ht hW => ⟨_, rfl, Option.some.inj hF, ht⟩) (fun _ h => by cases h) dX2_isWithin_15
  · have hF := zc_neg c1 hF
    refine lv_iload_n hx hb dX2_isWithin_5 rfl (lv_at hl 0 rfl) ?_
    refine lv_iload_n hx hb dX2_isWithin_6 rfl (lv_at hl 2 rfl) ?_
    refine lv_icmp_gt (tgt := 14) hx hb dX2_isWithin_7 (by decide) (fun c2 => ?_) (fun c2 => ?_)
    · have hF := zc_pos c2 hF
      refine lv_iconst (v := (0 : Int32)) hx hb dX2_isWithin_14 (by decide) ?_
      exact W.zret hx hb hr (by decide) (fun t ht hW => ⟨_, rfl, Option.some.inj hF, ht⟩) (fun _ h => by cases h) dX2_isWithin_15
    · have hF := zc_neg c2 hF
      refine lv_iconst (v := (1 : Int32)) hx hb dX2_isWithin_10 (by decide) ?_
      refine lv_goto (tgt := 15) hx hb dX2_isWithin_11 (by decide) ?_
      exact W.zret hx hb hr (by decide) (fun t ht hW => ⟨_, rfl, Option.some.inj hF, ht⟩) (fun _ h => by cases h) dX2_isWithin_15
def fX2_heldBetween (a1 : Int64) (a2 : Int64) (a3 : Int64) : Option (Int64) := some (if (if a3 < a1 then a3 else a1) < a2 then a2 else (if a3 < a1 then a3 else a1))
set_option maxHeartbeats 4000000 in
set_option maxRecDepth 100000 in
theorem kX2_heldBetween (l : Launch) (G : zc_G)  {a1 : Int64} {a2 : Int64} {a3 : Int64} {r0 : Int64} (hF : fX2_heldBetween a1 a2 a3 = some r0) : Met l yX2_heldBetween wsX2_heldBetween ({ frames := 1, cells := 0, slots := 0, locals := 25 }) (zc_Pp G [.long a1, .long a2, .long a3] ([])) (vp_Sl (fun r => r = r0)) 0 0 (fun _ => False) := by
  refine Met.ofW (cc := cX2_heldBetween) (maxL := 6) (ret := (some .long)) (by decide) rfl ?_
  intro p e s m args below meth c s₁ B hml hv
  obtain ⟨rfl, hP, hK⟩ := hv
  have hx := B.exec
  have hb := B.bytes
  have hr := B.returns
  have hts := atoms_spec (ws := wsX2_heldBetween) B.pre
  have hown : s.vm.findClass RX2 = some m.cls := findClass_of_methodNamed B.named
  have hlocks := B.notSynchronized
  have hl := lv_entry ([.long a1, .long a2, .long a3]) (n := 6) (Nat.le_of_ble_eq_true rfl)
  rw [lg_entry_eq]
  generalize (lg_sl ([.long a1, .long a2, .long a3]) ++ List.replicate (6 - (lg_sl ([.long a1, .long a2, .long a3])).length) Slot.unset).toArray = ls at hl ⊢
  have hl : lv_has ls 6 [(0, .long a1), (2, .long a2), (4, .long a3)] := hl
  refine lv_lload_n hx hb dX2_heldBetween_0 rfl (lv_at hl 1 rfl) ?_
  refine lv_lload_n hx hb dX2_heldBetween_1 rfl (lv_at hl 0 rfl) ?_
  refine lv_lload hx hb dX2_heldBetween_2 (lv_at hl 2 rfl) ?_
  refine va_mmin_long hx hb (hml.trans hl.1.symm) hown (hts (.methodLink RX2 248 Lib.MathLoose.min_long.x) (List.mem_of_getElem? (i := 1) rfl)) (hts (.static Lib.MathLoose.min_long.x) (List.mem_of_getElem? (i := 2) rfl)) (hts (.initialized "java/lang/Math") (List.mem_of_getElem? (i := 3) rfl)) (hts (.code Lib.MathLoose.min_long.x Lib.MathLoose.min_long.code 4 (some .long)) (List.mem_of_getElem? (i := 4) rfl)) (Nat.le_of_ble_eq_true rfl) (Nat.le_of_ble_eq_true rfl) (Nat.zero_le _) (Nat.zero_le _) dX2_heldBetween_4 ?_
  refine va_mmax_long hx hb (hml.trans hl.1.symm) hown (hts (.methodLink RX2 251 Lib.MathLoose.max_long.x) (List.mem_of_getElem? (i := 5) rfl)) (hts (.static Lib.MathLoose.max_long.x) (List.mem_of_getElem? (i := 6) rfl)) (hts (.initialized "java/lang/Math") (List.mem_of_getElem? (i := 3) rfl)) (hts (.code Lib.MathLoose.max_long.x Lib.MathLoose.max_long.code 4 (some .long)) (List.mem_of_getElem? (i := 7) rfl)) (Nat.le_of_ble_eq_true rfl) (Nat.le_of_ble_eq_true rfl) (Nat.zero_le _) (Nat.zero_le _) dX2_heldBetween_7 ?_
  exact W.lret hx hb hr (fun t ht hW => ⟨_, rfl, Option.some.inj hF, ht⟩) (fun _ h => by cases h) dX2_heldBetween_10
def fX2_isSpan (a1 : Int32) : Option (Int32) := if a1 < 0 then (some (0 : Int32)) else (if (9 : Int32) ≤ a1 then (some (0 : Int32)) else (some (1 : Int32)))
set_option maxHeartbeats 4000000 in
set_option maxRecDepth 100000 in
theorem kX2_isSpan (l : Launch) (G : zc_G)  {a1 : Int32} {r0 : Int32} (hF : fX2_isSpan a1 = some r0) : Met l yX2_isSpan wsX2_isSpan ({ frames := 0, cells := 0, slots := 0, locals := 0 }) (zc_Pp G [.int a1] ([])) (vp_Si (fun r => r = r0)) 0 0 (fun _ => False) := by
  refine Met.ofW (cc := cX2_isSpan) (maxL := 1) (ret := (some .boolean)) (by decide) rfl ?_
  intro p e s m args below meth c s₁ B hml hv
  obtain ⟨rfl, hP, hK⟩ := hv
  have hx := B.exec
  have hb := B.bytes
  have hr := B.returns
  have hts := atoms_spec (ws := wsX2_isSpan) B.pre
  have hown : s.vm.findClass RX2 = some m.cls := findClass_of_methodNamed B.named
  have hlocks := B.notSynchronized
  have hl := lv_entry ([.int a1]) (n := 1) (Nat.le_of_ble_eq_true rfl)
  rw [lg_entry_eq]
  generalize (lg_sl ([.int a1]) ++ List.replicate (1 - (lg_sl ([.int a1])).length) Slot.unset).toArray = ls at hl ⊢
  have hl : lv_has ls 1 [(0, .int a1)] := hl
  refine lv_iload_n hx hb dX2_isSpan_0 rfl (lv_at hl 0 rfl) ?_
  refine lv_if_lt (tgt := 14) hx hb dX2_isSpan_1 (by decide) (fun c1 => ?_) (fun c1 => ?_)
  · have hF := zc_pos c1 hF
    refine lv_iconst (v := (0 : Int32)) hx hb dX2_isSpan_14 (by decide) ?_
    exact W.zret hx hb hr (by decide) (fun t ht hW => ⟨_, rfl, Option.some.inj hF, ht⟩) (fun _ h => by cases h) dX2_isSpan_15
  · have hF := zc_neg c1 hF
    refine lv_iload_n hx hb dX2_isSpan_4 rfl (lv_at hl 0 rfl) ?_
    refine lv_bipush (v := (9 : Int32)) hx hb dX2_isSpan_5 (by decide) ?_
    refine lv_icmp_ge (tgt := 14) hx hb dX2_isSpan_7 (by decide) (fun c2 => ?_) (fun c2 => ?_)
    · have hF := zc_pos c2 hF
      refine lv_iconst (v := (0 : Int32)) hx hb dX2_isSpan_14 (by decide) ?_
      exact W.zret hx hb hr (by decide) (fun t ht hW => ⟨_, rfl, Option.some.inj hF, ht⟩) (fun _ h => by cases h) dX2_isSpan_15
    · have hF := zc_neg c2 hF
      refine lv_iconst (v := (1 : Int32)) hx hb dX2_isSpan_10 (by decide) ?_
      refine lv_goto (tgt := 15) hx hb dX2_isSpan_11 (by decide) ?_
      exact W.zret hx hb hr (by decide) (fun t ht hW => ⟨_, rfl, Option.some.inj hF, ht⟩) (fun _ h => by cases h) dX2_isSpan_15
def fX2_spanOf (a1 : Int32) : Option (Int32) := some ((a1 - (-20 : Int32)) / (10 : Int32))
set_option maxHeartbeats 4000000 in
set_option maxRecDepth 100000 in
theorem kX2_spanOf (l : Launch) (G : zc_G)  {a1 : Int32} {r0 : Int32} (hF : fX2_spanOf a1 = some r0) : Met l yX2_spanOf wsX2_spanOf ({ frames := 0, cells := 0, slots := 0, locals := 0 }) (zc_Pp G [.int a1] ([])) (vp_Si (fun r => r = r0)) 0 0 (fun _ => False) := by
  refine Met.ofW (cc := cX2_spanOf) (maxL := 1) (ret := (some .int)) (by decide) rfl ?_
  intro p e s m args below meth c s₁ B hml hv
  obtain ⟨rfl, hP, hK⟩ := hv
  have hx := B.exec
  have hb := B.bytes
  have hr := B.returns
  have hts := atoms_spec (ws := wsX2_spanOf) B.pre
  have hown : s.vm.findClass RX2 = some m.cls := findClass_of_methodNamed B.named
  have hlocks := B.notSynchronized
  have hl := lv_entry ([.int a1]) (n := 1) (Nat.le_of_ble_eq_true rfl)
  rw [lg_entry_eq]
  generalize (lg_sl ([.int a1]) ++ List.replicate (1 - (lg_sl ([.int a1])).length) Slot.unset).toArray = ls at hl ⊢
  have hl : lv_has ls 1 [(0, .int a1)] := hl
  refine lv_iload_n hx hb dX2_spanOf_0 rfl (lv_at hl 0 rfl) ?_
  refine lv_bipush (v := (-20 : Int32)) hx hb dX2_spanOf_1 (by decide) ?_
  refine lv_isub hx hb dX2_spanOf_3 ?_
  refine lv_bipush (v := (10 : Int32)) hx hb dX2_spanOf_4 (by decide) ?_
  refine lv_idiv hx hb dX2_spanOf_6 (by decide) ?_
  exact W.iret hx hb hr (fun t ht hW => ⟨_, rfl, Option.some.inj hF, ht⟩) (fun _ h => by cases h) dX2_spanOf_7
def fX2_minuteOf (a1 : Int64) : Option (Int32) := some ((a1 - a1 / (60 : Int64) * (60 : Int64))).toInt32
set_option maxHeartbeats 4000000 in
set_option maxRecDepth 100000 in
theorem kX2_minuteOf (l : Launch) (G : zc_G)  {a1 : Int64} {r0 : Int32} (hF : fX2_minuteOf a1 = some r0) : Met l yX2_minuteOf wsX2_minuteOf ({ frames := 0, cells := 0, slots := 0, locals := 0 }) (zc_Pp G [.long a1] ([])) (vp_Si (fun r => r = r0)) 0 0 (fun _ => False) := by
  refine Met.ofW (cc := cX2_minuteOf) (maxL := 2) (ret := (some .int)) (by decide) rfl ?_
  intro p e s m args below meth c s₁ B hml hv
  obtain ⟨rfl, hP, hK⟩ := hv
  have hx := B.exec
  have hb := B.bytes
  have hr := B.returns
  have hts := atoms_spec (ws := wsX2_minuteOf) B.pre
  have hown : s.vm.findClass RX2 = some m.cls := findClass_of_methodNamed B.named
  have hlocks := B.notSynchronized
  have hl := lv_entry ([.long a1]) (n := 2) (Nat.le_of_ble_eq_true rfl)
  rw [lg_entry_eq]
  generalize (lg_sl ([.long a1]) ++ List.replicate (2 - (lg_sl ([.long a1])).length) Slot.unset).toArray = ls at hl ⊢
  have hl : lv_has ls 2 [(0, .long a1)] := hl
  refine lv_lload_n hx hb dX2_minuteOf_0 rfl (lv_at hl 0 rfl) ?_
  refine lv_ldc2 hx hb hown (hts (.constantLong RX2 254 (60)) (List.mem_of_getElem? (i := 1) rfl)) dX2_minuteOf_1 ?_
  refine lv_lrem hx hb dX2_minuteOf_4 (by decide) ?_
  refine lv_l2i hx hb dX2_minuteOf_5 rfl ?_
  exact W.iret hx hb hr (fun t ht hW => ⟨_, rfl, Option.some.inj hF, ht⟩) (fun _ h => by cases h) dX2_minuteOf_6
def fX2_hourOf (a1 : Int64) : Option (Int32) := some (((a1 / (60 : Int64)) - (a1 / (60 : Int64)) / (24 : Int64) * (24 : Int64))).toInt32
set_option maxHeartbeats 4000000 in
set_option maxRecDepth 100000 in
theorem kX2_hourOf (l : Launch) (G : zc_G)  {a1 : Int64} {r0 : Int32} (hF : fX2_hourOf a1 = some r0) : Met l yX2_hourOf wsX2_hourOf ({ frames := 0, cells := 0, slots := 0, locals := 0 }) (zc_Pp G [.long a1] ([])) (vp_Si (fun r => r = r0)) 0 0 (fun _ => False) := by
  refine Met.ofW (cc := cX2_hourOf) (maxL := 2) (ret := (some .int)) (by decide) rfl ?_
  intro p e s m args below meth c s₁ B hml hv
  obtain ⟨rfl, hP, hK⟩ := hv
  have hx := B.exec
  have hb := B.bytes
  have hr := B.returns
  have hts := atoms_spec (ws := wsX2_hourOf) B.pre
  have hown : s.vm.findClass RX2 = some m.cls := findClass_of_methodNamed B.named
  have hlocks := B.notSynchronized
  have hl := lv_entry ([.long a1]) (n := 2) (Nat.le_of_ble_eq_true rfl)
  rw [lg_entry_eq]
  generalize (lg_sl ([.long a1]) ++ List.replicate (2 - (lg_sl ([.long a1])).length) Slot.unset).toArray = ls at hl ⊢
  have hl : lv_has ls 2 [(0, .long a1)] := hl
  refine lv_lload_n hx hb dX2_hourOf_0 rfl (lv_at hl 0 rfl) ?_
  refine lv_ldc2 hx hb hown (hts (.constantLong RX2 254 (60)) (List.mem_of_getElem? (i := 1) rfl)) dX2_hourOf_1 ?_
  refine lv_ldiv hx hb dX2_hourOf_4 (by decide) ?_
  refine lv_ldc2 hx hb hown (hts (.constantLong RX2 256 (24)) (List.mem_of_getElem? (i := 2) rfl)) dX2_hourOf_5 ?_
  refine lv_lrem hx hb dX2_hourOf_8 (by decide) ?_
  refine lv_l2i hx hb dX2_hourOf_9 rfl ?_
  exact W.iret hx hb hr (fun t ht hW => ⟨_, rfl, Option.some.inj hF, ht⟩) (fun _ h => by cases h) dX2_hourOf_10
def fX2_weekdayOf (a1 : Int64) : Option (Int32) := some (((a1 / (1440 : Int64)) - (a1 / (1440 : Int64)) / (7 : Int64) * (7 : Int64))).toInt32
set_option maxHeartbeats 4000000 in
set_option maxRecDepth 100000 in
theorem kX2_weekdayOf (l : Launch) (G : zc_G)  {a1 : Int64} {r0 : Int32} (hF : fX2_weekdayOf a1 = some r0) : Met l yX2_weekdayOf wsX2_weekdayOf ({ frames := 0, cells := 0, slots := 0, locals := 0 }) (zc_Pp G [.long a1] ([])) (vp_Si (fun r => r = r0)) 0 0 (fun _ => False) := by
  refine Met.ofW (cc := cX2_weekdayOf) (maxL := 2) (ret := (some .int)) (by decide) rfl ?_
  intro p e s m args below meth c s₁ B hml hv
  obtain ⟨rfl, hP, hK⟩ := hv
  have hx := B.exec
  have hb := B.bytes
  have hr := B.returns
  have hts := atoms_spec (ws := wsX2_weekdayOf) B.pre
  have hown : s.vm.findClass RX2 = some m.cls := findClass_of_methodNamed B.named
  have hlocks := B.notSynchronized
  have hl := lv_entry ([.long a1]) (n := 2) (Nat.le_of_ble_eq_true rfl)
  rw [lg_entry_eq]
  generalize (lg_sl ([.long a1]) ++ List.replicate (2 - (lg_sl ([.long a1])).length) Slot.unset).toArray = ls at hl ⊢
  have hl : lv_has ls 2 [(0, .long a1)] := hl
  refine lv_lload_n hx hb dX2_weekdayOf_0 rfl (lv_at hl 0 rfl) ?_
  refine lv_ldc2 hx hb hown (hts (.constantLong RX2 258 (1440)) (List.mem_of_getElem? (i := 1) rfl)) dX2_weekdayOf_1 ?_
  refine lv_ldiv hx hb dX2_weekdayOf_4 (by decide) ?_
  refine lv_ldc2 hx hb hown (hts (.constantLong RX2 260 (7)) (List.mem_of_getElem? (i := 2) rfl)) dX2_weekdayOf_5 ?_
  refine lv_lrem hx hb dX2_weekdayOf_8 (by decide) ?_
  refine lv_l2i hx hb dX2_weekdayOf_9 rfl ?_
  exact W.iret hx hb hr (fun t ht hW => ⟨_, rfl, Option.some.inj hF, ht⟩) (fun _ h => by cases h) dX2_weekdayOf_10
