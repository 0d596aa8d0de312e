def fX3_in (a1 : Int64) (a2 : Int64) (a3 : Int64) : Option (Int32) := if (lg_cmp a1 a2) < 0 then (some (0 : Int32)) else (if 0 < (lg_cmp a1 a3) then (some (0 : Int32)) else (some (1 : Int32)))
set_option maxHeartbeats 4000000 in
set_option maxRecDepth 100000 in
theorem kX3_in (l : Launch) (G : zc_G)  {a1 : Int64} {a2 : Int64} {a3 : Int64} {r0 : Int32} (hF : fX3_in a1 a2 a3 = some r0) : Met l yX3_in wsX3_in ({ frames := 0, cells := 0, slots := 0, locals := 0 }) (zc_Pp G [.long a1, .long a2, .long a3] ([])) (vp_Si (fun r => r = r0)) 0 0 (fun _ => False) := by
  refine Met.ofW (cc := cX3_in) (maxL := 6) (ret := (some .boolean)) (by decide) rfl ?_
  intro p e s m args below meth c s₁ B hml hv
  obtain ⟨rfl, hP, hK⟩ := hv
  have hx := B.exec
  have hb := B.bytes
  have hr := B.returns
  have hts := atoms_spec (ws := wsX3_in) B.pre
  have hown : s.vm.findClass RX3 = some m.cls := findClass_of_methodNamed B.named
  have hlocks := B.notSynchronized
  have hl := lv_entry ([.long a1, .long a2, .long a3]) (n := 6) (Nat.le_of_ble_eq_true rfl)
  rw [lg_entry_eq]
  generalize (lg_sl ([.long a1, .long a2, .long a3]) ++ List.replicate (6 - (lg_sl ([.long a1, .long a2, .long a3])).length) Slot.unset).toArray = ls at hl ⊢
  have hl : lv_has ls 6 [(0, .long a1), (2, .long a2), (4, .long a3)] := hl
  refine lv_lload_n hx hb dX3_in_0 rfl (lv_at hl 0 rfl) ?_
  refine lv_lload_n hx hb dX3_in_1 rfl (lv_at hl 1 rfl) ?_
  refine W.lcmp hx hb dX3_in_2 ?_
  refine lv_if_lt (tgt := 17) hx hb dX3_in_3 (by decide) (fun c1 => ?_) (fun c1 => ?_)
  · have hF := zc_pos c1 hF
    refine lv_iconst (v := (0 : Int32)) hx hb dX3_in_17 (by decide) ?_
    exact W.zret hx hb hr (by decide) (fun t ht hW => ⟨_, rfl, Option.some.inj hF, ht⟩) (fun _ h => by cases h) dX3_in_18
  · have hF := zc_neg c1 hF
    refine lv_lload_n hx hb dX3_in_6 rfl (lv_at hl 0 rfl) ?_
    refine lv_lload hx hb dX3_in_7 (lv_at hl 2 rfl) ?_
    refine W.lcmp hx hb dX3_in_9 ?_
    refine lv_if_gt (tgt := 17) hx hb dX3_in_10 (by decide) (fun c2 => ?_) (fun c2 => ?_)
    · have hF := zc_pos c2 hF
      refine lv_iconst (v := (0 : Int32)) hx hb dX3_in_17 (by decide) ?_
      exact W.zret hx hb hr (by decide) (fun t ht hW => ⟨_, rfl, Option.some.inj hF, ht⟩) (fun _ h => by cases h) dX3_in_18
    · have hF := zc_neg c2 hF
      refine lv_iconst (v := (1 : Int32)) hx hb dX3_in_13 (by decide) ?_
      refine lv_goto (tgt := 18) hx hb dX3_in_14 (by decide) ?_
      exact W.zret hx hb hr (by decide) (fun t ht hW => ⟨_, rfl, Option.some.inj hF, ht⟩) (fun _ h => by cases h) dX3_in_18
def fX3_down (a1 : Int64) (a2 : Int64) : Option (Int64) := zc_nzL a2 (zc_let (a1 / a2) fun (x2 : Int64) => zc_nzL a2 (if 0 ≤ (lg_cmp (a1 - a1 / a2 * a2) (0 : Int64)) then (some x2) else (some (x2 - (1 : Int64)))))
set_option maxHeartbeats 4000000 in
set_option maxRecDepth 100000 in
theorem kX3_down (l : Launch) (G : zc_G)  {a1 : Int64} {a2 : Int64} {r0 : Int64} (hF : fX3_down a1 a2 = some r0) : Met l yX3_down wsX3_down ({ frames := 0, cells := 0, slots := 0, locals := 0 }) (zc_Pp G [.long a1, .long a2] ([])) (vp_Sl (fun r => r = r0)) 0 0 (fun _ => False) := by
  refine Met.ofW (cc := cX3_down) (maxL := 6) (ret := (some .long)) (by decide) rfl ?_
  intro p e s m args below meth c s₁ B hml hv
  obtain ⟨rfl, hP, hK⟩ := hv
  have hx := B.exec
  have hb := B.bytes
  have hr := B.returns
  have hts := atoms_spec (ws := wsX3_down) B.pre
  have hown : s.vm.findClass RX3 = some m.cls := findClass_of_methodNamed B.named
  have hlocks := B.notSynchronized
  have hl := lv_entry ([.long a1, .long a2]) (n := 6) (Nat.le_of_ble_eq_true rfl)
  rw [lg_entry_eq]
  generalize (lg_sl ([.long a1, .long a2]) ++ List.replicate (6 - (lg_sl ([.long a1, .long a2])).length) Slot.unset).toArray = ls at hl ⊢
  have hl : lv_has ls 6 [(0, .long a1), (2, .long a2)] := hl
  refine lv_lload_n hx hb dX3_down_0 rfl (lv_at hl 0 rfl) ?_
  refine lv_lload_n hx hb dX3_down_1 rfl (lv_at hl 1 rfl) ?_
  obtain ⟨hnz1, hF⟩ := zc_nzLE hF
  refine lv_ldiv hx hb dX3_down_2 hnz1 ?_
  refine lv_topl (fun x2 ex2 => ?_)
  have hF := zc_letE ex2 hF
  refine lv_lstore (lv' := [(4, .long x2), (0, .long a1), (2, .long a2)]) hx hb dX3_down_3 hl (by decide) rfl (fun ls hl => ?_)
  refine lv_lload_n hx hb dX3_down_5 rfl (lv_at hl 1 rfl) ?_
  refine lv_lload_n hx hb dX3_down_6 rfl (lv_at hl 2 rfl) ?_
  obtain ⟨hnz3, hF⟩ := zc_nzLE hF
  refine lv_lrem hx hb dX3_down_7 hnz3 ?_
  refine lv_lconst (v := (0 : Int64)) hx hb dX3_down_8 (by decide) ?_
  refine W.lcmp hx hb dX3_down_9 ?_
  refine lv_if_ge (tgt := 20) hx hb dX3_down_10 (by decide) (fun c4 => ?_) (fun c4 => ?_)
  · have hF := zc_pos c4 hF
    refine lv_lload hx hb dX3_down_20 (lv_at hl 0 rfl) ?_
    exact W.lret hx hb hr (fun t ht hW => ⟨_, rfl, Option.some.inj hF, ht⟩) (fun _ h => by cases h) dX3_down_22
  · have hF := zc_neg c4 hF
    refine lv_lload hx hb dX3_down_13 (lv_at hl 0 rfl) ?_
    refine lv_lconst (v := (1 : Int64)) hx hb dX3_down_15 (by decide) ?_
    refine lv_lsub hx hb dX3_down_16 ?_
    refine lv_goto (tgt := 22) hx hb dX3_down_17 (by decide) ?_
    exact W.lret hx hb hr (fun t ht hW => ⟨_, rfl, Option.some.inj hF, ht⟩) (fun _ h => by cases h) dX3_down_22
def fX3_lesser (a1 : Int64) (a2 : Int64) : Option (Int64) := if 0 ≤ (lg_cmp a1 a2) then (some a2) else (some a1)
set_option maxHeartbeats 4000000 in
set_option maxRecDepth 100000 in
theorem kX3_lesser (l : Launch) (G : zc_G)  {a1 : Int64} {a2 : Int64} {r0 : Int64} (hF : fX3_lesser a1 a2 = some r0) : Met l yX3_lesser wsX3_lesser ({ frames := 0, cells := 0, slots := 0, locals := 0 }) (zc_Pp G [.long a1, .long a2] ([])) (vp_Sl (fun r => r = r0)) 0 0 (fun _ => False) := by
  refine Met.ofW (cc := cX3_lesser) (maxL := 4) (ret := (some .long)) (by decide) rfl ?_
  intro p e s m args below meth c s₁ B hml hv
  obtain ⟨rfl, hP, hK⟩ := hv
  have hx := B.exec
  have hb := B.bytes
  have hr := B.returns
  have hts := atoms_spec (ws := wsX3_lesser) B.pre
  have hown : s.vm.findClass RX3 = some m.cls := findClass_of_methodNamed B.named
  have hlocks := B.notSynchronized
  have hl := lv_entry ([.long a1, .long a2]) (n := 4) (Nat.le_of_ble_eq_true rfl)
  rw [lg_entry_eq]
  generalize (lg_sl ([.long a1, .long a2]) ++ List.replicate (4 - (lg_sl ([.long a1, .long a2])).length) Slot.unset).toArray = ls at hl ⊢
  have hl : lv_has ls 4 [(0, .long a1), (2, .long a2)] := hl
  refine lv_lload_n hx hb dX3_lesser_0 rfl (lv_at hl 0 rfl) ?_
  refine lv_lload_n hx hb dX3_lesser_1 rfl (lv_at hl 1 rfl) ?_
  refine W.lcmp hx hb dX3_lesser_2 ?_
  refine lv_if_ge (tgt := 10) hx hb dX3_lesser_3 (by decide) (fun c1 => ?_) (fun c1 => ?_)
  · have hF := zc_pos c1 hF
    refine lv_lload_n hx hb dX3_lesser_10 rfl (lv_at hl 1 rfl) ?_
    exact W.lret hx hb hr (fun t ht hW => ⟨_, rfl, Option.some.inj hF, ht⟩) (fun _ h => by cases h) dX3_lesser_11
  · have hF := zc_neg c1 hF
    refine lv_lload_n hx hb dX3_lesser_6 rfl (lv_at hl 0 rfl) ?_
    refine lv_goto (tgt := 11) hx hb dX3_lesser_7 (by decide) ?_
    exact W.lret hx hb hr (fun t ht hW => ⟨_, rfl, Option.some.inj hF, ht⟩) (fun _ h => by cases h) dX3_lesser_11
def fX3_greater (a1 : Int64) (a2 : Int64) : Option (Int64) := if (lg_cmp a1 a2) ≤ 0 then (some a2) else (some a1)
set_option maxHeartbeats 4000000 in
set_option maxRecDepth 100000 in
theorem kX3_greater (l : Launch) (G : zc_G)  {a1 : Int64} {a2 : Int64} {r0 : Int64} (hF : fX3_greater a1 a2 = some r0) : Met l yX3_greater wsX3_greater ({ frames := 0, cells := 0, slots := 0, locals := 0 }) (zc_Pp G [.long a1, .long a2] ([])) (vp_Sl (fun r => r = r0)) 0 0 (fun _ => False) := by
  refine Met.ofW (cc := cX3_greater) (maxL := 4) (ret := (some .long)) (by decide) rfl ?_
  intro p e s m args below meth c s₁ B hml hv
  obtain ⟨rfl, hP, hK⟩ := hv
  have hx := B.exec
  have hb := B.bytes
  have hr := B.returns
  have hts := atoms_spec (ws := wsX3_greater) B.pre
  have hown : s.vm.findClass RX3 = some m.cls := findClass_of_methodNamed B.named
  have hlocks := B.notSynchronized
  have hl := lv_entry ([.long a1, .long a2]) (n := 4) (Nat.le_of_ble_eq_true rfl)
  rw [lg_entry_eq]
  generalize (lg_sl ([.long a1, .long a2]) ++ List.replicate (4 - (lg_sl ([.long a1, .long a2])).length) Slot.unset).toArray = ls at hl ⊢
  have hl : lv_has ls 4 [(0, .long a1), (2, .long a2)] := hl
  refine lv_lload_n hx hb dX3_greater_0 rfl (lv_at hl 0 rfl) ?_
  refine lv_lload_n hx hb dX3_greater_1 rfl (lv_at hl 1 rfl) ?_
  refine W.lcmp hx hb dX3_greater_2 ?_
  refine lv_if_le (tgt := 10) hx hb dX3_greater_3 (by decide) (fun c1 => ?_) (fun c1 => ?_)
  · have hF := zc_pos c1 hF
    refine lv_lload_n hx hb dX3_greater_10 rfl (lv_at hl 1 rfl) ?_
    exact W.lret hx hb hr (fun t ht hW => ⟨_, rfl, Option.some.inj hF, ht⟩) (fun _ h => by cases h) dX3_greater_11
  · have hF := zc_neg c1 hF
    refine lv_lload_n hx hb dX3_greater_6 rfl (lv_at hl 0 rfl) ?_
    refine lv_goto (tgt := 11) hx hb dX3_greater_7 (by decide) ?_
    exact W.lret hx hb hr (fun t ht hW => ⟨_, rfl, Option.some.inj hF, ht⟩) (fun _ h => by cases h) dX3_greater_11
def fX3_size (a1 : Int64) : Option (Int64) := if 0 ≤ (lg_cmp a1 (0 : Int64)) then (some a1) else (some (-a1))
set_option maxHeartbeats 4000000 in
set_option maxRecDepth 100000 in
theorem kX3_size (l : Launch) (G : zc_G)  {a1 : Int64} {r0 : Int64} (hF : fX3_size a1 = some r0) : Met l yX3_size wsX3_size ({ frames := 0, cells := 0, slots := 0, locals := 0 }) (zc_Pp G [.long a1] ([])) (vp_Sl (fun r => r = r0)) 0 0 (fun _ => False) := by
  refine Met.ofW (cc := cX3_size) (maxL := 2) (ret := (some .long)) (by decide) rfl ?_
  intro p e s m args below meth c s₁ B hml hv
  obtain ⟨rfl, hP, hK⟩ := hv
  have hx := B.exec
  have hb := B.bytes
  have hr := B.returns
  have hts := atoms_spec (ws := wsX3_size) B.pre
  have hown : s.vm.findClass RX3 = some m.cls := findClass_of_methodNamed B.named
  have hlocks := B.notSynchronized
  have hl := lv_entry ([.long a1]) (n := 2) (Nat.le_of_ble_eq_true rfl)
  rw [lg_entry_eq]
  generalize (lg_sl ([.long a1]) ++ List.replicate (2 - (lg_sl ([.long a1])).length) Slot.unset).toArray = ls at hl ⊢
  have hl : lv_has ls 2 [(0, .long a1)] := hl
  refine lv_lload_n hx hb dX3_size_0 rfl (lv_at hl 0 rfl) ?_
  refine lv_lconst (v := (0 : Int64)) hx hb dX3_size_1 (by decide) ?_
  refine W.lcmp hx hb dX3_size_2 ?_
  refine lv_if_ge (tgt := 11) hx hb dX3_size_3 (by decide) (fun c1 => ?_) (fun c1 => ?_)
  · have hF := zc_pos c1 hF
    refine lv_lload_n hx hb dX3_size_11 rfl (lv_at hl 0 rfl) ?_
    exact W.lret hx hb hr (fun t ht hW => ⟨_, rfl, Option.some.inj hF, ht⟩) (fun _ h => by cases h) dX3_size_12
  · have hF := zc_neg c1 hF
    refine lv_lload_n hx hb dX3_size_6 rfl (lv_at hl 0 rfl) ?_
    refine lv_lneg hx hb dX3_size_7 ?_
    refine lv_goto (tgt := 12) hx hb dX3_size_8 (by decide) ?_
    exact W.lret hx hb hr (fun t ht hW => ⟨_, rfl, Option.some.inj hF, ht⟩) (fun _ h => by cases h) dX3_size_12
def fX3_fitsIn (a1 : Int64) (a2 : Int64) : Option (Int32) := if (lg_cmp a1 (-1 : Int64)) = 0 then (some (1 : Int32)) else (if (lg_cmp a1 a2) = 0 then (some (1 : Int32)) else (some (0 : Int32)))
set_option maxHeartbeats 4000000 in
set_option maxRecDepth 100000 in
theorem kX3_fitsIn (l : Launch) (G : zc_G)  {a1 : Int64} {a2 : Int64} {r0 : Int32} (hF : fX3_fitsIn a1 a2 = some r0) : Met l yX3_fitsIn wsX3_fitsIn ({ frames := 0, cells := 0, slots := 0, locals := 0 }) (zc_Pp G [.long a1, .long a2] ([])) (vp_Si (fun r => r = r0)) 0 0 (fun _ => False) := by
  refine Met.ofW (cc := cX3_fitsIn) (maxL := 4) (ret := (some .boolean)) (by decide) rfl ?_
  intro p e s m args below meth c s₁ B hml hv
  obtain ⟨rfl, hP, hK⟩ := hv
  have hx := B.exec
  have hb := B.bytes
  have hr := B.returns
  have hts := atoms_spec (ws := wsX3_fitsIn) B.pre
  have hown : s.vm.findClass RX3 = some m.cls := findClass_of_methodNamed B.named
  have hlocks := B.notSynchronized
  have hl := lv_entry ([.long a1, .long a2]) (n := 4) (Nat.le_of_ble_eq_true rfl)
  rw [lg_entry_eq]
  generalize (lg_sl ([.long a1, .long a2]) ++ List.replicate (4 - (lg_sl ([.long a1, .long a2])).length) Slot.unset).toArray = ls at hl ⊢
  have hl : lv_has ls 4 [(0, .long a1), (2, .long a2)] := hl
  refine lv_lload_n hx hb dX3_fitsIn_0 rfl (lv_at hl 0 rfl) ?_
  refine lv_ldc2 hx hb hown (hts (.constantLong RX3 35 (-1)) (List.mem_of_getElem? (i := 1) rfl)) dX3_fitsIn_1 ?_
  refine W.lcmp hx hb dX3_fitsIn_4 ?_
  refine lv_if_eq (tgt := 14) hx hb dX3_fitsIn_5 (by decide) (fun c1 => ?_) (fun c1 => ?_)
  · have hF := zc_pos c1 hF
    refine lv_iconst (v := (1 : Int32)) hx hb dX3_fitsIn_14 (by decide) ?_
    refine lv_goto (tgt := 19) hx hb dX3_fitsIn_15 (by decide) ?_
    exact W.zret hx hb hr (by decide) (fun t ht hW => ⟨_, rfl, Option.some.inj hF, ht⟩) (fun _ h => by cases h) dX3_fitsIn_19
  · have hF := zc_neg c1 hF
    refine lv_lload_n hx hb dX3_fitsIn_8 rfl (lv_at hl 0 rfl) ?_
    refine lv_lload_n hx hb dX3_fitsIn_9 rfl (lv_at hl 1 rfl) ?_
    refine W.lcmp hx hb dX3_fitsIn_10 ?_
    refine lv_if_ne (tgt := 18) hx hb dX3_fitsIn_11 (by decide) (fun c2 => ?_) (fun c2 => ?_)
    · have hF := zc_neg c2 hF
      refine lv_iconst (v := (0 : Int32)) hx hb dX3_fitsIn_18 (by decide) ?_
      exact W.zret hx hb hr (by decide) (fun t ht hW => ⟨_, rfl, Option.some.inj hF, ht⟩) (fun _ h => by cases h) dX3_fitsIn_19
    · have hF := zc_pos c2 hF
      refine lv_iconst (v := (1 : Int32)) hx hb dX3_fitsIn_14 (by decide) ?_
      refine lv_goto (tgt := 19) hx hb dX3_fitsIn_15 (by decide) ?_
      exact W.zret hx hb hr (by decide) (fun t ht hW => ⟨_, rfl, Option.some.inj hF, ht⟩) (fun _ h => by cases h) dX3_fitsIn_19
