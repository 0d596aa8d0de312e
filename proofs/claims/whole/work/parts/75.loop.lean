/-! the law's loop, and its start -/
section ZLL
variable {p : Program} {l : Launch} {e : Env} {s : State} {m : MethodId} {below : List Frame} {meth : Method} {c : Code} {b L : Nat} {xs : Nat → Int32} {G : zc_G} {ba na : Nat → Nat} {pa : Nat → Nat → Nat} {ma : Nat → Nat}  
theorem z_more {L j : Nat} (hL : L ≤ 2048) (hj : 4 * j ≤ L) (h : ¬ Int32.ofNat L - 4 < nI (4 * j)) : 4 * j + 4 ≤ L := by
  rw [show Int32.ofNat L = zi (L : Int) from zi_nI (by omega), zi_nI (n := 4 * j) (by omega), show (4 : Int32) = zi 4 from zi_lit 4, zi_sub, zi_lt (by omega) (by omega) (by omega) (by omega)] at h
  omega
set_option maxHeartbeats 8000000 in
set_option maxRecDepth 100000 in
theorem zl_loop (F : z_Fix p s m c b L xs G ba na pa ma) (hr : meth.sig.returnType = ret) (hlocks : meth.locks = false) (hL : L ≤ 2048) : ∀ (n j : Nat), 4 * j ≤ L → L + 1 ≤ 4 * j + n → ∀ (v : zc_B) (u : zc_M) (H : Heap) (locs : List Loc) (ls : Array Slot), zInv (2000 * (j : Int)) v u → z_Now s G ba na pa ma v u H locs → lv_has ls 4 [(0, .ref b), (1, .ref (ba 0)), (2, .ref (ma 0)), (3, .int (nI (4 * j)))] → W p l e room_1 s m #[Value.ref b] below meth c H locs 173 2503 (lw_Z below #[Value.ref b] s) (F0 m 18 ls []) := by
  intro n
  induction n with
  | zero =>
    intro j h1 h2
    exact absurd h2 (by omega)
  | succ n ih =>
    intro j j1 j2 v u H locs ls hi Nw hl
    obtain ⟨hx, hb, hml, hown, hts, ⟨hX, hbl⟩, hK, hDb, hDm, hap⟩ := id F
    obtain ⟨hPb, hPm, hS⟩ := id Nw
    have hbA : ¬ (fun q : Nat => s.heap.size ≤ q) b := Nat.not_le.mpr hbl
    refine lv_iload_n hx hb dL_law_18 rfl (lv_at hl 3 rfl) ?_
    refine lv_aload_n hx hb dL_law_19 rfl (lv_at hl 0 rfl) ?_
    refine va_slen hx hb hX hbl hbA hS dL_law_20 ?_
    refine lv_iconst (v := 4) hx hb dL_law_21 (by decide) ?_
    refine lv_isub hx hb dL_law_22 ?_
    refine lv_icmp_gt (tgt := 847) hx hb dL_law_23 (by decide) (fun _ => ?_) (fun cmp => ?_)
    · refine lv_iconst (v := 1) hx hb dL_law_847 (by decide) ?_
      refine va_forget (fun q hq => hS.2.2 q hq) ?_
      refine W.widen (k := 600000) (n := 7302250) (by omega) (by omega) ?_
      exact lw_ret hx hb hr hlocks dL_law_848
    · have hj : 4 * j + 4 ≤ L := z_more hL j1 cmp
      have k0 : vp_in (nI (4 * j)) L := vp_in_nI (by omega) (by omega)
      have k1 : vp_in (nI (4 * j) + 1) L := by rw [nI_1]; exact vp_in_nI (by omega) (by omega)
      have k2 : vp_in (nI (4 * j) + 2) L := by rw [show (2 : Int32) = nI 2 from rfl, nI_add]; exact vp_in_nI (by omega) (by omega)
      have k3 : vp_in (nI (4 * j) + 3) L := by rw [show (3 : Int32) = nI 3 from rfl, nI_add]; exact vp_in_nI (by omega) (by omega)
      have hT : 2000 * (j : Int) + 4000 ≤ 1100000 := by omega
      have go : ∀ (v' : zc_B) (u' : zc_M) (H' : Heap) (locs' : List Loc), zInv (2000 * (j : Int) + 2000) v' u' → z_Now s G ba na pa ma v' u' H' locs' → W p l e room_1 s m #[Value.ref b] below meth c H' locs' 173 2503 (lw_Z below #[Value.ref b] s) (F0 m 841 ls []) := by
        intro v' u' H' locs' hi' Nw'
        have ev : nI (4 * j) + Int32.ofInt 4 = nI (4 * (j + 1)) := by rw [show Int32.ofInt 4 = nI 4 from rfl, nI_add]; rfl
        refine lv_iinc (v := nI (4 * (j + 1))) (lv' := [(3, .int (nI (4 * (j + 1)))), (0, .ref b), (1, .ref (ba 0)), (2, .ref (ma 0))]) hx hb dL_law_841 hl (k := 3) rfl ev (by decide) rfl (fun ls hl => ?_)
        refine lv_goto (tgt := 18) hx hb dL_law_844 (by decide) ?_
        exact ih (j + 1) (by omega) (by omega) v' u' H' locs' ls (by rw [show (2000 * ((j + 1 : Nat) : Int)) = 2000 * (j : Int) + 2000 by omega]; exact hi') Nw' (lv_sub hl [1, 2, 3, 0] rfl)
      refine lv_aload_n hx hb dL_law_26 rfl (lv_at hl 0 rfl) ?_
      refine lv_iload_n hx hb dL_law_27 rfl (lv_at hl 3 rfl) ?_
      refine va_sld hx hb hX hbl hbA hS k0 dL_law_28 ?_
      refine lv_bipush (v := 31) hx hb dL_law_29 (by decide) ?_
      refine lv_iand hx hb dL_law_31 ?_
      refine lv_topi (fun w _ => ?_)
      by_cases hsw : w.toInt < 0 ∨ 24 < w.toInt
      · exact lv_tableOut (tgt := 841) hx hb dL_law_32 hsw (by decide) (go v u H locs (hi.mono (by omega) (by omega)) Nw)
      rcases (show w.toInt = 0 ∨ w.toInt = 1 ∨ w.toInt = 2 ∨ w.toInt = 3 ∨ w.toInt = 4 ∨ w.toInt = 5 ∨ w.toInt = 6 ∨ w.toInt = 7 ∨ w.toInt = 8 ∨ w.toInt = 9 ∨ w.toInt = 10 ∨ w.toInt = 11 ∨ w.toInt = 12 ∨ w.toInt = 13 ∨ w.toInt = 14 ∨ w.toInt = 15 ∨ w.toInt = 16 ∨ w.toInt = 17 ∨ w.toInt = 18 ∨ w.toInt = 19 ∨ w.toInt = 20 ∨ w.toInt = 21 ∨ w.toInt = 22 ∨ w.toInt = 23 ∨ w.toInt = 24 by omega) with q | q | q | q | q | q | q | q | q | q | q | q | q | q | q | q | q | q | q | q | q | q | q | q | q
      · exact lv_tableIn (off := 116) (tgt := 148) hx hb dL_law_32 (by rw [q]; decide) (by rw [q]; decide) (by rw [q]; rfl) (by decide) (zl_told F Nw hl hi hT k1 k2 k3 go)
      · exact lv_tableIn (off := 139) (tgt := 171) hx hb dL_law_32 (by rw [q]; decide) (by rw [q]; decide) (by rw [q]; rfl) (by decide) (zl_time F Nw hl hi hT k1 k2 k3 go)
      · exact lv_tableIn (off := 163) (tgt := 195) hx hb dL_law_32 (by rw [q]; decide) (by rw [q]; decide) (by rw [q]; rfl) (by decide) (zl_calendar F Nw hl hi hT k1 k2 k3 go)
      · exact lv_tableIn (off := 186) (tgt := 218) hx hb dL_law_32 (by rw [q]; decide) (by rw [q]; decide) (by rw [q]; rfl) (by decide) (zl_span F Nw hl hi hT k1 k2 k3 go)
      · exact lv_tableIn (off := 219) (tgt := 251) hx hb dL_law_32 (by rw [q]; decide) (by rw [q]; decide) (by rw [q]; rfl) (by decide) (zl_alarmAt F Nw hl hi hT k1 k2 k3 go)
      · exact lv_tableIn (off := 252) (tgt := 284) hx hb dL_law_32 (by rw [q]; decide) (by rw [q]; decide) (by rw [q]; rfl) (by decide) (zl_tick F Nw hl hi hT k1 k2 k3 go)
      · exact lv_tableIn (off := 275) (tgt := 307) hx hb dL_law_32 (by rw [q]; decide) (by rw [q]; decide) (by rw [q]; rfl) (by decide) (zl_warm F Nw hl hi hT k1 k2 k3 go)
      · exact lv_tableIn (off := 298) (tgt := 330) hx hb dL_law_32 (by rw [q]; decide) (by rw [q]; decide) (by rw [q]; rfl) (by decide) (zl_crystal F Nw hl hi hT k1 k2 k3 go)
      · exact lv_tableIn (off := 341) (tgt := 373) hx hb dL_law_32 (by rw [q]; decide) (by rw [q]; decide) (by rw [q]; rfl) (by decide) (zl_bound F Nw hl hi hT k1 k2 k3 go)
      · exact lv_tableIn (off := 374) (tgt := 406) hx hb dL_law_32 (by rw [q]; decide) (by rw [q]; decide) (by rw [q]; rfl) (by decide) (zl_power F Nw hl hi hT k1 k2 k3 go)
      · exact lv_tableIn (off := 413) (tgt := 445) hx hb dL_law_32 (by rw [q]; decide) (by rw [q]; decide) (by rw [q]; rfl) (by decide) (zl_hear F Nw hl hi hT k1 k2 k3 go)
      · exact lv_tableIn (off := 446) (tgt := 478) hx hb dL_law_32 (by rw [q]; decide) (by rw [q]; decide) (by rw [q]; rfl) (by decide) (zl_alarm F Nw hl hi hT k1 k2 k3 go)
      · exact lv_tableIn (off := 489) (tgt := 521) hx hb dL_law_32 (by rw [q]; decide) (by rw [q]; decide) (by rw [q]; rfl) (by decide) (zl_drop F Nw hl hi hT k1 k2 k3 go)
      · exact lv_tableIn (off := 512) (tgt := 544) hx hb dL_law_32 (by rw [q]; decide) (by rw [q]; decide) (by rw [q]; rfl) (by decide) (zl_learn F Nw hl hi hT k1 k2 k3 go)
      · exact lv_tableIn (off := 545) (tgt := 577) hx hb dL_law_32 (by rw [q]; decide) (by rw [q]; decide) (by rw [q]; rfl) (by decide) (zl_drift F Nw hl hi hT k1 k2 k3 go)
      · exact lv_tableIn (off := 568) (tgt := 600) hx hb dL_law_32 (by rw [q]; decide) (by rw [q]; decide) (by rw [q]; rfl) (by decide) (zl_undo F Nw hl hi hT k1 k2 k3 go)
      · exact lv_tableIn (off := 591) (tgt := 623) hx hb dL_law_32 (by rw [q]; decide) (by rw [q]; decide) (by rw [q]; rfl) (by decide) (zl_evenly F Nw hl hi hT k1 k2 k3 go)
      · exact lv_tableIn (off := 634) (tgt := 666) hx hb dL_law_32 (by rw [q]; decide) (by rw [q]; decide) (by rw [q]; rfl) (by decide) (zl_after F Nw hl hi hT k1 k2 k3 go)
      · exact lv_tableIn (off := 658) (tgt := 690) hx hb dL_law_32 (by rw [q]; decide) (by rw [q]; decide) (by rw [q]; rfl) (by decide) (zl_rings F Nw hl hi hT k1 k2 k3 go)
      · exact lv_tableIn (off := 681) (tgt := 713) hx hb dL_law_32 (by rw [q]; decide) (by rw [q]; decide) (by rw [q]; rfl) (by decide) (zl_untilWide F Nw hl hi hT k1 k2 k3 go)
      · exact lv_tableIn (off := 704) (tgt := 736) hx hb dL_law_32 (by rw [q]; decide) (by rw [q]; decide) (by rw [q]; rfl) (by decide) (zl_write F Nw hl hi hT k1 k2 k3 go)
      · exact lv_tableIn (off := 727) (tgt := 759) hx hb dL_law_32 (by rw [q]; decide) (by rw [q]; decide) (by rw [q]; rfl) (by decide) (zl_tear F Nw hl hi hT k1 k2 k3 go)
      · exact lv_tableIn (off := 740) (tgt := 772) hx hb dL_law_32 (by rw [q]; decide) (by rw [q]; decide) (by rw [q]; rfl) (by decide) (zl_seed F Nw hl hi hT k1 k2 k3 go)
      · exact lv_tableIn (off := 763) (tgt := 795) hx hb dL_law_32 (by rw [q]; decide) (by rw [q]; decide) (by rw [q]; rfl) (by decide) (zl_keep F Nw hl hi hT k1 k2 k3 go)
      · exact lv_tableIn (off := 786) (tgt := 818) hx hb dL_law_32 (by rw [q]; decide) (by rw [q]; decide) (by rw [q]; rfl) (by decide) (zl_goBack F Nw hl hi hT k1 k2 k3 go)
end ZLL
