def fX3_bring1_L (N : Nat) (n0 : Nat) : Nat → (Nat → Int64) → Int32 → Int32 → Int32 → Int32 → Option (Nat → Int64)
  | 0, _, _, _, _, _ => none
  | n + 1, g0, y1, y3, y4, y5 => if y4 ≤ y5 then (some g0) else (zc_in (y1 + y5) n0 (zc_in (y3 + y5) n0 (zc_let (vp_updL g0 ((y3 + y5)).toNatClampNeg (g0 ((y1 + y5)).toNatClampNeg)) fun (g4 : Nat → Int64) => zc_let (y5 + (1 : Int32)) fun (x5 : Int32) => fX3_bring1_L N n0 n g4 y1 y3 y4 x5)))
def fX3_bring1 (N : Nat) (n0 : Nat) (g : Nat → Int64) (a2 : Int32) (a4 : Int32) (a5 : Int32) : Option (Nat → Int64) := fX3_bring1_L N n0 N g a2 a4 a5 (0 : Int32)
set_option maxHeartbeats 4000000 in
set_option maxRecDepth 100000 in
theorem kX3_bring1 (l : Launch) (G : zc_G) (x0 : Nat) (sz : Nat) {N : Nat} {n0 : Nat} {g : Nat → Int64} {a2 : Int32} {a4 : Int32} {a5 : Int32} {r0 : Nat → Int64} (hF : fX3_bring1 N n0 g a2 a4 a5 = some r0) : Met l yX3_bring wsX3_bring ({ frames := 0, cells := 0, slots := 0, locals := 0 }) (zc_Pm G [.ref x0, .int a2, .ref x0, .int a4, .int a5] ([(x0, .inl (G.2 1, n0, .inr (.inl g)))]) sz) (zc_Qv G ([(x0, .inl (G.2 1, n0, .inr (.inl r0)))]) (va_A ([(x0, .inl (G.2 1, n0, .inr (.inl g)))]) sz)) 0 0 (va_A ([(x0, .inl (G.2 1, n0, .inr (.inl g)))]) sz) := by
  refine Met.ofW (cc := cX3_bring) (maxL := 6) (ret := none) (by decide) rfl ?_
  intro p e s m args below meth c s₁ B hml hv
  obtain ⟨rfl, hsz, hP, hK, hD0⟩ := hv
  have hx := B.exec
  have hb := B.bytes
  have hr := B.returns
  have hts := atoms_spec (ws := wsX3_bring) B.pre
  have hown : s.vm.findClass RX3 = some m.cls := findClass_of_methodNamed B.named
  have hlocks := B.notSynchronized
  subst hsz
  have hD := hD0.self (sz := s.heap.size)
  generalize hAe : va_A ([(x0, .inl (G.2 1, n0, .inr (.inl g)))]) s.heap.size = A at hD ⊢
  have hA : ∀ q : Nat, s.heap.size ≤ q → A q := fun q h => by rw [← hAe]; exact Or.inr h
  have hS : va_S A s.heap s.heap [] := va_S.rf
  have hl := lv_entry ([.ref x0, .int a2, .ref x0, .int a4, .int a5]) (n := 6) (Nat.le_of_ble_eq_true rfl)
  rw [lg_entry_eq]
  generalize (lg_sl ([.ref x0, .int a2, .ref x0, .int a4, .int a5]) ++ List.replicate (6 - (lg_sl ([.ref x0, .int a2, .ref x0, .int a4, .int a5])).length) Slot.unset).toArray = ls at hl ⊢
  have hl : lv_has ls 6 [(0, .ref x0), (1, .int a2), (2, .ref x0), (3, .int a4), (4, .int a5)] := hl
  have loop : ∀ (n : Nat) (g0 : Nat → Int64) (y1 : Int32) (y3 : Int32) (y4 : Int32) (y5 : Int32) (H : Heap) (locs : List Loc), va_P G.1 vwCl ([(x0, .inl (G.2 1, n0, .inr (.inl g0)))]) H → va_D A ([(x0, .inl (G.2 1, n0, .inr (.inl g0)))]) → va_S A s.heap H locs → ∀ (ls : Array Slot), lv_has ls 6 [(0, .ref x0), (1, .int y1), (2, .ref x0), (3, .int y3), (4, .int y4), (5, .int y5)] → fX3_bring1_L N n0 n g0 y1 y3 y4 y5 = some r0 → W p l e (headSpec wsX3_bring ({ frames := 0, cells := 0, slots := 0, locals := 0 })).room s m ([.ref x0, .int a2, .ref x0, .int a4, .int a5] : List Value).toArray below meth c H locs 0 0 (MQ below (zc_Qv G ([(x0, .inl (G.2 1, n0, .inr (.inl r0)))]) A) ([.ref x0, .int a2, .ref x0, .int a4, .int a5] : List Value).toArray s 0 0 A) (F0 m 3 ls []) := by
    intro n
    induction n with
    | zero =>
      intro g0 y1 y3 y4 y5 H locs hP hD hS ls hl hF
      cases hF
    | succ n ih =>
      intro g0 y1 y3 y4 y5 H locs hP hD hS ls hl hF
      rw [fX3_bring1_L] at hF
      refine lv_iload hx hb dX3_bring_3 (lv_at hl 5 rfl) ?_
      refine lv_iload hx hb dX3_bring_5 (lv_at hl 4 rfl) ?_
      refine lv_icmp_ge (tgt := 28) hx hb dX3_bring_7 (by decide) (fun c1 => ?_) (fun c1 => ?_)
      · have hF := zc_pos c1 hF
        obtain rfl := Option.some.inj hF
        exact W.vret hx hb hr (fun t ht hW => ⟨⟨(), rfl, trivial, zc_hp ht hP⟩, hS.F ht⟩) hS.2.2 dX3_bring_28
      · have hF := zc_neg c1 hF
        refine lv_aload_n hx hb dX3_bring_10 rfl (lv_at hl 2 rfl) ?_
        refine lv_iload_n hx hb dX3_bring_11 rfl (lv_at hl 3 rfl) ?_
        refine lv_iload hx hb dX3_bring_12 (lv_at hl 5 rfl) ?_
        refine lv_iadd hx hb dX3_bring_14 ?_
        refine lv_aload_n hx hb dX3_bring_15 rfl (lv_at hl 0 rfl) ?_
        refine lv_iload_n hx hb dX3_bring_16 rfl (lv_at hl 1 rfl) ?_
        refine lv_iload hx hb dX3_bring_17 (lv_at hl 5 rfl) ?_
        refine lv_iadd hx hb dX3_bring_19 ?_
        obtain ⟨hi2, hF⟩ := zc_inE hF
        refine zc_lald hx hb hK.1 hP 0 1 rfl rfl hi2 rfl dX3_bring_20 ?_
        obtain ⟨hi3, hF⟩ := zc_inE hF
        refine zc_last hx hb hK.1 hP hD hS 0 1 rfl rfl hi3 rfl dX3_bring_21 (fun H locs hP hS => ?_)
        obtain ⟨g4, eg4, hF⟩ := zc_letX hF
        have hP : va_P G.1 vwCl ([(x0, .inl (G.2 1, n0, .inr (.inl g4)))]) H := by rw [eg4]; exact hP
        have hD : va_D A ([(x0, .inl (G.2 1, n0, .inr (.inl g4)))]) := zc_Ds hD rfl
        obtain ⟨x5, ex5⟩ : ∃ y : Int32, y = y5 + (1 : Int32) := ⟨_, rfl⟩
        have hF := zc_letE ex5 hF
        refine lv_iinc (v := x5) (lv' := [(5, .int x5), (0, .ref x0), (1, .int y1), (2, .ref x0), (3, .int y3), (4, .int y4)]) hx hb dX3_bring_22 hl (k := 5) rfl (by rw [ex5]; rfl) (by decide) rfl (fun ls hl => ?_)
        refine lv_goto (tgt := 3) hx hb dX3_bring_25 (by decide) ?_
        exact ih g4 y1 y3 y4 x5 H locs hP hD hS ls (lv_sub hl [1, 2, 3, 4, 5, 0] rfl) hF
  refine lv_iconst (v := (0 : Int32)) hx hb dX3_bring_0 (by decide) ?_
  refine lv_istore (lv' := [(5, .int (0 : Int32)), (0, .ref x0), (1, .int a2), (2, .ref x0), (3, .int a4), (4, .int a5)]) hx hb dX3_bring_1 hl (by decide) rfl (fun ls hl => ?_)
  exact loop N g a2 a4 a5 (0 : Int32) _ _ hP hD hS ls (lv_sub hl [1, 2, 3, 4, 5, 0] rfl) hF
def fX3_bring2_L (N : Nat) (n0 : Nat) (n1 : Nat) (f : Nat → Int64) : Nat → (Nat → Int64) → Int32 → Int32 → Int32 → Int32 → Option (Nat → Int64)
  | 0, _, _, _, _, _ => none
  | n + 1, g0, y1, y3, y4, y5 => if y4 ≤ y5 then (some g0) else (zc_in (y1 + y5) n0 (zc_in (y3 + y5) n1 (zc_let (vp_updL g0 ((y3 + y5)).toNatClampNeg (f ((y1 + y5)).toNatClampNeg)) fun (g4 : Nat → Int64) => zc_let (y5 + (1 : Int32)) fun (x5 : Int32) => fX3_bring2_L N n0 n1 f n g4 y1 y3 y4 x5)))
def fX3_bring2 (N : Nat) (n0 : Nat) (n1 : Nat) (g : Nat → Int64) (f : Nat → Int64) (a2 : Int32) (a4 : Int32) (a5 : Int32) : Option (Nat → Int64) := fX3_bring2_L N n0 n1 f N g a2 a4 a5 (0 : Int32)
set_option maxHeartbeats 4000000 in
set_option maxRecDepth 100000 in
theorem kX3_bring2 (l : Launch) (G : zc_G) (x0 x1 : Nat) (sz : Nat) {N : Nat} {n0 : Nat} {n1 : Nat} {g : Nat → Int64} {f : Nat → Int64} {a2 : Int32} {a4 : Int32} {a5 : Int32} {r0 : Nat → Int64} (hF : fX3_bring2 N n0 n1 g f a2 a4 a5 = some r0) : Met l yX3_bring wsX3_bring ({ frames := 0, cells := 0, slots := 0, locals := 0 }) (zc_Pm G [.ref x0, .int a2, .ref x1, .int a4, .int a5] ([(x1, .inl (G.2 1, n1, .inr (.inl g))), (x0, .inl (G.2 1, n0, .inr (.inl f)))]) sz) (zc_Qv G ([(x1, .inl (G.2 1, n1, .inr (.inl r0))), (x0, .inl (G.2 1, n0, .inr (.inl f)))]) (va_A ([(x1, .inl (G.2 1, n1, .inr (.inl g))), (x0, .inl (G.2 1, n0, .inr (.inl f)))]) sz)) 0 0 (va_A ([(x1, .inl (G.2 1, n1, .inr (.inl g))), (x0, .inl (G.2 1, n0, .inr (.inl f)))]) sz) := by
  refine Met.ofW (cc := cX3_bring) (maxL := 6) (ret := none) (by decide) rfl ?_
  intro p e s m args below meth c s₁ B hml hv
  obtain ⟨rfl, hsz, hP, hK, hD0⟩ := hv
  have hx := B.exec
  have hb := B.bytes
  have hr := B.returns
  have hts := atoms_spec (ws := wsX3_bring) B.pre
  have hown : s.vm.findClass RX3 = some m.cls := findClass_of_methodNamed B.named
  have hlocks := B.notSynchronized
  subst hsz
  have hD := hD0.self (sz := s.heap.size)
  generalize hAe : va_A ([(x1, .inl (G.2 1, n1, .inr (.inl g))), (x0, .inl (G.2 1, n0, .inr (.inl f)))]) s.heap.size = A at hD ⊢
  have hA : ∀ q : Nat, s.heap.size ≤ q → A q := fun q h => by rw [← hAe]; exact Or.inr h
  have hS : va_S A s.heap s.heap [] := va_S.rf
  have hl := lv_entry ([.ref x0, .int a2, .ref x1, .int a4, .int a5]) (n := 6) (Nat.le_of_ble_eq_true rfl)
  rw [lg_entry_eq]
  generalize (lg_sl ([.ref x0, .int a2, .ref x1, .int a4, .int a5]) ++ List.replicate (6 - (lg_sl ([.ref x0, .int a2, .ref x1, .int a4, .int a5])).length) Slot.unset).toArray = ls at hl ⊢
  have hl : lv_has ls 6 [(0, .ref x0), (1, .int a2), (2, .ref x1), (3, .int a4), (4, .int a5)] := hl
  have loop : ∀ (n : Nat) (g0 : Nat → Int64) (y1 : Int32) (y3 : Int32) (y4 : Int32) (y5 : Int32) (H : Heap) (locs : List Loc), va_P G.1 vwCl ([(x1, .inl (G.2 1, n1, .inr (.inl g0))), (x0, .inl (G.2 1, n0, .inr (.inl f)))]) H → va_D A ([(x1, .inl (G.2 1, n1, .inr (.inl g0))), (x0, .inl (G.2 1, n0, .inr (.inl f)))]) → va_S A s.heap H locs → ∀ (ls : Array Slot), lv_has ls 6 [(0, .ref x0), (1, .int y1), (2, .ref x1), (3, .int y3), (4, .int y4), (5, .int y5)] → fX3_bring2_L N n0 n1 f n g0 y1 y3 y4 y5 = some r0 → W p l e (headSpec wsX3_bring ({ frames := 0, cells := 0, slots := 0, locals := 0 })).room s m ([.ref x0, .int a2, .ref x1, .int a4, .int a5] : List Value).toArray below meth c H locs 0 0 (MQ below (zc_Qv G ([(x1, .inl (G.2 1, n1, .inr (.inl r0))), (x0, .inl (G.2 1, n0, .inr (.inl f)))]) A) ([.ref x0, .int a2, .ref x1, .int a4, .int a5] : List Value).toArray s 0 0 A) (F0 m 3 ls []) := by
    intro n
    induction n with
    | zero =>
      intro g0 y1 y3 y4 y5 H locs hP hD hS ls hl hF
      cases hF
    | succ n ih =>
      intro g0 y1 y3 y4 y5 H locs hP hD hS ls hl hF
      rw [fX3_bring2_L] at hF
      refine lv_iload hx hb dX3_bring_3 (lv_at hl 5 rfl) ?_
      refine lv_iload hx hb dX3_bring_5 (lv_at hl 4 rfl) ?_
      refine lv_icmp_ge (tgt := 28) hx hb dX3_bring_7 (by decide) (fun c1 => ?_) (fun c1 => ?_)
      · have hF := zc_pos c1 hF
        obtain rfl := Option.some.inj hF
        exact W.vret hx hb hr (fun t ht hW => ⟨⟨(), rfl, trivial, zc_hp ht hP⟩, hS.F ht⟩) hS.2.2 dX3_bring_28
      · have hF := zc_neg c1 hF
        refine lv_aload_n hx hb dX3_bring_10 rfl (lv_at hl 2 rfl) ?_
        refine lv_iload_n hx hb dX3_bring_11 rfl (lv_at hl 3 rfl) ?_
        refine lv_iload hx hb dX3_bring_12 (lv_at hl 5 rfl) ?_
        refine lv_iadd hx hb dX3_bring_14 ?_
        refine lv_aload_n hx hb dX3_bring_15 rfl (lv_at hl 0 rfl) ?_
        refine lv_iload_n hx hb dX3_bring_16 rfl (lv_at hl 1 rfl) ?_
        refine lv_iload hx hb dX3_bring_17 (lv_at hl 5 rfl) ?_
        refine lv_iadd hx hb dX3_bring_19 ?_
        obtain ⟨hi2, hF⟩ := zc_inE hF
        refine zc_lald hx hb hK.1 hP 1 1 rfl rfl hi2 rfl dX3_bring_20 ?_
        obtain ⟨hi3, hF⟩ := zc_inE hF
        refine zc_last hx hb hK.1 hP hD hS 0 1 rfl rfl hi3 rfl dX3_bring_21 (fun H locs hP hS => ?_)
        obtain ⟨g4, eg4, hF⟩ := zc_letX hF
        have hP : va_P G.1 vwCl ([(x1, .inl (G.2 1, n1, .inr (.inl g4))), (x0, .inl (G.2 1, n0, .inr (.inl f)))]) H := by rw [eg4]; exact hP
        have hD : va_D A ([(x1, .inl (G.2 1, n1, .inr (.inl g4))), (x0, .inl (G.2 1, n0, .inr (.inl f)))]) := zc_Ds hD rfl
        obtain ⟨x5, ex5⟩ : ∃ y : Int32, y = y5 + (1 : Int32) := ⟨_, rfl⟩
        have hF := zc_letE ex5 hF
        refine lv_iinc (v := x5) (lv' := [(5, .int x5), (0, .ref x0), (1, .int y1), (2, .ref x1), (3, .int y3), (4, .int y4)]) hx hb dX3_bring_22 hl (k := 5) rfl (by rw [ex5]; rfl) (by decide) rfl (fun ls hl => ?_)
        refine lv_goto (tgt := 3) hx hb dX3_bring_25 (by decide) ?_
        exact ih g4 y1 y3 y4 x5 H locs hP hD hS ls (lv_sub hl [1, 2, 3, 4, 5, 0] rfl) hF
  refine lv_iconst (v := (0 : Int32)) hx hb dX3_bring_0 (by decide) ?_
  refine lv_istore (lv' := [(5, .int (0 : Int32)), (0, .ref x0), (1, .int a2), (2, .ref x1), (3, .int a4), (4, .int a5)]) hx hb dX3_bring_1 hl (by decide) rfl (fun ls hl => ?_)
  exact loop N g a2 a4 a5 (0 : Int32) _ _ hP hD hS ls (lv_sub hl [1, 2, 3, 4, 5, 0] rfl) hF
def fX3_notes (N : Nat) (u : zc_M) : Option (zc_M) := if (u.2.2.1 0) = (20 : Int32) then (Option.bind (fX3_bring1 N 980 (u.1 1) (49 : Int32) (0 : Int32) (931 : Int32)) fun (r5 : Nat → Int64) => zc_let (zc_mf u 1 r5) fun (u6 : zc_M) => zc_let (zc_mI u6 0 ((u6.2.2.1 0) - (1 : Int32))) fun (u7 : zc_M) => Option.bind (fX3_bring2 N 49 980 (u7.1 1) (u7.1 0) (0 : Int32) ((49 : Int32) * (u7.2.2.1 0)) (49 : Int32)) fun (r8 : Nat → Int64) => zc_let (zc_mf u7 1 r8) fun (u9 : zc_M) => zc_let (zc_mI u9 0 ((u9.2.2.1 0) + (1 : Int32))) fun (u10 : zc_M) => some u10) else (Option.bind (fX3_bring2 N 49 980 (u.1 1) (u.1 0) (0 : Int32) ((49 : Int32) * (u.2.2.1 0)) (49 : Int32)) fun (r2 : Nat → Int64) => zc_let (zc_mf u 1 r2) fun (u3 : zc_M) => zc_let (zc_mI u3 0 ((u3.2.2.1 0) + (1 : Int32))) fun (u4 : zc_M) => some u4)
theorem iX3_notes_X3 : ∀ w ∈ wsX30, w ∈ wsX3_notes := fun _ h => List.mem_cons_of_mem _ (List.mem_append_right _ h)
set_option maxHeartbeats 4000000 in
set_option maxRecDepth 100000 in
theorem kX3_notes (l : Launch) (G : zc_G) (ma : Nat → Nat) (sz : Nat) {N : Nat} {u : zc_M} {r0 : zc_M} (hF : fX3_notes N u = some r0) : Met l yX3_notes wsX3_notes ({ frames := 1, cells := 0, slots := 0, locals := 25 }) (zc_Pm G [.ref (ma 0)] (zc_mo G ma u) sz) (zc_Qv G (zc_mo G ma r0) (va_A (zc_mo G ma u) sz)) 0 0 (va_A (zc_mo G ma u) sz) := by
  refine Met.ofW (cc := cX3_notes) (maxL := 1) (ret := none) (by decide) rfl ?_
  intro p e s m args below meth c s₁ B hml hv
  obtain ⟨rfl, hsz, hP, hK, hD0⟩ := hv
  have hx := B.exec
  have hb := B.bytes
  have hr := B.returns
  have hts := atoms_spec (ws := wsX3_notes) B.pre
  have hown : s.vm.findClass RX3 = some m.cls := findClass_of_methodNamed B.named
  have hlocks := B.notSynchronized
  subst hsz
  have hD := hD0.self (sz := s.heap.size)
  generalize hAe : va_A (zc_mo G ma u) s.heap.size = A at hD ⊢
  have hA : ∀ q : Nat, s.heap.size ≤ q → A q := fun q h => by rw [← hAe]; exact Or.inr h
  have hS : va_S A s.heap s.heap [] := va_S.rf
  have hl := lv_entry ([.ref (ma 0)]) (n := 1) (Nat.le_of_ble_eq_true rfl)
  rw [lg_entry_eq]
  generalize (lg_sl ([.ref (ma 0)]) ++ List.replicate (1 - (lg_sl ([.ref (ma 0)])).length) Slot.unset).toArray = ls at hl ⊢
  have hl : lv_has ls 1 [(0, .ref (ma 0))] := hl
  refine lv_aload_n hx hb dX3_notes_0 rfl (lv_at hl 0 rfl) ?_
  refine va_get (D := G.1) (ci := 3) (C := RX3) (T := TX3) (N := 8) hx hb hts iX3_notes_X3 hown hK.1 hP 0 rfl rfl 2 (by decide) (hts (.fieldLink RX3 151 "BoardClockModel" "deeds" "I") (List.mem_of_getElem? (i := 1) rfl)) (fun _ h9 => h9) rfl dX3_notes_1 ?_
  refine lv_bipush (v := (20 : Int32)) hx hb dX3_notes_4 (by decide) ?_
  refine lv_icmp_ne (tgt := 36) hx hb dX3_notes_6 (by decide) (fun c1 => ?_) (fun c1 => ?_)
  · have hF := zc_neg c1 hF
    refine lv_aload_n hx hb dX3_notes_36 rfl (lv_at hl 0 rfl) ?_
    refine va_get (D := G.1) (ci := 3) (C := RX3) (T := TX3) (N := 8) hx hb hts iX3_notes_X3 hown hK.1 hP 0 rfl rfl 0 (by decide) (hts (.fieldLink RX3 7 "BoardClockModel" "st" "[J") (List.mem_of_getElem? (i := 3) rfl)) (fun _ h9 => h9) rfl dX3_notes_37 ?_
    refine lv_iconst (v := (0 : Int32)) hx hb dX3_notes_40 (by decide) ?_
    refine lv_aload_n hx hb dX3_notes_41 rfl (lv_at hl 0 rfl) ?_
    refine va_get (D := G.1) (ci := 3) (C := RX3) (T := TX3) (N := 8) hx hb hts iX3_notes_X3 hown hK.1 hP 0 rfl rfl 1 (by decide) (hts (.fieldLink RX3 13 "BoardClockModel" "past" "[J") (List.mem_of_getElem? (i := 2) rfl)) (fun _ h9 => h9) rfl dX3_notes_42 ?_
    refine lv_bipush (v := (49 : Int32)) hx hb dX3_notes_45 (by decide) ?_
    refine lv_aload_n hx hb dX3_notes_47 rfl (lv_at hl 0 rfl) ?_
    refine va_get (D := G.1) (ci := 3) (C := RX3) (T := TX3) (N := 8) hx hb hts iX3_notes_X3 hown hK.1 hP 0 rfl rfl 2 (by decide) (hts (.fieldLink RX3 151 "BoardClockModel" "deeds" "I") (List.mem_of_getElem? (i := 1) rfl)) (fun _ h9 => h9) rfl dX3_notes_48 ?_
    refine lv_imul hx hb dX3_notes_51 ?_
    refine lv_bipush (v := (49 : Int32)) hx hb dX3_notes_52 (by decide) ?_
    obtain ⟨r2, er2, hF⟩ := zc_bind hF
    refine zc_mv (X := zc_mo G ma u) (pl := []) (wc := [((ma 2), .inl (G.2 1, 980, .inr (.inl (u.1 1)))), ((ma 1), .inl (G.2 1, 49, .inr (.inl (u.1 0))))]) (w1 := [((ma 2), .inl (G.2 1, 980, .inr (.inl (r2)))), ((ma 1), .inl (G.2 1, 49, .inr (.inl (u.1 0))))]) (wr := [((ma 0), .inr (3, [.ref (ma 1), .ref (ma 2), .int (u.2.2.1 0), .ref (ma 3), .ref (ma 4), .ref (ma 5), .int (u.2.2.1 1), .long (u.2.2.2)])), ((ma 3), .inl (G.2 1, 100, .inr (.inl (u.1 2)))), ((ma 4), .inl (G.2 2, 2, .inl (u.2.1 0))), ((ma 5), .inl (G.2 0, 20, .inl (u.2.1 1)))]) hP hD hS hA [2, 1] [0, 3, 4, 5] rfl (by decide) rfl (by decide) (by decide) rfl (va_runS (As := [.ref _, .int _, .ref _, .int _, .int _]) ⟨hx, hb, hml, hown, hts⟩ (kX3_bring2 l G (ma 1) (ma 2) _ er2) (va_cwS 5 hts gX3_notes_X3_bring rfl rfl rfl (by decide +kernel) ⟨Nat.le_of_ble_eq_true rfl, Nat.le_of_ble_eq_true rfl⟩) (zc_preSm hK (hP.sub (ws' := [((ma 2), .inl (G.2 1, 980, .inr (.inl (u.1 1)))), ((ma 1), .inl (G.2 1, 49, .inr (.inl (u.1 0))))]) [2, 1] rfl) (hD.sub (ws' := [((ma 2), .inl (G.2 1, 980, .inr (.inl (u.1 1)))), ((ma 1), .inl (G.2 1, 49, .inr (.inl (u.1 0))))]) [2, 1] (by decide) rfl)) rfl rfl hl.1 rfl (lv_room (Nat.le_of_ble_eq_true rfl)) dX3_notes_54 ⟨Nat.le_of_ble_eq_true rfl, Nat.le_of_ble_eq_true rfl⟩) (fun H locs hP hD hS => ?_)
    have hP := hP.sub (ws' := zc_mo G ma (zc_mf u 1 r2)) [0, 5, 4, 1, 2, 3] rfl
    have hD := hD.sub (ws' := zc_mo G ma (zc_mf u 1 r2)) [0, 5, 4, 1, 2, 3] (by decide) rfl
    obtain ⟨u3, eu3, hF⟩ := zc_letX hF
    have hP : va_P G.1 vwCl (zc_mo G ma u3) H := by rw [eu3]; exact hP
    have hD : va_D A (zc_mo G ma u3) := zc_Ds hD rfl
    refine lv_aload_n hx hb dX3_notes_57 rfl (lv_at hl 0 rfl) ?_
    refine lv_dup hx hb dX3_notes_58 rfl ?_
    refine va_get (D := G.1) (ci := 3) (C := RX3) (T := TX3) (N := 8) hx hb hts iX3_notes_X3 hown hK.1 hP 0 rfl rfl 2 (by decide) (hts (.fieldLink RX3 151 "BoardClockModel" "deeds" "I") (List.mem_of_getElem? (i := 1) rfl)) (fun _ h9 => h9) rfl dX3_notes_59 ?_
    refine lv_iconst (v := (1 : Int32)) hx hb dX3_notes_62 (by decide) ?_
    refine lv_iadd hx hb dX3_notes_63 ?_
    refine va_put (D := G.1) (ci := 3) (v := .int ((u3.2.2.1 0) + (1 : Int32))) (ty := .int) (C := RX3) (T := TX3) (N := 8) hx hb hts iX3_notes_X3 tyX3 tyX3_ok nmX3 hown hK.1 hP hD hS 0 rfl rfl 2 (by decide) (hts (.fieldLink RX3 151 "BoardClockModel" "deeds" "I") (List.mem_of_getElem? (i := 1) rfl)) (fun _ h9 => h9) rfl (by decide +kernel) rfl rfl (Nat.le_of_ble_eq_true rfl) dX3_notes_64 (fun H locs hP _ hS => ?_)
    obtain ⟨u4, eu4, hF⟩ := zc_letX hF
    have hP : va_P G.1 vwCl (zc_mo G ma u4) H := by rw [eu4]; exact hP
    have hD : va_D A (zc_mo G ma u4) := zc_Ds hD rfl
    obtain rfl := Option.some.inj hF
    exact W.vret hx hb hr (fun t ht hW => ⟨⟨(), rfl, trivial, zc_hp ht hP⟩, hS.F ht⟩) hS.2.2 dX3_notes_67
  · have hF := zc_pos c1 hF
    refine lv_aload_n hx hb dX3_notes_9 rfl (lv_at hl 0 rfl) ?_
    refine va_get (D := G.1) (ci := 3) (C := RX3) (T := TX3) (N := 8) hx hb hts iX3_notes_X3 hown hK.1 hP 0 rfl rfl 1 (by decide) (hts (.fieldLink RX3 13 "BoardClockModel" "past" "[J") (List.mem_of_getElem? (i := 2) rfl)) (fun _ h9 => h9) rfl dX3_notes_10 ?_
    refine lv_bipush (v := (49 : Int32)) hx hb dX3_notes_13 (by decide) ?_
    refine lv_aload_n hx hb dX3_notes_15 rfl (lv_at hl 0 rfl) ?_
    refine va_get (D := G.1) (ci := 3) (C := RX3) (T := TX3) (N := 8) hx hb hts iX3_notes_X3 hown hK.1 hP 0 rfl rfl 1 (by decide) (hts (.fieldLink RX3 13 "BoardClockModel" "past" "[J") (List.mem_of_getElem? (i := 2) rfl)) (fun _ h9 => h9) rfl dX3_notes_16 ?_
    refine lv_iconst (v := (0 : Int32)) hx hb dX3_notes_19 (by decide) ?_
    refine lv_sipush (v := (931 : Int32)) hx hb dX3_notes_20 (by decide) ?_
    obtain ⟨r5, er5, hF⟩ := zc_bind hF
    refine zc_mv (X := zc_mo G ma u) (pl := []) (wc := [((ma 2), .inl (G.2 1, 980, .inr (.inl (u.1 1))))]) (w1 := [((ma 2), .inl (G.2 1, 980, .inr (.inl (r5))))]) (wr := [((ma 0), .inr (3, [.ref (ma 1), .ref (ma 2), .int (u.2.2.1 0), .ref (ma 3), .ref (ma 4), .ref (ma 5), .int (u.2.2.1 1), .long (u.2.2.2)])), ((ma 1), .inl (G.2 1, 49, .inr (.inl (u.1 0)))), ((ma 3), .inl (G.2 1, 100, .inr (.inl (u.1 2)))), ((ma 4), .inl (G.2 2, 2, .inl (u.2.1 0))), ((ma 5), .inl (G.2 0, 20, .inl (u.2.1 1)))]) hP hD hS hA [2] [0, 1, 3, 4, 5] rfl (by decide) rfl (by decide) (by decide) rfl (va_runS (As := [.ref _, .int _, .ref _, .int _, .int _]) ⟨hx, hb, hml, hown, hts⟩ (kX3_bring1 l G (ma 2) _ er5) (va_cwS 5 hts gX3_notes_X3_bring rfl rfl rfl (by decide +kernel) ⟨Nat.le_of_ble_eq_true rfl, Nat.le_of_ble_eq_true rfl⟩) (zc_preSm hK (hP.sub (ws' := [((ma 2), .inl (G.2 1, 980, .inr (.inl (u.1 1))))]) [2] rfl) (hD.sub (ws' := [((ma 2), .inl (G.2 1, 980, .inr (.inl (u.1 1))))]) [2] (by decide) rfl)) rfl rfl hl.1 rfl (lv_room (Nat.le_of_ble_eq_true rfl)) dX3_notes_23 ⟨Nat.le_of_ble_eq_true rfl, Nat.le_of_ble_eq_true rfl⟩) (fun H locs hP hD hS => ?_)
    have hP := hP.sub (ws' := zc_mo G ma (zc_mf u 1 r5)) [0, 1, 5, 2, 3, 4] rfl
    have hD := hD.sub (ws' := zc_mo G ma (zc_mf u 1 r5)) [0, 1, 5, 2, 3, 4] (by decide) rfl
    obtain ⟨u6, eu6, hF⟩ := zc_letX hF
    have hP : va_P G.1 vwCl (zc_mo G ma u6) H := by rw [eu6]; exact hP
    have hD : va_D A (zc_mo G ma u6) := zc_Ds hD rfl
    refine lv_aload_n hx hb dX3_notes_26 rfl (lv_at hl 0 rfl) ?_
    refine lv_dup hx hb dX3_notes_27 rfl ?_
    refine va_get (D := G.1) (ci := 3) (C := RX3) (T := TX3) (N := 8) hx hb hts iX3_notes_X3 hown hK.1 hP 0 rfl rfl 2 (by decide) (hts (.fieldLink RX3 151 "BoardClockModel" "deeds" "I") (List.mem_of_getElem? (i := 1) rfl)) (fun _ h9 => h9) rfl dX3_notes_28 ?_
    refine lv_iconst (v := (1 : Int32)) hx hb dX3_notes_31 (by decide) ?_
    refine lv_isub hx hb dX3_notes_32 ?_
    refine va_put (D := G.1) (ci := 3) (v := .int ((u6.2.2.1 0) - (1 : Int32))) (ty := .int) (C := RX3) (T := TX3) (N := 8) hx hb hts iX3_notes_X3 tyX3 tyX3_ok nmX3 hown hK.1 hP hD hS 0 rfl rfl 2 (by decide) (hts (.fieldLink RX3 151 "BoardClockModel" "deeds" "I") (List.mem_of_getElem? (i := 1) rfl)) (fun _ h9 => h9) rfl (by decide +kernel) rfl rfl (Nat.le_of_ble_eq_true rfl) dX3_notes_33 (fun H locs hP _ hS => ?_)
    obtain ⟨u7, eu7, hF⟩ := zc_letX hF
    have hP : va_P G.1 vwCl (zc_mo G ma u7) H := by rw [eu7]; exact hP
    have hD : va_D A (zc_mo G ma u7) := zc_Ds hD rfl
    refine lv_aload_n hx hb dX3_notes_36 rfl (lv_at hl 0 rfl) ?_
    refine va_get (D := G.1) (ci := 3) (C := RX3) (T := TX3) (N := 8) hx hb hts iX3_notes_X3 hown hK.1 hP 0 rfl rfl 0 (by decide) (hts (.fieldLink RX3 7 "BoardClockModel" "st" "[J") (List.mem_of_getElem? (i := 3) rfl)) (fun _ h9 => h9) rfl dX3_notes_37 ?_
    refine lv_iconst (v := (0 : Int32)) hx hb dX3_notes_40 (by decide) ?_
    refine lv_aload_n hx hb dX3_notes_41 rfl (lv_at hl 0 rfl) ?_
    refine va_get (D := G.1) (ci := 3) (C := RX3) (T := TX3) (N := 8) hx hb hts iX3_notes_X3 hown hK.1 hP 0 rfl rfl 1 (by decide) (hts (.fieldLink RX3 13 "BoardClockModel" "past" "[J") (List.mem_of_getElem? (i := 2) rfl)) (fun _ h9 => h9) rfl dX3_notes_42 ?_
    refine lv_bipush (v := (49 : Int32)) hx hb dX3_notes_45 (by decide) ?_
    refine lv_aload_n hx hb dX3_notes_47 rfl (lv_at hl 0 rfl) ?_
    refine va_get (D := G.1) (ci := 3) (C := RX3) (T := TX3) (N := 8) hx hb hts iX3_notes_X3 hown hK.1 hP 0 rfl rfl 2 (by decide) (hts (.fieldLink RX3 151 "BoardClockModel" "deeds" "I") (List.mem_of_getElem? (i := 1) rfl)) (fun _ h9 => h9) rfl dX3_notes_48 ?_
    refine lv_imul hx hb dX3_notes_51 ?_
    refine lv_bipush (v := (49 : Int32)) hx hb dX3_notes_52 (by decide) ?_
    obtain ⟨r8, er8, hF⟩ := zc_bind hF
    refine zc_mv (X := zc_mo G ma u7) (pl := []) (wc := [((ma 2), .inl (G.2 1, 980, .inr (.inl (u7.1 1)))), ((ma 1), .inl (G.2 1, 49, .inr (.inl (u7.1 0))))]) (w1 := [((ma 2), .inl (G.2 1, 980, .inr (.inl (r8)))), ((ma 1), .inl (G.2 1, 49, .inr (.inl (u7.1 0))))]) (wr := [((ma 0), .inr (3, [.ref (ma 1), .ref (ma 2), .int (u7.2.2.1 0), .ref (ma 3), .ref (ma 4), .ref (ma 5), .int (u7.2.2.1 1), .long (u7.2.2.2)])), ((ma 3), .inl (G.2 1, 100, .inr (.inl (u7.1 2)))), ((ma 4), .inl (G.2 2, 2, .inl (u7.2.1 0))), ((ma 5), .inl (G.2 0, 20, .inl (u7.2.1 1)))]) hP hD hS hA [2, 1] [0, 3, 4, 5] rfl (by decide) rfl (by decide) (by decide) rfl (va_runS (As := [.ref _, .int _, .ref _, .int _, .int _]) ⟨hx, hb, hml, hown, hts⟩ (kX3_bring2 l G (ma 1) (ma 2) _ er8) (va_cwS 5 hts gX3_notes_X3_bring rfl rfl rfl (by decide +kernel) ⟨Nat.le_of_ble_eq_true rfl, Nat.le_of_ble_eq_true rfl⟩) (zc_preSm hK (hP.sub (ws' := [((ma 2), .inl (G.2 1, 980, .inr (.inl (u7.1 1)))), ((ma 1), .inl (G.2 1, 49, .inr (.inl (u7.1 0))))]) [2, 1] rfl) (hD.sub (ws' := [((ma 2), .inl (G.2 1, 980, .inr (.inl (u7.1 1)))), ((ma 1), .inl (G.2 1, 49, .inr (.inl (u7.1 0))))]) [2, 1] (by decide) rfl)) rfl rfl hl.1 rfl (lv_room (Nat.le_of_ble_eq_true rfl)) dX3_notes_54 ⟨Nat.le_of_ble_eq_true rfl, Nat.le_of_ble_eq_true rfl⟩) (fun H locs hP hD hS => ?_)
    have hP := hP.sub (ws' := zc_mo G ma (zc_mf u7 1 r8)) [0, 5, 4, 1, 2, 3] rfl
    have hD := hD.sub (ws' := zc_mo G ma (zc_mf u7 1 r8)) [0, 5, 4, 1, 2, 3] (by decide) rfl
    obtain ⟨u9, eu9, hF⟩ := zc_letX hF
    have hP : va_P G.1 vwCl (zc_mo G ma u9) H := by rw [eu9]; exact hP
    have hD : va_D A (zc_mo G ma u9) := zc_Ds hD rfl
    refine lv_aload_n hx hb dX3_notes_57 rfl (lv_at hl 0 rfl) ?_
    refine lv_dup hx hb dX3_notes_58 rfl ?_
    refine va_get (D := G.1) (ci := 3) (C := RX3) (T := TX3) (N := 8) hx hb hts iX3_notes_X3 hown hK.1 hP 0 rfl rfl 2 (by decide) (hts (.fieldLink RX3 151 "BoardClockModel" "deeds" "I") (List.mem_of_getElem? (i := 1) rfl)) (fun _ h9 => h9) rfl dX3_notes_59 ?_
    refine lv_iconst (v := (1 : Int32)) hx hb dX3_notes_62 (by decide) ?_
    refine lv_iadd hx hb dX3_notes_63 ?_
    refine va_put (D := G.1) (ci := 3) (v := .int ((u9.2.2.1 0) + (1 : Int32))) (ty := .int) (C := RX3) (T := TX3) (N := 8) hx hb hts iX3_notes_X3 tyX3 tyX3_ok nmX3 hown hK.1 hP hD hS 0 rfl rfl 2 (by decide) (hts (.fieldLink RX3 151 "BoardClockModel" "deeds" "I") (List.mem_of_getElem? (i := 1) rfl)) (fun _ h9 => h9) rfl (by decide +kernel) rfl rfl (Nat.le_of_ble_eq_true rfl) dX3_notes_64 (fun H locs hP _ hS => ?_)
    obtain ⟨u10, eu10, hF⟩ := zc_letX hF
    have hP : va_P G.1 vwCl (zc_mo G ma u10) H := by rw [eu10]; exact hP
    have hD : va_D A (zc_mo G ma u10) := zc_Ds hD rfl
    obtain rfl := Option.some.inj hF
    exact W.vret hx hb hr (fun t ht hW => ⟨⟨(), rfl, trivial, zc_hp ht hP⟩, hS.F ht⟩) hS.2.2 dX3_notes_67
def fX3_goes_L (N : Nat) : Nat → zc_M → Int32 → Int64 → Int32 → Int32 → Option (Int32 × zc_M)
  | 0, _, _, _, _, _ => none
  | n + 1, u0, y1, y2, y4, y5 => if 0 ≤ (lg_cmp y5.toInt64 (u0.1 0 24)) then (if (lg_cmp (u0.1 0 11) (1 : Int64)) = 0 then (Option.bind (fX3_restAfter u0 y1) fun (r27 : Int64) => Option.bind (fX3_gone u0 y1) fun (r28 : Int64) => zc_let (zc_mL u0 0 2 ((u0.1 0 2) - r28)) fun (u29 : zc_M) => zc_let (zc_mL u29 0 8 r27) fun (u30 : zc_M) => zc_let (zc_mL u30 0 1 y2) fun (u31 : zc_M) => zc_let (zc_mL u31 0 0 ((u31.1 0 0) + (y1.toInt64 * (60000 : Int64)))) fun (u32 : zc_M) => Option.bind (fX3_wider u32) fun (r33 : Int64) => Option.bind (fX3_lesser (999999999 : Int64) ((u32.1 0 3) + (y1.toInt64 * r33))) fun (r34 : Int64) => zc_let (zc_mL u32 0 3 r34) fun (u35 : zc_M) => if (lg_cmp (u35.1 0 11) (1 : Int64)) = 0 then (if (lg_cmp (u35.1 0 12) (0 : Int64)) = 0 then (Option.bind (fX3_spanNow u35) fun (r42 : Int32) => zc_let (zc_mL u35 0 13 r42.toInt64) fun (u43 : zc_M) => zc_let (zc_mL u43 0 12 ((u43.1 0 12) + y1.toInt64)) fun (u44 : zc_M) => some (y4, u44)) else (Option.bind (fX3_spanNow u35) fun (r45 : Int32) => if (lg_cmp (u35.1 0 13) r45.toInt64) = 0 then (Option.bind (fX3_spanNow u35) fun (r51 : Int32) => zc_let (zc_mL u35 0 13 r51.toInt64) fun (u52 : zc_M) => zc_let (zc_mL u52 0 12 ((u52.1 0 12) + y1.toInt64)) fun (u53 : zc_M) => some (y4, u53)) else (zc_let (zc_mL u35 0 13 (9 : Int64)) fun (u48 : zc_M) => zc_let (zc_mL u48 0 12 ((u48.1 0 12) + y1.toInt64)) fun (u49 : zc_M) => some (y4, u49)))) else (zc_let (zc_mL u35 0 13 (9 : Int64)) fun (u38 : zc_M) => zc_let (zc_mL u38 0 12 ((u38.1 0 12) + y1.toInt64)) fun (u39 : zc_M) => some (y4, u39))) else (zc_let (zc_mL u0 0 1 y2) fun (u4 : zc_M) => zc_let (zc_mL u4 0 0 ((u4.1 0 0) + (y1.toInt64 * (60000 : Int64)))) fun (u5 : zc_M) => Option.bind (fX3_wider u5) fun (r6 : Int64) => Option.bind (fX3_lesser (999999999 : Int64) ((u5.1 0 3) + (y1.toInt64 * r6))) fun (r7 : Int64) => zc_let (zc_mL u5 0 3 r7) fun (u8 : zc_M) => if (lg_cmp (u8.1 0 11) (1 : Int64)) = 0 then (if (lg_cmp (u8.1 0 12) (0 : Int64)) = 0 then (Option.bind (fX3_spanNow u8) fun (r15 : Int32) => zc_let (zc_mL u8 0 13 r15.toInt64) fun (u16 : zc_M) => zc_let (zc_mL u16 0 12 ((u16.1 0 12) + y1.toInt64)) fun (u17 : zc_M) => some (y4, u17)) else (Option.bind (fX3_spanNow u8) fun (r18 : Int32) => if (lg_cmp (u8.1 0 13) r18.toInt64) = 0 then (Option.bind (fX3_spanNow u8) fun (r24 : Int32) => zc_let (zc_mL u8 0 13 r24.toInt64) fun (u25 : zc_M) => zc_let (zc_mL u25 0 12 ((u25.1 0 12) + y1.toInt64)) fun (u26 : zc_M) => some (y4, u26)) else (zc_let (zc_mL u8 0 13 (9 : Int64)) fun (u21 : zc_M) => zc_let (zc_mL u21 0 12 ((u21.1 0 12) + y1.toInt64)) fun (u22 : zc_M) => some (y4, u22)))) else (zc_let (zc_mL u8 0 13 (9 : Int64)) fun (u11 : zc_M) => zc_let (zc_mL u11 0 12 ((u11.1 0 12) + y1.toInt64)) fun (u12 : zc_M) => some (y4, u12)))) else (Option.bind (fX3_between N u0 y5 y2) fun (r54 : Int64) => if (lg_cmp r54 (0 : Int64)) ≤ 0 then (zc_let (y4 ||| (0 : Int32)) fun (x56 : Int32) => Option.bind (fX3_ringsAt u0 y5) fun (r57 : Int64) => Option.bind (fX3_lesser (99999 : Int64) (r57 + r54)) fun (r58 : Int64) => zc_in (((25 : Int32) + ((4 : Int32) * y5)) + (3 : Int32)) 49 (zc_let (zc_mL u0 0 ((((25 : Int32) + ((4 : Int32) * y5)) + (3 : Int32))).toNatClampNeg r58) fun (u60 : zc_M) => zc_let (y5 + (1 : Int32)) fun (x61 : Int32) => fX3_goes_L N n u60 y1 y2 x56 x61)) else (zc_let (y4 ||| ((1 : Int32) <<< (y5 &&& 31))) fun (x62 : Int32) => Option.bind (fX3_ringsAt u0 y5) fun (r63 : Int64) => Option.bind (fX3_lesser (99999 : Int64) (r63 + r54)) fun (r64 : Int64) => zc_in (((25 : Int32) + ((4 : Int32) * y5)) + (3 : Int32)) 49 (zc_let (zc_mL u0 0 ((((25 : Int32) + ((4 : Int32) * y5)) + (3 : Int32))).toNatClampNeg r64) fun (u66 : zc_M) => zc_let (y5 + (1 : Int32)) fun (x67 : Int32) => fX3_goes_L N n u66 y1 y2 x62 x67)))
def fX3_goes (N : Nat) (u : zc_M) (a1 : Int32) : Option (Int32 × zc_M) := Option.bind (fX3_boardAfter u a1) fun (r1 : Int64) => fX3_goes_L N N u a1 r1 (0 : Int32) (0 : Int32)
theorem iX3_goes_X3 : ∀ w ∈ wsX30, w ∈ wsX3_goes := fun _ h => List.mem_cons_of_mem _ (List.mem_append_right _ h)
set_option maxHeartbeats 4000000 in
set_option maxRecDepth 100000 in
theorem kX3_goes (l : Launch) (G : zc_G) (ma : Nat → Nat) (sz : Nat) {N : Nat} {u : zc_M} {a1 : Int32} {r0 : Int32 × zc_M} (hF : fX3_goes N u a1 = some r0) : Met l yX3_goes wsX3_goes ({ frames := 3, cells := 0, slots := 0, locals := 74 }) (zc_Pm G [.ref (ma 0), .int a1] (zc_mo G ma u) sz) (zc_Qi G r0.1 (zc_mo G ma r0.2) (va_A (zc_mo G ma u) sz)) 0 0 (va_A (zc_mo G ma u) sz) := by
  refine Met.ofW (cc := cX3_goes) (maxL := 8) (ret := (some .int)) (by decide) rfl ?_
  intro p e s m args below meth c s₁ B hml hv
  obtain ⟨rfl, hsz, hP, hK, hD0⟩ := hv
  have hx := B.exec
  have hb := B.bytes
  have hr := B.returns
  have hts := atoms_spec (ws := wsX3_goes) B.pre
  have hown : s.vm.findClass RX3 = some m.cls := findClass_of_methodNamed B.named
  have hlocks := B.notSynchronized
  subst hsz
  have hD := hD0.self (sz := s.heap.size)
  generalize hAe : va_A (zc_mo G ma u) s.heap.size = A at hD ⊢
  have hA : ∀ q : Nat, s.heap.size ≤ q → A q := fun q h => by rw [← hAe]; exact Or.inr h
  have hS : va_S A s.heap s.heap [] := va_S.rf
  have hl := lv_entry ([.ref (ma 0), .int a1]) (n := 8) (Nat.le_of_ble_eq_true rfl)
  rw [lg_entry_eq]
  generalize (lg_sl ([.ref (ma 0), .int a1]) ++ List.replicate (8 - (lg_sl ([.ref (ma 0), .int a1])).length) Slot.unset).toArray = ls at hl ⊢
  have hl : lv_has ls 8 [(0, .ref (ma 0)), (1, .int a1)] := hl
  have loop : ∀ (n : Nat) (u0 : zc_M) (y1 : Int32) (y2 : Int64) (y4 : Int32) (y5 : Int32) (H : Heap) (locs : List Loc), va_P G.1 vwCl (zc_mo G ma u0) H → va_D A (zc_mo G ma u0) → va_S A s.heap H locs → ∀ (ls : Array Slot), lv_has ls 8 [(0, .ref (ma 0)), (1, .int y1), (2, .long y2), (4, .int y4), (5, .int y5)] → fX3_goes_L N n u0 y1 y2 y4 y5 = some r0 → W p l e (headSpec wsX3_goes ({ frames := 3, cells := 0, slots := 0, locals := 74 })).room s m ([.ref (ma 0), .int a1] : List Value).toArray below meth c H locs 0 0 (MQ below (zc_Qi G r0.1 (zc_mo G ma r0.2) A) ([.ref (ma 0), .int a1] : List Value).toArray s 0 0 A) (F0 m 12 ls []) := by
    intro n
    induction n with
    | zero =>
      intro u0 y1 y2 y4 y5 H locs hP hD hS ls hl hF
      cases hF
    | succ n ih =>
      intro u0 y1 y2 y4 y5 H locs hP hD hS ls hl hF
      rw [fX3_goes_L] at hF
      refine lv_iload hx hb dX3_goes_12 (lv_at hl 4 rfl) ?_
      refine lv_i2l hx hb dX3_goes_14 rfl ?_
      refine lv_aload_n hx hb dX3_goes_15 rfl (lv_at hl 0 rfl) ?_
      refine va_get (D := G.1) (ci := 3) (C := RX3) (T := TX3) (N := 8) hx hb hts iX3_goes_X3 hown hK.1 hP 0 rfl rfl 0 (by decide) (hts (.fieldLink RX3 7 "BoardClockModel" "st" "[J") (List.mem_of_getElem? (i := 1) rfl)) (fun _ h9 => h9) rfl dX3_goes_16 ?_
      refine lv_bipush (v := (24 : Int32)) hx hb dX3_goes_19 (by decide) ?_
      refine zc_lald hx hb hK.1 hP 1 1 rfl rfl (j := 24) (zc_vin (by decide)) (by decide) dX3_goes_21 ?_
      refine W.lcmp hx hb dX3_goes_22 ?_
      refine lv_if_ge (tgt := 90) hx hb dX3_goes_23 (by decide) (fun c2 => ?_) (fun c2 => ?_)
      · have hF := zc_pos c2 hF
        refine lv_aload_n hx hb dX3_goes_90 rfl (lv_at hl 0 rfl) ?_
        refine va_get (D := G.1) (ci := 3) (C := RX3) (T := TX3) (N := 8) hx hb hts iX3_goes_X3 hown hK.1 hP 0 rfl rfl 0 (by decide) (hts (.fieldLink RX3 7 "BoardClockModel" "st" "[J") (List.mem_of_getElem? (i := 1) rfl)) (fun _ h9 => h9) rfl dX3_goes_91 ?_
        refine lv_bipush (v := (11 : Int32)) hx hb dX3_goes_94 (by decide) ?_
        refine zc_lald hx hb hK.1 hP 1 1 rfl rfl (j := 11) (zc_vin (by decide)) (by decide) dX3_goes_96 ?_
        refine lv_lconst (v := (1 : Int64)) hx hb dX3_goes_97 (by decide) ?_
        refine W.lcmp hx hb dX3_goes_98 ?_
        refine lv_if_ne (tgt := 132) hx hb dX3_goes_99 (by decide) (fun c3 => ?_) (fun c3 => ?_)
        · have hF := zc_neg c3 hF
          refine lv_aload_n hx hb dX3_goes_132 rfl (lv_at hl 0 rfl) ?_
          refine va_get (D := G.1) (ci := 3) (C := RX3) (T := TX3) (N := 8) hx hb hts iX3_goes_X3 hown hK.1 hP 0 rfl rfl 0 (by decide) (hts (.fieldLink RX3 7 "BoardClockModel" "st" "[J") (List.mem_of_getElem? (i := 1) rfl)) (fun _ h9 => h9) rfl dX3_goes_133 ?_
          refine lv_iconst (v := (1 : Int32)) hx hb dX3_goes_136 (by decide) ?_
          refine lv_lload_n hx hb dX3_goes_137 rfl (lv_at hl 2 rfl) ?_
          refine zc_last (j := 1) hx hb hK.1 hP hD hS 1 1 rfl rfl (zc_vin (by decide)) (by decide) dX3_goes_138 (fun H locs hP hS => ?_)
          obtain ⟨u4, eu4, hF⟩ := zc_letX hF
          have hP : va_P G.1 vwCl (zc_mo G ma u4) H := by rw [eu4]; exact hP
          have hD : va_D A (zc_mo G ma u4) := zc_Ds hD rfl
          refine lv_aload_n hx hb dX3_goes_139 rfl (lv_at hl 0 rfl) ?_
          refine va_get (D := G.1) (ci := 3) (C := RX3) (T := TX3) (N := 8) hx hb hts iX3_goes_X3 hown hK.1 hP 0 rfl rfl 0 (by decide) (hts (.fieldLink RX3 7 "BoardClockModel" "st" "[J") (List.mem_of_getElem? (i := 1) rfl)) (fun _ h9 => h9) rfl dX3_goes_140 ?_
          refine lv_iconst (v := (0 : Int32)) hx hb dX3_goes_143 (by decide) ?_
          refine lv_dup2_11 hx hb dX3_goes_144 rfl rfl ?_
          refine zc_lald hx hb hK.1 hP 1 1 rfl rfl (j := 0) (zc_vin (by decide)) (by decide) dX3_goes_145 ?_
          refine lv_iload_n hx hb dX3_goes_146 rfl (lv_at hl 1 rfl) ?_
          refine lv_i2l hx hb dX3_goes_147 rfl ?_
          refine lv_ldc2 hx hb hown (hts (.constantLong RX3 62 (60000)) (List.mem_of_getElem? (i := 3) rfl)) dX3_goes_148 ?_
          refine lv_lmul hx hb dX3_goes_151 ?_
          refine lv_ladd hx hb dX3_goes_152 ?_
          refine zc_last (j := 0) hx hb hK.1 hP hD hS 1 1 rfl rfl (zc_vin (by decide)) (by decide) dX3_goes_153 (fun H locs hP hS => ?_)
          obtain ⟨u5, eu5, hF⟩ := zc_letX hF
          have hP : va_P G.1 vwCl (zc_mo G ma u5) H := by rw [eu5]; exact hP
          have hD : va_D A (zc_mo G ma u5) := zc_Ds hD rfl
          refine lv_aload_n hx hb dX3_goes_154 rfl (lv_at hl 0 rfl) ?_
          refine va_get (D := G.1) (ci := 3) (C := RX3) (T := TX3) (N := 8) hx hb hts iX3_goes_X3 hown hK.1 hP 0 rfl rfl 0 (by decide) (hts (.fieldLink RX3 7 "BoardClockModel" "st" "[J") (List.mem_of_getElem? (i := 1) rfl)) (fun _ h9 => h9) rfl dX3_goes_155 ?_
          refine lv_iconst (v := (3 : Int32)) hx hb dX3_goes_158 (by decide) ?_
          refine lv_ldc2 hx hb hown (hts (.constantLong RX3 107 (999999999)) (List.mem_of_getElem? (i := 4) rfl)) dX3_goes_159 ?_
          refine lv_aload_n hx hb dX3_goes_162 rfl (lv_at hl 0 rfl) ?_
          refine va_get (D := G.1) (ci := 3) (C := RX3) (T := TX3) (N := 8) hx hb hts iX3_goes_X3 hown hK.1 hP 0 rfl rfl 0 (by decide) (hts (.fieldLink RX3 7 "BoardClockModel" "st" "[J") (List.mem_of_getElem? (i := 1) rfl)) (fun _ h9 => h9) rfl dX3_goes_163 ?_
          refine lv_iconst (v := (3 : Int32)) hx hb dX3_goes_166 (by decide) ?_
          refine zc_lald hx hb hK.1 hP 1 1 rfl rfl (j := 3) (zc_vin (by decide)) (by decide) dX3_goes_167 ?_
          refine lv_iload_n hx hb dX3_goes_168 rfl (lv_at hl 1 rfl) ?_
          refine lv_i2l hx hb dX3_goes_169 rfl ?_
          refine lv_aload_n hx hb dX3_goes_170 rfl (lv_at hl 0 rfl) ?_
          obtain ⟨r6, er6, hF⟩ := zc_bind hF
          refine zc_cl (va_runV (As := []) ⟨hx, hb, hml, hown, hts⟩ (kX3_wider l G ma er6) (cwV 0 hts gX3_goes_X3_wider rfl rfl rfl (by decide +kernel) ⟨Nat.le_of_ble_eq_true rfl, Nat.le_of_ble_eq_true rfl⟩) (zc_preV hK hP 0 rfl rfl) rfl rfl hl.1 rfl (lv_room (Nat.le_of_ble_eq_true rfl)) dX3_goes_171 ⟨Nat.le_of_ble_eq_true rfl, Nat.le_of_ble_eq_true rfl⟩) ?_
          refine lv_lmul hx hb dX3_goes_174 ?_
          refine lv_ladd hx hb dX3_goes_175 ?_
          obtain ⟨r7, er7, hF⟩ := zc_bind hF
          refine zc_cl (va_runS (As := [.long _, .long _]) ⟨hx, hb, hml, hown, hts⟩ (kX3_lesser l G er7) (va_cwS 2 hts gX3_goes_X3_lesser rfl rfl rfl (by decide +kernel) ⟨Nat.le_of_ble_eq_true rfl, Nat.le_of_ble_eq_true rfl⟩) (zc_preS hK (show va_P G.1 vwCl [] _ from fun k q h => by simp at h)) rfl rfl hl.1 rfl (lv_room (Nat.le_of_ble_eq_true rfl)) dX3_goes_176 ⟨Nat.le_of_ble_eq_true rfl, Nat.le_of_ble_eq_true rfl⟩) ?_
          refine zc_last (j := 3) hx hb hK.1 hP hD hS 1 1 rfl rfl (zc_vin (by decide)) (by decide) dX3_goes_179 (fun H locs hP hS => ?_)
          obtain ⟨u8, eu8, hF⟩ := zc_letX hF
          have hP : va_P G.1 vwCl (zc_mo G ma u8) H := by rw [eu8]; exact hP
          have hD : va_D A (zc_mo G ma u8) := zc_Ds hD rfl
          refine lv_aload_n hx hb dX3_goes_180 rfl (lv_at hl 0 rfl) ?_
          refine va_get (D := G.1) (ci := 3) (C := RX3) (T := TX3) (N := 8) hx hb hts iX3_goes_X3 hown hK.1 hP 0 rfl rfl 0 (by decide) (hts (.fieldLink RX3 7 "BoardClockModel" "st" "[J") (List.mem_of_getElem? (i := 1) rfl)) (fun _ h9 => h9) rfl dX3_goes_181 ?_
          refine lv_bipush (v := (11 : Int32)) hx hb dX3_goes_184 (by decide) ?_
          refine zc_lald hx hb hK.1 hP 1 1 rfl rfl (j := 11) (zc_vin (by decide)) (by decide) dX3_goes_186 ?_
          refine lv_lconst (v := (1 : Int64)) hx hb dX3_goes_187 (by decide) ?_
          refine W.lcmp hx hb dX3_goes_188 ?_
          refine lv_if_ne (tgt := 224) hx hb dX3_goes_189 (by decide) (fun c9 => ?_) (fun c9 => ?_)
          · have hF := zc_neg c9 hF
            refine lv_iconst (v := (0 : Int32)) hx hb dX3_goes_224 (by decide) ?_
            refine lv_istore (lv' := [(5, .int (0 : Int32)), (0, .ref (ma 0)), (1, .int y1), (2, .long y2), (4, .int y4)]) hx hb dX3_goes_225 hl (by decide) rfl (fun ls hl => ?_)
            refine lv_aload_n hx hb dX3_goes_227 rfl (lv_at hl 1 rfl) ?_
            refine va_get (D := G.1) (ci := 3) (C := RX3) (T := TX3) (N := 8) hx hb hts iX3_goes_X3 hown hK.1 hP 0 rfl rfl 0 (by decide) (hts (.fieldLink RX3 7 "BoardClockModel" "st" "[J") (List.mem_of_getElem? (i := 1) rfl)) (fun _ h9 => h9) rfl dX3_goes_228 ?_
            refine lv_bipush (v := (13 : Int32)) hx hb dX3_goes_231 (by decide) ?_
            refine lv_iload hx hb dX3_goes_233 (lv_at hl 0 rfl) ?_
            refine lv_if_eq (tgt := 246) hx hb dX3_goes_235 (by decide) (fun c10 => ?_) (fun c10 => absurd c10 (by decide))
            refine lv_ldc2 hx hb hown (hts (.constantLong RX3 112 (9)) (List.mem_of_getElem? (i := 5) rfl)) dX3_goes_246 ?_
            refine zc_last (j := 13) hx hb hK.1 hP hD hS 1 1 rfl rfl (zc_vin (by decide)) (by decide) dX3_goes_249 (fun H locs hP hS => ?_)
            obtain ⟨u11, eu11, hF⟩ := zc_letX hF
            have hP : va_P G.1 vwCl (zc_mo G ma u11) H := by rw [eu11]; exact hP
            have hD : va_D A (zc_mo G ma u11) := zc_Ds hD rfl
            refine lv_aload_n hx hb dX3_goes_250 rfl (lv_at hl 1 rfl) ?_
            refine va_get (D := G.1) (ci := 3) (C := RX3) (T := TX3) (N := 8) hx hb hts iX3_goes_X3 hown hK.1 hP 0 rfl rfl 0 (by decide) (hts (.fieldLink RX3 7 "BoardClockModel" "st" "[J") (List.mem_of_getElem? (i := 1) rfl)) (fun _ h9 => h9) rfl dX3_goes_251 ?_
            refine lv_bipush (v := (12 : Int32)) hx hb dX3_goes_254 (by decide) ?_
            refine lv_dup2_11 hx hb dX3_goes_256 rfl rfl ?_
            refine zc_lald hx hb hK.1 hP 1 1 rfl rfl (j := 12) (zc_vin (by decide)) (by decide) dX3_goes_257 ?_
            refine lv_iload_n hx hb dX3_goes_258 rfl (lv_at hl 2 rfl) ?_
            refine lv_i2l hx hb dX3_goes_259 rfl ?_
            refine lv_ladd hx hb dX3_goes_260 ?_
            refine zc_last (j := 12) hx hb hK.1 hP hD hS 1 1 rfl rfl (zc_vin (by decide)) (by decide) dX3_goes_261 (fun H locs hP hS => ?_)
            obtain ⟨u12, eu12, hF⟩ := zc_letX hF
            have hP : va_P G.1 vwCl (zc_mo G ma u12) H := by rw [eu12]; exact hP
            have hD : va_D A (zc_mo G ma u12) := zc_Ds hD rfl
            refine lv_iload hx hb dX3_goes_262 (lv_at hl 4 rfl) ?_
            obtain rfl := Option.some.inj hF
            exact W.iret hx hb hr (fun t ht hW => ⟨⟨_, (), rfl, rfl, zc_hp ht hP⟩, hS.F ht⟩) hS.2.2 dX3_goes_264
          · have hF := zc_pos c9 hF
            refine lv_aload_n hx hb dX3_goes_192 rfl (lv_at hl 0 rfl) ?_
            refine va_get (D := G.1) (ci := 3) (C := RX3) (T := TX3) (N := 8) hx hb hts iX3_goes_X3 hown hK.1 hP 0 rfl rfl 0 (by decide) (hts (.fieldLink RX3 7 "BoardClockModel" "st" "[J") (List.mem_of_getElem? (i := 1) rfl)) (fun _ h9 => h9) rfl dX3_goes_193 ?_
            refine lv_bipush (v := (12 : Int32)) hx hb dX3_goes_196 (by decide) ?_
            refine zc_lald hx hb hK.1 hP 1 1 rfl rfl (j := 12) (zc_vin (by decide)) (by decide) dX3_goes_198 ?_
            refine lv_lconst (v := (0 : Int64)) hx hb dX3_goes_199 (by decide) ?_
            refine W.lcmp hx hb dX3_goes_200 ?_
            refine lv_if_eq (tgt := 220) hx hb dX3_goes_201 (by decide) (fun c13 => ?_) (fun c13 => ?_)
            · have hF := zc_pos c13 hF
              refine lv_iconst (v := (1 : Int32)) hx hb dX3_goes_220 (by decide) ?_
              refine lv_goto (tgt := 225) hx hb dX3_goes_221 (by decide) ?_
              refine lv_istore (lv' := [(5, .int (1 : Int32)), (0, .ref (ma 0)), (1, .int y1), (2, .long y2), (4, .int y4)]) hx hb dX3_goes_225 hl (by decide) rfl (fun ls hl => ?_)
              refine lv_aload_n hx hb dX3_goes_227 rfl (lv_at hl 1 rfl) ?_
              refine va_get (D := G.1) (ci := 3) (C := RX3) (T := TX3) (N := 8) hx hb hts iX3_goes_X3 hown hK.1 hP 0 rfl rfl 0 (by decide) (hts (.fieldLink RX3 7 "BoardClockModel" "st" "[J") (List.mem_of_getElem? (i := 1) rfl)) (fun _ h9 => h9) rfl dX3_goes_228 ?_
              refine lv_bipush (v := (13 : Int32)) hx hb dX3_goes_231 (by decide) ?_
              refine lv_iload hx hb dX3_goes_233 (lv_at hl 0 rfl) ?_
              refine lv_if_eq (tgt := 246) hx hb dX3_goes_235 (by decide) (fun c14 => absurd c14 (by decide)) (fun c14 => ?_)
              refine lv_aload_n hx hb dX3_goes_238 rfl (lv_at hl 1 rfl) ?_
              obtain ⟨r15, er15, hF⟩ := zc_bind hF
              refine zc_ci (va_runV (As := []) ⟨hx, hb, hml, hown, hts⟩ (kX3_spanNow l G ma er15) (cwV 0 hts gX3_goes_X3_spanNow rfl rfl rfl (by decide +kernel) ⟨Nat.le_of_ble_eq_true rfl, Nat.le_of_ble_eq_true rfl⟩) (zc_preV hK hP 0 rfl rfl) rfl rfl hl.1 rfl (lv_room (Nat.le_of_ble_eq_true rfl)) dX3_goes_239 ⟨Nat.le_of_ble_eq_true rfl, Nat.le_of_ble_eq_true rfl⟩) ?_
              refine lv_i2l hx hb dX3_goes_242 rfl ?_
              refine lv_goto (tgt := 249) hx hb dX3_goes_243 (by decide) ?_
              refine zc_last (j := 13) hx hb hK.1 hP hD hS 1 1 rfl rfl (zc_vin (by decide)) (by decide) dX3_goes_249 (fun H locs hP hS => ?_)
              obtain ⟨u16, eu16, hF⟩ := zc_letX hF
              have hP : va_P G.1 vwCl (zc_mo G ma u16) H := by rw [eu16]; exact hP
              have hD : va_D A (zc_mo G ma u16) := zc_Ds hD rfl
              refine lv_aload_n hx hb dX3_goes_250 rfl (lv_at hl 1 rfl) ?_
              refine va_get (D := G.1) (ci := 3) (C := RX3) (T := TX3) (N := 8) hx hb hts iX3_goes_X3 hown hK.1 hP 0 rfl rfl 0 (by decide) (hts (.fieldLink RX3 7 "BoardClockModel" "st" "[J") (List.mem_of_getElem? (i := 1) rfl)) (fun _ h9 => h9) rfl dX3_goes_251 ?_
              refine lv_bipush (v := (12 : Int32)) hx hb dX3_goes_254 (by decide) ?_
              refine lv_dup2_11 hx hb dX3_goes_256 rfl rfl ?_
              refine zc_lald hx hb hK.1 hP 1 1 rfl rfl (j := 12) (zc_vin (by decide)) (by decide) dX3_goes_257 ?_
              refine lv_iload_n hx hb dX3_goes_258 rfl (lv_at hl 2 rfl) ?_
              refine lv_i2l hx hb dX3_goes_259 rfl ?_
              refine lv_ladd hx hb dX3_goes_260 ?_
              refine zc_last (j := 12) hx hb hK.1 hP hD hS 1 1 rfl rfl (zc_vin (by decide)) (by decide) dX3_goes_261 (fun H locs hP hS => ?_)
              obtain ⟨u17, eu17, hF⟩ := zc_letX hF
              have hP : va_P G.1 vwCl (zc_mo G ma u17) H := by rw [eu17]; exact hP
              have hD : va_D A (zc_mo G ma u17) := zc_Ds hD rfl
              refine lv_iload hx hb dX3_goes_262 (lv_at hl 4 rfl) ?_
              obtain rfl := Option.some.inj hF
              exact W.iret hx hb hr (fun t ht hW => ⟨⟨_, (), rfl, rfl, zc_hp ht hP⟩, hS.F ht⟩) hS.2.2 dX3_goes_264
            · have hF := zc_neg c13 hF
              refine lv_aload_n hx hb dX3_goes_204 rfl (lv_at hl 0 rfl) ?_
              refine va_get (D := G.1) (ci := 3) (C := RX3) (T := TX3) (N := 8) hx hb hts iX3_goes_X3 hown hK.1 hP 0 rfl rfl 0 (by decide) (hts (.fieldLink RX3 7 "BoardClockModel" "st" "[J") (List.mem_of_getElem? (i := 1) rfl)) (fun _ h9 => h9) rfl dX3_goes_205 ?_
              refine lv_bipush (v := (13 : Int32)) hx hb dX3_goes_208 (by decide) ?_
              refine zc_lald hx hb hK.1 hP 1 1 rfl rfl (j := 13) (zc_vin (by decide)) (by decide) dX3_goes_210 ?_
              refine lv_aload_n hx hb dX3_goes_211 rfl (lv_at hl 0 rfl) ?_
              obtain ⟨r18, er18, hF⟩ := zc_bind hF
              refine zc_ci (va_runV (As := []) ⟨hx, hb, hml, hown, hts⟩ (kX3_spanNow l G ma er18) (cwV 0 hts gX3_goes_X3_spanNow rfl rfl rfl (by decide +kernel) ⟨Nat.le_of_ble_eq_true rfl, Nat.le_of_ble_eq_true rfl⟩) (zc_preV hK hP 0 rfl rfl) rfl rfl hl.1 rfl (lv_room (Nat.le_of_ble_eq_true rfl)) dX3_goes_212 ⟨Nat.le_of_ble_eq_true rfl, Nat.le_of_ble_eq_true rfl⟩) ?_
              refine lv_i2l hx hb dX3_goes_215 rfl ?_
              refine W.lcmp hx hb dX3_goes_216 ?_
              refine lv_if_ne (tgt := 224) hx hb dX3_goes_217 (by decide) (fun c19 => ?_) (fun c19 => ?_)
              · have hF := zc_neg c19 hF
                refine lv_iconst (v := (0 : Int32)) hx hb dX3_goes_224 (by decide) ?_
                refine lv_istore (lv' := [(5, .int (0 : Int32)), (0, .ref (ma 0)), (1, .int y1), (2, .long y2), (4, .int y4)]) hx hb dX3_goes_225 hl (by decide) rfl (fun ls hl => ?_)
                refine lv_aload_n hx hb dX3_goes_227 rfl (lv_at hl 1 rfl) ?_
                refine va_get (D := G.1) (ci := 3) (C := RX3) (T := TX3) (N := 8) hx hb hts iX3_goes_X3 hown hK.1 hP 0 rfl rfl 0 (by decide) (hts (.fieldLink RX3 7 "BoardClockModel" "st" "[J") (List.mem_of_getElem? (i := 1) rfl)) (fun _ h9 => h9) rfl dX3_goes_228 ?_
                refine lv_bipush (v := (13 : Int32)) hx hb dX3_goes_231 (by decide) ?_
                refine lv_iload hx hb dX3_goes_233 (lv_at hl 0 rfl) ?_
                refine lv_if_eq (tgt := 246) hx hb dX3_goes_235 (by decide) (fun c20 => ?_) (fun c20 => absurd c20 (by decide))
                refine lv_ldc2 hx hb hown (hts (.constantLong RX3 112 (9)) (List.mem_of_getElem? (i := 5) rfl)) dX3_goes_246 ?_
                refine zc_last (j := 13) hx hb hK.1 hP hD hS 1 1 rfl rfl (zc_vin (by decide)) (by decide) dX3_goes_249 (fun H locs hP hS => ?_)
                obtain ⟨u21, eu21, hF⟩ := zc_letX hF
                have hP : va_P G.1 vwCl (zc_mo G ma u21) H := by rw [eu21]; exact hP
                have hD : va_D A (zc_mo G ma u21) := zc_Ds hD rfl
                refine lv_aload_n hx hb dX3_goes_250 rfl (lv_at hl 1 rfl) ?_
                refine va_get (D := G.1) (ci := 3) (C := RX3) (T := TX3) (N := 8) hx hb hts iX3_goes_X3 hown hK.1 hP 0 rfl rfl 0 (by decide) (hts (.fieldLink RX3 7 "BoardClockModel" "st" "[J") (List.mem_of_getElem? (i := 1) rfl)) (fun _ h9 => h9) rfl dX3_goes_251 ?_
                refine lv_bipush (v := (12 : Int32)) hx hb dX3_goes_254 (by decide) ?_
                refine lv_dup2_11 hx hb dX3_goes_256 rfl rfl ?_
                refine zc_lald hx hb hK.1 hP 1 1 rfl rfl (j := 12) (zc_vin (by decide)) (by decide) dX3_goes_257 ?_
                refine lv_iload_n hx hb dX3_goes_258 rfl (lv_at hl 2 rfl) ?_
                refine lv_i2l hx hb dX3_goes_259 rfl ?_
                refine lv_ladd hx hb dX3_goes_260 ?_
                refine zc_last (j := 12) hx hb hK.1 hP hD hS 1 1 rfl rfl (zc_vin (by decide)) (by decide) dX3_goes_261 (fun H locs hP hS => ?_)
                obtain ⟨u22, eu22, hF⟩ := zc_letX hF
                have hP : va_P G.1 vwCl (zc_mo G ma u22) H := by rw [eu22]; exact hP
                have hD : va_D A (zc_mo G ma u22) := zc_Ds hD rfl
                refine lv_iload hx hb dX3_goes_262 (lv_at hl 4 rfl) ?_
                obtain rfl := Option.some.inj hF
                exact W.iret hx hb hr (fun t ht hW => ⟨⟨_, (), rfl, rfl, zc_hp ht hP⟩, hS.F ht⟩) hS.2.2 dX3_goes_264
              · have hF := zc_pos c19 hF
                refine lv_iconst (v := (1 : Int32)) hx hb dX3_goes_220 (by decide) ?_
                refine lv_goto (tgt := 225) hx hb dX3_goes_221 (by decide) ?_
                refine lv_istore (lv' := [(5, .int (1 : Int32)), (0, .ref (ma 0)), (1, .int y1), (2, .long y2), (4, .int y4)]) hx hb dX3_goes_225 hl (by decide) rfl (fun ls hl => ?_)
                refine lv_aload_n hx hb dX3_goes_227 rfl (lv_at hl 1 rfl) ?_
                refine va_get (D := G.1) (ci := 3) (C := RX3) (T := TX3) (N := 8) hx hb hts iX3_goes_X3 hown hK.1 hP 0 rfl rfl 0 (by decide) (hts (.fieldLink RX3 7 "BoardClockModel" "st" "[J") (List.mem_of_getElem? (i := 1) rfl)) (fun _ h9 => h9) rfl dX3_goes_228 ?_
                refine lv_bipush (v := (13 : Int32)) hx hb dX3_goes_231 (by decide) ?_
                refine lv_iload hx hb dX3_goes_233 (lv_at hl 0 rfl) ?_
                refine lv_if_eq (tgt := 246) hx hb dX3_goes_235 (by decide) (fun c23 => absurd c23 (by decide)) (fun c23 => ?_)
                refine lv_aload_n hx hb dX3_goes_238 rfl (lv_at hl 1 rfl) ?_
                obtain ⟨r24, er24, hF⟩ := zc_bind hF
                refine zc_ci (va_runV (As := []) ⟨hx, hb, hml, hown, hts⟩ (kX3_spanNow l G ma er24) (cwV 0 hts gX3_goes_X3_spanNow rfl rfl rfl (by decide +kernel) ⟨Nat.le_of_ble_eq_true rfl, Nat.le_of_ble_eq_true rfl⟩) (zc_preV hK hP 0 rfl rfl) rfl rfl hl.1 rfl (lv_room (Nat.le_of_ble_eq_true rfl)) dX3_goes_239 ⟨Nat.le_of_ble_eq_true rfl, Nat.le_of_ble_eq_true rfl⟩) ?_
                refine lv_i2l hx hb dX3_goes_242 rfl ?_
                refine lv_goto (tgt := 249) hx hb dX3_goes_243 (by decide) ?_
                refine zc_last (j := 13) hx hb hK.1 hP hD hS 1 1 rfl rfl (zc_vin (by decide)) (by decide) dX3_goes_249 (fun H locs hP hS => ?_)
                obtain ⟨u25, eu25, hF⟩ := zc_letX hF
                have hP : va_P G.1 vwCl (zc_mo G ma u25) H := by rw [eu25]; exact hP
                have hD : va_D A (zc_mo G ma u25) := zc_Ds hD rfl
                refine lv_aload_n hx hb dX3_goes_250 rfl (lv_at hl 1 rfl) ?_
                refine va_get (D := G.1) (ci := 3) (C := RX3) (T := TX3) (N := 8) hx hb hts iX3_goes_X3 hown hK.1 hP 0 rfl rfl 0 (by decide) (hts (.fieldLink RX3 7 "BoardClockModel" "st" "[J") (List.mem_of_getElem? (i := 1) rfl)) (fun _ h9 => h9) rfl dX3_goes_251 ?_
                refine lv_bipush (v := (12 : Int32)) hx hb dX3_goes_254 (by decide) ?_
                refine lv_dup2_11 hx hb dX3_goes_256 rfl rfl ?_
                refine zc_lald hx hb hK.1 hP 1 1 rfl rfl (j := 12) (zc_vin (by decide)) (by decide) dX3_goes_257 ?_
                refine lv_iload_n hx hb dX3_goes_258 rfl (lv_at hl 2 rfl) ?_
                refine lv_i2l hx hb dX3_goes_259 rfl ?_
                refine lv_ladd hx hb dX3_goes_260 ?_
                refine zc_last (j := 12) hx hb hK.1 hP hD hS 1 1 rfl rfl (zc_vin (by decide)) (by decide) dX3_goes_261 (fun H locs hP hS => ?_)
                obtain ⟨u26, eu26, hF⟩ := zc_letX hF
                have hP : va_P G.1 vwCl (zc_mo G ma u26) H := by rw [eu26]; exact hP
                have hD : va_D A (zc_mo G ma u26) := zc_Ds hD rfl
                refine lv_iload hx hb dX3_goes_262 (lv_at hl 4 rfl) ?_
                obtain rfl := Option.some.inj hF
                exact W.iret hx hb hr (fun t ht hW => ⟨⟨_, (), rfl, rfl, zc_hp ht hP⟩, hS.F ht⟩) hS.2.2 dX3_goes_264
        · have hF := zc_pos c3 hF
          refine lv_aload_n hx hb dX3_goes_102 rfl (lv_at hl 0 rfl) ?_
          refine lv_iload_n hx hb dX3_goes_103 rfl (lv_at hl 1 rfl) ?_
          obtain ⟨r27, er27, hF⟩ := zc_bind hF
          refine zc_cl (va_runV (As := [.int _]) ⟨hx, hb, hml, hown, hts⟩ (kX3_restAfter l G ma er27) (cwV 1 hts gX3_goes_X3_restAfter rfl rfl rfl (by decide +kernel) ⟨Nat.le_of_ble_eq_true rfl, Nat.le_of_ble_eq_true rfl⟩) (zc_preV hK hP 0 rfl rfl) rfl rfl hl.1 rfl (lv_room (Nat.le_of_ble_eq_true rfl)) dX3_goes_104 ⟨Nat.le_of_ble_eq_true rfl, Nat.le_of_ble_eq_true rfl⟩) ?_
          refine lv_lstore (lv' := [(5, .long r27), (0, .ref (ma 0)), (1, .int y1), (2, .long y2), (4, .int y4)]) hx hb dX3_goes_107 hl (by decide) rfl (fun ls hl => ?_)
          refine lv_aload_n hx hb dX3_goes_109 rfl (lv_at hl 1 rfl) ?_
          refine va_get (D := G.1) (ci := 3) (C := RX3) (T := TX3) (N := 8) hx hb hts iX3_goes_X3 hown hK.1 hP 0 rfl rfl 0 (by decide) (hts (.fieldLink RX3 7 "BoardClockModel" "st" "[J") (List.mem_of_getElem? (i := 1) rfl)) (fun _ h9 => h9) rfl dX3_goes_110 ?_
          refine lv_iconst (v := (2 : Int32)) hx hb dX3_goes_113 (by decide) ?_
          refine lv_dup2_11 hx hb dX3_goes_114 rfl rfl ?_
          refine zc_lald hx hb hK.1 hP 1 1 rfl rfl (j := 2) (zc_vin (by decide)) (by decide) dX3_goes_115 ?_
          refine lv_aload_n hx hb dX3_goes_116 rfl (lv_at hl 1 rfl) ?_
          refine lv_iload_n hx hb dX3_goes_117 rfl (lv_at hl 2 rfl) ?_
          obtain ⟨r28, er28, hF⟩ := zc_bind hF
          refine zc_cl (va_runV (As := [.int _]) ⟨hx, hb, hml, hown, hts⟩ (kX3_gone l G ma er28) (cwV 1 hts gX3_goes_X3_gone rfl rfl rfl (by decide +kernel) ⟨Nat.le_of_ble_eq_true rfl, Nat.le_of_ble_eq_true rfl⟩) (zc_preV hK hP 0 rfl rfl) rfl rfl hl.1 rfl (lv_room (Nat.le_of_ble_eq_true rfl)) dX3_goes_118 ⟨Nat.le_of_ble_eq_true rfl, Nat.le_of_ble_eq_true rfl⟩) ?_
          refine lv_lsub hx hb dX3_goes_121 ?_
          refine zc_last (j := 2) hx hb hK.1 hP hD hS 1 1 rfl rfl (zc_vin (by decide)) (by decide) dX3_goes_122 (fun H locs hP hS => ?_)
          obtain ⟨u29, eu29, hF⟩ := zc_letX hF
          have hP : va_P G.1 vwCl (zc_mo G ma u29) H := by rw [eu29]; exact hP
          have hD : va_D A (zc_mo G ma u29) := zc_Ds hD rfl
          refine lv_aload_n hx hb dX3_goes_123 rfl (lv_at hl 1 rfl) ?_
          refine va_get (D := G.1) (ci := 3) (C := RX3) (T := TX3) (N := 8) hx hb hts iX3_goes_X3 hown hK.1 hP 0 rfl rfl 0 (by decide) (hts (.fieldLink RX3 7 "BoardClockModel" "st" "[J") (List.mem_of_getElem? (i := 1) rfl)) (fun _ h9 => h9) rfl dX3_goes_124 ?_
          refine lv_bipush (v := (8 : Int32)) hx hb dX3_goes_127 (by decide) ?_
          refine lv_lload hx hb dX3_goes_129 (lv_at hl 0 rfl) ?_
          refine zc_last (j := 8) hx hb hK.1 hP hD hS 1 1 rfl rfl (zc_vin (by decide)) (by decide) dX3_goes_131 (fun H locs hP hS => ?_)
          obtain ⟨u30, eu30, hF⟩ := zc_letX hF
          have hP : va_P G.1 vwCl (zc_mo G ma u30) H := by rw [eu30]; exact hP
          have hD : va_D A (zc_mo G ma u30) := zc_Ds hD rfl
          refine lv_aload_n hx hb dX3_goes_132 rfl (lv_at hl 1 rfl) ?_
          refine va_get (D := G.1) (ci := 3) (C := RX3) (T := TX3) (N := 8) hx hb hts iX3_goes_X3 hown hK.1 hP 0 rfl rfl 0 (by decide) (hts (.fieldLink RX3 7 "BoardClockModel" "st" "[J") (List.mem_of_getElem? (i := 1) rfl)) (fun _ h9 => h9) rfl dX3_goes_133 ?_
          refine lv_iconst (v := (1 : Int32)) hx hb dX3_goes_136 (by decide) ?_
          refine lv_lload_n hx hb dX3_goes_137 rfl (lv_at hl 3 rfl) ?_
          refine zc_last (j := 1) hx hb hK.1 hP hD hS 1 1 rfl rfl (zc_vin (by decide)) (by decide) dX3_goes_138 (fun H locs hP hS => ?_)
          obtain ⟨u31, eu31, hF⟩ := zc_letX hF
          have hP : va_P G.1 vwCl (zc_mo G ma u31) H := by rw [eu31]; exact hP
          have hD : va_D A (zc_mo G ma u31) := zc_Ds hD rfl
          refine lv_aload_n hx hb dX3_goes_139 rfl (lv_at hl 1 rfl) ?_
          refine va_get (D := G.1) (ci := 3) (C := RX3) (T := TX3) (N := 8) hx hb hts iX3_goes_X3 hown hK.1 hP 0 rfl rfl 0 (by decide) (hts (.fieldLink RX3 7 "BoardClockModel" "st" "[J") (List.mem_of_getElem? (i := 1) rfl)) (fun _ h9 => h9) rfl dX3_goes_140 ?_
          refine lv_iconst (v := (0 : Int32)) hx hb dX3_goes_143 (by decide) ?_
          refine lv_dup2_11 hx hb dX3_goes_144 rfl rfl ?_
          refine zc_lald hx hb hK.1 hP 1 1 rfl rfl (j := 0) (zc_vin (by decide)) (by decide) dX3_goes_145 ?_
          refine lv_iload_n hx hb dX3_goes_146 rfl (lv_at hl 2 rfl) ?_
          refine lv_i2l hx hb dX3_goes_147 rfl ?_
          refine lv_ldc2 hx hb hown (hts (.constantLong RX3 62 (60000)) (List.mem_of_getElem? (i := 3) rfl)) dX3_goes_148 ?_
          refine lv_lmul hx hb dX3_goes_151 ?_
          refine lv_ladd hx hb dX3_goes_152 ?_
          refine zc_last (j := 0) hx hb hK.1 hP hD hS 1 1 rfl rfl (zc_vin (by decide)) (by decide) dX3_goes_153 (fun H locs hP hS => ?_)
          obtain ⟨u32, eu32, hF⟩ := zc_letX hF
          have hP : va_P G.1 vwCl (zc_mo G ma u32) H := by rw [eu32]; exact hP
          have hD : va_D A (zc_mo G ma u32) := zc_Ds hD rfl
          refine lv_aload_n hx hb dX3_goes_154 rfl (lv_at hl 1 rfl) ?_
          refine va_get (D := G.1) (ci := 3) (C := RX3) (T := TX3) (N := 8) hx hb hts iX3_goes_X3 hown hK.1 hP 0 rfl rfl 0 (by decide) (hts (.fieldLink RX3 7 "BoardClockModel" "st" "[J") (List.mem_of_getElem? (i := 1) rfl)) (fun _ h9 => h9) rfl dX3_goes_155 ?_
          refine lv_iconst (v := (3 : Int32)) hx hb dX3_goes_158 (by decide) ?_
          refine lv_ldc2 hx hb hown (hts (.constantLong RX3 107 (999999999)) (List.mem_of_getElem? (i := 4) rfl)) dX3_goes_159 ?_
          refine lv_aload_n hx hb dX3_goes_162 rfl (lv_at hl 1 rfl) ?_
          refine va_get (D := G.1) (ci := 3) (C := RX3) (T := TX3) (N := 8) hx hb hts iX3_goes_X3 hown hK.1 hP 0 rfl rfl 0 (by decide) (hts (.fieldLink RX3 7 "BoardClockModel" "st" "[J") (List.mem_of_getElem? (i := 1) rfl)) (fun _ h9 => h9) rfl dX3_goes_163 ?_
          refine lv_iconst (v := (3 : Int32)) hx hb dX3_goes_166 (by decide) ?_
          refine zc_lald hx hb hK.1 hP 1 1 rfl rfl (j := 3) (zc_vin (by decide)) (by decide) dX3_goes_167 ?_
          refine lv_iload_n hx hb dX3_goes_168 rfl (lv_at hl 2 rfl) ?_
          refine lv_i2l hx hb dX3_goes_169 rfl ?_
          refine lv_aload_n hx hb dX3_goes_170 rfl (lv_at hl 1 rfl) ?_
          obtain ⟨r33, er33, hF⟩ := zc_bind hF
          refine zc_cl (va_runV (As := []) ⟨hx, hb, hml, hown, hts⟩ (kX3_wider l G ma er33) (cwV 0 hts gX3_goes_X3_wider rfl rfl rfl (by decide +kernel) ⟨Nat.le_of_ble_eq_true rfl, Nat.le_of_ble_eq_true rfl⟩) (zc_preV hK hP 0 rfl rfl) rfl rfl hl.1 rfl (lv_room (Nat.le_of_ble_eq_true rfl)) dX3_goes_171 ⟨Nat.le_of_ble_eq_true rfl, Nat.le_of_ble_eq_true rfl⟩) ?_
          refine lv_lmul hx hb dX3_goes_174 ?_
          refine lv_ladd hx hb dX3_goes_175 ?_
          obtain ⟨r34, er34, hF⟩ := zc_bind hF
          refine zc_cl (va_runS (As := [.long _, .long _]) ⟨hx, hb, hml, hown, hts⟩ (kX3_lesser l G er34) (va_cwS 2 hts gX3_goes_X3_lesser rfl rfl rfl (by decide +kernel) ⟨Nat.le_of_ble_eq_true rfl, Nat.le_of_ble_eq_true rfl⟩) (zc_preS hK (show va_P G.1 vwCl [] _ from fun k q h => by simp at h)) rfl rfl hl.1 rfl (lv_room (Nat.le_of_ble_eq_true rfl)) dX3_goes_176 ⟨Nat.le_of_ble_eq_true rfl, Nat.le_of_ble_eq_true rfl⟩) ?_
          refine zc_last (j := 3) hx hb hK.1 hP hD hS 1 1 rfl rfl (zc_vin (by decide)) (by decide) dX3_goes_179 (fun H locs hP hS => ?_)
          obtain ⟨u35, eu35, hF⟩ := zc_letX hF
          have hP : va_P G.1 vwCl (zc_mo G ma u35) H := by rw [eu35]; exact hP
          have hD : va_D A (zc_mo G ma u35) := zc_Ds hD rfl
          refine lv_aload_n hx hb dX3_goes_180 rfl (lv_at hl 1 rfl) ?_
          refine va_get (D := G.1) (ci := 3) (C := RX3) (T := TX3) (N := 8) hx hb hts iX3_goes_X3 hown hK.1 hP 0 rfl rfl 0 (by decide) (hts (.fieldLink RX3 7 "BoardClockModel" "st" "[J") (List.mem_of_getElem? (i := 1) rfl)) (fun _ h9 => h9) rfl dX3_goes_181 ?_
          refine lv_bipush (v := (11 : Int32)) hx hb dX3_goes_184 (by decide) ?_
          refine zc_lald hx hb hK.1 hP 1 1 rfl rfl (j := 11) (zc_vin (by decide)) (by decide) dX3_goes_186 ?_
          refine lv_lconst (v := (1 : Int64)) hx hb dX3_goes_187 (by decide) ?_
          refine W.lcmp hx hb dX3_goes_188 ?_
          refine lv_if_ne (tgt := 224) hx hb dX3_goes_189 (by decide) (fun c36 => ?_) (fun c36 => ?_)
          · have hF := zc_neg c36 hF
            refine lv_iconst (v := (0 : Int32)) hx hb dX3_goes_224 (by decide) ?_
            refine lv_istore (lv' := [(5, .int (0 : Int32)), (0, .ref (ma 0)), (1, .int y1), (2, .long y2), (4, .int y4)]) hx hb dX3_goes_225 hl (by decide) rfl (fun ls hl => ?_)
            refine lv_aload_n hx hb dX3_goes_227 rfl (lv_at hl 1 rfl) ?_
            refine va_get (D := G.1) (ci := 3) (C := RX3) (T := TX3) (N := 8) hx hb hts iX3_goes_X3 hown hK.1 hP 0 rfl rfl 0 (by decide) (hts (.fieldLink RX3 7 "BoardClockModel" "st" "[J") (List.mem_of_getElem? (i := 1) rfl)) (fun _ h9 => h9) rfl dX3_goes_228 ?_
            refine lv_bipush (v := (13 : Int32)) hx hb dX3_goes_231 (by decide) ?_
            refine lv_iload hx hb dX3_goes_233 (lv_at hl 0 rfl) ?_
            refine lv_if_eq (tgt := 246) hx hb dX3_goes_235 (by decide) (fun c37 => ?_) (fun c37 => absurd c37 (by decide))
            refine lv_ldc2 hx hb hown (hts (.constantLong RX3 112 (9)) (List.mem_of_getElem? (i := 5) rfl)) dX3_goes_246 ?_
            refine zc_last (j := 13) hx hb hK.1 hP hD hS 1 1 rfl rfl (zc_vin (by decide)) (by decide) dX3_goes_249 (fun H locs hP hS => ?_)
            obtain ⟨u38, eu38, hF⟩ := zc_letX hF
            have hP : va_P G.1 vwCl (zc_mo G ma u38) H := by rw [eu38]; exact hP
            have hD : va_D A (zc_mo G ma u38) := zc_Ds hD rfl
            refine lv_aload_n hx hb dX3_goes_250 rfl (lv_at hl 1 rfl) ?_
            refine va_get (D := G.1) (ci := 3) (C := RX3) (T := TX3) (N := 8) hx hb hts iX3_goes_X3 hown hK.1 hP 0 rfl rfl 0 (by decide) (hts (.fieldLink RX3 7 "BoardClockModel" "st" "[J") (List.mem_of_getElem? (i := 1) rfl)) (fun _ h9 => h9) rfl dX3_goes_251 ?_
            refine lv_bipush (v := (12 : Int32)) hx hb dX3_goes_254 (by decide) ?_
            refine lv_dup2_11 hx hb dX3_goes_256 rfl rfl ?_
            refine zc_lald hx hb hK.1 hP 1 1 rfl rfl (j := 12) (zc_vin (by decide)) (by decide) dX3_goes_257 ?_
            refine lv_iload_n hx hb dX3_goes_258 rfl (lv_at hl 2 rfl) ?_
            refine lv_i2l hx hb dX3_goes_259 rfl ?_
            refine lv_ladd hx hb dX3_goes_260 ?_
            refine zc_last (j := 12) hx hb hK.1 hP hD hS 1 1 rfl rfl (zc_vin (by decide)) (by decide) dX3_goes_261 (fun H locs hP hS => ?_)
            obtain ⟨u39, eu39, hF⟩ := zc_letX hF
            have hP : va_P G.1 vwCl (zc_mo G ma u39) H := by rw [eu39]; exact hP
            have hD : va_D A (zc_mo G ma u39) := zc_Ds hD rfl
            refine lv_iload hx hb dX3_goes_262 (lv_at hl 4 rfl) ?_
            obtain rfl := Option.some.inj hF
            exact W.iret hx hb hr (fun t ht hW => ⟨⟨_, (), rfl, rfl, zc_hp ht hP⟩, hS.F ht⟩) hS.2.2 dX3_goes_264
          · have hF := zc_pos c36 hF
            refine lv_aload_n hx hb dX3_goes_192 rfl (lv_at hl 1 rfl) ?_
            refine va_get (D := G.1) (ci := 3) (C := RX3) (T := TX3) (N := 8) hx hb hts iX3_goes_X3 hown hK.1 hP 0 rfl rfl 0 (by decide) (hts (.fieldLink RX3 7 "BoardClockModel" "st" "[J") (List.mem_of_getElem? (i := 1) rfl)) (fun _ h9 => h9) rfl dX3_goes_193 ?_
            refine lv_bipush (v := (12 : Int32)) hx hb dX3_goes_196 (by decide) ?_
            refine zc_lald hx hb hK.1 hP 1 1 rfl rfl (j := 12) (zc_vin (by decide)) (by decide) dX3_goes_198 ?_
            refine lv_lconst (v := (0 : Int64)) hx hb dX3_goes_199 (by decide) ?_
            refine W.lcmp hx hb dX3_goes_200 ?_
            refine lv_if_eq (tgt := 220) hx hb dX3_goes_201 (by decide) (fun c40 => ?_) (fun c40 => ?_)
            · have hF := zc_pos c40 hF
              refine lv_iconst (v := (1 : Int32)) hx hb dX3_goes_220 (by decide) ?_
              refine lv_goto (tgt := 225) hx hb dX3_goes_221 (by decide) ?_
              refine lv_istore (lv' := [(5, .int (1 : Int32)), (0, .ref (ma 0)), (1, .int y1), (2, .long y2), (4, .int y4)]) hx hb dX3_goes_225 hl (by decide) rfl (fun ls hl => ?_)
              refine lv_aload_n hx hb dX3_goes_227 rfl (lv_at hl 1 rfl) ?_
              refine va_get (D := G.1) (ci := 3) (C := RX3) (T := TX3) (N := 8) hx hb hts iX3_goes_X3 hown hK.1 hP 0 rfl rfl 0 (by decide) (hts (.fieldLink RX3 7 "BoardClockModel" "st" "[J") (List.mem_of_getElem? (i := 1) rfl)) (fun _ h9 => h9) rfl dX3_goes_228 ?_
              refine lv_bipush (v := (13 : Int32)) hx hb dX3_goes_231 (by decide) ?_
              refine lv_iload hx hb dX3_goes_233 (lv_at hl 0 rfl) ?_
              refine lv_if_eq (tgt := 246) hx hb dX3_goes_235 (by decide) (fun c41 => absurd c41 (by decide)) (fun c41 => ?_)
              refine lv_aload_n hx hb dX3_goes_238 rfl (lv_at hl 1 rfl) ?_
              obtain ⟨r42, er42, hF⟩ := zc_bind hF
              refine zc_ci (va_runV (As := []) ⟨hx, hb, hml, hown, hts⟩ (kX3_spanNow l G ma er42) (cwV 0 hts gX3_goes_X3_spanNow rfl rfl rfl (by decide +kernel) ⟨Nat.le_of_ble_eq_true rfl, Nat.le_of_ble_eq_true rfl⟩) (zc_preV hK hP 0 rfl rfl) rfl rfl hl.1 rfl (lv_room (Nat.le_of_ble_eq_true rfl)) dX3_goes_239 ⟨Nat.le_of_ble_eq_true rfl, Nat.le_of_ble_eq_true rfl⟩) ?_
              refine lv_i2l hx hb dX3_goes_242 rfl ?_
              refine lv_goto (tgt := 249) hx hb dX3_goes_243 (by decide) ?_
              refine zc_last (j := 13) hx hb hK.1 hP hD hS 1 1 rfl rfl (zc_vin (by decide)) (by decide) dX3_goes_249 (fun H locs hP hS => ?_)
              obtain ⟨u43, eu43, hF⟩ := zc_letX hF
              have hP : va_P G.1 vwCl (zc_mo G ma u43) H := by rw [eu43]; exact hP
              have hD : va_D A (zc_mo G ma u43) := zc_Ds hD rfl
              refine lv_aload_n hx hb dX3_goes_250 rfl (lv_at hl 1 rfl) ?_
              refine va_get (D := G.1) (ci := 3) (C := RX3) (T := TX3) (N := 8) hx hb hts iX3_goes_X3 hown hK.1 hP 0 rfl rfl 0 (by decide) (hts (.fieldLink RX3 7 "BoardClockModel" "st" "[J") (List.mem_of_getElem? (i := 1) rfl)) (fun _ h9 => h9) rfl dX3_goes_251 ?_
              refine lv_bipush (v := (12 : Int32)) hx hb dX3_goes_254 (by decide) ?_
              refine lv_dup2_11 hx hb dX3_goes_256 rfl rfl ?_
              refine zc_lald hx hb hK.1 hP 1 1 rfl rfl (j := 12) (zc_vin (by decide)) (by decide) dX3_goes_257 ?_
              refine lv_iload_n hx hb dX3_goes_258 rfl (lv_at hl 2 rfl) ?_
              refine lv_i2l hx hb dX3_goes_259 rfl ?_
              refine lv_ladd hx hb dX3_goes_260 ?_
              refine zc_last (j := 12) hx hb hK.1 hP hD hS 1 1 rfl rfl (zc_vin (by decide)) (by decide) dX3_goes_261 (fun H locs hP hS => ?_)
              obtain ⟨u44, eu44, hF⟩ := zc_letX hF
              have hP : va_P G.1 vwCl (zc_mo G ma u44) H := by rw [eu44]; exact hP
              have hD : va_D A (zc_mo G ma u44) := zc_Ds hD rfl
              refine lv_iload hx hb dX3_goes_262 (lv_at hl 4 rfl) ?_
              obtain rfl := Option.some.inj hF
              exact W.iret hx hb hr (fun t ht hW => ⟨⟨_, (), rfl, rfl, zc_hp ht hP⟩, hS.F ht⟩) hS.2.2 dX3_goes_264
            · have hF := zc_neg c40 hF
              refine lv_aload_n hx hb dX3_goes_204 rfl (lv_at hl 1 rfl) ?_
              refine va_get (D := G.1) (ci := 3) (C := RX3) (T := TX3) (N := 8) hx hb hts iX3_goes_X3 hown hK.1 hP 0 rfl rfl 0 (by decide) (hts (.fieldLink RX3 7 "BoardClockModel" "st" "[J") (List.mem_of_getElem? (i := 1) rfl)) (fun _ h9 => h9) rfl dX3_goes_205 ?_
              refine lv_bipush (v := (13 : Int32)) hx hb dX3_goes_208 (by decide) ?_
              refine zc_lald hx hb hK.1 hP 1 1 rfl rfl (j := 13) (zc_vin (by decide)) (by decide) dX3_goes_210 ?_
              refine lv_aload_n hx hb dX3_goes_211 rfl (lv_at hl 1 rfl) ?_
              obtain ⟨r45, er45, hF⟩ := zc_bind hF
              refine zc_ci (va_runV (As := []) ⟨hx, hb, hml, hown, hts⟩ (kX3_spanNow l G ma er45) (cwV 0 hts gX3_goes_X3_spanNow rfl rfl rfl (by decide +kernel) ⟨Nat.le_of_ble_eq_true rfl, Nat.le_of_ble_eq_true rfl⟩) (zc_preV hK hP 0 rfl rfl) rfl rfl hl.1 rfl (lv_room (Nat.le_of_ble_eq_true rfl)) dX3_goes_212 ⟨Nat.le_of_ble_eq_true rfl, Nat.le_of_ble_eq_true rfl⟩) ?_
              refine lv_i2l hx hb dX3_goes_215 rfl ?_
              refine W.lcmp hx hb dX3_goes_216 ?_
              refine lv_if_ne (tgt := 224) hx hb dX3_goes_217 (by decide) (fun c46 => ?_) (fun c46 => ?_)
              · have hF := zc_neg c46 hF
                refine lv_iconst (v := (0 : Int32)) hx hb dX3_goes_224 (by decide) ?_
                refine lv_istore (lv' := [(5, .int (0 : Int32)), (0, .ref (ma 0)), (1, .int y1), (2, .long y2), (4, .int y4)]) hx hb dX3_goes_225 hl (by decide) rfl (fun ls hl => ?_)
                refine lv_aload_n hx hb dX3_goes_227 rfl (lv_at hl 1 rfl) ?_
                refine va_get (D := G.1) (ci := 3) (C := RX3) (T := TX3) (N := 8) hx hb hts iX3_goes_X3 hown hK.1 hP 0 rfl rfl 0 (by decide) (hts (.fieldLink RX3 7 "BoardClockModel" "st" "[J") (List.mem_of_getElem? (i := 1) rfl)) (fun _ h9 => h9) rfl dX3_goes_228 ?_
                refine lv_bipush (v := (13 : Int32)) hx hb dX3_goes_231 (by decide) ?_
                refine lv_iload hx hb dX3_goes_233 (lv_at hl 0 rfl) ?_
                refine lv_if_eq (tgt := 246) hx hb dX3_goes_235 (by decide) (fun c47 => ?_) (fun c47 => absurd c47 (by decide))
                refine lv_ldc2 hx hb hown (hts (.constantLong RX3 112 (9)) (List.mem_of_getElem? (i := 5) rfl)) dX3_goes_246 ?_
                refine zc_last (j := 13) hx hb hK.1 hP hD hS 1 1 rfl rfl (zc_vin (by decide)) (by decide) dX3_goes_249 (fun H locs hP hS => ?_)
                obtain ⟨u48, eu48, hF⟩ := zc_letX hF
                have hP : va_P G.1 vwCl (zc_mo G ma u48) H := by rw [eu48]; exact hP
                have hD : va_D A (zc_mo G ma u48) := zc_Ds hD rfl
                refine lv_aload_n hx hb dX3_goes_250 rfl (lv_at hl 1 rfl) ?_
                refine va_get (D := G.1) (ci := 3) (C := RX3) (T := TX3) (N := 8) hx hb hts iX3_goes_X3 hown hK.1 hP 0 rfl rfl 0 (by decide) (hts (.fieldLink RX3 7 "BoardClockModel" "st" "[J") (List.mem_of_getElem? (i := 1) rfl)) (fun _ h9 => h9) rfl dX3_goes_251 ?_
                refine lv_bipush (v := (12 : Int32)) hx hb dX3_goes_254 (by decide) ?_
                refine lv_dup2_11 hx hb dX3_goes_256 rfl rfl ?_
                refine zc_lald hx hb hK.1 hP 1 1 rfl rfl (j := 12) (zc_vin (by decide)) (by decide) dX3_goes_257 ?_
                refine lv_iload_n hx hb dX3_goes_258 rfl (lv_at hl 2 rfl) ?_
                refine lv_i2l hx hb dX3_goes_259 rfl ?_
                refine lv_ladd hx hb dX3_goes_260 ?_
                refine zc_last (j := 12) hx hb hK.1 hP hD hS 1 1 rfl rfl (zc_vin (by decide)) (by decide) dX3_goes_261 (fun H locs hP hS => ?_)
                obtain ⟨u49, eu49, hF⟩ := zc_letX hF
                have hP : va_P G.1 vwCl (zc_mo G ma u49) H := by rw [eu49]; exact hP
                have hD : va_D A (zc_mo G ma u49) := zc_Ds hD rfl
                refine lv_iload hx hb dX3_goes_262 (lv_at hl 4 rfl) ?_
                obtain rfl := Option.some.inj hF
                exact W.iret hx hb hr (fun t ht hW => ⟨⟨_, (), rfl, rfl, zc_hp ht hP⟩, hS.F ht⟩) hS.2.2 dX3_goes_264
              · have hF := zc_pos c46 hF
                refine lv_iconst (v := (1 : Int32)) hx hb dX3_goes_220 (by decide) ?_
                refine lv_goto (tgt := 225) hx hb dX3_goes_221 (by decide) ?_
                refine lv_istore (lv' := [(5, .int (1 : Int32)), (0, .ref (ma 0)), (1, .int y1), (2, .long y2), (4, .int y4)]) hx hb dX3_goes_225 hl (by decide) rfl (fun ls hl => ?_)
                refine lv_aload_n hx hb dX3_goes_227 rfl (lv_at hl 1 rfl) ?_
                refine va_get (D := G.1) (ci := 3) (C := RX3) (T := TX3) (N := 8) hx hb hts iX3_goes_X3 hown hK.1 hP 0 rfl rfl 0 (by decide) (hts (.fieldLink RX3 7 "BoardClockModel" "st" "[J") (List.mem_of_getElem? (i := 1) rfl)) (fun _ h9 => h9) rfl dX3_goes_228 ?_
                refine lv_bipush (v := (13 : Int32)) hx hb dX3_goes_231 (by decide) ?_
                refine lv_iload hx hb dX3_goes_233 (lv_at hl 0 rfl) ?_
                refine lv_if_eq (tgt := 246) hx hb dX3_goes_235 (by decide) (fun c50 => absurd c50 (by decide)) (fun c50 => ?_)
                refine lv_aload_n hx hb dX3_goes_238 rfl (lv_at hl 1 rfl) ?_
                obtain ⟨r51, er51, hF⟩ := zc_bind hF
                refine zc_ci (va_runV (As := []) ⟨hx, hb, hml, hown, hts⟩ (kX3_spanNow l G ma er51) (cwV 0 hts gX3_goes_X3_spanNow rfl rfl rfl (by decide +kernel) ⟨Nat.le_of_ble_eq_true rfl, Nat.le_of_ble_eq_true rfl⟩) (zc_preV hK hP 0 rfl rfl) rfl rfl hl.1 rfl (lv_room (Nat.le_of_ble_eq_true rfl)) dX3_goes_239 ⟨Nat.le_of_ble_eq_true rfl, Nat.le_of_ble_eq_true rfl⟩) ?_
                refine lv_i2l hx hb dX3_goes_242 rfl ?_
                refine lv_goto (tgt := 249) hx hb dX3_goes_243 (by decide) ?_
                refine zc_last (j := 13) hx hb hK.1 hP hD hS 1 1 rfl rfl (zc_vin (by decide)) (by decide) dX3_goes_249 (fun H locs hP hS => ?_)
                obtain ⟨u52, eu52, hF⟩ := zc_letX hF
                have hP : va_P G.1 vwCl (zc_mo G ma u52) H := by rw [eu52]; exact hP
                have hD : va_D A (zc_mo G ma u52) := zc_Ds hD rfl
                refine lv_aload_n hx hb dX3_goes_250 rfl (lv_at hl 1 rfl) ?_
                refine va_get (D := G.1) (ci := 3) (C := RX3) (T := TX3) (N := 8) hx hb hts iX3_goes_X3 hown hK.1 hP 0 rfl rfl 0 (by decide) (hts (.fieldLink RX3 7 "BoardClockModel" "st" "[J") (List.mem_of_getElem? (i := 1) rfl)) (fun _ h9 => h9) rfl dX3_goes_251 ?_
                refine lv_bipush (v := (12 : Int32)) hx hb dX3_goes_254 (by decide) ?_
                refine lv_dup2_11 hx hb dX3_goes_256 rfl rfl ?_
                refine zc_lald hx hb hK.1 hP 1 1 rfl rfl (j := 12) (zc_vin (by decide)) (by decide) dX3_goes_257 ?_
                refine lv_iload_n hx hb dX3_goes_258 rfl (lv_at hl 2 rfl) ?_
                refine lv_i2l hx hb dX3_goes_259 rfl ?_
                refine lv_ladd hx hb dX3_goes_260 ?_
                refine zc_last (j := 12) hx hb hK.1 hP hD hS 1 1 rfl rfl (zc_vin (by decide)) (by decide) dX3_goes_261 (fun H locs hP hS => ?_)
                obtain ⟨u53, eu53, hF⟩ := zc_letX hF
                have hP : va_P G.1 vwCl (zc_mo G ma u53) H := by rw [eu53]; exact hP
                have hD : va_D A (zc_mo G ma u53) := zc_Ds hD rfl
                refine lv_iload hx hb dX3_goes_262 (lv_at hl 4 rfl) ?_
                obtain rfl := Option.some.inj hF
                exact W.iret hx hb hr (fun t ht hW => ⟨⟨_, (), rfl, rfl, zc_hp ht hP⟩, hS.F ht⟩) hS.2.2 dX3_goes_264
      · have hF := zc_neg c2 hF
        refine lv_aload_n hx hb dX3_goes_26 rfl (lv_at hl 0 rfl) ?_
        refine lv_iload hx hb dX3_goes_27 (lv_at hl 4 rfl) ?_
        refine lv_lload_n hx hb dX3_goes_29 rfl (lv_at hl 2 rfl) ?_
        obtain ⟨r54, er54, hF⟩ := zc_bind hF
        refine zc_cl (va_runV (As := [.int _, .long _]) ⟨hx, hb, hml, hown, hts⟩ (kX3_between l G ma er54) (cwV 2 hts gX3_goes_X3_between rfl rfl rfl (by decide +kernel) ⟨Nat.le_of_ble_eq_true rfl, Nat.le_of_ble_eq_true rfl⟩) (zc_preV hK hP 0 rfl rfl) rfl rfl hl.1 rfl (lv_room (Nat.le_of_ble_eq_true rfl)) dX3_goes_30 ⟨Nat.le_of_ble_eq_true rfl, Nat.le_of_ble_eq_true rfl⟩) ?_
        refine lv_lstore (lv' := [(6, .long r54), (0, .ref (ma 0)), (1, .int y1), (2, .long y2), (4, .int y4), (5, .int y5)]) hx hb dX3_goes_33 hl (by decide) rfl (fun ls hl => ?_)
        refine lv_iload hx hb dX3_goes_35 (lv_at hl 4 rfl) ?_
        refine lv_lload hx hb dX3_goes_37 (lv_at hl 0 rfl) ?_
        refine lv_lconst (v := (0 : Int64)) hx hb dX3_goes_39 (by decide) ?_
        refine W.lcmp hx hb dX3_goes_40 ?_
        refine lv_if_le (tgt := 51) hx hb dX3_goes_41 (by decide) (fun c55 => ?_) (fun c55 => ?_)
        · have hF := zc_pos c55 hF
          refine lv_iconst (v := (0 : Int32)) hx hb dX3_goes_51 (by decide) ?_
          refine lv_ior hx hb dX3_goes_52 ?_
          refine lv_topi (fun x56 ex56 => ?_)
          have hF := zc_letE ex56 hF
          refine lv_istore (lv' := [(4, .int x56), (6, .long r54), (0, .ref (ma 0)), (1, .int y1), (2, .long y2), (5, .int y5)]) hx hb dX3_goes_53 hl (by decide) rfl (fun ls hl => ?_)
          refine lv_aload_n hx hb dX3_goes_55 rfl (lv_at hl 2 rfl) ?_
          refine va_get (D := G.1) (ci := 3) (C := RX3) (T := TX3) (N := 8) hx hb hts iX3_goes_X3 hown hK.1 hP 0 rfl rfl 0 (by decide) (hts (.fieldLink RX3 7 "BoardClockModel" "st" "[J") (List.mem_of_getElem? (i := 1) rfl)) (fun _ h9 => h9) rfl dX3_goes_56 ?_
          refine lv_bipush (v := (25 : Int32)) hx hb dX3_goes_59 (by decide) ?_
          refine lv_iconst (v := (4 : Int32)) hx hb dX3_goes_61 (by decide) ?_
          refine lv_iload hx hb dX3_goes_62 (lv_at hl 5 rfl) ?_
          refine lv_imul hx hb dX3_goes_64 ?_
          refine lv_iadd hx hb dX3_goes_65 ?_
          refine lv_iconst (v := (3 : Int32)) hx hb dX3_goes_66 (by decide) ?_
          refine lv_iadd hx hb dX3_goes_67 ?_
          refine lv_ldc2 hx hb hown (hts (.constantLong RX3 99 (99999)) (List.mem_of_getElem? (i := 2) rfl)) dX3_goes_68 ?_
          refine lv_aload_n hx hb dX3_goes_71 rfl (lv_at hl 2 rfl) ?_
          refine lv_iload hx hb dX3_goes_72 (lv_at hl 5 rfl) ?_
          obtain ⟨r57, er57, hF⟩ := zc_bind hF
          refine zc_cl (va_runV (As := [.int _]) ⟨hx, hb, hml, hown, hts⟩ (kX3_ringsAt l G ma er57) (cwV 1 hts gX3_goes_X3_ringsAt rfl rfl rfl (by decide +kernel) ⟨Nat.le_of_ble_eq_true rfl, Nat.le_of_ble_eq_true rfl⟩) (zc_preV hK hP 0 rfl rfl) rfl rfl hl.1 rfl (lv_room (Nat.le_of_ble_eq_true rfl)) dX3_goes_74 ⟨Nat.le_of_ble_eq_true rfl, Nat.le_of_ble_eq_true rfl⟩) ?_
          refine lv_lload hx hb dX3_goes_77 (lv_at hl 1 rfl) ?_
          refine lv_ladd hx hb dX3_goes_79 ?_
          obtain ⟨r58, er58, hF⟩ := zc_bind hF
          refine zc_cl (va_runS (As := [.long _, .long _]) ⟨hx, hb, hml, hown, hts⟩ (kX3_lesser l G er58) (va_cwS 2 hts gX3_goes_X3_lesser rfl rfl rfl (by decide +kernel) ⟨Nat.le_of_ble_eq_true rfl, Nat.le_of_ble_eq_true rfl⟩) (zc_preS hK (show va_P G.1 vwCl [] _ from fun k q h => by simp at h)) rfl rfl hl.1 rfl (lv_room (Nat.le_of_ble_eq_true rfl)) dX3_goes_80 ⟨Nat.le_of_ble_eq_true rfl, Nat.le_of_ble_eq_true rfl⟩) ?_
          obtain ⟨hi59, hF⟩ := zc_inE hF
          refine zc_last hx hb hK.1 hP hD hS 1 1 rfl rfl hi59 rfl dX3_goes_83 (fun H locs hP hS => ?_)
          obtain ⟨u60, eu60, hF⟩ := zc_letX hF
          have hP : va_P G.1 vwCl (zc_mo G ma u60) H := by rw [eu60]; exact hP
          have hD : va_D A (zc_mo G ma u60) := zc_Ds hD rfl
          obtain ⟨x61, ex61⟩ : ∃ y : Int32, y = y5 + (1 : Int32) := ⟨_, rfl⟩
          have hF := zc_letE ex61 hF
          refine lv_iinc (v := x61) (lv' := [(5, .int x61), (4, .int x56), (6, .long r54), (0, .ref (ma 0)), (1, .int y1), (2, .long y2)]) hx hb dX3_goes_84 hl (k := 5) rfl (by rw [ex61]; rfl) (by decide) rfl (fun ls hl => ?_)
          refine lv_goto (tgt := 12) hx hb dX3_goes_87 (by decide) ?_
          exact ih u60 y1 y2 x56 x61 H locs hP hD hS ls (lv_sub hl [3, 4, 5, 1, 0] rfl) hF
        · have hF := zc_neg c55 hF
          refine lv_iconst (v := (1 : Int32)) hx hb dX3_goes_44 (by decide) ?_
          refine lv_iload hx hb dX3_goes_45 (lv_at hl 5 rfl) ?_
          refine lv_ishl hx hb dX3_goes_47 ?_
          refine lv_goto (tgt := 52) hx hb dX3_goes_48 (by decide) ?_
          refine lv_ior hx hb dX3_goes_52 ?_
          refine lv_topi (fun x62 ex62 => ?_)
          have hF := zc_letE ex62 hF
          refine lv_istore (lv' := [(4, .int x62), (6, .long r54), (0, .ref (ma 0)), (1, .int y1), (2, .long y2), (5, .int y5)]) hx hb dX3_goes_53 hl (by decide) rfl (fun ls hl => ?_)
          refine lv_aload_n hx hb dX3_goes_55 rfl (lv_at hl 2 rfl) ?_
          refine va_get (D := G.1) (ci := 3) (C := RX3) (T := TX3) (N := 8) hx hb hts iX3_goes_X3 hown hK.1 hP 0 rfl rfl 0 (by decide) (hts (.fieldLink RX3 7 "BoardClockModel" "st" "[J") (List.mem_of_getElem? (i := 1) rfl)) (fun _ h9 => h9) rfl dX3_goes_56 ?_
          refine lv_bipush (v := (25 : Int32)) hx hb dX3_goes_59 (by decide) ?_
          refine lv_iconst (v := (4 : Int32)) hx hb dX3_goes_61 (by decide) ?_
          refine lv_iload hx hb dX3_goes_62 (lv_at hl 5 rfl) ?_
          refine lv_imul hx hb dX3_goes_64 ?_
          refine lv_iadd hx hb dX3_goes_65 ?_
          refine lv_iconst (v := (3 : Int32)) hx hb dX3_goes_66 (by decide) ?_
          refine lv_iadd hx hb dX3_goes_67 ?_
          refine lv_ldc2 hx hb hown (hts (.constantLong RX3 99 (99999)) (List.mem_of_getElem? (i := 2) rfl)) dX3_goes_68 ?_
          refine lv_aload_n hx hb dX3_goes_71 rfl (lv_at hl 2 rfl) ?_
          refine lv_iload hx hb dX3_goes_72 (lv_at hl 5 rfl) ?_
          obtain ⟨r63, er63, hF⟩ := zc_bind hF
          refine zc_cl (va_runV (As := [.int _]) ⟨hx, hb, hml, hown, hts⟩ (kX3_ringsAt l G ma er63) (cwV 1 hts gX3_goes_X3_ringsAt rfl rfl rfl (by decide +kernel) ⟨Nat.le_of_ble_eq_true rfl, Nat.le_of_ble_eq_true rfl⟩) (zc_preV hK hP 0 rfl rfl) rfl rfl hl.1 rfl (lv_room (Nat.le_of_ble_eq_true rfl)) dX3_goes_74 ⟨Nat.le_of_ble_eq_true rfl, Nat.le_of_ble_eq_true rfl⟩) ?_
          refine lv_lload hx hb dX3_goes_77 (lv_at hl 1 rfl) ?_
          refine lv_ladd hx hb dX3_goes_79 ?_
          obtain ⟨r64, er64, hF⟩ := zc_bind hF
          refine zc_cl (va_runS (As := [.long _, .long _]) ⟨hx, hb, hml, hown, hts⟩ (kX3_lesser l G er64) (va_cwS 2 hts gX3_goes_X3_lesser rfl rfl rfl (by decide +kernel) ⟨Nat.le_of_ble_eq_true rfl, Nat.le_of_ble_eq_true rfl⟩) (zc_preS hK (show va_P G.1 vwCl [] _ from fun k q h => by simp at h)) rfl rfl hl.1 rfl (lv_room (Nat.le_of_ble_eq_true rfl)) dX3_goes_80 ⟨Nat.le_of_ble_eq_true rfl, Nat.le_of_ble_eq_true rfl⟩) ?_
          obtain ⟨hi65, hF⟩ := zc_inE hF
          refine zc_last hx hb hK.1 hP hD hS 1 1 rfl rfl hi65 rfl dX3_goes_83 (fun H locs hP hS => ?_)
          obtain ⟨u66, eu66, hF⟩ := zc_letX hF
          have hP : va_P G.1 vwCl (zc_mo G ma u66) H := by rw [eu66]; exact hP
          have hD : va_D A (zc_mo G ma u66) := zc_Ds hD rfl
          obtain ⟨x67, ex67⟩ : ∃ y : Int32, y = y5 + (1 : Int32) := ⟨_, rfl⟩
          have hF := zc_letE ex67 hF
          refine lv_iinc (v := x67) (lv' := [(5, .int x67), (4, .int x62), (6, .long r54), (0, .ref (ma 0)), (1, .int y1), (2, .long y2)]) hx hb dX3_goes_84 hl (k := 5) rfl (by rw [ex67]; rfl) (by decide) rfl (fun ls hl => ?_)
          refine lv_goto (tgt := 12) hx hb dX3_goes_87 (by decide) ?_
          exact ih u66 y1 y2 x62 x67 H locs hP hD hS ls (lv_sub hl [3, 4, 5, 1, 0] rfl) hF
  refine lv_aload_n hx hb dX3_goes_0 rfl (lv_at hl 0 rfl) ?_
  refine lv_iload_n hx hb dX3_goes_1 rfl (lv_at hl 1 rfl) ?_
  obtain ⟨r1, er1, hF⟩ := zc_bind hF
  refine zc_cl (va_runV (As := [.int _]) ⟨hx, hb, hml, hown, hts⟩ (kX3_boardAfter l G ma er1) (cwV 1 hts gX3_goes_X3_boardAfter rfl rfl rfl (by decide +kernel) ⟨Nat.le_of_ble_eq_true rfl, Nat.le_of_ble_eq_true rfl⟩) (zc_preV hK hP 0 rfl rfl) rfl rfl hl.1 rfl (lv_room (Nat.le_of_ble_eq_true rfl)) dX3_goes_2 ⟨Nat.le_of_ble_eq_true rfl, Nat.le_of_ble_eq_true rfl⟩) ?_
  refine lv_lstore_n (lv' := [(2, .long r1), (0, .ref (ma 0)), (1, .int a1)]) hx hb dX3_goes_5 rfl hl (by decide) rfl (fun ls hl => ?_)
  refine lv_iconst (v := (0 : Int32)) hx hb dX3_goes_6 (by decide) ?_
  refine lv_istore (lv' := [(4, .int (0 : Int32)), (2, .long r1), (0, .ref (ma 0)), (1, .int a1)]) hx hb dX3_goes_7 hl (by decide) rfl (fun ls hl => ?_)
  refine lv_iconst (v := (0 : Int32)) hx hb dX3_goes_9 (by decide) ?_
  refine lv_istore (lv' := [(5, .int (0 : Int32)), (4, .int (0 : Int32)), (2, .long r1), (0, .ref (ma 0)), (1, .int a1)]) hx hb dX3_goes_10 hl (by decide) rfl (fun ls hl => ?_)
  exact loop N u a1 r1 (0 : Int32) (0 : Int32) _ _ hP hD hS ls (lv_sub hl [3, 4, 2, 1, 0] rfl) hF
def fX3_learns (u : zc_M) (a1 : Int64) : Option (zc_M) := if (lg_cmp (u.1 0 12) (0 : Int64)) ≤ 0 then (some u) else (if (lg_cmp (u.1 0 13) (9 : Int64)) = 0 then (some u) else (zc_let ((15 : Int32) + ((u.1 0 13)).toInt32) fun (x3 : Int32) => zc_in x3 49 (Option.bind (fX3_aim u) fun (r5 : Int64) => zc_nzL ((2 : Int64) * (u.1 0 12)) (zc_let ((u.1 0 x3.toNatClampNeg) + (((r5 - a1) * (16 : Int64)) / ((2 : Int64) * (u.1 0 12)))) fun (x7 : Int64) => Option.bind (fX3_lesser (9999 : Int64) x7) fun (r8 : Int64) => Option.bind (fX3_greater (-9999 : Int64) r8) fun (r9 : Int64) => zc_in x3 49 (zc_let (zc_mL u 0 x3.toNatClampNeg r9) fun (u11 : zc_M) => some u11)))))
theorem iX3_learns_X3 : ∀ w ∈ wsX30, w ∈ wsX3_learns := fun _ h => List.mem_cons_of_mem _ (List.mem_append_right _ h)
set_option maxHeartbeats 4000000 in
set_option maxRecDepth 100000 in
theorem kX3_learns (l : Launch) (G : zc_G) (ma : Nat → Nat) (sz : Nat) {u : zc_M} {a1 : Int64} {r0 : zc_M} (hF : fX3_learns u a1 = some r0) : Met l yX3_learns wsX3_learns ({ frames := 1, cells := 0, slots := 0, locals := 23 }) (zc_Pm G [.ref (ma 0), .long a1] (zc_mo G ma u) sz) (zc_Qv G (zc_mo G ma r0) (va_A (zc_mo G ma u) sz)) 0 0 (va_A (zc_mo G ma u) sz) := by
  refine Met.ofW (cc := cX3_learns) (maxL := 6) (ret := none) (by decide) rfl ?_
  intro p e s m args below meth c s₁ B hml hv
  obtain ⟨rfl, hsz, hP, hK, hD0⟩ := hv
  have hx := B.exec
  have hb := B.bytes
  have hr := B.returns
  have hts := atoms_spec (ws := wsX3_learns) B.pre
  have hown : s.vm.findClass RX3 = some m.cls := findClass_of_methodNamed B.named
  have hlocks := B.notSynchronized
  subst hsz
  have hD := hD0.self (sz := s.heap.size)
  generalize hAe : va_A (zc_mo G ma u) s.heap.size = A at hD ⊢
  have hA : ∀ q : Nat, s.heap.size ≤ q → A q := fun q h => by rw [← hAe]; exact Or.inr h
  have hS : va_S A s.heap s.heap [] := va_S.rf
  have hl := lv_entry ([.ref (ma 0), .long a1]) (n := 6) (Nat.le_of_ble_eq_true rfl)
  rw [lg_entry_eq]
  generalize (lg_sl ([.ref (ma 0), .long a1]) ++ List.replicate (6 - (lg_sl ([.ref (ma 0), .long a1])).length) Slot.unset).toArray = ls at hl ⊢
  have hl : lv_has ls 6 [(0, .ref (ma 0)), (1, .long a1)] := hl
  refine lv_aload_n hx hb dX3_learns_0 rfl (lv_at hl 0 rfl) ?_
  refine va_get (D := G.1) (ci := 3) (C := RX3) (T := TX3) (N := 8) hx hb hts iX3_learns_X3 hown hK.1 hP 0 rfl rfl 0 (by decide) (hts (.fieldLink RX3 7 "BoardClockModel" "st" "[J") (List.mem_of_getElem? (i := 1) rfl)) (fun _ h9 => h9) rfl dX3_learns_1 ?_
  refine lv_bipush (v := (12 : Int32)) hx hb dX3_learns_4 (by decide) ?_
  refine zc_lald hx hb hK.1 hP 1 1 rfl rfl (j := 12) (zc_vin (by decide)) (by decide) dX3_learns_6 ?_
  refine lv_lconst (v := (0 : Int64)) hx hb dX3_learns_7 (by decide) ?_
  refine W.lcmp hx hb dX3_learns_8 ?_
  refine lv_if_le (tgt := 89) hx hb dX3_learns_9 (by decide) (fun c1 => ?_) (fun c1 => ?_)
  · have hF := zc_pos c1 hF
    obtain rfl := Option.some.inj hF
    exact W.vret hx hb hr (fun t ht hW => ⟨⟨(), rfl, trivial, zc_hp ht hP⟩, hS.F ht⟩) hS.2.2 dX3_learns_89
  · have hF := zc_neg c1 hF
    refine lv_aload_n hx hb dX3_learns_12 rfl (lv_at hl 0 rfl) ?_
    refine va_get (D := G.1) (ci := 3) (C := RX3) (T := TX3) (N := 8) hx hb hts iX3_learns_X3 hown hK.1 hP 0 rfl rfl 0 (by decide) (hts (.fieldLink RX3 7 "BoardClockModel" "st" "[J") (List.mem_of_getElem? (i := 1) rfl)) (fun _ h9 => h9) rfl dX3_learns_13 ?_
    refine lv_bipush (v := (13 : Int32)) hx hb dX3_learns_16 (by decide) ?_
    refine zc_lald hx hb hK.1 hP 1 1 rfl rfl (j := 13) (zc_vin (by decide)) (by decide) dX3_learns_18 ?_
    refine lv_ldc2 hx hb hown (hts (.constantLong RX3 112 (9)) (List.mem_of_getElem? (i := 2) rfl)) dX3_learns_19 ?_
    refine W.lcmp hx hb dX3_learns_22 ?_
    refine lv_if_eq (tgt := 89) hx hb dX3_learns_23 (by decide) (fun c2 => ?_) (fun c2 => ?_)
    · have hF := zc_pos c2 hF
      obtain rfl := Option.some.inj hF
      exact W.vret hx hb hr (fun t ht hW => ⟨⟨(), rfl, trivial, zc_hp ht hP⟩, hS.F ht⟩) hS.2.2 dX3_learns_89
    · have hF := zc_neg c2 hF
      refine lv_bipush (v := (15 : Int32)) hx hb dX3_learns_26 (by decide) ?_
      refine lv_aload_n hx hb dX3_learns_28 rfl (lv_at hl 0 rfl) ?_
      refine va_get (D := G.1) (ci := 3) (C := RX3) (T := TX3) (N := 8) hx hb hts iX3_learns_X3 hown hK.1 hP 0 rfl rfl 0 (by decide) (hts (.fieldLink RX3 7 "BoardClockModel" "st" "[J") (List.mem_of_getElem? (i := 1) rfl)) (fun _ h9 => h9) rfl dX3_learns_29 ?_
      refine lv_bipush (v := (13 : Int32)) hx hb dX3_learns_32 (by decide) ?_
      refine zc_lald hx hb hK.1 hP 1 1 rfl rfl (j := 13) (zc_vin (by decide)) (by decide) dX3_learns_34 ?_
      refine lv_l2i hx hb dX3_learns_35 rfl ?_
      refine lv_iadd hx hb dX3_learns_36 ?_
      refine lv_topi (fun x3 ex3 => ?_)
      have hF := zc_letE ex3 hF
      refine lv_istore_n (lv' := [(3, .int x3), (0, .ref (ma 0)), (1, .long a1)]) hx hb dX3_learns_37 rfl hl (by decide) rfl (fun ls hl => ?_)
      refine lv_aload_n hx hb dX3_learns_38 rfl (lv_at hl 1 rfl) ?_
      refine va_get (D := G.1) (ci := 3) (C := RX3) (T := TX3) (N := 8) hx hb hts iX3_learns_X3 hown hK.1 hP 0 rfl rfl 0 (by decide) (hts (.fieldLink RX3 7 "BoardClockModel" "st" "[J") (List.mem_of_getElem? (i := 1) rfl)) (fun _ h9 => h9) rfl dX3_learns_39 ?_
      refine lv_iload_n hx hb dX3_learns_42 rfl (lv_at hl 0 rfl) ?_
      obtain ⟨hi4, hF⟩ := zc_inE hF
      refine zc_lald hx hb hK.1 hP 1 1 rfl rfl hi4 rfl dX3_learns_43 ?_
      refine lv_aload_n hx hb dX3_learns_44 rfl (lv_at hl 1 rfl) ?_
      obtain ⟨r5, er5, hF⟩ := zc_bind hF
      refine zc_cl (va_runV (As := []) ⟨hx, hb, hml, hown, hts⟩ (kX3_aim l G ma er5) (cwV 0 hts gX3_learns_X3_aim rfl rfl rfl (by decide +kernel) ⟨Nat.le_of_ble_eq_true rfl, Nat.le_of_ble_eq_true rfl⟩) (zc_preV hK hP 0 rfl rfl) rfl rfl hl.1 rfl (lv_room (Nat.le_of_ble_eq_true rfl)) dX3_learns_45 ⟨Nat.le_of_ble_eq_true rfl, Nat.le_of_ble_eq_true rfl⟩) ?_
      refine lv_lload_n hx hb dX3_learns_48 rfl (lv_at hl 2 rfl) ?_
      refine lv_lsub hx hb dX3_learns_49 ?_
      refine lv_ldc2 hx hb hown (hts (.constantLong RX3 45 (16)) (List.mem_of_getElem? (i := 3) rfl)) dX3_learns_50 ?_
      refine lv_lmul hx hb dX3_learns_53 ?_
      refine lv_ldc2 hx hb hown (hts (.constantLong RX3 117 (2)) (List.mem_of_getElem? (i := 4) rfl)) dX3_learns_54 ?_
      refine lv_aload_n hx hb dX3_learns_57 rfl (lv_at hl 1 rfl) ?_
      refine va_get (D := G.1) (ci := 3) (C := RX3) (T := TX3) (N := 8) hx hb hts iX3_learns_X3 hown hK.1 hP 0 rfl rfl 0 (by decide) (hts (.fieldLink RX3 7 "BoardClockModel" "st" "[J") (List.mem_of_getElem? (i := 1) rfl)) (fun _ h9 => h9) rfl dX3_learns_58 ?_
      refine lv_bipush (v := (12 : Int32)) hx hb dX3_learns_61 (by decide) ?_
      refine zc_lald hx hb hK.1 hP 1 1 rfl rfl (j := 12) (zc_vin (by decide)) (by decide) dX3_learns_63 ?_
      refine lv_lmul hx hb dX3_learns_64 ?_
      obtain ⟨hnz6, hF⟩ := zc_nzLE hF
      refine lv_ldiv hx hb dX3_learns_65 hnz6 ?_
      refine lv_ladd hx hb dX3_learns_66 ?_
      refine lv_topl (fun x7 ex7 => ?_)
      have hF := zc_letE ex7 hF
      refine lv_lstore (lv' := [(4, .long x7), (3, .int x3), (0, .ref (ma 0)), (1, .long a1)]) hx hb dX3_learns_67 hl (by decide) rfl (fun ls hl => ?_)
      refine lv_aload_n hx hb dX3_learns_69 rfl (lv_at hl 2 rfl) ?_
      refine va_get (D := G.1) (ci := 3) (C := RX3) (T := TX3) (N := 8) hx hb hts iX3_learns_X3 hown hK.1 hP 0 rfl rfl 0 (by decide) (hts (.fieldLink RX3 7 "BoardClockModel" "st" "[J") (List.mem_of_getElem? (i := 1) rfl)) (fun _ h9 => h9) rfl dX3_learns_70 ?_
      refine lv_iload_n hx hb dX3_learns_73 rfl (lv_at hl 1 rfl) ?_
      refine lv_ldc2 hx hb hown (hts (.constantLong RX3 119 (-9999)) (List.mem_of_getElem? (i := 5) rfl)) dX3_learns_74 ?_
      refine lv_ldc2 hx hb hown (hts (.constantLong RX3 121 (9999)) (List.mem_of_getElem? (i := 6) rfl)) dX3_learns_77 ?_
      refine lv_lload hx hb dX3_learns_80 (lv_at hl 0 rfl) ?_
      obtain ⟨r8, er8, hF⟩ := zc_bind hF
      refine zc_cl (va_runS (As := [.long _, .long _]) ⟨hx, hb, hml, hown, hts⟩ (kX3_lesser l G er8) (va_cwS 2 hts gX3_learns_X3_lesser rfl rfl rfl (by decide +kernel) ⟨Nat.le_of_ble_eq_true rfl, Nat.le_of_ble_eq_true rfl⟩) (zc_preS hK (show va_P G.1 vwCl [] _ from fun k q h => by simp at h)) rfl rfl hl.1 rfl (lv_room (Nat.le_of_ble_eq_true rfl)) dX3_learns_82 ⟨Nat.le_of_ble_eq_true rfl, Nat.le_of_ble_eq_true rfl⟩) ?_
      obtain ⟨r9, er9, hF⟩ := zc_bind hF
      refine zc_cl (va_runS (As := [.long _, .long _]) ⟨hx, hb, hml, hown, hts⟩ (kX3_greater l G er9) (va_cwS 2 hts gX3_learns_X3_greater rfl rfl rfl (by decide +kernel) ⟨Nat.le_of_ble_eq_true rfl, Nat.le_of_ble_eq_true rfl⟩) (zc_preS hK (show va_P G.1 vwCl [] _ from fun k q h => by simp at h)) rfl rfl hl.1 rfl (lv_room (Nat.le_of_ble_eq_true rfl)) dX3_learns_85 ⟨Nat.le_of_ble_eq_true rfl, Nat.le_of_ble_eq_true rfl⟩) ?_
      obtain ⟨hi10, hF⟩ := zc_inE hF
      refine zc_last hx hb hK.1 hP hD hS 1 1 rfl rfl hi10 rfl dX3_learns_88 (fun H locs hP hS => ?_)
      obtain ⟨u11, eu11, hF⟩ := zc_letX hF
      have hP : va_P G.1 vwCl (zc_mo G ma u11) H := by rw [eu11]; exact hP
      have hD : va_D A (zc_mo G ma u11) := zc_Ds hD rfl
      obtain rfl := Option.some.inj hF
      exact W.vret hx hb hr (fun t ht hW => ⟨⟨(), rfl, trivial, zc_hp ht hP⟩, hS.F ht⟩) hS.2.2 dX3_learns_89
def fX3_hears (u : zc_M) (a1 : Int64) (a2 : Int64) : Option (Int32 × zc_M) := zc_let ((u.1 0 0) + a1) fun (x1 : Int64) => Option.bind (fX3_learns u x1) fun (r2 : zc_M) => Option.bind (fX3_aim r2) fun (r3 : Int64) => Option.bind (fX3_greater ((16 : Int64) * (x1 - a2)) (((16 : Int64) * r3) - (r2.1 0 3))) fun (r4 : Int64) => Option.bind (fX3_aim r2) fun (r5 : Int64) => Option.bind (fX3_lesser ((16 : Int64) * (x1 + a2)) (((16 : Int64) * r5) + (r2.1 0 3))) fun (r6 : Int64) => if (lg_cmp r4 r6) ≤ 0 then (Option.bind (fX3_down (r4 + r6) (32 : Int64)) fun (r9 : Int64) => zc_let (zc_mL r2 0 14 ((r2.1 0 14) + ((0 : Int32)).toInt64)) fun (u10 : zc_M) => zc_let (zc_mL u10 0 2 (r9 - (u10.1 0 1))) fun (u11 : zc_M) => Option.bind (fX3_size (r4 - ((16 : Int64) * r9))) fun (r12 : Int64) => Option.bind (fX3_size (r6 - ((16 : Int64) * r9))) fun (r13 : Int64) => Option.bind (fX3_greater r12 r13) fun (r14 : Int64) => zc_let (zc_mL u11 0 3 r14) fun (u15 : zc_M) => zc_let (zc_mL u15 0 12 (0 : Int64)) fun (u16 : zc_M) => zc_let (zc_mL u16 0 13 (-1 : Int64)) fun (u17 : zc_M) => some ((0 : Int32), u17)) else (zc_let ((16 : Int64) * (x1 - a2)) fun (x19 : Int64) => zc_let ((16 : Int64) * (x1 + a2)) fun (x20 : Int64) => Option.bind (fX3_down (x19 + x20) (32 : Int64)) fun (r21 : Int64) => zc_let (zc_mL r2 0 14 ((r2.1 0 14) + ((1 : Int32)).toInt64)) fun (u22 : zc_M) => zc_let (zc_mL u22 0 2 (r21 - (u22.1 0 1))) fun (u23 : zc_M) => Option.bind (fX3_size (x19 - ((16 : Int64) * r21))) fun (r24 : Int64) => Option.bind (fX3_size (x20 - ((16 : Int64) * r21))) fun (r25 : Int64) => Option.bind (fX3_greater r24 r25) fun (r26 : Int64) => zc_let (zc_mL u23 0 3 r26) fun (u27 : zc_M) => zc_let (zc_mL u27 0 12 (0 : Int64)) fun (u28 : zc_M) => zc_let (zc_mL u28 0 13 (-1 : Int64)) fun (u29 : zc_M) => some ((1 : Int32), u29))
theorem iX3_hears_X3 : ∀ w ∈ wsX30, w ∈ wsX3_hears := fun _ h => List.mem_cons_of_mem _ (List.mem_append_right _ h)
set_option maxHeartbeats 4000000 in
set_option maxRecDepth 100000 in
theorem kX3_hears (l : Launch) (G : zc_G) (ma : Nat → Nat) (sz : Nat) {u : zc_M} {a1 : Int64} {a2 : Int64} {r0 : Int32 × zc_M} (hF : fX3_hears u a1 a2 = some r0) : Met l yX3_hears wsX3_hears ({ frames := 2, cells := 0, slots := 0, locals := 48 }) (zc_Pm G [.ref (ma 0), .long a1, .long a2] (zc_mo G ma u) sz) (zc_Qi G r0.1 (zc_mo G ma r0.2) (va_A (zc_mo G ma u) sz)) 0 0 (va_A (zc_mo G ma u) sz) := by
  refine Met.ofW (cc := cX3_hears) (maxL := 14) (ret := (some .int)) (by decide) rfl ?_
  intro p e s m args below meth c s₁ B hml hv
  obtain ⟨rfl, hsz, hP, hK, hD0⟩ := hv
  have hx := B.exec
  have hb := B.bytes
  have hr := B.returns
  have hts := atoms_spec (ws := wsX3_hears) B.pre
  have hown : s.vm.findClass RX3 = some m.cls := findClass_of_methodNamed B.named
  have hlocks := B.notSynchronized
  subst hsz
  have hD := hD0.self (sz := s.heap.size)
  generalize hAe : va_A (zc_mo G ma u) s.heap.size = A at hD ⊢
  have hA : ∀ q : Nat, s.heap.size ≤ q → A q := fun q h => by rw [← hAe]; exact Or.inr h
  have hS : va_S A s.heap s.heap [] := va_S.rf
  have hl := lv_entry ([.ref (ma 0), .long a1, .long a2]) (n := 14) (Nat.le_of_ble_eq_true rfl)
  rw [lg_entry_eq]
  generalize (lg_sl ([.ref (ma 0), .long a1, .long a2]) ++ List.replicate (14 - (lg_sl ([.ref (ma 0), .long a1, .long a2])).length) Slot.unset).toArray = ls at hl ⊢
  have hl : lv_has ls 14 [(0, .ref (ma 0)), (1, .long a1), (3, .long a2)] := hl
  refine lv_aload_n hx hb dX3_hears_0 rfl (lv_at hl 0 rfl) ?_
  refine va_get (D := G.1) (ci := 3) (C := RX3) (T := TX3) (N := 8) hx hb hts iX3_hears_X3 hown hK.1 hP 0 rfl rfl 0 (by decide) (hts (.fieldLink RX3 7 "BoardClockModel" "st" "[J") (List.mem_of_getElem? (i := 1) rfl)) (fun _ h9 => h9) rfl dX3_hears_1 ?_
  refine lv_iconst (v := (0 : Int32)) hx hb dX3_hears_4 (by decide) ?_
  refine zc_lald hx hb hK.1 hP 1 1 rfl rfl (j := 0) (zc_vin (by decide)) (by decide) dX3_hears_5 ?_
  refine lv_lload_n hx hb dX3_hears_6 rfl (lv_at hl 1 rfl) ?_
  refine lv_ladd hx hb dX3_hears_7 ?_
  refine lv_topl (fun x1 ex1 => ?_)
  have hF := zc_letE ex1 hF
  refine lv_lstore (lv' := [(5, .long x1), (0, .ref (ma 0)), (1, .long a1), (3, .long a2)]) hx hb dX3_hears_8 hl (by decide) rfl (fun ls hl => ?_)
  refine lv_aload_n hx hb dX3_hears_10 rfl (lv_at hl 1 rfl) ?_
  refine lv_lload hx hb dX3_hears_11 (lv_at hl 0 rfl) ?_
  obtain ⟨r2, er2, hF⟩ := zc_bind hF
  refine zc_mv (X := zc_mo G ma u) (pl := []) (wc := zc_mo G ma u) (w1 := zc_mo G ma r2) (wr := []) hP hD hS hA [0, 1, 2, 3, 4, 5] [] rfl (by decide) rfl (by decide) (by decide) rfl (va_runV (As := [.long _]) ⟨hx, hb, hml, hown, hts⟩ (kX3_learns l G ma _ er2) (cwV 1 hts gX3_hears_X3_learns rfl rfl rfl (by decide +kernel) ⟨Nat.le_of_ble_eq_true rfl, Nat.le_of_ble_eq_true rfl⟩) (zc_preVm hK hP hD 0 rfl rfl) rfl rfl hl.1 rfl (lv_room (Nat.le_of_ble_eq_true rfl)) dX3_hears_13 ⟨Nat.le_of_ble_eq_true rfl, Nat.le_of_ble_eq_true rfl⟩) (fun H locs hP hD hS => ?_)
  have hP : va_P G.1 vwCl (zc_mo G ma r2) H := hP
  have hD : va_D A (zc_mo G ma r2) := hD
  refine lv_ldc2 hx hb hown (hts (.constantLong RX3 45 (16)) (List.mem_of_getElem? (i := 2) rfl)) dX3_hears_16 ?_
  refine lv_lload hx hb dX3_hears_19 (lv_at hl 0 rfl) ?_
  refine lv_lload_n hx hb dX3_hears_21 rfl (lv_at hl 3 rfl) ?_
  refine lv_lsub hx hb dX3_hears_22 ?_
  refine lv_lmul hx hb dX3_hears_23 ?_
  refine lv_ldc2 hx hb hown (hts (.constantLong RX3 45 (16)) (List.mem_of_getElem? (i := 2) rfl)) dX3_hears_24 ?_
  refine lv_aload_n hx hb dX3_hears_27 rfl (lv_at hl 1 rfl) ?_
  obtain ⟨r3, er3, hF⟩ := zc_bind hF
  refine zc_cl (va_runV (As := []) ⟨hx, hb, hml, hown, hts⟩ (kX3_aim l G ma er3) (cwV 0 hts gX3_hears_X3_aim rfl rfl rfl (by decide +kernel) ⟨Nat.le_of_ble_eq_true rfl, Nat.le_of_ble_eq_true rfl⟩) (zc_preV hK hP 0 rfl rfl) rfl rfl hl.1 rfl (lv_room (Nat.le_of_ble_eq_true rfl)) dX3_hears_28 ⟨Nat.le_of_ble_eq_true rfl, Nat.le_of_ble_eq_true rfl⟩) ?_
  refine lv_lmul hx hb dX3_hears_31 ?_
  refine lv_aload_n hx hb dX3_hears_32 rfl (lv_at hl 1 rfl) ?_
  refine va_get (D := G.1) (ci := 3) (C := RX3) (T := TX3) (N := 8) hx hb hts iX3_hears_X3 hown hK.1 hP 0 rfl rfl 0 (by decide) (hts (.fieldLink RX3 7 "BoardClockModel" "st" "[J") (List.mem_of_getElem? (i := 1) rfl)) (fun _ h9 => h9) rfl dX3_hears_33 ?_
  refine lv_iconst (v := (3 : Int32)) hx hb dX3_hears_36 (by decide) ?_
  refine zc_lald hx hb hK.1 hP 1 1 rfl rfl (j := 3) (zc_vin (by decide)) (by decide) dX3_hears_37 ?_
  refine lv_lsub hx hb dX3_hears_38 ?_
  obtain ⟨r4, er4, hF⟩ := zc_bind hF
  refine zc_cl (va_runS (As := [.long _, .long _]) ⟨hx, hb, hml, hown, hts⟩ (kX3_greater l G er4) (va_cwS 2 hts gX3_hears_X3_greater rfl rfl rfl (by decide +kernel) ⟨Nat.le_of_ble_eq_true rfl, Nat.le_of_ble_eq_true rfl⟩) (zc_preS hK (show va_P G.1 vwCl [] _ from fun k q h => by simp at h)) rfl rfl hl.1 rfl (lv_room (Nat.le_of_ble_eq_true rfl)) dX3_hears_39 ⟨Nat.le_of_ble_eq_true rfl, Nat.le_of_ble_eq_true rfl⟩) ?_
  refine lv_lstore (lv' := [(7, .long r4), (5, .long x1), (0, .ref (ma 0)), (1, .long a1), (3, .long a2)]) hx hb dX3_hears_42 hl (by decide) rfl (fun ls hl => ?_)
  refine lv_ldc2 hx hb hown (hts (.constantLong RX3 45 (16)) (List.mem_of_getElem? (i := 2) rfl)) dX3_hears_44 ?_
  refine lv_lload hx hb dX3_hears_47 (lv_at hl 1 rfl) ?_
  refine lv_lload_n hx hb dX3_hears_49 rfl (lv_at hl 4 rfl) ?_
  refine lv_ladd hx hb dX3_hears_50 ?_
  refine lv_lmul hx hb dX3_hears_51 ?_
  refine lv_ldc2 hx hb hown (hts (.constantLong RX3 45 (16)) (List.mem_of_getElem? (i := 2) rfl)) dX3_hears_52 ?_
  refine lv_aload_n hx hb dX3_hears_55 rfl (lv_at hl 2 rfl) ?_
  obtain ⟨r5, er5, hF⟩ := zc_bind hF
  refine zc_cl (va_runV (As := []) ⟨hx, hb, hml, hown, hts⟩ (kX3_aim l G ma er5) (cwV 0 hts gX3_hears_X3_aim rfl rfl rfl (by decide +kernel) ⟨Nat.le_of_ble_eq_true rfl, Nat.le_of_ble_eq_true rfl⟩) (zc_preV hK hP 0 rfl rfl) rfl rfl hl.1 rfl (lv_room (Nat.le_of_ble_eq_true rfl)) dX3_hears_56 ⟨Nat.le_of_ble_eq_true rfl, Nat.le_of_ble_eq_true rfl⟩) ?_
  refine lv_lmul hx hb dX3_hears_59 ?_
  refine lv_aload_n hx hb dX3_hears_60 rfl (lv_at hl 2 rfl) ?_
  refine va_get (D := G.1) (ci := 3) (C := RX3) (T := TX3) (N := 8) hx hb hts iX3_hears_X3 hown hK.1 hP 0 rfl rfl 0 (by decide) (hts (.fieldLink RX3 7 "BoardClockModel" "st" "[J") (List.mem_of_getElem? (i := 1) rfl)) (fun _ h9 => h9) rfl dX3_hears_61 ?_
  refine lv_iconst (v := (3 : Int32)) hx hb dX3_hears_64 (by decide) ?_
  refine zc_lald hx hb hK.1 hP 1 1 rfl rfl (j := 3) (zc_vin (by decide)) (by decide) dX3_hears_65 ?_
  refine lv_ladd hx hb dX3_hears_66 ?_
  obtain ⟨r6, er6, hF⟩ := zc_bind hF
  refine zc_cl (va_runS (As := [.long _, .long _]) ⟨hx, hb, hml, hown, hts⟩ (kX3_lesser l G er6) (va_cwS 2 hts gX3_hears_X3_lesser rfl rfl rfl (by decide +kernel) ⟨Nat.le_of_ble_eq_true rfl, Nat.le_of_ble_eq_true rfl⟩) (zc_preS hK (show va_P G.1 vwCl [] _ from fun k q h => by simp at h)) rfl rfl hl.1 rfl (lv_room (Nat.le_of_ble_eq_true rfl)) dX3_hears_67 ⟨Nat.le_of_ble_eq_true rfl, Nat.le_of_ble_eq_true rfl⟩) ?_
  refine lv_lstore (lv' := [(9, .long r6), (7, .long r4), (5, .long x1), (0, .ref (ma 0)), (1, .long a1), (3, .long a2)]) hx hb dX3_hears_70 hl (by decide) rfl (fun ls hl => ?_)
  refine lv_lload hx hb dX3_hears_72 (lv_at hl 1 rfl) ?_
  refine lv_lload hx hb dX3_hears_74 (lv_at hl 0 rfl) ?_
  refine W.lcmp hx hb dX3_hears_76 ?_
  refine lv_if_le (tgt := 84) hx hb dX3_hears_77 (by decide) (fun c7 => ?_) (fun c7 => ?_)
  · have hF := zc_pos c7 hF
    refine lv_iconst (v := (0 : Int32)) hx hb dX3_hears_84 (by decide) ?_
    refine lv_istore (lv' := [(11, .int (0 : Int32)), (9, .long r6), (7, .long r4), (5, .long x1), (0, .ref (ma 0)), (1, .long a1), (3, .long a2)]) hx hb dX3_hears_85 hl (by decide) rfl (fun ls hl => ?_)
    refine lv_iload hx hb dX3_hears_87 (lv_at hl 0 rfl) ?_
    refine lv_iconst (v := (1 : Int32)) hx hb dX3_hears_89 (by decide) ?_
    refine lv_icmp_ne (tgt := 113) hx hb dX3_hears_90 (by decide) (fun c8 => ?_) (fun c8 => absurd c8 (by decide))
    refine lv_lload hx hb dX3_hears_113 (lv_at hl 2 rfl) ?_
    refine lv_lload hx hb dX3_hears_115 (lv_at hl 1 rfl) ?_
    refine lv_ladd hx hb dX3_hears_117 ?_
    refine lv_ldc2 hx hb hown (hts (.constantLong RX3 130 (32)) (List.mem_of_getElem? (i := 3) rfl)) dX3_hears_118 ?_
    obtain ⟨r9, er9, hF⟩ := zc_bind hF
    refine zc_cl (va_runS (As := [.long _, .long _]) ⟨hx, hb, hml, hown, hts⟩ (kX3_down l G er9) (va_cwS 2 hts gX3_hears_X3_down rfl rfl rfl (by decide +kernel) ⟨Nat.le_of_ble_eq_true rfl, Nat.le_of_ble_eq_true rfl⟩) (zc_preS hK (show va_P G.1 vwCl [] _ from fun k q h => by simp at h)) rfl rfl hl.1 rfl (lv_room (Nat.le_of_ble_eq_true rfl)) dX3_hears_121 ⟨Nat.le_of_ble_eq_true rfl, Nat.le_of_ble_eq_true rfl⟩) ?_
    refine lv_lstore (lv' := [(12, .long r9), (11, .int (0 : Int32)), (9, .long r6), (7, .long r4), (5, .long x1), (0, .ref (ma 0)), (1, .long a1), (3, .long a2)]) hx hb dX3_hears_124 hl (by decide) rfl (fun ls hl => ?_)
    refine lv_aload_n hx hb dX3_hears_126 rfl (lv_at hl 5 rfl) ?_
    refine va_get (D := G.1) (ci := 3) (C := RX3) (T := TX3) (N := 8) hx hb hts iX3_hears_X3 hown hK.1 hP 0 rfl rfl 0 (by decide) (hts (.fieldLink RX3 7 "BoardClockModel" "st" "[J") (List.mem_of_getElem? (i := 1) rfl)) (fun _ h9 => h9) rfl dX3_hears_127 ?_
    refine lv_bipush (v := (14 : Int32)) hx hb dX3_hears_130 (by decide) ?_
    refine lv_dup2_11 hx hb dX3_hears_132 rfl rfl ?_
    refine zc_lald hx hb hK.1 hP 1 1 rfl rfl (j := 14) (zc_vin (by decide)) (by decide) dX3_hears_133 ?_
    refine lv_iload hx hb dX3_hears_134 (lv_at hl 1 rfl) ?_
    refine lv_i2l hx hb dX3_hears_136 rfl ?_
    refine lv_ladd hx hb dX3_hears_137 ?_
    refine zc_last (j := 14) hx hb hK.1 hP hD hS 1 1 rfl rfl (zc_vin (by decide)) (by decide) dX3_hears_138 (fun H locs hP hS => ?_)
    obtain ⟨u10, eu10, hF⟩ := zc_letX hF
    have hP : va_P G.1 vwCl (zc_mo G ma u10) H := by rw [eu10]; exact hP
    have hD : va_D A (zc_mo G ma u10) := zc_Ds hD rfl
    refine lv_aload_n hx hb dX3_hears_139 rfl (lv_at hl 5 rfl) ?_
    refine va_get (D := G.1) (ci := 3) (C := RX3) (T := TX3) (N := 8) hx hb hts iX3_hears_X3 hown hK.1 hP 0 rfl rfl 0 (by decide) (hts (.fieldLink RX3 7 "BoardClockModel" "st" "[J") (List.mem_of_getElem? (i := 1) rfl)) (fun _ h9 => h9) rfl dX3_hears_140 ?_
    refine lv_iconst (v := (2 : Int32)) hx hb dX3_hears_143 (by decide) ?_
    refine lv_lload hx hb dX3_hears_144 (lv_at hl 0 rfl) ?_
    refine lv_aload_n hx hb dX3_hears_146 rfl (lv_at hl 5 rfl) ?_
    refine va_get (D := G.1) (ci := 3) (C := RX3) (T := TX3) (N := 8) hx hb hts iX3_hears_X3 hown hK.1 hP 0 rfl rfl 0 (by decide) (hts (.fieldLink RX3 7 "BoardClockModel" "st" "[J") (List.mem_of_getElem? (i := 1) rfl)) (fun _ h9 => h9) rfl dX3_hears_147 ?_
    refine lv_iconst (v := (1 : Int32)) hx hb dX3_hears_150 (by decide) ?_
    refine zc_lald hx hb hK.1 hP 1 1 rfl rfl (j := 1) (zc_vin (by decide)) (by decide) dX3_hears_151 ?_
    refine lv_lsub hx hb dX3_hears_152 ?_
    refine zc_last (j := 2) hx hb hK.1 hP hD hS 1 1 rfl rfl (zc_vin (by decide)) (by decide) dX3_hears_153 (fun H locs hP hS => ?_)
    obtain ⟨u11, eu11, hF⟩ := zc_letX hF
    have hP : va_P G.1 vwCl (zc_mo G ma u11) H := by rw [eu11]; exact hP
    have hD : va_D A (zc_mo G ma u11) := zc_Ds hD rfl
    refine lv_aload_n hx hb dX3_hears_154 rfl (lv_at hl 5 rfl) ?_
    refine va_get (D := G.1) (ci := 3) (C := RX3) (T := TX3) (N := 8) hx hb hts iX3_hears_X3 hown hK.1 hP 0 rfl rfl 0 (by decide) (hts (.fieldLink RX3 7 "BoardClockModel" "st" "[J") (List.mem_of_getElem? (i := 1) rfl)) (fun _ h9 => h9) rfl dX3_hears_155 ?_
    refine lv_iconst (v := (3 : Int32)) hx hb dX3_hears_158 (by decide) ?_
    refine lv_lload hx hb dX3_hears_159 (lv_at hl 3 rfl) ?_
    refine lv_ldc2 hx hb hown (hts (.constantLong RX3 45 (16)) (List.mem_of_getElem? (i := 2) rfl)) dX3_hears_161 ?_
    refine lv_lload hx hb dX3_hears_164 (lv_at hl 0 rfl) ?_
    refine lv_lmul hx hb dX3_hears_166 ?_
    refine lv_lsub hx hb dX3_hears_167 ?_
    obtain ⟨r12, er12, hF⟩ := zc_bind hF
    refine zc_cl (va_runS (As := [.long _]) ⟨hx, hb, hml, hown, hts⟩ (kX3_size l G er12) (va_cwS 1 hts gX3_hears_X3_size rfl rfl rfl (by decide +kernel) ⟨Nat.le_of_ble_eq_true rfl, Nat.le_of_ble_eq_true rfl⟩) (zc_preS hK (show va_P G.1 vwCl [] _ from fun k q h => by simp at h)) rfl rfl hl.1 rfl (lv_room (Nat.le_of_ble_eq_true rfl)) dX3_hears_168 ⟨Nat.le_of_ble_eq_true rfl, Nat.le_of_ble_eq_true rfl⟩) ?_
    refine lv_lload hx hb dX3_hears_171 (lv_at hl 2 rfl) ?_
    refine lv_ldc2 hx hb hown (hts (.constantLong RX3 45 (16)) (List.mem_of_getElem? (i := 2) rfl)) dX3_hears_173 ?_
    refine lv_lload hx hb dX3_hears_176 (lv_at hl 0 rfl) ?_
    refine lv_lmul hx hb dX3_hears_178 ?_
    refine lv_lsub hx hb dX3_hears_179 ?_
    obtain ⟨r13, er13, hF⟩ := zc_bind hF
    refine zc_cl (va_runS (As := [.long _]) ⟨hx, hb, hml, hown, hts⟩ (kX3_size l G er13) (va_cwS 1 hts gX3_hears_X3_size rfl rfl rfl (by decide +kernel) ⟨Nat.le_of_ble_eq_true rfl, Nat.le_of_ble_eq_true rfl⟩) (zc_preS hK (show va_P G.1 vwCl [] _ from fun k q h => by simp at h)) rfl rfl hl.1 rfl (lv_room (Nat.le_of_ble_eq_true rfl)) dX3_hears_180 ⟨Nat.le_of_ble_eq_true rfl, Nat.le_of_ble_eq_true rfl⟩) ?_
    obtain ⟨r14, er14, hF⟩ := zc_bind hF
    refine zc_cl (va_runS (As := [.long _, .long _]) ⟨hx, hb, hml, hown, hts⟩ (kX3_greater l G er14) (va_cwS 2 hts gX3_hears_X3_greater rfl rfl rfl (by decide +kernel) ⟨Nat.le_of_ble_eq_true rfl, Nat.le_of_ble_eq_true rfl⟩) (zc_preS hK (show va_P G.1 vwCl [] _ from fun k q h => by simp at h)) rfl rfl hl.1 rfl (lv_room (Nat.le_of_ble_eq_true rfl)) dX3_hears_183 ⟨Nat.le_of_ble_eq_true rfl, Nat.le_of_ble_eq_true rfl⟩) ?_
    refine zc_last (j := 3) hx hb hK.1 hP hD hS 1 1 rfl rfl (zc_vin (by decide)) (by decide) dX3_hears_186 (fun H locs hP hS => ?_)
    obtain ⟨u15, eu15, hF⟩ := zc_letX hF
    have hP : va_P G.1 vwCl (zc_mo G ma u15) H := by rw [eu15]; exact hP
    have hD : va_D A (zc_mo G ma u15) := zc_Ds hD rfl
    refine lv_aload_n hx hb dX3_hears_187 rfl (lv_at hl 5 rfl) ?_
    refine va_get (D := G.1) (ci := 3) (C := RX3) (T := TX3) (N := 8) hx hb hts iX3_hears_X3 hown hK.1 hP 0 rfl rfl 0 (by decide) (hts (.fieldLink RX3 7 "BoardClockModel" "st" "[J") (List.mem_of_getElem? (i := 1) rfl)) (fun _ h9 => h9) rfl dX3_hears_188 ?_
    refine lv_bipush (v := (12 : Int32)) hx hb dX3_hears_191 (by decide) ?_
    refine lv_lconst (v := (0 : Int64)) hx hb dX3_hears_193 (by decide) ?_
    refine zc_last (j := 12) hx hb hK.1 hP hD hS 1 1 rfl rfl (zc_vin (by decide)) (by decide) dX3_hears_194 (fun H locs hP hS => ?_)
    obtain ⟨u16, eu16, hF⟩ := zc_letX hF
    have hP : va_P G.1 vwCl (zc_mo G ma u16) H := by rw [eu16]; exact hP
    have hD : va_D A (zc_mo G ma u16) := zc_Ds hD rfl
    refine lv_aload_n hx hb dX3_hears_195 rfl (lv_at hl 5 rfl) ?_
    refine va_get (D := G.1) (ci := 3) (C := RX3) (T := TX3) (N := 8) hx hb hts iX3_hears_X3 hown hK.1 hP 0 rfl rfl 0 (by decide) (hts (.fieldLink RX3 7 "BoardClockModel" "st" "[J") (List.mem_of_getElem? (i := 1) rfl)) (fun _ h9 => h9) rfl dX3_hears_196 ?_
    refine lv_bipush (v := (13 : Int32)) hx hb dX3_hears_199 (by decide) ?_
    refine lv_ldc2 hx hb hown (hts (.constantLong RX3 35 (-1)) (List.mem_of_getElem? (i := 4) rfl)) dX3_hears_201 ?_
    refine zc_last (j := 13) hx hb hK.1 hP hD hS 1 1 rfl rfl (zc_vin (by decide)) (by decide) dX3_hears_204 (fun H locs hP hS => ?_)
    obtain ⟨u17, eu17, hF⟩ := zc_letX hF
    have hP : va_P G.1 vwCl (zc_mo G ma u17) H := by rw [eu17]; exact hP
    have hD : va_D A (zc_mo G ma u17) := zc_Ds hD rfl
    refine lv_iload hx hb dX3_hears_205 (lv_at hl 1 rfl) ?_
    obtain rfl := Option.some.inj hF
    exact W.iret hx hb hr (fun t ht hW => ⟨⟨_, (), rfl, rfl, zc_hp ht hP⟩, hS.F ht⟩) hS.2.2 dX3_hears_207
  · have hF := zc_neg c7 hF
    refine lv_iconst (v := (1 : Int32)) hx hb dX3_hears_80 (by decide) ?_
    refine lv_goto (tgt := 85) hx hb dX3_hears_81 (by decide) ?_
    refine lv_istore (lv' := [(11, .int (1 : Int32)), (9, .long r6), (7, .long r4), (5, .long x1), (0, .ref (ma 0)), (1, .long a1), (3, .long a2)]) hx hb dX3_hears_85 hl (by decide) rfl (fun ls hl => ?_)
    refine lv_iload hx hb dX3_hears_87 (lv_at hl 0 rfl) ?_
    refine lv_iconst (v := (1 : Int32)) hx hb dX3_hears_89 (by decide) ?_
    refine lv_icmp_ne (tgt := 113) hx hb dX3_hears_90 (by decide) (fun c18 => absurd c18 (by decide)) (fun c18 => ?_)
    refine lv_ldc2 hx hb hown (hts (.constantLong RX3 45 (16)) (List.mem_of_getElem? (i := 2) rfl)) dX3_hears_93 ?_
    refine lv_lload hx hb dX3_hears_96 (lv_at hl 3 rfl) ?_
    refine lv_lload_n hx hb dX3_hears_98 rfl (lv_at hl 6 rfl) ?_
    refine lv_lsub hx hb dX3_hears_99 ?_
    refine lv_lmul hx hb dX3_hears_100 ?_
    refine lv_topl (fun x19 ex19 => ?_)
    have hF := zc_letE ex19 hF
    refine lv_lstore (lv' := [(7, .long x19), (11, .int (1 : Int32)), (9, .long r6), (5, .long x1), (0, .ref (ma 0)), (1, .long a1), (3, .long a2)]) hx hb dX3_hears_101 hl (by decide) rfl (fun ls hl => ?_)
    refine lv_ldc2 hx hb hown (hts (.constantLong RX3 45 (16)) (List.mem_of_getElem? (i := 2) rfl)) dX3_hears_103 ?_
    refine lv_lload hx hb dX3_hears_106 (lv_at hl 3 rfl) ?_
    refine lv_lload_n hx hb dX3_hears_108 rfl (lv_at hl 6 rfl) ?_
    refine lv_ladd hx hb dX3_hears_109 ?_
    refine lv_lmul hx hb dX3_hears_110 ?_
    refine lv_topl (fun x20 ex20 => ?_)
    have hF := zc_letE ex20 hF
    refine lv_lstore (lv' := [(9, .long x20), (7, .long x19), (11, .int (1 : Int32)), (5, .long x1), (0, .ref (ma 0)), (1, .long a1), (3, .long a2)]) hx hb dX3_hears_111 hl (by decide) rfl (fun ls hl => ?_)
    refine lv_lload hx hb dX3_hears_113 (lv_at hl 1 rfl) ?_
    refine lv_lload hx hb dX3_hears_115 (lv_at hl 0 rfl) ?_
    refine lv_ladd hx hb dX3_hears_117 ?_
    refine lv_ldc2 hx hb hown (hts (.constantLong RX3 130 (32)) (List.mem_of_getElem? (i := 3) rfl)) dX3_hears_118 ?_
    obtain ⟨r21, er21, hF⟩ := zc_bind hF
    refine zc_cl (va_runS (As := [.long _, .long _]) ⟨hx, hb, hml, hown, hts⟩ (kX3_down l G er21) (va_cwS 2 hts gX3_hears_X3_down rfl rfl rfl (by decide +kernel) ⟨Nat.le_of_ble_eq_true rfl, Nat.le_of_ble_eq_true rfl⟩) (zc_preS hK (show va_P G.1 vwCl [] _ from fun k q h => by simp at h)) rfl rfl hl.1 rfl (lv_room (Nat.le_of_ble_eq_true rfl)) dX3_hears_121 ⟨Nat.le_of_ble_eq_true rfl, Nat.le_of_ble_eq_true rfl⟩) ?_
    refine lv_lstore (lv' := [(12, .long r21), (9, .long x20), (7, .long x19), (11, .int (1 : Int32)), (5, .long x1), (0, .ref (ma 0)), (1, .long a1), (3, .long a2)]) hx hb dX3_hears_124 hl (by decide) rfl (fun ls hl => ?_)
    refine lv_aload_n hx hb dX3_hears_126 rfl (lv_at hl 5 rfl) ?_
    refine va_get (D := G.1) (ci := 3) (C := RX3) (T := TX3) (N := 8) hx hb hts iX3_hears_X3 hown hK.1 hP 0 rfl rfl 0 (by decide) (hts (.fieldLink RX3 7 "BoardClockModel" "st" "[J") (List.mem_of_getElem? (i := 1) rfl)) (fun _ h9 => h9) rfl dX3_hears_127 ?_
    refine lv_bipush (v := (14 : Int32)) hx hb dX3_hears_130 (by decide) ?_
    refine lv_dup2_11 hx hb dX3_hears_132 rfl rfl ?_
    refine zc_lald hx hb hK.1 hP 1 1 rfl rfl (j := 14) (zc_vin (by decide)) (by decide) dX3_hears_133 ?_
    refine lv_iload hx hb dX3_hears_134 (lv_at hl 3 rfl) ?_
    refine lv_i2l hx hb dX3_hears_136 rfl ?_
    refine lv_ladd hx hb dX3_hears_137 ?_
    refine zc_last (j := 14) hx hb hK.1 hP hD hS 1 1 rfl rfl (zc_vin (by decide)) (by decide) dX3_hears_138 (fun H locs hP hS => ?_)
    obtain ⟨u22, eu22, hF⟩ := zc_letX hF
    have hP : va_P G.1 vwCl (zc_mo G ma u22) H := by rw [eu22]; exact hP
    have hD : va_D A (zc_mo G ma u22) := zc_Ds hD rfl
    refine lv_aload_n hx hb dX3_hears_139 rfl (lv_at hl 5 rfl) ?_
    refine va_get (D := G.1) (ci := 3) (C := RX3) (T := TX3) (N := 8) hx hb hts iX3_hears_X3 hown hK.1 hP 0 rfl rfl 0 (by decide) (hts (.fieldLink RX3 7 "BoardClockModel" "st" "[J") (List.mem_of_getElem? (i := 1) rfl)) (fun _ h9 => h9) rfl dX3_hears_140 ?_
    refine lv_iconst (v := (2 : Int32)) hx hb dX3_hears_143 (by decide) ?_
    refine lv_lload hx hb dX3_hears_144 (lv_at hl 0 rfl) ?_
    refine lv_aload_n hx hb dX3_hears_146 rfl (lv_at hl 5 rfl) ?_
    refine va_get (D := G.1) (ci := 3) (C := RX3) (T := TX3) (N := 8) hx hb hts iX3_hears_X3 hown hK.1 hP 0 rfl rfl 0 (by decide) (hts (.fieldLink RX3 7 "BoardClockModel" "st" "[J") (List.mem_of_getElem? (i := 1) rfl)) (fun _ h9 => h9) rfl dX3_hears_147 ?_
    refine lv_iconst (v := (1 : Int32)) hx hb dX3_hears_150 (by decide) ?_
    refine zc_lald hx hb hK.1 hP 1 1 rfl rfl (j := 1) (zc_vin (by decide)) (by decide) dX3_hears_151 ?_
    refine lv_lsub hx hb dX3_hears_152 ?_
    refine zc_last (j := 2) hx hb hK.1 hP hD hS 1 1 rfl rfl (zc_vin (by decide)) (by decide) dX3_hears_153 (fun H locs hP hS => ?_)
    obtain ⟨u23, eu23, hF⟩ := zc_letX hF
    have hP : va_P G.1 vwCl (zc_mo G ma u23) H := by rw [eu23]; exact hP
    have hD : va_D A (zc_mo G ma u23) := zc_Ds hD rfl
    refine lv_aload_n hx hb dX3_hears_154 rfl (lv_at hl 5 rfl) ?_
    refine va_get (D := G.1) (ci := 3) (C := RX3) (T := TX3) (N := 8) hx hb hts iX3_hears_X3 hown hK.1 hP 0 rfl rfl 0 (by decide) (hts (.fieldLink RX3 7 "BoardClockModel" "st" "[J") (List.mem_of_getElem? (i := 1) rfl)) (fun _ h9 => h9) rfl dX3_hears_155 ?_
    refine lv_iconst (v := (3 : Int32)) hx hb dX3_hears_158 (by decide) ?_
    refine lv_lload hx hb dX3_hears_159 (lv_at hl 2 rfl) ?_
    refine lv_ldc2 hx hb hown (hts (.constantLong RX3 45 (16)) (List.mem_of_getElem? (i := 2) rfl)) dX3_hears_161 ?_
    refine lv_lload hx hb dX3_hears_164 (lv_at hl 0 rfl) ?_
    refine lv_lmul hx hb dX3_hears_166 ?_
    refine lv_lsub hx hb dX3_hears_167 ?_
    obtain ⟨r24, er24, hF⟩ := zc_bind hF
    refine zc_cl (va_runS (As := [.long _]) ⟨hx, hb, hml, hown, hts⟩ (kX3_size l G er24) (va_cwS 1 hts gX3_hears_X3_size rfl rfl rfl (by decide +kernel) ⟨Nat.le_of_ble_eq_true rfl, Nat.le_of_ble_eq_true rfl⟩) (zc_preS hK (show va_P G.1 vwCl [] _ from fun k q h => by simp at h)) rfl rfl hl.1 rfl (lv_room (Nat.le_of_ble_eq_true rfl)) dX3_hears_168 ⟨Nat.le_of_ble_eq_true rfl, Nat.le_of_ble_eq_true rfl⟩) ?_
    refine lv_lload hx hb dX3_hears_171 (lv_at hl 1 rfl) ?_
    refine lv_ldc2 hx hb hown (hts (.constantLong RX3 45 (16)) (List.mem_of_getElem? (i := 2) rfl)) dX3_hears_173 ?_
    refine lv_lload hx hb dX3_hears_176 (lv_at hl 0 rfl) ?_
    refine lv_lmul hx hb dX3_hears_178 ?_
    refine lv_lsub hx hb dX3_hears_179 ?_
    obtain ⟨r25, er25, hF⟩ := zc_bind hF
    refine zc_cl (va_runS (As := [.long _]) ⟨hx, hb, hml, hown, hts⟩ (kX3_size l G er25) (va_cwS 1 hts gX3_hears_X3_size rfl rfl rfl (by decide +kernel) ⟨Nat.le_of_ble_eq_true rfl, Nat.le_of_ble_eq_true rfl⟩) (zc_preS hK (show va_P G.1 vwCl [] _ from fun k q h => by simp at h)) rfl rfl hl.1 rfl (lv_room (Nat.le_of_ble_eq_true rfl)) dX3_hears_180 ⟨Nat.le_of_ble_eq_true rfl, Nat.le_of_ble_eq_true rfl⟩) ?_
    obtain ⟨r26, er26, hF⟩ := zc_bind hF
    refine zc_cl (va_runS (As := [.long _, .long _]) ⟨hx, hb, hml, hown, hts⟩ (kX3_greater l G er26) (va_cwS 2 hts gX3_hears_X3_greater rfl rfl rfl (by decide +kernel) ⟨Nat.le_of_ble_eq_true rfl, Nat.le_of_ble_eq_true rfl⟩) (zc_preS hK (show va_P G.1 vwCl [] _ from fun k q h => by simp at h)) rfl rfl hl.1 rfl (lv_room (Nat.le_of_ble_eq_true rfl)) dX3_hears_183 ⟨Nat.le_of_ble_eq_true rfl, Nat.le_of_ble_eq_true rfl⟩) ?_
    refine zc_last (j := 3) hx hb hK.1 hP hD hS 1 1 rfl rfl (zc_vin (by decide)) (by decide) dX3_hears_186 (fun H locs hP hS => ?_)
    obtain ⟨u27, eu27, hF⟩ := zc_letX hF
    have hP : va_P G.1 vwCl (zc_mo G ma u27) H := by rw [eu27]; exact hP
    have hD : va_D A (zc_mo G ma u27) := zc_Ds hD rfl
    refine lv_aload_n hx hb dX3_hears_187 rfl (lv_at hl 5 rfl) ?_
    refine va_get (D := G.1) (ci := 3) (C := RX3) (T := TX3) (N := 8) hx hb hts iX3_hears_X3 hown hK.1 hP 0 rfl rfl 0 (by decide) (hts (.fieldLink RX3 7 "BoardClockModel" "st" "[J") (List.mem_of_getElem? (i := 1) rfl)) (fun _ h9 => h9) rfl dX3_hears_188 ?_
    refine lv_bipush (v := (12 : Int32)) hx hb dX3_hears_191 (by decide) ?_
    refine lv_lconst (v := (0 : Int64)) hx hb dX3_hears_193 (by decide) ?_
    refine zc_last (j := 12) hx hb hK.1 hP hD hS 1 1 rfl rfl (zc_vin (by decide)) (by decide) dX3_hears_194 (fun H locs hP hS => ?_)
    obtain ⟨u28, eu28, hF⟩ := zc_letX hF
    have hP : va_P G.1 vwCl (zc_mo G ma u28) H := by rw [eu28]; exact hP
    have hD : va_D A (zc_mo G ma u28) := zc_Ds hD rfl
    refine lv_aload_n hx hb dX3_hears_195 rfl (lv_at hl 5 rfl) ?_
    refine va_get (D := G.1) (ci := 3) (C := RX3) (T := TX3) (N := 8) hx hb hts iX3_hears_X3 hown hK.1 hP 0 rfl rfl 0 (by decide) (hts (.fieldLink RX3 7 "BoardClockModel" "st" "[J") (List.mem_of_getElem? (i := 1) rfl)) (fun _ h9 => h9) rfl dX3_hears_196 ?_
    refine lv_bipush (v := (13 : Int32)) hx hb dX3_hears_199 (by decide) ?_
    refine lv_ldc2 hx hb hown (hts (.constantLong RX3 35 (-1)) (List.mem_of_getElem? (i := 4) rfl)) dX3_hears_201 ?_
    refine zc_last (j := 13) hx hb hK.1 hP hD hS 1 1 rfl rfl (zc_vin (by decide)) (by decide) dX3_hears_204 (fun H locs hP hS => ?_)
    obtain ⟨u29, eu29, hF⟩ := zc_letX hF
    have hP : va_P G.1 vwCl (zc_mo G ma u29) H := by rw [eu29]; exact hP
    have hD : va_D A (zc_mo G ma u29) := zc_Ds hD rfl
    refine lv_iload hx hb dX3_hears_205 (lv_at hl 3 rfl) ?_
    obtain rfl := Option.some.inj hF
    exact W.iret hx hb hr (fun t ht hW => ⟨⟨_, (), rfl, rfl, zc_hp ht hP⟩, hS.F ht⟩) hS.2.2 dX3_hears_207
