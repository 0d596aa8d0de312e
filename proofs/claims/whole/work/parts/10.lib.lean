/-! values of the class's objects: alarms, a state, the clock; of the reference -/
abbrev zc_G : Type := va_G × (Nat → ClassId)
abbrev zc_Q : Type := Int32 × (Nat → Nat → Int32)
abbrev zc_S : Type := (Nat → Int64) × (Nat → Int32) × (Nat → Int32) × zc_Q
abbrev zc_B : Type := (Nat → Int32) × (Nat → Nat → Int32) × zc_S × (Nat → zc_S)
abbrev zc_M : Type := (Nat → Nat → Int64) × (Nat → Nat → Int32) × (Nat → Int32) × Int64
def zc_qn (q : zc_Q) (x : Int32) : zc_Q := (x, q.2)
def zc_qa (q : zc_Q) (k i : Nat) (x : Int32) : zc_Q := (q.1, va_up q.2 k (upd (q.2 k) i x))
def zc_qf (q : zc_Q) (k : Nat) (f : Nat → Int32) : zc_Q := (q.1, va_up q.2 k f)
def zc_sL (v : zc_S) (k : Nat) (x : Int64) : zc_S := (vp_updL v.1 k x, v.2.1, v.2.2.1, v.2.2.2)
def zc_sI (v : zc_S) (k : Nat) (x : Int32) : zc_S := (v.1, upd v.2.1 k x, v.2.2.1, v.2.2.2)
def zc_sa (v : zc_S) (i : Nat) (x : Int32) : zc_S := (v.1, v.2.1, upd v.2.2.1 i x, v.2.2.2)
def zc_sf (v : zc_S) (f : Nat → Int32) : zc_S := (v.1, v.2.1, f, v.2.2.2)
def zc_sq (v : zc_S) (q : zc_Q) : zc_S := (v.1, v.2.1, v.2.2.1, q)
def zc_bI (b : zc_B) (k : Nat) (x : Int32) : zc_B := (upd b.1 k x, b.2.1, b.2.2.1, b.2.2.2)
def zc_ba (b : zc_B) (k i : Nat) (x : Int32) : zc_B := (b.1, va_up b.2.1 k (upd (b.2.1 k) i x), b.2.2.1, b.2.2.2)
def zc_bs (b : zc_B) (v : zc_S) : zc_B := (b.1, b.2.1, v, b.2.2.2)
def zc_bp (b : zc_B) (k : Nat) (v : zc_S) : zc_B := (b.1, b.2.1, b.2.2.1, va_up b.2.2.2 k v)
def zc_mL (u : zc_M) (k i : Nat) (x : Int64) : zc_M := (va_up u.1 k (vp_updL (u.1 k) i x), u.2.1, u.2.2.1, u.2.2.2)
def zc_mf (u : zc_M) (k : Nat) (f : Nat → Int64) : zc_M := (va_up u.1 k f, u.2.1, u.2.2.1, u.2.2.2)
def zc_ma (u : zc_M) (k i : Nat) (x : Int32) : zc_M := (u.1, va_up u.2.1 k (upd (u.2.1 k) i x), u.2.2.1, u.2.2.2)
def zc_mI (u : zc_M) (k : Nat) (x : Int32) : zc_M := (u.1, u.2.1, upd u.2.2.1 k x, u.2.2.2)
def zc_mS (u : zc_M) (x : Int64) : zc_M := (u.1, u.2.1, u.2.2.1, x)
/-! their cells -/
abbrev zc_al (G : zc_G) (ad : Nat → Nat) (q : zc_Q) : va_W := [(ad 2, .inr (0, [.int q.1, .ref (ad 3), .ref (ad 4), .ref (ad 5), .ref (ad 6)])), (ad 3, .inl (G.2 0, 6, .inl (q.2 0))), (ad 4, .inl (G.2 0, 6, .inl (q.2 1))), (ad 5, .inl (G.2 0, 6, .inl (q.2 2))), (ad 6, .inl (G.2 0, 6, .inl (q.2 3)))]
abbrev zc_st (G : zc_G) (ad : Nat → Nat) (v : zc_S) : va_W := (ad 0, .inr (1, [.long (v.1 0), .long (v.1 1), .long (v.1 2), .int (v.2.1 3), .int (v.2.1 4), .int (v.2.1 5), .int (v.2.1 6), .int (v.2.1 7), .int (v.2.1 8), .int (v.2.1 9), .int (v.2.1 10), .int (v.2.1 11), .int (v.2.1 12), .int (v.2.1 13), .int (v.2.1 14), .int (v.2.1 15), .ref (ad 1), .ref (ad 2)])) :: (ad 1, .inl (G.2 0, 9, .inl v.2.2.1)) :: zc_al G ad v.2.2.2
def zc_pool (G : zc_G) (pa : Nat → Nat → Nat) (pv : Nat → zc_S) : va_W := (List.range 22).flatMap (fun k => zc_st G (pa k) (pv k))
abbrev zc_b6 (G : zc_G) (ba na : Nat → Nat) (pa : Nat → Nat → Nat) (b : zc_B) : va_W := [(ba 0, .inr (2, [.ref (na 0), .int (b.1 0), .ref (ba 1), .int (b.1 1), .int (b.1 2), .ref (ba 2), .ref (ba 3), .ref (ba 4), .ref (ba 5), .int (b.1 3)])), (ba 1, .inl (G.2 3, 20, .inr (.inr (.inr (.inr (fun k => some (pa k 0))))))), (ba 2, .inl (G.2 3, 2, .inr (.inr (.inr (.inr (fun k => some (pa (k + 20) 0))))))), (ba 3, .inl (G.2 0, 2, .inl (b.2.1 0))), (ba 4, .inl (G.2 2, 2, .inl (b.2.1 1))), (ba 5, .inl (G.2 0, 20, .inl (b.2.1 2)))]
abbrev zc_bx (G : zc_G) (ba na : Nat → Nat) (pa : Nat → Nat → Nat) (b : zc_B) : va_W := zc_b6 G ba na pa b ++ zc_st G na b.2.2.1
abbrev zc_bc (G : zc_G) (ba na : Nat → Nat) (pa : Nat → Nat → Nat) (b : zc_B) : va_W := zc_bx G ba na pa b ++ zc_pool G pa b.2.2.2
abbrev zc_mo (G : zc_G) (ma : Nat → Nat) (u : zc_M) : va_W := [(ma 0, .inr (3, [.ref (ma 1), .ref (ma 2), .int (u.2.2.1 0), .ref (ma 3), .ref (ma 4), .ref (ma 5), .int (u.2.2.1 1), .long u.2.2.2])), (ma 1, .inl (G.2 1, 49, .inr (.inl (u.1 0)))), (ma 2, .inl (G.2 1, 980, .inr (.inl (u.1 1)))), (ma 3, .inl (G.2 1, 100, .inr (.inl (u.1 2)))), (ma 4, .inl (G.2 2, 2, .inl (u.2.1 0))), (ma 5, .inl (G.2 0, 20, .inl (u.2.1 1)))]
/-! what the tables say all along: classes, array classes, links among nest mates -/
abbrev zc_tys (G : zc_G) : List (ClassId × FieldType) := [(G.2 0, .int), (G.2 1, .long), (G.2 2, .boolean), (G.2 3, .object RX1)]
def zc_N (U : State) : Prop := va_Nw (.methodLinkNest RX2 9 yX1_init RX2) U ∧ va_Nw (.methodLinkNest RX1 68 yX0_init RX2) U ∧ va_Nw (.methodLinkNest RX1 92 yX2_isSpan RX2) U ∧ va_Nw (.methodLinkNest RX0 65 yX2_weekdayOf RX2) U ∧ va_Nw (.methodLinkNest RX0 73 yX2_hourOf RX2) U ∧ va_Nw (.methodLinkNest RX0 76 yX2_minuteOf RX2) U ∧ va_Nw (.methodLinkNest RX1 108 yX2_spanOf RX2) U ∧ va_Nw (.methodLinkNest RX1 111 yX2_heldBetween RX2) U ∧ va_AO RX1 U
def zc_K (G : zc_G) (U : State) : Prop := va_K G.1 vwCl (zc_tys G) U ∧ zc_N U
theorem zc_N.warm {s U : State} (hW : s.WarmedH U.vm) (h : zc_N s) : zc_N U := by
  obtain ⟨h1, h2, h3, h4, h5, h6, h7, h8, h9⟩ := h
  exact ⟨h1.warmM hW, h2.warmM hW, h3.warmM hW, h4.warmM hW, h5.warmM hW, h6.warmM hW, h7.warmM hW, h8.warmM hW, h9.moved hW.alike⟩
theorem zc_K.warm {G : zc_G} {s U : State} (hW : s.WarmedH U.vm) (h : zc_K G s) : zc_K G U := ⟨va_K.moved hW.alike h.1, h.2.warm hW⟩
theorem zc_N.call {U : State} (g : JFrame) (mk : MethodId) (a : Array Value) (h : zc_N U) : zc_N (U.calling g mk a) := by
  obtain ⟨h1, h2, h3, h4, h5, h6, h7, h8, h9⟩ := h
  exact ⟨h1.same rfl rfl, h2.same rfl rfl, h3.same rfl rfl, h4.same rfl rfl, h5.same rfl rfl, h6.same rfl rfl, h7.same rfl rfl, h8.same rfl rfl, h9.moved (Vm.Alike.refl U.vm)⟩
theorem zc_K.call {G : zc_G} {U : State} (g : JFrame) (mk : MethodId) (a : Array Value) (h : zc_K G U) : zc_K G (U.calling g mk a) := ⟨va_K.moved (u := U) (U := U.calling g mk a) (Vm.Alike.refl U.vm) h.1, h.2.call g mk a⟩
/-! starts and ends of contracts -/
def zc_Pp (G : zc_G) (av : List Value) (ws : va_W) : Array Value → State → Prop := va_Pc av (fun U => va_P G.1 vwCl ws U.heap ∧ zc_K G U)
def zc_Pm (G : zc_G) (av : List Value) (ws : va_W) (sz : Nat) : Array Value → State → Prop := va_Pc av (fun U => U.heap.size = sz ∧ va_P G.1 vwCl ws U.heap ∧ zc_K G U ∧ va_D (fun _ => True) ws)
abbrev zc_Qi (G : zc_G) (r : Int32) (w1 : va_W) (A : Nat → Prop) := va_Qi (fun (r' : Int32) (_ : Unit) => r' = r) (fun _ t => va_P G.1 vwCl w1 t.heap) A
abbrev zc_Ql (G : zc_G) (r : Int64) (w1 : va_W) (A : Nat → Prop) := va_Ql (fun (r' : Int64) (_ : Unit) => r' = r) (fun _ t => va_P G.1 vwCl w1 t.heap) A
abbrev zc_Qv (G : zc_G) (w1 : va_W) (A : Nat → Prop) := va_Qv (fun (_ : Unit) => True) (fun _ t => va_P G.1 vwCl w1 t.heap) A
theorem zc_blindP {G : zc_G} {av : List Value} {ws : va_W} : FrameBlind (zc_Pp G av ws) := fun a U g mk q => ⟨q.1, q.2.1, q.2.2.call g mk a⟩
theorem zc_blindM {G : zc_G} {av : List Value} {ws : va_W} {sz : Nat} : FrameBlind (zc_Pm G av ws sz) := fun a U g mk q => ⟨q.1, q.2.1, q.2.2.1, q.2.2.2.1.call g mk a, q.2.2.2.2⟩
theorem zc_preS {G : zc_G} {s : State} {H : Heap} {As : List Value} {ws : va_W} (hK : zc_K G s) (hP : va_P G.1 vwCl ws H) : PreS s H (zc_Pp G As ws) As := ⟨zc_blindP, fun U hU hW => ⟨rfl, by rw [hU]; exact hP, hK.warm hW⟩⟩
theorem zc_preV {G : zc_G} {s : State} {H : Heap} {As : List Value} {ws : va_W} {b : Nat} (hK : zc_K G s) (hP : va_P G.1 vwCl ws H) (q0 : Nat) {ci : Nat} {C : vw_C} {fs : List Value} (he : ws[q0]? = some (b, .inr (ci, fs))) (hc : vwCl[ci]? = some C) : PreV s H C.1 b (zc_Pp G (.ref b :: As) ws) As :=
  ⟨zc_blindP, va_recv hK.1 hP hc he, fun U hU hW => ⟨rfl, by rw [hU]; exact hP, hK.warm hW⟩⟩
theorem zc_preSm {G : zc_G} {s : State} {H : Heap} {As : List Value} {ws : va_W} {A : Nat → Prop} (hK : zc_K G s) (hP : va_P G.1 vwCl ws H) (hD : va_D A ws) : PreS s H (zc_Pm G As ws H.size) As := ⟨zc_blindM, fun U hU hW => ⟨rfl, by rw [hU], by rw [hU]; exact hP, hK.warm hW, hD.weaken (fun _ _ _ _ => trivial)⟩⟩
theorem zc_preVm {G : zc_G} {s : State} {H : Heap} {As : List Value} {ws : va_W} {b : Nat} {A : Nat → Prop} (hK : zc_K G s) (hP : va_P G.1 vwCl ws H) (hD : va_D A ws) (q0 : Nat) {ci : Nat} {C : vw_C} {fs : List Value} (he : ws[q0]? = some (b, .inr (ci, fs))) (hc : vwCl[ci]? = some C) : PreV s H C.1 b (zc_Pm G (.ref b :: As) ws H.size) As :=
  ⟨zc_blindM, va_recv hK.1 hP hc he, fun U hU hW => ⟨rfl, by rw [hU], by rw [hU]; exact hP, hK.warm hW, hD.weaken (fun _ _ _ _ => trivial)⟩⟩
theorem zc_hp {D : va_G} {cl : List vw_C} {ws : va_W} {t : State} {H : Heap} (ht : t.heap = H) (hP : va_P D cl ws H) : va_P D cl ws t.heap := by rw [ht]; exact hP
/-! a world's addresses alone say that it is apart -/
theorem zc_Ds {A : Nat → Prop} {w w1 : va_W} (h : va_D A w) (e : w1.map Prod.fst = w.map Prod.fst) : va_D A w1 := by
  have key : ∀ (i : Nat) (p : Nat × va_E), w1[i]? = some p → ∃ q, w[i]? = some q ∧ q.1 = p.1 := by
    intro i p hp
    have h1 : (w1.map Prod.fst)[i]? = some p.1 := by rw [List.getElem?_map, hp]; rfl
    rw [e, List.getElem?_map] at h1
    cases hq : w[i]? with
    | none => rw [hq] at h1; cases h1
    | some q => rw [hq] at h1; exact ⟨q, rfl, Option.some.inj h1⟩
  refine ⟨fun i j p q hi hj hpq => ?_, fun k q hk => ?_⟩
  · obtain ⟨p', hp', e1⟩ := key i p hi
    obtain ⟨q', hq', e2⟩ := key j q hj
    exact h.1 i j p' q' hp' hq' (by rw [e1, e2, hpq])
  · obtain ⟨q', hq', e2⟩ := key k q hk
    rw [← e2]; exact h.2 k q' hq'
/-! partial values: how a function that a method stands for is taken apart along a walk -/
def zc_let {α β : Type} (a : α) (f : α → β) : β := f a
def zc_in {α : Type} (i : Int32) (n : Nat) (o : Option α) : Option α := if i < 0 ∨ n ≤ i.toNatClampNeg then none else o
def zc_nz {α : Type} (y : Int32) (o : Option α) : Option α := if y = 0 then none else o
def zc_nzL {α : Type} (y : Int64) (o : Option α) : Option α := if y = 0 then none else o
def zc_z {α : Type} (x : Int32) (o : Option α) : Option α := if x = 0 ∨ x = 1 then o else none
theorem zc_pos {α : Type} {c : Prop} {d : Decidable c} {a b r : α} (h : c) (hF : @ite α c d a b = r) : a = r := by rw [if_pos h] at hF; exact hF
theorem zc_neg {α : Type} {c : Prop} {d : Decidable c} {a b r : α} (h : ¬ c) (hF : @ite α c d a b = r) : b = r := by rw [if_neg h] at hF; exact hF
theorem zc_bind {α β : Type} {o : Option α} {f : α → Option β} {r : β} (h : o.bind f = some r) : ∃ x, o = some x ∧ f x = some r := by
  cases o with
  | none => cases h
  | some x => exact ⟨x, rfl, h⟩
theorem zc_letE {α β : Type} {a x : α} {f : α → β} {r : β} (e : x = a) (h : zc_let a f = r) : f x = r := by rw [e]; exact h
theorem zc_letX {α β : Type} {a : α} {f : α → β} {r : β} (h : zc_let a f = r) : ∃ x, x = a ∧ f x = r := ⟨a, rfl, h⟩
theorem zc_inE {α : Type} {i : Int32} {n : Nat} {o : Option α} {r : α} (h : zc_in i n o = some r) : vp_in i n ∧ o = some r := by
  unfold zc_in at h
  by_cases c : i < 0 ∨ n ≤ i.toNatClampNeg
  · rw [if_pos c] at h; cases h
  · rw [if_neg c] at h; exact ⟨c, h⟩
theorem zc_nzE {α : Type} {y : Int32} {o : Option α} {r : α} (h : zc_nz y o = some r) : ¬ y = 0 ∧ o = some r := by
  unfold zc_nz at h
  by_cases c : y = 0
  · rw [if_pos c] at h; cases h
  · rw [if_neg c] at h; exact ⟨c, h⟩
theorem zc_nzLE {α : Type} {y : Int64} {o : Option α} {r : α} (h : zc_nzL y o = some r) : ¬ y = 0 ∧ o = some r := by
  unfold zc_nzL at h
  by_cases c : y = 0
  · rw [if_pos c] at h; cases h
  · rw [if_neg c] at h; exact ⟨c, h⟩
theorem zc_zE {α : Type} {x : Int32} {o : Option α} {r : α} (h : zc_z x o = some r) : (narrow .boolean (.int x) = .int x ∧ fits .boolean (.int x) = true) ∧ o = some r := by
  unfold zc_z at h
  by_cases c : x = 0 ∨ x = 1
  · rw [if_pos c] at h; rcases c with rfl | rfl <;> exact ⟨⟨by decide, by decide⟩, h⟩
  · rw [if_neg c] at h; cases h
theorem zc_vin {i : Int32} {n : Nat} (h : (decide (i < 0) || decide (n ≤ i.toNatClampNeg)) = false) : vp_in i n := by
  intro c
  rcases c with c | c <;> simp [c] at h
section ZC
variable {p : Program} {l : Launch} {e : Env} {R : Room} {s : State} {m : MethodId} {args : Array Value} {below : List Frame} {meth : Method} {c : Code} {H : Heap} {locs : List Loc} {cells slots : Nat} {Q : State → Prop} {cc : ByteArray} {pc : Nat} {ls : Array Slot} {rest : List Value} {D : va_G} {cl : List vw_C} {tys : List (ClassId × FieldType)} {ws : va_W} {A : Nat → Prop} {H0 : Heap} {a : Nat} {ar : Array Value} {st0 : List Value} {mc ms : Nat} {A0 : Nat → Prop}
theorem zc_ci {r0 : Int32} (hr : va_Run p l e R s m args below meth c H locs cells slots 0 0 (F0 m pc ls st0) rest (vp_Si (fun r => r = r0) ar) (fun _ => False)) (kk : W p l e R s m args below meth c H locs cells slots Q (F0 m (pc + 3) ls (.int r0 :: rest))) : W p l e R s m args below meth c H locs cells slots Q (F0 m pc ls st0) :=
  vp_callSi hr.run (fun r er => by rw [er]; exact kk)
theorem zc_cl {r0 : Int64} (hr : va_Run p l e R s m args below meth c H locs cells slots 0 0 (F0 m pc ls st0) rest (vp_Sl (fun r => r = r0) ar) (fun _ => False)) (kk : W p l e R s m args below meth c H locs cells slots Q (F0 m (pc + 3) ls (.long r0 :: rest))) : W p l e R s m args below meth c H locs cells slots Q (F0 m pc ls st0) :=
  vp_callSl hr.run (fun r er => by rw [er]; exact kk)
theorem zc_iald (hexec : p.tables.exec = Jvm.exec) (hb : c.code = cc) (hK : va_K D cl tys s) (hP : va_P D cl ws H) (q0 t0 : Nat) {cA : ClassId} {n : Nat} {f : Nat → Int32} (ha : ws[q0]? = some (a, .inl (cA, n, .inl f))) (ht : tys[t0]? = some (cA, .int)) {i : Int32} {j : Nat} (hin : vp_in i n) (hj : i.toNatClampNeg = j) (hdg : decode cc pc = .ok (.iaload, 1)) (kk : W p l e R s m args below meth c H locs cells slots Q (F0 m (pc + 1) ls (.int (f j) :: rest))) : W p l e R s m args below meth c H locs cells slots Q (F0 m pc ls (.int i :: .ref a :: rest)) := by
  subst hj; exact va_iald hexec hb hK hP q0 t0 ha ht hin hdg kk
theorem zc_zald (hexec : p.tables.exec = Jvm.exec) (hb : c.code = cc) (hK : va_K D cl tys s) (hP : va_P D cl ws H) (q0 t0 : Nat) {cA : ClassId} {n : Nat} {f : Nat → Int32} (ha : ws[q0]? = some (a, .inl (cA, n, .inl f))) (ht : tys[t0]? = some (cA, .boolean)) {i : Int32} {j : Nat} (hin : vp_in i n) (hj : i.toNatClampNeg = j) (hdg : decode cc pc = .ok (.baload, 1)) (kk : W p l e R s m args below meth c H locs cells slots Q (F0 m (pc + 1) ls (.int (f j) :: rest))) : W p l e R s m args below meth c H locs cells slots Q (F0 m pc ls (.int i :: .ref a :: rest)) := by
  subst hj; exact va_zald hexec hb hK hP q0 t0 ha ht hin hdg kk
theorem zc_lald (hexec : p.tables.exec = Jvm.exec) (hb : c.code = cc) (hK : va_K D cl tys s) (hP : va_P D cl ws H) (q0 t0 : Nat) {cA : ClassId} {n : Nat} {f : Nat → Int64} (ha : ws[q0]? = some (a, .inl (cA, n, .inr (.inl f)))) (ht : tys[t0]? = some (cA, .long)) {i : Int32} {j : Nat} (hin : vp_in i n) (hj : i.toNatClampNeg = j) (hdg : decode cc pc = .ok (.laload, 1)) (kk : W p l e R s m args below meth c H locs cells slots Q (F0 m (pc + 1) ls (.long (f j) :: rest))) : W p l e R s m args below meth c H locs cells slots Q (F0 m pc ls (.int i :: .ref a :: rest)) := by
  subst hj; exact va_lald hexec hb hK hP q0 t0 ha ht hin hdg kk
theorem zc_iast (hexec : p.tables.exec = Jvm.exec) (hb : c.code = cc) (hK : va_K D cl tys s) (hP : va_P D cl ws H) (hD : va_D A ws) (hS : va_S A H0 H locs) (q0 t0 : Nat) {cA : ClassId} {n : Nat} {f : Nat → Int32} (ha : ws[q0]? = some (a, .inl (cA, n, .inl f))) (ht : tys[t0]? = some (cA, .int)) {i : Int32} {x : Int32} {j : Nat} (hin : vp_in i n) (hj : i.toNatClampNeg = j) (hdg : decode cc pc = .ok (.iastore, 1))
    (kk : ∀ (H1 : Heap) (locs1 : List Loc), va_P D cl (ws.set q0 (a, .inl (cA, n, .inl (upd f j x)))) H1 → va_S A H0 H1 locs1 → W p l e R s m args below meth c H1 locs1 cells slots Q (F0 m (pc + 1) ls rest)) : W p l e R s m args below meth c H locs cells slots Q (F0 m pc ls (.int x :: .int i :: .ref a :: rest)) := by
  subst hj; exact va_iast hexec hb hK hP hD hS q0 t0 ha ht hin hdg (fun H1 l1 h1 _ h3 => kk H1 l1 h1 h3)
theorem zc_zast (hexec : p.tables.exec = Jvm.exec) (hb : c.code = cc) (hK : va_K D cl tys s) (hP : va_P D cl ws H) (hD : va_D A ws) (hS : va_S A H0 H locs) (q0 t0 : Nat) {cA : ClassId} {n : Nat} {f : Nat → Int32} (ha : ws[q0]? = some (a, .inl (cA, n, .inl f))) (ht : tys[t0]? = some (cA, .boolean)) {i : Int32} {x x1 : Int32} {j : Nat} (hin : vp_in i n) (hj : i.toNatClampNeg = j) (hx1 : vp_nar .boolean x = x1) (hdg : decode cc pc = .ok (.bastore, 1))
    (kk : ∀ (H1 : Heap) (locs1 : List Loc), va_P D cl (ws.set q0 (a, .inl (cA, n, .inl (upd f j x1)))) H1 → va_S A H0 H1 locs1 → W p l e R s m args below meth c H1 locs1 cells slots Q (F0 m (pc + 1) ls rest)) : W p l e R s m args below meth c H locs cells slots Q (F0 m pc ls (.int x :: .int i :: .ref a :: rest)) := by
  subst hj; subst hx1; exact va_zast hexec hb hK hP hD hS q0 t0 ha ht hin hdg (fun H1 l1 h1 _ h3 => kk H1 l1 h1 h3)
theorem zc_last (hexec : p.tables.exec = Jvm.exec) (hb : c.code = cc) (hK : va_K D cl tys s) (hP : va_P D cl ws H) (hD : va_D A ws) (hS : va_S A H0 H locs) (q0 t0 : Nat) {cA : ClassId} {n : Nat} {f : Nat → Int64} (ha : ws[q0]? = some (a, .inl (cA, n, .inr (.inl f)))) (ht : tys[t0]? = some (cA, .long)) {i : Int32} {x : Int64} {j : Nat} (hin : vp_in i n) (hj : i.toNatClampNeg = j) (hdg : decode cc pc = .ok (.lastore, 1))
    (kk : ∀ (H1 : Heap) (locs1 : List Loc), va_P D cl (ws.set q0 (a, .inl (cA, n, .inr (.inl (vp_updL f j x))))) H1 → va_S A H0 H1 locs1 → W p l e R s m args below meth c H1 locs1 cells slots Q (F0 m (pc + 1) ls rest)) : W p l e R s m args below meth c H locs cells slots Q (F0 m pc ls (.long x :: .int i :: .ref a :: rest)) := by
  subst hj; exact va_last hexec hb hK hP hD hS q0 t0 ha ht hin hdg (fun H1 l1 h1 _ h3 => kk H1 l1 h1 h3)
/-! a call that changes cells: the callee's cells, the rest, and (where there is one) the pool behind them -/
theorem zc_after {X wc wr w1 pl : va_W} {H1 : Heap} (hP : va_P D cl (X ++ pl) H) (hD : va_D A0 (X ++ pl)) (hS : va_S A0 H0 H locs) (hA : ∀ q, H0.size ≤ q → A0 q) (isC isR : List Nat) (hC : isC.map (fun i => X[i]?) = wc.map some) (hnC : va_nd isC = true) (hR : isR.map (fun i => X[i]?) = wr.map some) (hn : va_nd isR = true) (hdis : ∀ i ∈ isR, i ∉ isC) (hw : w1.map Prod.fst = wc.map Prod.fst)
    (hk : ∀ q : Nat, q < H.size → ¬ va_A wc H.size q → H1[q]? = H[q]?) (hP1 : va_P D cl w1 H1) : va_P D cl ((wr ++ w1) ++ pl) H1 ∧ va_D A0 ((wr ++ w1) ++ pl) := by
  have hDx : va_D A0 X := hD.by (fun k => k) (fun k q hk => by
    have := (List.getElem?_eq_some_iff.mp hk).1
    rw [List.getElem?_append_left this]; exact hk) (fun i j _ _ h => h)
  have hDc : va_D A0 wc := hDx.sub isC hnC hC
  have hF : ∀ q, va_A wc H.size q → A0 q := by
    rintro q (⟨k, e', hq⟩ | hq)
    · exact hDc.2 k (q, e') hq
    · exact hA q (Nat.le_trans hS.1 hq)
  exact va_joinQ hP hD isC isR hC hR hn hdis hk hF hP1 (zc_Ds hDc.self hw)
theorem zc_freeC {X wc pl : va_W} (hD : va_D A0 (X ++ pl)) (hS : va_S A0 H0 H locs) (hA : ∀ q, H0.size ≤ q → A0 q) (isC : List Nat) (hC : isC.map (fun i => X[i]?) = wc.map some) : ∀ q, va_A wc H.size q → A0 q := by
  have hDx : va_D A0 X := hD.by (fun k => k) (fun k q hk => by
    have := (List.getElem?_eq_some_iff.mp hk).1
    rw [List.getElem?_append_left this]; exact hk) (fun i j _ _ h => h)
  exact va_free hDx hS hA isC hC
theorem zc_mi {G : zc_G} {X wc wr w1 pl : va_W} {r0 : Int32} (hP : va_P G.1 vwCl (X ++ pl) H) (hD : va_D A0 (X ++ pl)) (hS : va_S A0 H0 H locs) (hA : ∀ q, H0.size ≤ q → A0 q) (isC isR : List Nat) (hC : isC.map (fun i => X[i]?) = wc.map some) (hnC : va_nd isC = true) (hR : isR.map (fun i => X[i]?) = wr.map some) (hn : va_nd isR = true) (hdis : ∀ i ∈ isR, i ∉ isC) (hw : w1.map Prod.fst = wc.map Prod.fst)
    (hr : va_Run p l e R s m args below meth c H locs cells slots 0 0 (F0 m pc ls st0) rest (zc_Qi G r0 w1 (va_A wc H.size) ar) (va_A wc H.size))
    (kk : ∀ (H1 : Heap) (locs1 : List Loc), va_P G.1 vwCl ((wr ++ w1) ++ pl) H1 → va_D A0 ((wr ++ w1) ++ pl) → va_S A0 H0 H1 locs1 → W p l e R s m args below meth c H1 locs1 cells slots Q (F0 m (pc + 3) ls (.int r0 :: rest))) : W p l e R s m args below meth c H locs cells slots Q (F0 m pc ls st0) := by
  have hF := zc_freeC hD hS hA isC hC
  refine va_calli hr hS (fun q _ h => hF q h) hF (fun r u t H1 locs1 ht hvm hw1 hB hz1 hk1 hS1 => ?_)
  have hw1 : r = r0 := hw1
  subst hw1
  have hB : va_P G.1 vwCl w1 t.heap := hB
  rw [ht] at hB
  obtain ⟨h1, h2⟩ := zc_after hP hD hS hA isC isR hC hnC hR hn hdis hw hk1 hB
  exact kk H1 locs1 h1 h2 hS1
theorem zc_ml {G : zc_G} {X wc wr w1 pl : va_W} {r0 : Int64} (hP : va_P G.1 vwCl (X ++ pl) H) (hD : va_D A0 (X ++ pl)) (hS : va_S A0 H0 H locs) (hA : ∀ q, H0.size ≤ q → A0 q) (isC isR : List Nat) (hC : isC.map (fun i => X[i]?) = wc.map some) (hnC : va_nd isC = true) (hR : isR.map (fun i => X[i]?) = wr.map some) (hn : va_nd isR = true) (hdis : ∀ i ∈ isR, i ∉ isC) (hw : w1.map Prod.fst = wc.map Prod.fst)
    (hr : va_Run p l e R s m args below meth c H locs cells slots 0 0 (F0 m pc ls st0) rest (zc_Ql G r0 w1 (va_A wc H.size) ar) (va_A wc H.size))
    (kk : ∀ (H1 : Heap) (locs1 : List Loc), va_P G.1 vwCl ((wr ++ w1) ++ pl) H1 → va_D A0 ((wr ++ w1) ++ pl) → va_S A0 H0 H1 locs1 → W p l e R s m args below meth c H1 locs1 cells slots Q (F0 m (pc + 3) ls (.long r0 :: rest))) : W p l e R s m args below meth c H locs cells slots Q (F0 m pc ls st0) := by
  have hF := zc_freeC hD hS hA isC hC
  refine va_calll hr hS (fun q _ h => hF q h) hF (fun r u t H1 locs1 ht hvm hw1 hB hz1 hk1 hS1 => ?_)
  have hw1 : r = r0 := hw1
  subst hw1
  have hB : va_P G.1 vwCl w1 t.heap := hB
  rw [ht] at hB
  obtain ⟨h1, h2⟩ := zc_after hP hD hS hA isC isR hC hnC hR hn hdis hw hk1 hB
  exact kk H1 locs1 h1 h2 hS1
theorem zc_mv {G : zc_G} {X wc wr w1 pl : va_W} (hP : va_P G.1 vwCl (X ++ pl) H) (hD : va_D A0 (X ++ pl)) (hS : va_S A0 H0 H locs) (hA : ∀ q, H0.size ≤ q → A0 q) (isC isR : List Nat) (hC : isC.map (fun i => X[i]?) = wc.map some) (hnC : va_nd isC = true) (hR : isR.map (fun i => X[i]?) = wr.map some) (hn : va_nd isR = true) (hdis : ∀ i ∈ isR, i ∉ isC) (hw : w1.map Prod.fst = wc.map Prod.fst)
    (hr : va_Run p l e R s m args below meth c H locs cells slots 0 0 (F0 m pc ls st0) rest (zc_Qv G w1 (va_A wc H.size) ar) (va_A wc H.size))
    (kk : ∀ (H1 : Heap) (locs1 : List Loc), va_P G.1 vwCl ((wr ++ w1) ++ pl) H1 → va_D A0 ((wr ++ w1) ++ pl) → va_S A0 H0 H1 locs1 → W p l e R s m args below meth c H1 locs1 cells slots Q (F0 m (pc + 3) ls rest)) : W p l e R s m args below meth c H locs cells slots Q (F0 m pc ls st0) := by
  have hF := zc_freeC hD hS hA isC hC
  refine va_callv hr hS (fun q _ h => hF q h) hF (fun u t H1 locs1 ht hvm hw1 hB hz1 hk1 hS1 => ?_)
  have hB : va_P G.1 vwCl w1 t.heap := hB
  rw [ht] at hB
  obtain ⟨h1, h2⟩ := zc_after hP hD hS hA isC isR hC hnC hR hn hdis hw hk1 hB
  exact kk H1 locs1 h1 h2 hS1
end ZC
