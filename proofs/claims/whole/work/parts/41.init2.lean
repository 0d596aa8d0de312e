/-! the clock's constructor -/
def zc_b0 : zc_B := ((fun _ => 0), (fun _ _ => 0), zc_s0, fun _ => zc_s0)
abbrev zc_ix (G : zc_G) (h0 : Nat) (na : Nat → Nat) (q1 q2 q3 q4 q5 : Nat) (f g : Nat → Option Nat) : va_W := [(h0, .inr (2, [.ref (na 0), .int 0, .ref q1, .int 0, .int 0, .ref q2, .ref q3, .ref q4, .ref q5, .int 0])), (q1, .inl (G.2 3, 20, .inr (.inr (.inr (.inr f))))), (q2, .inl (G.2 3, 2, .inr (.inr (.inr (.inr g))))), (q3, .inl (G.2 0, 2, .inl (fun _ => 0))), (q4, .inl (G.2 2, 2, .inl (fun _ => 0))), (q5, .inl (G.2 0, 20, .inl (fun _ => 0)))] ++ zc_st G na zc_s0
def zc_pl (G : zc_G) (pa : Nat → Nat → Nat) (n : Nat) : va_W := (List.range n).flatMap (fun k => zc_st G (pa k) zc_s0)
theorem zc_pl_succ (G : zc_G) (pa : Nat → Nat → Nat) (n : Nat) (ad : Nat → Nat) : zc_pl G pa n ++ zc_st G ad zc_s0 = zc_pl G (va_up pa n ad) (n + 1) := by
  unfold zc_pl
  rw [List.range_succ, List.flatMap_append]
  have e1 : (List.range n).flatMap (fun k => zc_st G (va_up pa n ad k) zc_s0) = (List.range n).flatMap (fun k => zc_st G (pa k) zc_s0) := by
    rw [List.flatMap_def, List.flatMap_def]
    congr 1
    apply List.map_congr_left
    intro k hk
    rw [va_up_ne _ _ (Nat.ne_of_lt (List.mem_range.mp hk))]
  have e2 : [n].flatMap (fun k => zc_st G (va_up pa n ad k) zc_s0) = zc_st G ad zc_s0 := by
    rw [List.flatMap_singleton, va_up_self]
  rw [e1, e2]
theorem zc_last1 {D : va_G} {cl : List vw_C} {ws : va_W} {q : Nat × va_E} {H : Heap} (hP : va_P D cl (ws ++ [q]) H) : va_P D cl [q] H := zc_P_of (fun _ h => zc_P_at hP (List.mem_append_right _ h))
theorem zc_last1D {A : Nat → Prop} {ws : va_W} {q : Nat × va_E} (hD : va_D A (ws ++ [q])) : va_D A [q] := by
  refine zc_D_of (List.pairwise_singleton _ _) (fun x hx => ?_)
  obtain ⟨i, hi⟩ := List.getElem?_of_mem (List.mem_append_right ws hx)
  exact hD.2 i x hi
theorem zc_free1 {A : Nat → Prop} {ws : va_W} {q : Nat × va_E} {H0 H : Heap} {locs : List Loc} (hD : va_D A (ws ++ [q])) (hS : va_S A H0 H locs) (hA : ∀ x, H0.size ≤ x → A x) : ∀ x, va_A [q] H.size x → A x := by
  rintro x (⟨k, e', hx⟩ | hx)
  · exact (zc_last1D hD).2 k _ hx
  · exact hA x (Nat.le_trans hS.1 hx)
/-- behind a new cell that its constructor has made into cells of its own -/
theorem zc_grow {D : va_G} {cl : List vw_C} {A : Nat → Prop} {ws w1 : va_W} {q : Nat × va_E} {H H1 : Heap} (hP : va_P D cl (ws ++ [q]) H) (hD : va_D A (ws ++ [q])) (hF : ∀ x, va_A [q] H.size x → A x) (hk : ∀ x : Nat, x < H.size → ¬ va_A [q] H.size x → H1[x]? = H[x]?) (hP1 : va_P D cl w1 H1) (hD1 : va_D (va_A [q] H.size) w1) : va_P D cl (ws ++ w1) H1 ∧ va_D A (ws ++ w1) := by
  have hN := zc_nodup hD
  rw [List.map_append, List.pairwise_append] at hN
  obtain ⟨n1, -, n3⟩ := hN
  have hne : ∀ x ∈ ws, x.1 ≠ q.1 := fun x hx => n3 _ (zc_fst hx) _ (zc_fst List.mem_cons_self)
  refine ⟨zc_repl hP hP1 hk (fun x hx => ?_), ?_⟩
  · rcases List.mem_append.mp hx with h | h
    · refine Or.inr ⟨List.mem_append_left _ h, fun hm => ?_⟩
      rcases List.mem_map.mp hm with ⟨y, hy, e'⟩
      rw [List.mem_singleton.mp hy] at e'
      exact hne x h e'.symm
    · exact Or.inl h
  · refine zc_D_of ?_ (fun x hx => ?_)
    · rw [List.map_append, List.pairwise_append]
      refine ⟨n1, zc_nodup hD1, fun a ha b hb e' => ?_⟩
      obtain ⟨x, hx, rfl⟩ := List.mem_map.mp ha
      obtain ⟨y, hy, rfl⟩ := List.mem_map.mp hb
      obtain ⟨i, hi⟩ := List.getElem?_of_mem hy
      rcases hD1.2 i y hi with ⟨k, e2, hk2⟩ | hsz
      · have := List.mem_singleton.mp (List.mem_of_getElem? hk2)
        exact hne x hx (by rw [e', ← this])
      · have := (zc_P_at hP (List.mem_append_left _ hx)).lt
        omega
    · rcases List.mem_append.mp hx with h | h
      · obtain ⟨i, hi⟩ := List.getElem?_of_mem (List.mem_append_left [q] h)
        exact hD.2 i x hi
      · obtain ⟨i, hi⟩ := List.getElem?_of_mem h
        exact hF _ (hD1.2 i x hi)
theorem zc_head (G : zc_G) (ad : Nat → Nat) (v : zc_S) : ∃ vs : List Value, ((ad 0, .inr (1, vs)) : Nat × va_E) ∈ zc_st G ad v := ⟨_, List.mem_cons_self⟩
theorem zc_cellq {D : va_G} {cl : List vw_C} {a n : Nat} {c : ClassId} {f g : Nat → Option Nat} {H : Heap} (h : va_at D cl (a, .inl (c, n, .inr (.inr (.inr (.inr f))))) H) (e : ∀ j, j < n → f j = g j) : va_at D cl (a, .inl (c, n, .inr (.inr (.inr (.inr g))))) H := by
  have h1 : H[a]? = some (arrV c n (fun j => va_rf (f j))) := h
  show H[a]? = some (arrV c n (fun j => va_rf (g j)))
  rw [h1]
  congr 1
  unfold arrV
  congr 1
  congr 1
  funext j
  show va_rf (f j.1) = va_rf (g j.1)
  rw [e j.1 j.2]
theorem zc_upf {pa : Nat → Nat → Nat} {f : Nat → Option Nat} {i : Nat} {ad : Nat → Nat} (hf : ∀ k, k < i → f k = some (pa k 0)) : ∀ k, k < i + 1 → va_up f i (some (ad 0)) k = some (va_up pa i ad k 0) := by
  intro k hk
  by_cases hki : k = i
  · subst hki; rw [va_up_self, va_up_self]
  · rw [va_up_ne _ _ hki, va_up_ne _ _ hki]; exact hf k (by omega)
theorem zc_upg1 {pa : Nat → Nat → Nat} {f : Nat → Option Nat} {n : Nat} {ad : Nat → Nat} (hn : 20 ≤ n) (hf : ∀ k, k < 20 → f k = some (pa k 0)) : ∀ k, k < 20 → f k = some (va_up pa n ad k 0) := by
  intro k hk
  rw [va_up_ne _ _ (by omega)]
  exact hf k hk
theorem zc_upg2 {pa : Nat → Nat → Nat} {g : Nat → Option Nat} {i : Nat} {ad : Nat → Nat} (hg : ∀ k, k < i → g k = some (pa (k + 20) 0)) : ∀ k, k < i + 1 → va_up g i (some (ad 0)) k = some (va_up pa (20 + i) ad (k + 20) 0) := by
  intro k hk
  by_cases hki : k = i
  · subst hki
    rw [va_up_self, Nat.add_comm k 20, va_up_self]
  · rw [va_up_ne _ _ hki, va_up_ne _ _ (by omega)]; exact hg k (by omega)
theorem zc_conv {G : zc_G} {h0 : Nat} {na : Nat → Nat} {q1 q2 q3 q4 q5 : Nat} {f g f' g' : Nat → Option Nat} {pl : va_W} {H : Heap} (hP : va_P G.1 vwCl (zc_ix G h0 na q1 q2 q3 q4 q5 f g ++ pl) H) (hf : ∀ k, k < 20 → f k = f' k) (hg : ∀ k, k < 2 → g k = g' k) : va_P G.1 vwCl (zc_ix G h0 na q1 q2 q3 q4 q5 f' g' ++ pl) H := by
  intro k q hk
  match k, hk with
  | 0, hk => exact hP 0 q hk
  | 1, hk => have e := Option.some.inj hk; subst e; exact zc_cellq (hP 1 _ rfl) hf
  | 2, hk => have e := Option.some.inj hk; subst e; exact zc_cellq (hP 2 _ rfl) hg
  | k + 3, hk => exact hP (k + 3) q hk
theorem iX2_init_X1 : ∀ w ∈ wsX10, w ∈ wsX2_init := fun _ h => List.mem_cons_of_mem _ (List.mem_append_left _ (List.mem_append_left _ (List.mem_append_right _ h)))
theorem iX2_init_X2 : ∀ w ∈ wsX20, w ∈ wsX2_init := fun _ h => List.mem_cons_of_mem _ (List.mem_append_left _ (List.mem_append_right _ h))
set_option maxHeartbeats 8000000 in
set_option maxRecDepth 100000 in
theorem kX2_init (l : Launch) (G : zc_G) (h0 sz : Nat) : Met l yX2_init wsX2_init ({ frames := 3, cells := 166, slots := 1334, locals := 60 }) (zc_Pm G [.ref h0] [(h0, .inr (2, [.null, .int 0, .null, .int 0, .int 0, .null, .null, .null, .null, .int 0]))] sz) (va_Qv (fun u : (Nat → Nat) × (Nat → Nat) × (Nat → Nat → Nat) => u.1 0 = h0) (fun u t => va_P G.1 vwCl (zc_bc G u.1 u.2.1 u.2.2 zc_b0) t.heap ∧ va_D (va_A [(h0, .inr (2, [.null, .int 0, .null, .int 0, .int 0, .null, .null, .null, .null, .int 0]))] sz) (zc_bc G u.1 u.2.1 u.2.2 zc_b0)) (va_A [(h0, .inr (2, [.null, .int 0, .null, .int 0, .int 0, .null, .null, .null, .null, .int 0]))] sz)) 166 1334 (va_A [(h0, .inr (2, [.null, .int 0, .null, .int 0, .int 0, .null, .null, .null, .null, .int 0]))] sz) := by
  refine Met.ofW (cc := cX2_init) (maxL := 2) (ret := none) (by decide) rfl ?_
  intro p e s m args below meth c s₁ B hml hv
  obtain ⟨rfl, hsz, hP, hK, hD0⟩ := hv
  have hx := B.exec
  have hb := B.bytes
  have hr := B.returns
  have hts := atoms_spec (ws := wsX2_init) B.pre
  have hown : s.vm.findClass RX2 = some m.cls := findClass_of_methodNamed B.named
  have hlocks := B.notSynchronized
  have hin : meth.name = "<init>" := (name_of_methodNamed B.named B.method).1
  subst hsz
  have hD := hD0.self (sz := s.heap.size)
  generalize hAe : va_A [(h0, .inr (2, [.null, .int 0, .null, .int 0, .int 0, .null, .null, .null, .null, .int 0]))] s.heap.size = A at hD ⊢
  have hA : ∀ q : Nat, s.heap.size ≤ q → A q := fun q h => by rw [← hAe]; exact Or.inr h
  have hS : va_S A s.heap s.heap [] := va_S.rf
  have hl := lv_entry ([.ref h0]) (n := 2) (Nat.le_of_ble_eq_true rfl)
  rw [lg_entry_eq]
  generalize (lg_sl ([.ref h0]) ++ List.replicate (2 - (lg_sl ([.ref h0])).length) Slot.unset).toArray = ls at hl ⊢
  have hl : lv_has ls 2 [(0, .ref h0)] := hl
  refine lv_aload_n hx hb dX2_init_0 rfl (lv_at hl 0 rfl) ?_
  refine W.objInit hx hb hown (hts (.methodLink RX2 1 objectInit) (List.mem_of_getElem? (i := 1) rfl)) (hts (.instanceMethod objectInit) (List.mem_of_getElem? (i := 2) rfl)) (hts (.code objectInit ⟨#[0xb1]⟩ 1 none) (List.mem_of_getElem? (i := 3) rfl)) rfl (by rw [hml]; exact hl.1) rfl dX2_init_1 (Nat.le_of_ble_eq_true rfl) (Nat.le_of_ble_eq_true rfl) ?_
  refine W.eq (g2 := F0 m 4 ls []) rfl ?_
  refine lv_aload_n hx hb dX2_init_4 rfl (lv_at hl 0 rfl) ?_
  refine va_new (ci := 1) (fs := [.long 0, .long 0, .long 0, .int 0, .int 0, .int 0, .int 0, .int 0, .int 0, .int 0, .int 0, .int 0, .int 0, .int 0, .int 0, .int 0, .null, .null]) (C := RX1) (T := TX1) (N := 18) hx hb hts iX2_init_X1 tyX1 tyX1_ok hown (hts (.classLink RX2 7 RX1) (List.mem_of_getElem? (i := 4) rfl)) (hts (.instantiable RX1 18) (List.mem_of_getElem? (i := 5) rfl)) (hts (.initialized RX1) (List.mem_of_getElem? (i := 6) rfl)) hK.1 hP hD hS hA rfl (fun j hj => by rcases (show j = 0 ∨ j = 1 ∨ j = 2 ∨ j = 3 ∨ j = 4 ∨ j = 5 ∨ j = 6 ∨ j = 7 ∨ j = 8 ∨ j = 9 ∨ j = 10 ∨ j = 11 ∨ j = 12 ∨ j = 13 ∨ j = 14 ∨ j = 15 ∨ j = 16 ∨ j = 17 by omega) with rfl | rfl | rfl | rfl | rfl | rfl | rfl | rfl | rfl | rfl | rfl | rfl | rfl | rfl | rfl | rfl | rfl | rfl <;> rfl) (Nat.le_of_ble_eq_true rfl) (Nat.le_of_ble_eq_true rfl) dX2_init_5 (fun q H hP hD hS => ?_)
  have hP : va_P G.1 vwCl ([(h0, .inr (2, [.null, .int 0, .null, .int 0, .int 0, .null, .null, .null, .null, .int 0]))] ++ [(q, .inr (1, [.long 0, .long 0, .long 0, .int 0, .int 0, .int 0, .int 0, .int 0, .int 0, .int 0, .int 0, .int 0, .int 0, .int 0, .int 0, .int 0, .null, .null]))]) H := hP
  have hD : va_D A ([(h0, .inr (2, [.null, .int 0, .null, .int 0, .int 0, .null, .null, .null, .null, .int 0]))] ++ [(q, .inr (1, [.long 0, .long 0, .long 0, .int 0, .int 0, .int 0, .int 0, .int 0, .int 0, .int 0, .int 0, .int 0, .int 0, .int 0, .int 0, .int 0, .null, .null]))]) := hD
  refine lv_dup hx hb dX2_init_8 rfl ?_
  have hFc := zc_free1 hD hS hA
  refine va_callv (va_runIN (As := []) (rest := [.ref q, .ref h0]) ⟨hx, hb, hml, hown, hts⟩ (kX1_init l G q H.size) ⟨va_cnB 0 hts gX2_init_X1_init_n9 rfl rfl rfl hK.2.1 (hts (.initialized RX1) (List.mem_of_getElem? (i := 6) rfl)) (by decide +kernel) ⟨(Nat.le_of_ble_eq_true rfl), (Nat.le_of_ble_eq_true rfl)⟩, rfl, (hts (.instanceMethod yX1_init) (List.mem_of_getElem? (i := 19) rfl))⟩ (zc_preSm hK (zc_last1 hP) (zc_last1D hD)) rfl rfl hl.1 rfl (lv_room (Nat.le_of_ble_eq_true rfl)) dX2_init_9 ⟨(Nat.le_of_ble_eq_true rfl), (Nat.le_of_ble_eq_true rfl)⟩) hS (fun q _ h => hFc q h) hFc (fun na t H1 locs ht hvm hw hB hz1 hk1 hS => ?_)
  obtain ⟨hP1, hD1⟩ := hB
  rw [ht] at hP1
  have hw : na 0 = q := hw
  obtain ⟨hP, hD⟩ := zc_grow hP hD hFc hk1 hP1 hD1
  generalize H1 = H at hP hS ⊢
  rw [← hw]
  have hP : va_P G.1 vwCl ([(h0, .inr (2, [.null, .int 0, .null, .int 0, .int 0, .null, .null, .null, .null, .int 0]))] ++ zc_st G na zc_s0) H := hP
  have hD : va_D A ([(h0, .inr (2, [.null, .int 0, .null, .int 0, .int 0, .null, .null, .null, .null, .int 0]))] ++ zc_st G na zc_s0) := hD
  refine va_putF (D := G.1) (ci := 2) (v := .ref (na 0)) (ty := .object "BoardClock$State") (C := RX2) (T := TX2) (N := 10) hx hb hts iX2_init_X2 tyX2 tyX2_ok nmX2 hown hK.1 hP hD hS 0 rfl rfl 0 (by decide) (hts (.fieldLink RX2 10 "BoardClock" "now" "LBoardClock$State;") (List.mem_of_getElem? (i := 7) rfl)) (fun _ h9 => h9) rfl hin rfl (by decide +kernel) rfl rfl (Nat.le_of_ble_eq_true rfl) dX2_init_12 (fun H locs hP hD hS => ?_)
  have hP : va_P G.1 vwCl ([(h0, .inr (2, [.ref (na 0), .int 0, .null, .int 0, .int 0, .null, .null, .null, .null, .int 0]))] ++ zc_st G na zc_s0) H := hP
  have hD : va_D A ([(h0, .inr (2, [.ref (na 0), .int 0, .null, .int 0, .int 0, .null, .null, .null, .null, .int 0]))] ++ zc_st G na zc_s0) := hD
  refine lv_aload_n hx hb dX2_init_15 rfl (lv_at hl 0 rfl) ?_
  refine lv_iconst (v := (0 : Int32)) hx hb dX2_init_16 (by decide) ?_
  refine va_put (D := G.1) (ci := 2) (v := .int 0) (ty := .int) (C := RX2) (T := TX2) (N := 10) hx hb hts iX2_init_X2 tyX2 tyX2_ok nmX2 hown hK.1 hP hD hS 0 rfl rfl 1 (by decide) (hts (.fieldLink RX2 16 "BoardClock" "theSeed" "I") (List.mem_of_getElem? (i := 8) rfl)) (fun _ h9 => h9) rfl (by decide +kernel) rfl rfl (Nat.le_of_ble_eq_true rfl) dX2_init_17 (fun H locs hP hD hS => ?_)
  have hP : va_P G.1 vwCl ([(h0, .inr (2, [.ref (na 0), .int 0, .null, .int 0, .int 0, .null, .null, .null, .null, .int 0]))] ++ zc_st G na zc_s0) H := hP
  have hD : va_D A ([(h0, .inr (2, [.ref (na 0), .int 0, .null, .int 0, .int 0, .null, .null, .null, .null, .int 0]))] ++ zc_st G na zc_s0) := hD
  refine lv_aload_n hx hb dX2_init_20 rfl (lv_at hl 0 rfl) ?_
  refine lv_bipush (v := (20 : Int32)) hx hb dX2_init_21 (by decide) ?_
  refine va_newq (N' := 20) hx hb hown (hts (.classLink RX2 7 RX1) (List.mem_of_getElem? (i := 4) rfl)) hK.2.2.2.2.2.2.2.2.2 hK.1 hP hD hS hA (by decide) (by decide) (Nat.le_of_ble_eq_true rfl) (Nat.le_of_ble_eq_true rfl) (Nat.le_of_ble_eq_true rfl) dX2_init_23 (fun q1 cA H hK2 hP hD hS => ?_)
  obtain rfl := zc_sameT hK.1 (i := 3) rfl hK2 (j := 4) rfl
  have hP : va_P G.1 vwCl ([(h0, .inr (2, [.ref (na 0), .int 0, .null, .int 0, .int 0, .null, .null, .null, .null, .int 0]))] ++ zc_st G na zc_s0 ++ [(q1, .inl (G.2 3, 20, .inr (.inr (.inr (.inr (fun _ => none))))))]) H := hP
  have hD : va_D A ([(h0, .inr (2, [.ref (na 0), .int 0, .null, .int 0, .int 0, .null, .null, .null, .null, .int 0]))] ++ zc_st G na zc_s0 ++ [(q1, .inl (G.2 3, 20, .inr (.inr (.inr (.inr (fun _ => none))))))]) := hD
  refine va_putF (D := G.1) (ci := 2) (v := .ref q1) (ty := .array (.object "BoardClock$State")) (C := RX2) (T := TX2) (N := 10) hx hb hts iX2_init_X2 tyX2 tyX2_ok nmX2 hown hK.1 hP hD hS 0 rfl rfl 2 (by decide) (hts (.fieldLink RX2 20 "BoardClock" "past" "[LBoardClock$State;") (List.mem_of_getElem? (i := 9) rfl)) (fun _ h9 => h9) rfl hin rfl (by decide +kernel) rfl rfl (Nat.le_of_ble_eq_true rfl) dX2_init_26 (fun H locs hP hD hS => ?_)
  have hP : va_P G.1 vwCl ([(h0, .inr (2, [.ref (na 0), .int 0, .ref q1, .int 0, .int 0, .null, .null, .null, .null, .int 0]))] ++ zc_st G na zc_s0 ++ [(q1, .inl (G.2 3, 20, .inr (.inr (.inr (.inr (fun _ => none))))))]) H := hP
  have hD : va_D A ([(h0, .inr (2, [.ref (na 0), .int 0, .ref q1, .int 0, .int 0, .null, .null, .null, .null, .int 0]))] ++ zc_st G na zc_s0 ++ [(q1, .inl (G.2 3, 20, .inr (.inr (.inr (.inr (fun _ => none))))))]) := hD
  refine lv_aload_n hx hb dX2_init_29 rfl (lv_at hl 0 rfl) ?_
  refine lv_iconst (v := (0 : Int32)) hx hb dX2_init_30 (by decide) ?_
  refine va_put (D := G.1) (ci := 2) (v := .int 0) (ty := .int) (C := RX2) (T := TX2) (N := 10) hx hb hts iX2_init_X2 tyX2 tyX2_ok nmX2 hown hK.1 hP hD hS 0 rfl rfl 3 (by decide) (hts (.fieldLink RX2 24 "BoardClock" "nextPast" "I") (List.mem_of_getElem? (i := 10) rfl)) (fun _ h9 => h9) rfl (by decide +kernel) rfl rfl (Nat.le_of_ble_eq_true rfl) dX2_init_31 (fun H locs hP hD hS => ?_)
  have hP : va_P G.1 vwCl ([(h0, .inr (2, [.ref (na 0), .int 0, .ref q1, .int 0, .int 0, .null, .null, .null, .null, .int 0]))] ++ zc_st G na zc_s0 ++ [(q1, .inl (G.2 3, 20, .inr (.inr (.inr (.inr (fun _ => none))))))]) H := hP
  have hD : va_D A ([(h0, .inr (2, [.ref (na 0), .int 0, .ref q1, .int 0, .int 0, .null, .null, .null, .null, .int 0]))] ++ zc_st G na zc_s0 ++ [(q1, .inl (G.2 3, 20, .inr (.inr (.inr (.inr (fun _ => none))))))]) := hD
  refine lv_aload_n hx hb dX2_init_34 rfl (lv_at hl 0 rfl) ?_
  refine lv_iconst (v := (0 : Int32)) hx hb dX2_init_35 (by decide) ?_
  refine va_put (D := G.1) (ci := 2) (v := .int 0) (ty := .int) (C := RX2) (T := TX2) (N := 10) hx hb hts iX2_init_X2 tyX2 tyX2_ok nmX2 hown hK.1 hP hD hS 0 rfl rfl 4 (by decide) (hts (.fieldLink RX2 27 "BoardClock" "undoable" "I") (List.mem_of_getElem? (i := 11) rfl)) (fun _ h9 => h9) rfl (by decide +kernel) rfl rfl (Nat.le_of_ble_eq_true rfl) dX2_init_36 (fun H locs hP hD hS => ?_)
  have hP : va_P G.1 vwCl ([(h0, .inr (2, [.ref (na 0), .int 0, .ref q1, .int 0, .int 0, .null, .null, .null, .null, .int 0]))] ++ zc_st G na zc_s0 ++ [(q1, .inl (G.2 3, 20, .inr (.inr (.inr (.inr (fun _ => none))))))]) H := hP
  have hD : va_D A ([(h0, .inr (2, [.ref (na 0), .int 0, .ref q1, .int 0, .int 0, .null, .null, .null, .null, .int 0]))] ++ zc_st G na zc_s0 ++ [(q1, .inl (G.2 3, 20, .inr (.inr (.inr (.inr (fun _ => none))))))]) := hD
  refine lv_aload_n hx hb dX2_init_39 rfl (lv_at hl 0 rfl) ?_
  refine lv_iconst (v := (2 : Int32)) hx hb dX2_init_40 (by decide) ?_
  refine va_newq (N' := 2) hx hb hown (hts (.classLink RX2 7 RX1) (List.mem_of_getElem? (i := 4) rfl)) hK.2.2.2.2.2.2.2.2.2 hK.1 hP hD hS hA (by decide) (by decide) (Nat.le_of_ble_eq_true rfl) (Nat.le_of_ble_eq_true rfl) (Nat.le_of_ble_eq_true rfl) dX2_init_41 (fun q2 cA H hK2 hP hD hS => ?_)
  obtain rfl := zc_sameT hK.1 (i := 3) rfl hK2 (j := 4) rfl
  have hP : va_P G.1 vwCl ([(h0, .inr (2, [.ref (na 0), .int 0, .ref q1, .int 0, .int 0, .null, .null, .null, .null, .int 0]))] ++ zc_st G na zc_s0 ++ [(q1, .inl (G.2 3, 20, .inr (.inr (.inr (.inr (fun _ => none))))))] ++ [(q2, .inl (G.2 3, 2, .inr (.inr (.inr (.inr (fun _ => none))))))]) H := hP
  have hD : va_D A ([(h0, .inr (2, [.ref (na 0), .int 0, .ref q1, .int 0, .int 0, .null, .null, .null, .null, .int 0]))] ++ zc_st G na zc_s0 ++ [(q1, .inl (G.2 3, 20, .inr (.inr (.inr (.inr (fun _ => none))))))] ++ [(q2, .inl (G.2 3, 2, .inr (.inr (.inr (.inr (fun _ => none))))))]) := hD
  refine va_putF (D := G.1) (ci := 2) (v := .ref q2) (ty := .array (.object "BoardClock$State")) (C := RX2) (T := TX2) (N := 10) hx hb hts iX2_init_X2 tyX2 tyX2_ok nmX2 hown hK.1 hP hD hS 0 rfl rfl 5 (by decide) (hts (.fieldLink RX2 30 "BoardClock" "images" "[LBoardClock$State;") (List.mem_of_getElem? (i := 12) rfl)) (fun _ h9 => h9) rfl hin rfl (by decide +kernel) rfl rfl (Nat.le_of_ble_eq_true rfl) dX2_init_44 (fun H locs hP hD hS => ?_)
  have hP : va_P G.1 vwCl ([(h0, .inr (2, [.ref (na 0), .int 0, .ref q1, .int 0, .int 0, .ref q2, .null, .null, .null, .int 0]))] ++ zc_st G na zc_s0 ++ [(q1, .inl (G.2 3, 20, .inr (.inr (.inr (.inr (fun _ => none))))))] ++ [(q2, .inl (G.2 3, 2, .inr (.inr (.inr (.inr (fun _ => none))))))]) H := hP
  have hD : va_D A ([(h0, .inr (2, [.ref (na 0), .int 0, .ref q1, .int 0, .int 0, .ref q2, .null, .null, .null, .int 0]))] ++ zc_st G na zc_s0 ++ [(q1, .inl (G.2 3, 20, .inr (.inr (.inr (.inr (fun _ => none))))))] ++ [(q2, .inl (G.2 3, 2, .inr (.inr (.inr (.inr (fun _ => none))))))]) := hD
  refine lv_aload_n hx hb dX2_init_47 rfl (lv_at hl 0 rfl) ?_
  refine lv_iconst (v := (2 : Int32)) hx hb dX2_init_48 (by decide) ?_
  refine va_newa (atype := .int) (ty := .int) (N' := 2) (a0 := (2, .inl (fun _ => 0))) hx hb (hts (.arrayClass .int) (List.mem_of_getElem? (i := 13) rfl)) rfl hK.1 hP hD hS hA (fun _ => rfl) (by decide) (by decide) (Nat.le_of_ble_eq_true rfl) (Nat.le_of_ble_eq_true rfl) (Nat.le_of_ble_eq_true rfl) dX2_init_49 (fun q3 cA H hK2 hP hD hS => ?_)
  obtain rfl := zc_sameT hK.1 (i := 0) rfl hK2 (j := 4) rfl
  have hP : va_P G.1 vwCl ([(h0, .inr (2, [.ref (na 0), .int 0, .ref q1, .int 0, .int 0, .ref q2, .null, .null, .null, .int 0]))] ++ zc_st G na zc_s0 ++ [(q1, .inl (G.2 3, 20, .inr (.inr (.inr (.inr (fun _ => none))))))] ++ [(q2, .inl (G.2 3, 2, .inr (.inr (.inr (.inr (fun _ => none))))))] ++ [(q3, .inl (G.2 0, 2, .inl (fun _ => 0)))]) H := hP
  have hD : va_D A ([(h0, .inr (2, [.ref (na 0), .int 0, .ref q1, .int 0, .int 0, .ref q2, .null, .null, .null, .int 0]))] ++ zc_st G na zc_s0 ++ [(q1, .inl (G.2 3, 20, .inr (.inr (.inr (.inr (fun _ => none))))))] ++ [(q2, .inl (G.2 3, 2, .inr (.inr (.inr (.inr (fun _ => none))))))] ++ [(q3, .inl (G.2 0, 2, .inl (fun _ => 0)))]) := hD
  refine va_putF (D := G.1) (ci := 2) (v := .ref q3) (ty := .array .int) (C := RX2) (T := TX2) (N := 10) hx hb hts iX2_init_X2 tyX2 tyX2_ok nmX2 hown hK.1 hP hD hS 0 rfl rfl 6 (by decide) (hts (.fieldLink RX2 33 "BoardClock" "imageSeeds" "[I") (List.mem_of_getElem? (i := 14) rfl)) (fun _ h9 => h9) rfl hin rfl (by decide +kernel) rfl rfl (Nat.le_of_ble_eq_true rfl) dX2_init_51 (fun H locs hP hD hS => ?_)
  have hP : va_P G.1 vwCl ([(h0, .inr (2, [.ref (na 0), .int 0, .ref q1, .int 0, .int 0, .ref q2, .ref q3, .null, .null, .int 0]))] ++ zc_st G na zc_s0 ++ [(q1, .inl (G.2 3, 20, .inr (.inr (.inr (.inr (fun _ => none))))))] ++ [(q2, .inl (G.2 3, 2, .inr (.inr (.inr (.inr (fun _ => none))))))] ++ [(q3, .inl (G.2 0, 2, .inl (fun _ => 0)))]) H := hP
  have hD : va_D A ([(h0, .inr (2, [.ref (na 0), .int 0, .ref q1, .int 0, .int 0, .ref q2, .ref q3, .null, .null, .int 0]))] ++ zc_st G na zc_s0 ++ [(q1, .inl (G.2 3, 20, .inr (.inr (.inr (.inr (fun _ => none))))))] ++ [(q2, .inl (G.2 3, 2, .inr (.inr (.inr (.inr (fun _ => none))))))] ++ [(q3, .inl (G.2 0, 2, .inl (fun _ => 0)))]) := hD
  refine lv_aload_n hx hb dX2_init_54 rfl (lv_at hl 0 rfl) ?_
  refine lv_iconst (v := (2 : Int32)) hx hb dX2_init_55 (by decide) ?_
  refine va_newa (atype := .boolean) (ty := .boolean) (N' := 2) (a0 := (2, .inl (fun _ => 0))) hx hb (hts (.arrayClass .boolean) (List.mem_of_getElem? (i := 15) rfl)) rfl hK.1 hP hD hS hA (fun _ => rfl) (by decide) (by decide) (Nat.le_of_ble_eq_true rfl) (Nat.le_of_ble_eq_true rfl) (Nat.le_of_ble_eq_true rfl) dX2_init_56 (fun q4 cA H hK2 hP hD hS => ?_)
  obtain rfl := zc_sameT hK.1 (i := 2) rfl hK2 (j := 4) rfl
  have hP : va_P G.1 vwCl ([(h0, .inr (2, [.ref (na 0), .int 0, .ref q1, .int 0, .int 0, .ref q2, .ref q3, .null, .null, .int 0]))] ++ zc_st G na zc_s0 ++ [(q1, .inl (G.2 3, 20, .inr (.inr (.inr (.inr (fun _ => none))))))] ++ [(q2, .inl (G.2 3, 2, .inr (.inr (.inr (.inr (fun _ => none))))))] ++ [(q3, .inl (G.2 0, 2, .inl (fun _ => 0)))] ++ [(q4, .inl (G.2 2, 2, .inl (fun _ => 0)))]) H := hP
  have hD : va_D A ([(h0, .inr (2, [.ref (na 0), .int 0, .ref q1, .int 0, .int 0, .ref q2, .ref q3, .null, .null, .int 0]))] ++ zc_st G na zc_s0 ++ [(q1, .inl (G.2 3, 20, .inr (.inr (.inr (.inr (fun _ => none))))))] ++ [(q2, .inl (G.2 3, 2, .inr (.inr (.inr (.inr (fun _ => none))))))] ++ [(q3, .inl (G.2 0, 2, .inl (fun _ => 0)))] ++ [(q4, .inl (G.2 2, 2, .inl (fun _ => 0)))]) := hD
  refine va_putF (D := G.1) (ci := 2) (v := .ref q4) (ty := .array .boolean) (C := RX2) (T := TX2) (N := 10) hx hb hts iX2_init_X2 tyX2 tyX2_ok nmX2 hown hK.1 hP hD hS 0 rfl rfl 7 (by decide) (hts (.fieldLink RX2 37 "BoardClock" "imageKept" "[Z") (List.mem_of_getElem? (i := 16) rfl)) (fun _ h9 => h9) rfl hin rfl (by decide +kernel) rfl rfl (Nat.le_of_ble_eq_true rfl) dX2_init_58 (fun H locs hP hD hS => ?_)
  have hP : va_P G.1 vwCl ([(h0, .inr (2, [.ref (na 0), .int 0, .ref q1, .int 0, .int 0, .ref q2, .ref q3, .ref q4, .null, .int 0]))] ++ zc_st G na zc_s0 ++ [(q1, .inl (G.2 3, 20, .inr (.inr (.inr (.inr (fun _ => none))))))] ++ [(q2, .inl (G.2 3, 2, .inr (.inr (.inr (.inr (fun _ => none))))))] ++ [(q3, .inl (G.2 0, 2, .inl (fun _ => 0)))] ++ [(q4, .inl (G.2 2, 2, .inl (fun _ => 0)))]) H := hP
  have hD : va_D A ([(h0, .inr (2, [.ref (na 0), .int 0, .ref q1, .int 0, .int 0, .ref q2, .ref q3, .ref q4, .null, .int 0]))] ++ zc_st G na zc_s0 ++ [(q1, .inl (G.2 3, 20, .inr (.inr (.inr (.inr (fun _ => none))))))] ++ [(q2, .inl (G.2 3, 2, .inr (.inr (.inr (.inr (fun _ => none))))))] ++ [(q3, .inl (G.2 0, 2, .inl (fun _ => 0)))] ++ [(q4, .inl (G.2 2, 2, .inl (fun _ => 0)))]) := hD
  refine lv_aload_n hx hb dX2_init_61 rfl (lv_at hl 0 rfl) ?_
  refine lv_bipush (v := (20 : Int32)) hx hb dX2_init_62 (by decide) ?_
  refine va_newa (atype := .int) (ty := .int) (N' := 20) (a0 := (20, .inl (fun _ => 0))) hx hb (hts (.arrayClass .int) (List.mem_of_getElem? (i := 13) rfl)) rfl hK.1 hP hD hS hA (fun _ => rfl) (by decide) (by decide) (Nat.le_of_ble_eq_true rfl) (Nat.le_of_ble_eq_true rfl) (Nat.le_of_ble_eq_true rfl) dX2_init_64 (fun q5 cA H hK2 hP hD hS => ?_)
  obtain rfl := zc_sameT hK.1 (i := 0) rfl hK2 (j := 4) rfl
  have hP : va_P G.1 vwCl ([(h0, .inr (2, [.ref (na 0), .int 0, .ref q1, .int 0, .int 0, .ref q2, .ref q3, .ref q4, .null, .int 0]))] ++ zc_st G na zc_s0 ++ [(q1, .inl (G.2 3, 20, .inr (.inr (.inr (.inr (fun _ => none))))))] ++ [(q2, .inl (G.2 3, 2, .inr (.inr (.inr (.inr (fun _ => none))))))] ++ [(q3, .inl (G.2 0, 2, .inl (fun _ => 0)))] ++ [(q4, .inl (G.2 2, 2, .inl (fun _ => 0)))] ++ [(q5, .inl (G.2 0, 20, .inl (fun _ => 0)))]) H := hP
  have hD : va_D A ([(h0, .inr (2, [.ref (na 0), .int 0, .ref q1, .int 0, .int 0, .ref q2, .ref q3, .ref q4, .null, .int 0]))] ++ zc_st G na zc_s0 ++ [(q1, .inl (G.2 3, 20, .inr (.inr (.inr (.inr (fun _ => none))))))] ++ [(q2, .inl (G.2 3, 2, .inr (.inr (.inr (.inr (fun _ => none))))))] ++ [(q3, .inl (G.2 0, 2, .inl (fun _ => 0)))] ++ [(q4, .inl (G.2 2, 2, .inl (fun _ => 0)))] ++ [(q5, .inl (G.2 0, 20, .inl (fun _ => 0)))]) := hD
  refine va_putF (D := G.1) (ci := 2) (v := .ref q5) (ty := .array .int) (C := RX2) (T := TX2) (N := 10) hx hb hts iX2_init_X2 tyX2 tyX2_ok nmX2 hown hK.1 hP hD hS 0 rfl rfl 8 (by decide) (hts (.fieldLink RX2 41 "BoardClock" "book" "[I") (List.mem_of_getElem? (i := 17) rfl)) (fun _ h9 => h9) rfl hin rfl (by decide +kernel) rfl rfl (Nat.le_of_ble_eq_true rfl) dX2_init_66 (fun H locs hP hD hS => ?_)
  have hP : va_P G.1 vwCl ([(h0, .inr (2, [.ref (na 0), .int 0, .ref q1, .int 0, .int 0, .ref q2, .ref q3, .ref q4, .ref q5, .int 0]))] ++ zc_st G na zc_s0 ++ [(q1, .inl (G.2 3, 20, .inr (.inr (.inr (.inr (fun _ => none))))))] ++ [(q2, .inl (G.2 3, 2, .inr (.inr (.inr (.inr (fun _ => none))))))] ++ [(q3, .inl (G.2 0, 2, .inl (fun _ => 0)))] ++ [(q4, .inl (G.2 2, 2, .inl (fun _ => 0)))] ++ [(q5, .inl (G.2 0, 20, .inl (fun _ => 0)))]) H := hP
  have hD : va_D A ([(h0, .inr (2, [.ref (na 0), .int 0, .ref q1, .int 0, .int 0, .ref q2, .ref q3, .ref q4, .ref q5, .int 0]))] ++ zc_st G na zc_s0 ++ [(q1, .inl (G.2 3, 20, .inr (.inr (.inr (.inr (fun _ => none))))))] ++ [(q2, .inl (G.2 3, 2, .inr (.inr (.inr (.inr (fun _ => none))))))] ++ [(q3, .inl (G.2 0, 2, .inl (fun _ => 0)))] ++ [(q4, .inl (G.2 2, 2, .inl (fun _ => 0)))] ++ [(q5, .inl (G.2 0, 20, .inl (fun _ => 0)))]) := hD
  refine lv_aload_n hx hb dX2_init_69 rfl (lv_at hl 0 rfl) ?_
  refine lv_iconst (v := (0 : Int32)) hx hb dX2_init_70 (by decide) ?_
  refine va_put (D := G.1) (ci := 2) (v := .int 0) (ty := .int) (C := RX2) (T := TX2) (N := 10) hx hb hts iX2_init_X2 tyX2 tyX2_ok nmX2 hown hK.1 hP hD hS 0 rfl rfl 9 (by decide) (hts (.fieldLink RX2 44 "BoardClock" "entries" "I") (List.mem_of_getElem? (i := 18) rfl)) (fun _ h9 => h9) rfl (by decide +kernel) rfl rfl (Nat.le_of_ble_eq_true rfl) dX2_init_71 (fun H locs hP hD hS => ?_)
  have hP : va_P G.1 vwCl ([(h0, .inr (2, [.ref (na 0), .int 0, .ref q1, .int 0, .int 0, .ref q2, .ref q3, .ref q4, .ref q5, .int 0]))] ++ zc_st G na zc_s0 ++ [(q1, .inl (G.2 3, 20, .inr (.inr (.inr (.inr (fun _ => none))))))] ++ [(q2, .inl (G.2 3, 2, .inr (.inr (.inr (.inr (fun _ => none))))))] ++ [(q3, .inl (G.2 0, 2, .inl (fun _ => 0)))] ++ [(q4, .inl (G.2 2, 2, .inl (fun _ => 0)))] ++ [(q5, .inl (G.2 0, 20, .inl (fun _ => 0)))]) H := hP
  have hD : va_D A ([(h0, .inr (2, [.ref (na 0), .int 0, .ref q1, .int 0, .int 0, .ref q2, .ref q3, .ref q4, .ref q5, .int 0]))] ++ zc_st G na zc_s0 ++ [(q1, .inl (G.2 3, 20, .inr (.inr (.inr (.inr (fun _ => none))))))] ++ [(q2, .inl (G.2 3, 2, .inr (.inr (.inr (.inr (fun _ => none))))))] ++ [(q3, .inl (G.2 0, 2, .inl (fun _ => 0)))] ++ [(q4, .inl (G.2 2, 2, .inl (fun _ => 0)))] ++ [(q5, .inl (G.2 0, 20, .inl (fun _ => 0)))]) := hD
  refine lv_iconst (v := (0 : Int32)) hx hb dX2_init_74 (by decide) ?_
  refine lv_istore_n (lv' := [(1, .int (nI 0)), (0, .ref h0)]) hx hb dX2_init_75 rfl hl (by decide) rfl (fun ls hl => ?_)
  have hP := hP.sub (ws' := zc_ix G h0 na q1 q2 q3 q4 q5 (fun _ => none) (fun _ => none) ++ zc_pl G (fun _ _ => 0) 0) [0, 8, 9, 10, 11, 12, 1, 2, 3, 4, 5, 6, 7] rfl
  have hD := hD.sub (ws' := zc_ix G h0 na q1 q2 q3 q4 q5 (fun _ => none) (fun _ => none) ++ zc_pl G (fun _ _ => 0) 0) [0, 8, 9, 10, 11, 12, 1, 2, 3, 4, 5, 6, 7] (by decide) rfl
  refine W.widen (k := 12 + 7 * 0) (n := 102 + 56 * 0) (by decide) (by decide) ?_
  have loop2 : ∀ (n i : Nat), i + n = 2 → ∀ (pa : Nat → Nat → Nat) (f g : Nat → Option Nat), (∀ k, k < 20 → f k = some (pa k 0)) → (∀ k, k < i → g k = some (pa (k + 20) 0)) → ∀ (H : Heap) (locs : List Loc), va_P G.1 vwCl (zc_ix G h0 na q1 q2 q3 q4 q5 f g ++ zc_pl G pa (20 + i)) H → va_D A (zc_ix G h0 na q1 q2 q3 q4 q5 f g ++ zc_pl G pa (20 + i)) → va_S A s.heap H locs → ∀ (ls : Array Slot), lv_has ls 2 [(1, .int (nI i)), (0, .ref h0)] → W p l e (headSpec wsX2_init ({ frames := 3, cells := 166, slots := 1334, locals := 60 })).room s m ([.ref h0] : List Value).toArray below meth c H locs (12 + 7 * (20 + i)) (102 + 56 * (20 + i)) (MQ below (va_Qv (fun u : (Nat → Nat) × (Nat → Nat) × (Nat → Nat → Nat) => u.1 0 = h0) (fun u t => va_P G.1 vwCl (zc_bc G u.1 u.2.1 u.2.2 zc_b0) t.heap ∧ va_D A (zc_bc G u.1 u.2.1 u.2.2 zc_b0)) A) ([.ref h0] : List Value).toArray s 166 1334 A) (F0 m 103 ls []) := by
    intro n
    induction n with
    | zero =>
      intro i hi pa f g hf hg H locs hP hD hS ls hl
      refine lv_iload_n hx hb dX2_init_103 rfl (lv_at hl 0 rfl) ?_
      refine lv_iconst (v := (2 : Int32)) hx hb dX2_init_104 (by decide) ?_
      refine lv_icmp_ge (tgt := 127) hx hb dX2_init_105 (by decide) (fun c1 => ?_) (fun c1 => ?_)
      · obtain rfl : i = 2 := (Nat.lt_or_ge i 2).elim (fun h => absurd c1 (nI_ge (b := 2) h (by omega))) (fun h => by omega)
        have hP := zc_conv (f' := fun k => some (pa k 0)) (g' := fun k => some (pa (k + 20) 0)) hP hf hg
        have hD : va_D A (zc_ix G h0 na q1 q2 q3 q4 q5 (fun k => some (pa k 0)) (fun k => some (pa (k + 20) 0)) ++ zc_pl G pa (20 + 2)) := zc_Ds hD rfl
        exact W.vret hx hb hr (fun t ht hW => ⟨⟨(zc_ads [h0, q1, q2, q3, q4, q5], na, pa), rfl, rfl, zc_hp ht hP, hD⟩, hS.F ht⟩) hS.2.2 dX2_init_127
      · exact absurd (nI_le (a := 2) (b := i) (by omega) (by omega)) c1
    | succ n ih =>
      intro i hi pa f g hf hg H locs hP hD hS ls hl
      refine lv_iload_n hx hb dX2_init_103 rfl (lv_at hl 0 rfl) ?_
      refine lv_iconst (v := (2 : Int32)) hx hb dX2_init_104 (by decide) ?_
      refine lv_icmp_ge (tgt := 127) hx hb dX2_init_105 (by decide) (fun c1 => ?_) (fun c1 => ?_)
      · obtain rfl : i = 2 := (Nat.lt_or_ge i 2).elim (fun h => absurd c1 (nI_ge (b := 2) h (by omega))) (fun h => by omega)
        have hP := zc_conv (f' := fun k => some (pa k 0)) (g' := fun k => some (pa (k + 20) 0)) hP hf hg
        have hD : va_D A (zc_ix G h0 na q1 q2 q3 q4 q5 (fun k => some (pa k 0)) (fun k => some (pa (k + 20) 0)) ++ zc_pl G pa (20 + 2)) := zc_Ds hD rfl
        exact W.vret hx hb hr (fun t ht hW => ⟨⟨(zc_ads [h0, q1, q2, q3, q4, q5], na, pa), rfl, rfl, zc_hp ht hP, hD⟩, hS.F ht⟩) hS.2.2 dX2_init_127
      · have hlt : i < 2 := (Nat.lt_or_ge i 2).elim id (fun h => absurd (nI_le (a := 2) h (by omega)) c1)
        refine lv_aload_n hx hb dX2_init_108 rfl (lv_at hl 1 rfl) ?_
        refine va_get (D := G.1) (ci := 2) (C := RX2) (T := TX2) (N := 10) hx hb hts iX2_init_X2 hown hK.1 hP 0 rfl rfl 5 (by decide) (hts (.fieldLink RX2 30 "BoardClock" "images" "[LBoardClock$State;") (List.mem_of_getElem? (i := 12) rfl)) (fun _ h9 => h9) rfl dX2_init_109 ?_
        refine lv_iload_n hx hb dX2_init_112 rfl (lv_at hl 0 rfl) ?_
        refine va_new (ci := 1) (fs := [.long 0, .long 0, .long 0, .int 0, .int 0, .int 0, .int 0, .int 0, .int 0, .int 0, .int 0, .int 0, .int 0, .int 0, .int 0, .int 0, .null, .null]) (C := RX1) (T := TX1) (N := 18) hx hb hts iX2_init_X1 tyX1 tyX1_ok hown (hts (.classLink RX2 7 RX1) (List.mem_of_getElem? (i := 4) rfl)) (hts (.instantiable RX1 18) (List.mem_of_getElem? (i := 5) rfl)) (hts (.initialized RX1) (List.mem_of_getElem? (i := 6) rfl)) hK.1 hP hD hS hA rfl (fun j hj => by rcases (show j = 0 ∨ j = 1 ∨ j = 2 ∨ j = 3 ∨ j = 4 ∨ j = 5 ∨ j = 6 ∨ j = 7 ∨ j = 8 ∨ j = 9 ∨ j = 10 ∨ j = 11 ∨ j = 12 ∨ j = 13 ∨ j = 14 ∨ j = 15 ∨ j = 16 ∨ j = 17 by omega) with rfl | rfl | rfl | rfl | rfl | rfl | rfl | rfl | rfl | rfl | rfl | rfl | rfl | rfl | rfl | rfl | rfl | rfl <;> rfl) (show 12 + 7 * (20 + i) + 1 ≤ 166 by omega) (show 102 + 56 * (20 + i) + 18 ≤ 1334 by omega) dX2_init_113 (fun q H hP hD hS => ?_)
        refine lv_dup hx hb dX2_init_116 rfl ?_
        have hFc := zc_free1 hD hS hA
        refine va_callv (va_runIN (As := []) (rest := [.ref q, .int (nI i), .ref q2]) ⟨hx, hb, hml, hown, hts⟩ (kX1_init l G q H.size) ⟨va_cnB 0 hts gX2_init_X1_init_n9 rfl rfl rfl hK.2.1 (hts (.initialized RX1) (List.mem_of_getElem? (i := 6) rfl)) (by decide +kernel) ⟨(Nat.le_of_ble_eq_true rfl), (Nat.le_of_ble_eq_true rfl)⟩, rfl, (hts (.instanceMethod yX1_init) (List.mem_of_getElem? (i := 19) rfl))⟩ (zc_preSm hK (zc_last1 hP) (zc_last1D hD)) rfl rfl hl.1 rfl (lv_room (Nat.le_of_ble_eq_true rfl)) dX2_init_117 ⟨(show 12 + 7 * (20 + i) + 1 + 6 ≤ 166 by omega), (show 102 + 56 * (20 + i) + 18 + 38 ≤ 1334 by omega)⟩) hS (fun q _ h => hFc q h) hFc (fun ad t H1 locs ht hvm hw hB hz1 hk1 hS => ?_)
        obtain ⟨hP1, hD1⟩ := hB
        rw [ht] at hP1
        have hw : ad 0 = q := hw
        obtain ⟨hP, hD⟩ := zc_grow hP hD hFc hk1 hP1 hD1
        generalize H1 = H at hP hS ⊢
        rw [← hw]
        obtain ⟨vs, hvs⟩ := zc_head G ad zc_s0
        obtain ⟨qk, hqk⟩ := List.getElem?_of_mem (List.mem_append_right (zc_ix G h0 na q1 q2 q3 q4 q5 f g ++ zc_pl G pa (20 + i)) hvs)
        refine va_astq (r := (RX1, TX1, 18)) hx hb hK.1 hP hD hS 2 3 qk 1 rfl rfl hqk rfl (vp_in_nI (N := 2) hlt (by decide)) dX2_init_120 (fun H locs hP hD hS => ?_)
        have hcl : (nI i).toNatClampNeg = i := nI_clamp (by omega)
        rw [hcl] at hP hD
        have hP : va_P G.1 vwCl (zc_ix G h0 na q1 q2 q3 q4 q5 f (va_up g i (some (ad 0))) ++ zc_pl G pa (20 + i) ++ zc_st G ad zc_s0) H := hP
        have hD : va_D A (zc_ix G h0 na q1 q2 q3 q4 q5 f (va_up g i (some (ad 0))) ++ zc_pl G pa (20 + i) ++ zc_st G ad zc_s0) := hD
        rw [List.append_assoc, zc_pl_succ] at hP hD
        obtain ⟨y, ey⟩ : ∃ y : Int32, y = nI i + 1 := ⟨_, rfl⟩
        refine lv_iinc (v := y) (lv' := [(1, .int y), (0, .ref h0)]) hx hb dX2_init_121 hl (k := 0) rfl (by rw [ey]; rfl) (by decide) rfl (fun ls hl => ?_)
        refine lv_goto (tgt := 103) hx hb dX2_init_124 (by decide) ?_
        rw [ey, nI_1] at hl
        refine W.widen (k := 12 + 7 * (20 + (i + 1))) (n := 102 + 56 * (20 + (i + 1))) (by omega) (by omega) ?_
        exact ih (i + 1) (by omega) (va_up pa (20 + i) ad) f (va_up g i (some (ad 0))) (zc_upg1 (by omega) hf) (zc_upg2 hg) H locs hP hD hS ls hl
  have loop1 : ∀ (n i : Nat), i + n = 20 → ∀ (pa : Nat → Nat → Nat) (f : Nat → Option Nat), (∀ k, k < i → f k = some (pa k 0)) → ∀ (H : Heap) (locs : List Loc), va_P G.1 vwCl (zc_ix G h0 na q1 q2 q3 q4 q5 f (fun _ => none) ++ zc_pl G pa i) H → va_D A (zc_ix G h0 na q1 q2 q3 q4 q5 f (fun _ => none) ++ zc_pl G pa i) → va_S A s.heap H locs → ∀ (ls : Array Slot), lv_has ls 2 [(1, .int (nI i)), (0, .ref h0)] → W p l e (headSpec wsX2_init ({ frames := 3, cells := 166, slots := 1334, locals := 60 })).room s m ([.ref h0] : List Value).toArray below meth c H locs (12 + 7 * i) (102 + 56 * i) (MQ below (va_Qv (fun u : (Nat → Nat) × (Nat → Nat) × (Nat → Nat → Nat) => u.1 0 = h0) (fun u t => va_P G.1 vwCl (zc_bc G u.1 u.2.1 u.2.2 zc_b0) t.heap ∧ va_D A (zc_bc G u.1 u.2.1 u.2.2 zc_b0)) A) ([.ref h0] : List Value).toArray s 166 1334 A) (F0 m 76 ls []) := by
    intro n
    induction n with
    | zero =>
      intro i hi pa f hf H locs hP hD hS ls hl
      refine lv_iload_n hx hb dX2_init_76 rfl (lv_at hl 0 rfl) ?_
      refine lv_bipush (v := (20 : Int32)) hx hb dX2_init_77 (by decide) ?_
      refine lv_icmp_ge (tgt := 101) hx hb dX2_init_79 (by decide) (fun c1 => ?_) (fun c1 => ?_)
      · obtain rfl : i = 20 := (Nat.lt_or_ge i 20).elim (fun h => absurd c1 (nI_ge (b := 20) h (by omega))) (fun h => by omega)
        refine lv_iconst (v := (0 : Int32)) hx hb dX2_init_101 (by decide) ?_
        refine lv_istore_n (lv' := [(1, .int (nI 0)), (0, .ref h0)]) hx hb dX2_init_102 rfl hl (by decide) rfl (fun ls hl => ?_)
        exact loop2 2 0 (by omega) pa f (fun _ => none) hf (fun k hk => absurd hk (Nat.not_lt_zero k)) H locs hP hD hS ls hl
      · exact absurd (nI_le (a := 20) (b := i) (by omega) (by omega)) c1
    | succ n ih =>
      intro i hi pa f hf H locs hP hD hS ls hl
      refine lv_iload_n hx hb dX2_init_76 rfl (lv_at hl 0 rfl) ?_
      refine lv_bipush (v := (20 : Int32)) hx hb dX2_init_77 (by decide) ?_
      refine lv_icmp_ge (tgt := 101) hx hb dX2_init_79 (by decide) (fun c1 => ?_) (fun c1 => ?_)
      · obtain rfl : i = 20 := (Nat.lt_or_ge i 20).elim (fun h => absurd c1 (nI_ge (b := 20) h (by omega))) (fun h => by omega)
        refine lv_iconst (v := (0 : Int32)) hx hb dX2_init_101 (by decide) ?_
        refine lv_istore_n (lv' := [(1, .int (nI 0)), (0, .ref h0)]) hx hb dX2_init_102 rfl hl (by decide) rfl (fun ls hl => ?_)
        exact loop2 2 0 (by omega) pa f (fun _ => none) hf (fun k hk => absurd hk (Nat.not_lt_zero k)) H locs hP hD hS ls hl
      · have hlt : i < 20 := (Nat.lt_or_ge i 20).elim id (fun h => absurd (nI_le (a := 20) h (by omega)) c1)
        refine lv_aload_n hx hb dX2_init_82 rfl (lv_at hl 1 rfl) ?_
        refine va_get (D := G.1) (ci := 2) (C := RX2) (T := TX2) (N := 10) hx hb hts iX2_init_X2 hown hK.1 hP 0 rfl rfl 2 (by decide) (hts (.fieldLink RX2 20 "BoardClock" "past" "[LBoardClock$State;") (List.mem_of_getElem? (i := 9) rfl)) (fun _ h9 => h9) rfl dX2_init_83 ?_
        refine lv_iload_n hx hb dX2_init_86 rfl (lv_at hl 0 rfl) ?_
        refine va_new (ci := 1) (fs := [.long 0, .long 0, .long 0, .int 0, .int 0, .int 0, .int 0, .int 0, .int 0, .int 0, .int 0, .int 0, .int 0, .int 0, .int 0, .int 0, .null, .null]) (C := RX1) (T := TX1) (N := 18) hx hb hts iX2_init_X1 tyX1 tyX1_ok hown (hts (.classLink RX2 7 RX1) (List.mem_of_getElem? (i := 4) rfl)) (hts (.instantiable RX1 18) (List.mem_of_getElem? (i := 5) rfl)) (hts (.initialized RX1) (List.mem_of_getElem? (i := 6) rfl)) hK.1 hP hD hS hA rfl (fun j hj => by rcases (show j = 0 ∨ j = 1 ∨ j = 2 ∨ j = 3 ∨ j = 4 ∨ j = 5 ∨ j = 6 ∨ j = 7 ∨ j = 8 ∨ j = 9 ∨ j = 10 ∨ j = 11 ∨ j = 12 ∨ j = 13 ∨ j = 14 ∨ j = 15 ∨ j = 16 ∨ j = 17 by omega) with rfl | rfl | rfl | rfl | rfl | rfl | rfl | rfl | rfl | rfl | rfl | rfl | rfl | rfl | rfl | rfl | rfl | rfl <;> rfl) (show 12 + 7 * i + 1 ≤ 166 by omega) (show 102 + 56 * i + 18 ≤ 1334 by omega) dX2_init_87 (fun q H hP hD hS => ?_)
        refine lv_dup hx hb dX2_init_90 rfl ?_
        have hFc := zc_free1 hD hS hA
        refine va_callv (va_runIN (As := []) (rest := [.ref q, .int (nI i), .ref q1]) ⟨hx, hb, hml, hown, hts⟩ (kX1_init l G q H.size) ⟨va_cnB 0 hts gX2_init_X1_init_n9 rfl rfl rfl hK.2.1 (hts (.initialized RX1) (List.mem_of_getElem? (i := 6) rfl)) (by decide +kernel) ⟨(Nat.le_of_ble_eq_true rfl), (Nat.le_of_ble_eq_true rfl)⟩, rfl, (hts (.instanceMethod yX1_init) (List.mem_of_getElem? (i := 19) rfl))⟩ (zc_preSm hK (zc_last1 hP) (zc_last1D hD)) rfl rfl hl.1 rfl (lv_room (Nat.le_of_ble_eq_true rfl)) dX2_init_91 ⟨(show 12 + 7 * i + 1 + 6 ≤ 166 by omega), (show 102 + 56 * i + 18 + 38 ≤ 1334 by omega)⟩) hS (fun q _ h => hFc q h) hFc (fun ad t H1 locs ht hvm hw hB hz1 hk1 hS => ?_)
        obtain ⟨hP1, hD1⟩ := hB
        rw [ht] at hP1
        have hw : ad 0 = q := hw
        obtain ⟨hP, hD⟩ := zc_grow hP hD hFc hk1 hP1 hD1
        generalize H1 = H at hP hS ⊢
        rw [← hw]
        obtain ⟨vs, hvs⟩ := zc_head G ad zc_s0
        obtain ⟨qk, hqk⟩ := List.getElem?_of_mem (List.mem_append_right (zc_ix G h0 na q1 q2 q3 q4 q5 f (fun _ => none) ++ zc_pl G pa i) hvs)
        refine va_astq (r := (RX1, TX1, 18)) hx hb hK.1 hP hD hS 1 3 qk 1 rfl rfl hqk rfl (vp_in_nI (N := 20) hlt (by decide)) dX2_init_94 (fun H locs hP hD hS => ?_)
        have hcl : (nI i).toNatClampNeg = i := nI_clamp (by omega)
        rw [hcl] at hP hD
        have hP : va_P G.1 vwCl (zc_ix G h0 na q1 q2 q3 q4 q5 (va_up f i (some (ad 0))) (fun _ => none) ++ zc_pl G pa i ++ zc_st G ad zc_s0) H := hP
        have hD : va_D A (zc_ix G h0 na q1 q2 q3 q4 q5 (va_up f i (some (ad 0))) (fun _ => none) ++ zc_pl G pa i ++ zc_st G ad zc_s0) := hD
        rw [List.append_assoc, zc_pl_succ] at hP hD
        obtain ⟨y, ey⟩ : ∃ y : Int32, y = nI i + 1 := ⟨_, rfl⟩
        refine lv_iinc (v := y) (lv' := [(1, .int y), (0, .ref h0)]) hx hb dX2_init_95 hl (k := 0) rfl (by rw [ey]; rfl) (by decide) rfl (fun ls hl => ?_)
        refine lv_goto (tgt := 76) hx hb dX2_init_98 (by decide) ?_
        rw [ey, nI_1] at hl
        refine W.widen (k := 12 + 7 * (i + 1)) (n := 102 + 56 * (i + 1)) (by omega) (by omega) ?_
        exact ih (i + 1) (by omega) (va_up pa i ad) (va_up f i (some (ad 0))) (zc_upf hf) H locs hP hD hS ls hl
  exact loop1 20 0 (by omega) (fun _ _ => 0) (fun _ => none) (fun k hk => absurd hk (Nat.not_lt_zero k)) H _ hP hD hS ls hl
