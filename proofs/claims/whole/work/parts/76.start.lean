/-! THE LAW, from its entry -/
theorem z_join {G : zc_G} {ba na : Nat → Nat} {pa : Nat → Nat → Nat} {ma : Nat → Nat} {A : Nat → Prop} {H : Heap} (hP : va_P G.1 vwCl (zc_bc G ba na pa zc_b0 ++ zc_mo G ma zc_m0) H) (hD : va_D A (zc_bc G ba na pa zc_b0 ++ zc_mo G ma zc_m0)) :
    (va_P G.1 vwCl (zc_bc G ba na pa zc_b0) H ∧ va_P G.1 vwCl (zc_mo G ma zc_m0) H) ∧ va_D A (zc_bc G ba na pa zc_b0) ∧ va_D A (zc_mo G ma zc_m0) ∧ ∀ q ∈ (zc_mo G ma zc_m0).map Prod.fst, q ∉ (zc_bc G ba na pa zc_b0).map Prod.fst := by
  have hN := zc_nodup hD
  rw [List.map_append, List.pairwise_append] at hN
  obtain ⟨n1, n2, n3⟩ := hN
  have hm : ∀ q ∈ zc_bc G ba na pa zc_b0 ++ zc_mo G ma zc_m0, A q.1 := fun q hq => by
    obtain ⟨i, hi⟩ := List.getElem?_of_mem hq
    exact hD.2 i q hi
  exact ⟨⟨zc_P_of (fun q hq => zc_P_at hP (List.mem_append_left _ hq)), zc_P_of (fun q hq => zc_P_at hP (List.mem_append_right _ hq))⟩, zc_D_of n1 (fun q hq => hm q (List.mem_append_left _ hq)), zc_D_of n2 (fun q hq => hm q (List.mem_append_right _ hq)), fun q hq hq' => n3 q hq' q hq rfl⟩
set_option maxHeartbeats 8000000 in
set_option maxRecDepth 100000 in
theorem whole_start {p : Program} {e : Env} {s : State} {m : MethodId} {below : List Frame} {meth : Method} {c : Code} (l : Launch) (hflags : l.flags = flags0) {b L : Nat} {xs : Nat → Int32} (hL : L ≤ 2048) (C0 : lw_At p s m meth c b L xs) : W p l e room_1 s m #[Value.ref b] below meth c s.heap [] 0 0 (lw_Z below #[Value.ref b] s) (entryFrame m ([Value.ref b] : List Value).toArray 4) := by
  obtain ⟨hx, hb, hr, hml, hown, hts, hX, hbl, hlocks, hgv⟩ := id C0
  have hown : s.vm.findClass RL = some m.cls := hown
  have hb : c.code = cL_law := hb
  obtain ⟨G, hK⟩ := z_found hts
  have htl : ∀ w ∈ wsL_law, w.before #[Value.ref b] s = true := fun w h => hts w (wsL_law_in w h)
  have hA : ∀ q : Nat, s.heap.size ≤ q → (fun q : Nat => s.heap.size ≤ q) q := fun _ h => h
  have hS : va_S (fun q : Nat => s.heap.size ≤ q) s.heap s.heap [] := va_S.rf
  have hP : va_P G.1 vwCl [] s.heap := fun k q h => by simp at h
  have hD : va_D (fun q : Nat => s.heap.size ≤ q) [] := ⟨fun i j p q h => by simp at h, fun k q h => by simp at h⟩
  have hl := lv_entry ([.ref b]) (n := 4) (Nat.le_of_ble_eq_true rfl)
  rw [lg_entry_eq]
  generalize (lg_sl ([.ref b]) ++ List.replicate (4 - (lg_sl ([.ref b])).length) Slot.unset).toArray = ls at hl ⊢
  have hl : lv_has ls 4 [(0, .ref b)] := hl
  refine va_new (ci := 2) (fs := [.null, .int 0, .null, .int 0, .int 0, .null, .null, .null, .null, .int 0]) (C := RX2) (T := TX2) (N := 10) hx hb hts inX2 tyX2 tyX2_ok hown (z_tb hts (w := .classLink RL 7 RX2) 7 (by decide +kernel)) (z_tb hts (w := .instantiable RX2 10) 8 (by decide +kernel)) (z_tb hts (w := .initialized RX2) 1 (by decide +kernel)) hK.1 hP hD hS hA rfl (fun j hj => by rcases (show j = 0 ∨ j = 1 ∨ j = 2 ∨ j = 3 ∨ j = 4 ∨ j = 5 ∨ j = 6 ∨ j = 7 ∨ j = 8 ∨ j = 9 by omega) with rfl | rfl | rfl | rfl | rfl | rfl | rfl | rfl | rfl | rfl <;> rfl) (Nat.le_of_ble_eq_true rfl) (Nat.le_of_ble_eq_true rfl) dL_law_0 (fun q H hP hD hS => ?_)
  refine lv_dup hx hb dL_law_3 rfl ?_
  have hFc := zc_free1 hD hS hA
  refine va_callv (va_runI (As := []) (rest := [.ref q]) ⟨hx, hb, hml, hown, htl⟩ (kX2_init l G q H.size) (cwI 0 htl gL_law_X2_init rfl rfl rfl (z_tb hts (w := .initialized RX2) 1 (by decide +kernel)) (z_tb hts (w := .methodLink RL 9 yX2_init) 9 (by decide +kernel)) (z_tb hts (w := .instanceMethod yX2_init) 10 (by decide +kernel)) rfl (by decide +kernel) ⟨Nat.le_of_ble_eq_true rfl, Nat.le_of_ble_eq_true rfl⟩) (zc_preSm hK (zc_last1 hP) (zc_last1D hD)) rfl rfl hl.1 rfl (lv_room (Nat.le_of_ble_eq_true rfl)) dL_law_4 ⟨Nat.le_of_ble_eq_true rfl, Nat.le_of_ble_eq_true rfl⟩) hS (fun q _ h => hFc q h) hFc (fun ad t H1 locs ht hvm hw hB hz1 hk1 hS => ?_)
  obtain ⟨ba, na, pa⟩ := ad
  obtain ⟨hP1, hD1⟩ := hB
  rw [ht] at hP1
  have hw : ba 0 = q := hw
  obtain ⟨hP, hD⟩ := zc_grow hP hD hFc hk1 hP1 hD1
  generalize H1 = H at hP hS ⊢
  rw [← hw]
  have hP : va_P G.1 vwCl (zc_bc G ba na pa zc_b0) H := hP
  have hD : va_D (fun q : Nat => s.heap.size ≤ q) (zc_bc G ba na pa zc_b0) := hD
  refine lv_astore_n (lv' := [(1, .ref (ba 0)), (0, .ref b)]) hx hb dL_law_7 rfl hl (by decide) rfl (fun ls hl => ?_)
  refine va_new (ci := 3) (fs := [.null, .null, .int 0, .null, .null, .null, .int 0, .long 0]) (C := RX3) (T := TX3) (N := 8) hx hb hts inX3 tyX3 tyX3_ok hown (z_tb hts (w := .classLink RL 10 RX3) 491 (by decide +kernel)) (z_tb hts (w := .instantiable RX3 8) 492 (by decide +kernel)) (z_tb hts (w := .initialized RX3) 4 (by decide +kernel)) hK.1 hP hD hS hA rfl (fun j hj => by rcases (show j = 0 ∨ j = 1 ∨ j = 2 ∨ j = 3 ∨ j = 4 ∨ j = 5 ∨ j = 6 ∨ j = 7 by omega) with rfl | rfl | rfl | rfl | rfl | rfl | rfl | rfl <;> rfl) (Nat.le_of_ble_eq_true rfl) (Nat.le_of_ble_eq_true rfl) dL_law_8 (fun q2 H hP hD hS => ?_)
  refine lv_dup hx hb dL_law_11 rfl ?_
  have hFc2 := zc_free1 hD hS hA
  refine va_callv (va_runI (As := []) (rest := [.ref q2]) ⟨hx, hb, hml, hown, htl⟩ (kX3_init l G q2 H.size) (cwI 0 htl gL_law_X3_init rfl rfl rfl (z_tb hts (w := .initialized RX3) 4 (by decide +kernel)) (z_tb hts (w := .methodLink RL 12 yX3_init) 493 (by decide +kernel)) (z_tb hts (w := .instanceMethod yX3_init) 494 (by decide +kernel)) rfl (by decide +kernel) ⟨Nat.le_of_ble_eq_true rfl, Nat.le_of_ble_eq_true rfl⟩) (zc_preSm hK (zc_last1 hP) (zc_last1D hD)) rfl rfl hl.1 rfl (lv_room (Nat.le_of_ble_eq_true rfl)) dL_law_12 ⟨Nat.le_of_ble_eq_true rfl, Nat.le_of_ble_eq_true rfl⟩) hS (fun q _ h => hFc2 q h) hFc2 (fun ma t H1 locs ht hvm hw2 hB hz1 hk1 hS => ?_)
  obtain ⟨hP1, hD1⟩ := hB
  rw [ht] at hP1
  have hw2 : ma 0 = q2 := hw2
  obtain ⟨hP, hD⟩ := zc_grow hP hD hFc2 hk1 hP1 hD1
  generalize H1 = H at hP hS ⊢
  rw [← hw2]
  obtain ⟨⟨hPb, hPm⟩, hDb, hDm, hap⟩ := z_join hP hD
  refine lv_astore_n (lv' := [(2, .ref (ma 0)), (1, .ref (ba 0)), (0, .ref b)]) hx hb dL_law_15 rfl hl (by decide) rfl (fun ls hl => ?_)
  refine lv_iconst (v := 0) hx hb dL_law_16 (by decide) ?_
  refine lv_istore_n (lv' := [(3, .int 0), (2, .ref (ma 0)), (1, .ref (ba 0)), (0, .ref b)]) hx hb dL_law_17 rfl hl (by decide) rfl (fun ls hl => ?_)
  exact zl_loop (G := G) (ba := ba) (na := na) (pa := pa) (ma := ma) (xs := xs) (L := L) ⟨hx, hb, hml, hown, htl, ⟨hX, hbl⟩, hK, hDb, hDm, hap⟩ hr hlocks hL (L + 1) 0 (by omega) (by omega) zc_b0 zc_m0 H _ ls x_start ⟨hPb, hPm, hS⟩ (lv_sub hl [3, 2, 1, 0] rfl)
