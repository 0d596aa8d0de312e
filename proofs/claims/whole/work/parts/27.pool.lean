/-! the pool of states behind the clock: past and images -/
theorem zc_nodup {A : Nat → Prop} {ws : va_W} (h : va_D A ws) : (ws.map Prod.fst).Pairwise (· ≠ ·) := by
  rw [List.pairwise_iff_getElem]
  intro i j hi hj hij he
  have hi' : i < ws.length := by simpa using hi
  have hj' : j < ws.length := by simpa using hj
  rw [List.getElem_map, List.getElem_map] at he
  have := h.1 i j _ _ (List.getElem?_eq_getElem hi') (List.getElem?_eq_getElem hj') he
  omega
theorem zc_D_of {A : Nat → Prop} {ws : va_W} (h : (ws.map Prod.fst).Pairwise (· ≠ ·)) (hA : ∀ q ∈ ws, A q.1) : va_D A ws := by
  rw [List.pairwise_iff_getElem] at h
  refine ⟨fun i j p q hp hq e => ?_, fun k q hk => hA q (List.mem_of_getElem? hk)⟩
  obtain ⟨hi, ei⟩ := List.getElem?_eq_some_iff.mp hp
  obtain ⟨hj, ej⟩ := List.getElem?_eq_some_iff.mp hq
  rcases Nat.lt_trichotomy i j with c | c | c
  · exact absurd (by rw [List.getElem_map, List.getElem_map, ei, ej]; exact e) (h i j (by simpa using hi) (by simpa using hj) c)
  · exact c
  · exact absurd (by rw [List.getElem_map, List.getElem_map, ei, ej]; exact e.symm) (h j i (by simpa using hj) (by simpa using hi) c)
theorem zc_P_of {D : va_G} {cl : List vw_C} {ws : va_W} {H : Heap} (h : ∀ q ∈ ws, va_at D cl q H) : va_P D cl ws H := fun _ q hk => h q (List.mem_of_getElem? hk)
theorem zc_P_at {D : va_G} {cl : List vw_C} {ws : va_W} {H : Heap} (h : va_P D cl ws H) {q : Nat × va_E} (hq : q ∈ ws) : va_at D cl q H := by
  obtain ⟨i, hi⟩ := List.getElem?_of_mem hq
  exact h i q hi
theorem zc_repl {D : va_G} {cl : List vw_C} {wc w1 ws ws' : va_W} {H H1 : Heap} (hP : va_P D cl ws H) (hP1 : va_P D cl w1 H1) (hk : ∀ q : Nat, q < H.size → ¬ va_A wc H.size q → H1[q]? = H[q]?) (hs : ∀ q ∈ ws', q ∈ w1 ∨ (q ∈ ws ∧ q.1 ∉ wc.map Prod.fst)) : va_P D cl ws' H1 := by
  refine zc_P_of (fun q hq => ?_)
  rcases hs q hq with h | ⟨h, hn⟩
  · exact zc_P_at hP1 h
  · have ha := zc_P_at hP h
    refine ha.kept (hk q.1 ha.lt ?_)
    rintro (⟨k, e', hke⟩ | hsz)
    · exact hn (List.mem_map.mpr ⟨(q.1, e'), List.mem_of_getElem? hke, rfl⟩)
    · exact absurd ha.lt (Nat.not_lt.mpr hsz)
abbrev zc_ad (ad : Nat → Nat) : List Nat := [ad 0, ad 1, ad 2, ad 3, ad 4, ad 5, ad 6]
theorem zc_st_fst (G : zc_G) (ad : Nat → Nat) (v : zc_S) : (zc_st G ad v).map Prod.fst = zc_ad ad := rfl
theorem zc_pool_fst (G : zc_G) (pa : Nat → Nat → Nat) (pv : Nat → zc_S) : (zc_pool G pa pv).map Prod.fst = (List.range 22).flatMap (fun k => zc_ad (pa k)) := by
  unfold zc_pool
  rw [List.map_flatMap]
  rfl
theorem zc_pool_mem {G : zc_G} {pa : Nat → Nat → Nat} {pv : Nat → zc_S} {q : Nat × va_E} : q ∈ zc_pool G pa pv ↔ ∃ k, k < 22 ∧ q ∈ zc_st G (pa k) (pv k) := by
  unfold zc_pool
  rw [List.mem_flatMap]
  constructor
  · rintro ⟨k, hk, h⟩; exact ⟨k, List.mem_range.mp hk, h⟩
  · rintro ⟨k, hk, h⟩; exact ⟨k, List.mem_range.mpr hk, h⟩
theorem zc_bc_fst (G : zc_G) (ba na : Nat → Nat) (pa : Nat → Nat → Nat) (b b' : zc_B) : (zc_bc G ba na pa b).map Prod.fst = (zc_bc G ba na pa b').map Prod.fst := by
  show ((zc_bx G ba na pa b) ++ zc_pool G pa b.2.2.2).map Prod.fst = ((zc_bx G ba na pa b') ++ zc_pool G pa b'.2.2.2).map Prod.fst
  simp only [List.map_append, zc_pool_fst]
  rfl
theorem zc_bcD {G : zc_G} {ba na : Nat → Nat} {pa : Nat → Nat → Nat} {b b' : zc_B} {A : Nat → Prop} (h : va_D A (zc_bc G ba na pa b)) : va_D A (zc_bc G ba na pa b') := zc_Ds h (zc_bc_fst G ba na pa b' b)
/-- what lies apart -/
theorem zc_apart {G : zc_G} {ba na : Nat → Nat} {pa : Nat → Nat → Nat} {b : zc_B} {A : Nat → Prop} (h : va_D A (zc_bc G ba na pa b)) :
    (zc_ad na).Pairwise (· ≠ ·) ∧ (∀ k, k < 22 → (zc_ad (pa k)).Pairwise (· ≠ ·)) ∧ (∀ x ∈ (zc_b6 G ba na pa b).map Prod.fst, ∀ y ∈ zc_ad na, x ≠ y) ∧ (∀ x ∈ (zc_b6 G ba na pa b).map Prod.fst, ∀ k, k < 22 → ∀ y ∈ zc_ad (pa k), x ≠ y) ∧ (∀ x ∈ zc_ad na, ∀ k, k < 22 → ∀ y ∈ zc_ad (pa k), x ≠ y) ∧ (∀ j k, j < 22 → k < 22 → j ≠ k → ∀ x ∈ zc_ad (pa j), ∀ y ∈ zc_ad (pa k), x ≠ y) := by
  have hN := zc_nodup h
  have e : (zc_bc G ba na pa b).map Prod.fst = ((zc_b6 G ba na pa b).map Prod.fst ++ zc_ad na) ++ (List.range 22).flatMap (fun k => zc_ad (pa k)) := by
    show ((zc_bx G ba na pa b) ++ zc_pool G pa b.2.2.2).map Prod.fst = _
    rw [List.map_append, zc_pool_fst]
    rfl
  rw [e, List.pairwise_append, List.pairwise_append, List.pairwise_flatMap] at hN
  obtain ⟨⟨h1, h2, h3⟩, ⟨h4, h5⟩, h6⟩ := hN
  refine ⟨h2, fun k hk => h4 k (List.mem_range.mpr hk), h3, ?_, ?_, ?_⟩
  · intro x hx k hk y hy
    exact h6 x (List.mem_append_left _ hx) y (List.mem_flatMap.mpr ⟨k, List.mem_range.mpr hk, hy⟩)
  · intro x hx k hk y hy
    exact h6 x (List.mem_append_right _ hx) y (List.mem_flatMap.mpr ⟨k, List.mem_range.mpr hk, hy⟩)
  · intro j k hj hk hjk x hx y hy
    rw [List.pairwise_iff_getElem] at h5
    rcases Nat.lt_or_gt_of_ne hjk with c | c
    · have := h5 j k (by simpa using hj) (by simpa using hk) c
      rw [List.getElem_range, List.getElem_range] at this
      exact this x hx y hy
    · have := h5 k j (by simpa using hk) (by simpa using hj) c
      rw [List.getElem_range, List.getElem_range] at this
      exact (this y hy x hx).symm
theorem zc_in_bc_n {G : zc_G} {ba na : Nat → Nat} {pa : Nat → Nat → Nat} {b : zc_B} {q : Nat × va_E} (h : q ∈ zc_st G na b.2.2.1) : q ∈ zc_bc G ba na pa b := List.mem_append_left _ (List.mem_append_right _ h)
theorem zc_in_bc_p {G : zc_G} {ba na : Nat → Nat} {pa : Nat → Nat → Nat} {b : zc_B} {q : Nat × va_E} {k : Nat} (hk : k < 22) (h : q ∈ zc_st G (pa k) (b.2.2.2 k)) : q ∈ zc_bc G ba na pa b := List.mem_append_right _ (zc_pool_mem.mpr ⟨k, hk, h⟩)
theorem zc_in_bc_6 {G : zc_G} {ba na : Nat → Nat} {pa : Nat → Nat → Nat} {b : zc_B} {q : Nat × va_E} (h : q ∈ zc_b6 G ba na pa b) : q ∈ zc_bc G ba na pa b := List.mem_append_left _ (List.mem_append_left _ h)
theorem zc_fst {ws : va_W} {q : Nat × va_E} (h : q ∈ ws) : q.1 ∈ ws.map Prod.fst := List.mem_map.mpr ⟨q, h, rfl⟩
theorem zc_bc_cases {G : zc_G} {ba na : Nat → Nat} {pa : Nat → Nat → Nat} {b : zc_B} {q : Nat × va_E} (h : q ∈ zc_bc G ba na pa b) : q ∈ zc_b6 G ba na pa b ∨ q ∈ zc_st G na b.2.2.1 ∨ ∃ k, k < 22 ∧ q ∈ zc_st G (pa k) (b.2.2.2 k) := by
  rcases List.mem_append.mp h with h | h
  · rcases List.mem_append.mp h with h | h
    · exact Or.inl h
    · exact Or.inr (Or.inl h)
  · exact Or.inr (Or.inr (zc_pool_mem.mp h))
theorem zc_vlt {i : Int32} {n : Nat} (h : vp_in i n) : i.toNatClampNeg < n := by
  unfold vp_in at h
  omega
/-- both states of a copy lie in the clock's world -/
theorem zc_pairP {G : zc_G} {ba na : Nat → Nat} {pa : Nat → Nat → Nat} {b : zc_B} {H : Heap} {k : Nat} (hk : k < 22) (hP : va_P G.1 vwCl (zc_bc G ba na pa b) H) : va_P G.1 vwCl (zc_st G (pa k) (b.2.2.2 k)) H ∧ va_P G.1 vwCl (zc_st G na b.2.2.1) H :=
  ⟨zc_P_of (fun _ h => zc_P_at hP (zc_in_bc_p hk h)), zc_P_of (fun _ h => zc_P_at hP (zc_in_bc_n h))⟩
theorem zc_pairD {G : zc_G} {ba na : Nat → Nat} {pa : Nat → Nat → Nat} {b : zc_B} {A : Nat → Prop} {k : Nat} (hk : k < 22) (hD : va_D A (zc_bc G ba na pa b)) (v w : zc_S) : va_D (fun _ => True) (zc_st G (pa k) v ++ zc_st G na w) ∧ va_D (fun _ => True) (zc_st G na w ++ zc_st G (pa k) v) := by
  obtain ⟨h1, h2, -, -, h5, -⟩ := zc_apart hD
  constructor
  · refine zc_D_of ?_ (fun _ _ => trivial)
    rw [List.map_append, zc_st_fst, zc_st_fst, List.pairwise_append]
    exact ⟨h2 k hk, h1, fun x hx y hy => (h5 y hy k hk x hx).symm⟩
  · refine zc_D_of ?_ (fun _ _ => trivial)
    rw [List.map_append, zc_st_fst, zc_st_fst, List.pairwise_append]
    exact ⟨h1, h2 k hk, fun x hx y hy => h5 x hx k hk y hy⟩
theorem zc_preTo {G : zc_G} {ba na : Nat → Nat} {pa : Nat → Nat → Nat} {b : zc_B} {s : State} {H : Heap} {A : Nat → Prop} {k : Nat} (hK : zc_K G s) (hP : va_P G.1 vwCl (zc_bc G ba na pa b) H) (hD : va_D A (zc_bc G ba na pa b)) (hk : k < 22) : PreV s H RX1 (pa k 0) (zc_Pm G [.ref (pa k 0), .ref (na 0)] (zc_st G (pa k) (b.2.2.2 k) ++ zc_st G na b.2.2.1) H.size) [.ref (na 0)] :=
  zc_preVm hK ((zc_pairP hk hP).1.app (zc_pairP hk hP).2) (zc_pairD hk hD _ _).1 0 (ci := 1) (C := (RX1, TX1, 18)) rfl rfl
theorem zc_preFrom {G : zc_G} {ba na : Nat → Nat} {pa : Nat → Nat → Nat} {b : zc_B} {s : State} {H : Heap} {A : Nat → Prop} {k : Nat} (hK : zc_K G s) (hP : va_P G.1 vwCl (zc_bc G ba na pa b) H) (hD : va_D A (zc_bc G ba na pa b)) (hk : k < 22) : PreV s H RX1 (na 0) (zc_Pm G [.ref (na 0), .ref (pa k 0)] (zc_st G na b.2.2.1 ++ zc_st G (pa k) (b.2.2.2 k)) H.size) [.ref (pa k 0)] :=
  zc_preVm hK ((zc_pairP hk hP).2.app (zc_pairP hk hP).1) (zc_pairD hk hD _ _).2 0 (ci := 1) (C := (RX1, TX1, 18)) rfl rfl
section ZCP
variable {p : Program} {l : Launch} {e : Env} {R : Room} {s : State} {m : MethodId} {args : Array Value} {below : List Frame} {meth : Method} {c : Code} {H : Heap} {locs : List Loc} {cells slots : Nat} {Q : State → Prop} {pc : Nat} {ls : Array Slot} {rest : List Value} {H0 : Heap} {ar : Array Value} {st0 : List Value} {A0 : Nat → Prop} {G : zc_G} {ba na : Nat → Nat} {pa : Nat → Nat → Nat} {b : zc_B}
theorem zc_poolTo {k : Nat} (hk : k < 22) {v1 : zc_S} (hP : va_P G.1 vwCl (zc_bc G ba na pa b) H) (hD : va_D A0 (zc_bc G ba na pa b)) (hS : va_S A0 H0 H locs) (hA : ∀ q, H0.size ≤ q → A0 q)
    (hr : va_Run p l e R s m args below meth c H locs cells slots 0 0 (F0 m pc ls st0) rest (zc_Qv G (zc_st G (pa k) v1 ++ zc_st G na b.2.2.1) (va_A (zc_st G (pa k) (b.2.2.2 k) ++ zc_st G na b.2.2.1) H.size) ar) (va_A (zc_st G (pa k) (b.2.2.2 k) ++ zc_st G na b.2.2.1) H.size))
    (kk : ∀ (H1 : Heap) (locs1 : List Loc), va_P G.1 vwCl (zc_bc G ba na pa (zc_bp b k v1)) H1 → va_S A0 H0 H1 locs1 → W p l e R s m args below meth c H1 locs1 cells slots Q (F0 m (pc + 3) ls rest)) : W p l e R s m args below meth c H locs cells slots Q (F0 m pc ls st0) := by
  have hF : ∀ q, va_A (zc_st G (pa k) (b.2.2.2 k) ++ zc_st G na b.2.2.1) H.size q → A0 q := by
    rintro q (⟨i, e', hq⟩ | hq)
    · have hm := List.mem_of_getElem? hq
      have : (q, e') ∈ zc_bc G ba na pa b := by
        rcases List.mem_append.mp hm with h | h
        · exact zc_in_bc_p hk h
        · exact zc_in_bc_n h
      obtain ⟨j, hj⟩ := List.getElem?_of_mem this
      exact hD.2 j _ hj
    · exact hA q (Nat.le_trans hS.1 hq)
  refine va_callv hr hS (fun q _ h => hF q h) hF (fun u t H1 locs1 ht hvm hw1 hB hz1 hk1 hS1 => ?_)
  have hB : va_P G.1 vwCl (zc_st G (pa k) v1 ++ zc_st G na b.2.2.1) t.heap := hB
  rw [ht] at hB
  obtain ⟨h1, h2, h3, h4, h5, h6⟩ := zc_apart hD
  refine kk H1 locs1 (zc_repl hP hB hk1 (fun q hq => ?_)) hS1
  have hna : ∀ x : Nat, x ∉ zc_ad (pa k) → x ∉ zc_ad na → x ∉ (zc_st G (pa k) (b.2.2.2 k) ++ zc_st G na b.2.2.1).map Prod.fst := by
    intro x hx1 hx2 hx
    rw [List.map_append] at hx
    rcases List.mem_append.mp hx with h | h
    · exact hx1 h
    · exact hx2 h
  rcases zc_bc_cases hq with h | h | ⟨j, hj, h⟩
  · exact Or.inr ⟨zc_in_bc_6 h, hna _ (fun hx => h4 _ (zc_fst h) k hk _ hx rfl) (fun hx => h3 _ (zc_fst h) _ hx rfl)⟩
  · exact Or.inl (List.mem_append_right _ h)
  · by_cases hjk : j = k
    · subst hjk
      have h' : q ∈ zc_st G (pa j) (va_up b.2.2.2 j v1 j) := h
      rw [va_up_self] at h'
      exact Or.inl (List.mem_append_left _ h')
    · have h' : q ∈ zc_st G (pa j) (va_up b.2.2.2 k v1 j) := h
      rw [va_up_ne _ _ hjk] at h'
      refine Or.inr ⟨zc_in_bc_p hj h', hna _ (fun hx => h6 j k hj hk hjk _ (zc_fst h') _ hx rfl) (fun hx => h5 _ hx j hj _ (zc_fst h') rfl)⟩
theorem zc_poolFrom {k : Nat} (hk : k < 22) {v1 : zc_S} (hP : va_P G.1 vwCl (zc_bc G ba na pa b) H) (hD : va_D A0 (zc_bc G ba na pa b)) (hS : va_S A0 H0 H locs) (hA : ∀ q, H0.size ≤ q → A0 q)
    (hr : va_Run p l e R s m args below meth c H locs cells slots 0 0 (F0 m pc ls st0) rest (zc_Qv G (zc_st G na v1 ++ zc_st G (pa k) (b.2.2.2 k)) (va_A (zc_st G na b.2.2.1 ++ zc_st G (pa k) (b.2.2.2 k)) H.size) ar) (va_A (zc_st G na b.2.2.1 ++ zc_st G (pa k) (b.2.2.2 k)) H.size))
    (kk : ∀ (H1 : Heap) (locs1 : List Loc), va_P G.1 vwCl (zc_bc G ba na pa (zc_bs b v1)) H1 → va_S A0 H0 H1 locs1 → W p l e R s m args below meth c H1 locs1 cells slots Q (F0 m (pc + 3) ls rest)) : W p l e R s m args below meth c H locs cells slots Q (F0 m pc ls st0) := by
  have hF : ∀ q, va_A (zc_st G na b.2.2.1 ++ zc_st G (pa k) (b.2.2.2 k)) H.size q → A0 q := by
    rintro q (⟨i, e', hq⟩ | hq)
    · have hm := List.mem_of_getElem? hq
      have : (q, e') ∈ zc_bc G ba na pa b := by
        rcases List.mem_append.mp hm with h | h
        · exact zc_in_bc_n h
        · exact zc_in_bc_p hk h
      obtain ⟨j, hj⟩ := List.getElem?_of_mem this
      exact hD.2 j _ hj
    · exact hA q (Nat.le_trans hS.1 hq)
  refine va_callv hr hS (fun q _ h => hF q h) hF (fun u t H1 locs1 ht hvm hw1 hB hz1 hk1 hS1 => ?_)
  have hB : va_P G.1 vwCl (zc_st G na v1 ++ zc_st G (pa k) (b.2.2.2 k)) t.heap := hB
  rw [ht] at hB
  obtain ⟨h1, h2, h3, h4, h5, h6⟩ := zc_apart hD
  refine kk H1 locs1 (zc_repl hP hB hk1 (fun q hq => ?_)) hS1
  have hna : ∀ x : Nat, x ∉ zc_ad (pa k) → x ∉ zc_ad na → x ∉ (zc_st G na b.2.2.1 ++ zc_st G (pa k) (b.2.2.2 k)).map Prod.fst := by
    intro x hx1 hx2 hx
    rw [List.map_append] at hx
    rcases List.mem_append.mp hx with h | h
    · exact hx2 h
    · exact hx1 h
  rcases zc_bc_cases hq with h | h | ⟨j, hj, h⟩
  · have h' : q ∈ zc_b6 G ba na pa b := h
    exact Or.inr ⟨zc_in_bc_6 h', hna _ (fun hx => h4 _ (zc_fst h') k hk _ hx rfl) (fun hx => h3 _ (zc_fst h') _ hx rfl)⟩
  · exact Or.inl (List.mem_append_left _ h)
  · by_cases hjk : j = k
    · subst hjk
      exact Or.inl (List.mem_append_right _ h)
    · have h' : q ∈ zc_st G (pa j) (b.2.2.2 j) := h
      refine Or.inr ⟨zc_in_bc_p hj h', hna _ (fun hx => h6 j k hj hk hjk _ (zc_fst h') _ hx rfl) (fun hx => h5 _ hx j hj _ (zc_fst h') rfl)⟩
/-! calls that have the clock's whole world -/
theorem zc_freeB (hD : va_D A0 (zc_bc G ba na pa b)) (hS : va_S A0 H0 H locs) (hA : ∀ q, H0.size ≤ q → A0 q) : ∀ q, va_A (zc_bc G ba na pa b) H.size q → A0 q := by
  rintro q (⟨i, e', hq⟩ | hq)
  · exact hD.2 i _ hq
  · exact hA q (Nat.le_trans hS.1 hq)
theorem zc_mvA {b1 : zc_B} (hD : va_D A0 (zc_bc G ba na pa b)) (hS : va_S A0 H0 H locs) (hA : ∀ q, H0.size ≤ q → A0 q)
    (hr : va_Run p l e R s m args below meth c H locs cells slots 0 0 (F0 m pc ls st0) rest (zc_Qv G (zc_bc G ba na pa b1) (va_A (zc_bc G ba na pa b) H.size) ar) (va_A (zc_bc G ba na pa b) H.size))
    (kk : ∀ (H1 : Heap) (locs1 : List Loc), va_P G.1 vwCl (zc_bc G ba na pa b1) H1 → va_S A0 H0 H1 locs1 → W p l e R s m args below meth c H1 locs1 cells slots Q (F0 m (pc + 3) ls rest)) : W p l e R s m args below meth c H locs cells slots Q (F0 m pc ls st0) := by
  have hF := zc_freeB hD hS hA
  refine va_callv hr hS (fun q _ h => hF q h) hF (fun u t H1 locs1 ht hvm hw1 hB hz1 hk1 hS1 => ?_)
  have hB : va_P G.1 vwCl (zc_bc G ba na pa b1) t.heap := hB
  rw [ht] at hB
  exact kk H1 locs1 hB hS1
theorem zc_miA {b1 : zc_B} {r0 : Int32} (hD : va_D A0 (zc_bc G ba na pa b)) (hS : va_S A0 H0 H locs) (hA : ∀ q, H0.size ≤ q → A0 q)
    (hr : va_Run p l e R s m args below meth c H locs cells slots 0 0 (F0 m pc ls st0) rest (zc_Qi G r0 (zc_bc G ba na pa b1) (va_A (zc_bc G ba na pa b) H.size) ar) (va_A (zc_bc G ba na pa b) H.size))
    (kk : ∀ (H1 : Heap) (locs1 : List Loc), va_P G.1 vwCl (zc_bc G ba na pa b1) H1 → va_S A0 H0 H1 locs1 → W p l e R s m args below meth c H1 locs1 cells slots Q (F0 m (pc + 3) ls (.int r0 :: rest))) : W p l e R s m args below meth c H locs cells slots Q (F0 m pc ls st0) := by
  have hF := zc_freeB hD hS hA
  refine va_calli hr hS (fun q _ h => hF q h) hF (fun r u t H1 locs1 ht hvm hw1 hB hz1 hk1 hS1 => ?_)
  have hw1 : r = r0 := hw1
  subst hw1
  have hB : va_P G.1 vwCl (zc_bc G ba na pa b1) t.heap := hB
  rw [ht] at hB
  exact kk H1 locs1 hB hS1
end ZCP
