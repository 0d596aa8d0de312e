/-! setting one number -/
theorem z25 {P : Nat → Prop} (h0 : P 0) (h1 : P 1) (h2 : P 2) (h3 : P 3) (h4 : P 4) (h5 : P 5) (h6 : P 6) (h7 : P 7) (h8 : P 8) (h9 : P 9) (h10 : P 10) (h11 : P 11) (h12 : P 12) (h13 : P 13) (h14 : P 14) (h15 : P 15) (h16 : P 16) (h17 : P 17) (h18 : P 18) (h19 : P 19) (h20 : P 20) (h21 : P 21) (h22 : P 22) (h23 : P 23) (h24 : P 24) (hh : ∀ k, 25 ≤ k → P k) : ∀ k, P k := by
  intro k
  by_cases c : 25 ≤ k
  · exact hh k c
  · have : k = 0 ∨ k = 1 ∨ k = 2 ∨ k = 3 ∨ k = 4 ∨ k = 5 ∨ k = 6 ∨ k = 7 ∨ k = 8 ∨ k = 9 ∨ k = 10 ∨ k = 11 ∨ k = 12 ∨ k = 13 ∨ k = 14 ∨ k = 15 ∨ k = 16 ∨ k = 17 ∨ k = 18 ∨ k = 19 ∨ k = 20 ∨ k = 21 ∨ k = 22 ∨ k = 23 ∨ k = 24 := by omega
    rcases this with rfl | rfl | rfl | rfl | rfl | rfl | rfl | rfl | rfl | rfl | rfl | rfl | rfl | rfl | rfl | rfl | rfl | rfl | rfl | rfl | rfl | rfl | rfl | rfl | rfl <;> assumption
theorem zup_l {z : Nat → Int} {l : Nat → Int32} (h : ∀ k, k < 9 → l k = zi (z (15 + k))) {j : Nat} {x : Int} (hj : j < 15 ∨ 24 ≤ j) : ∀ k, k < 9 → l k = zi (va_up z j x (15 + k)) := by
  intro k hk
  rw [va_up_ne _ _ (by omega)]
  exact h k hk
theorem zup_q {z : Nat → Int} {q : zc_Q} (h : zRq z q) {j : Nat} {x : Int} (hj : j < 24) : zRq (va_up z j x) q := by
  refine ⟨by rw [va_up_ne _ _ (by omega)]; exact h.1, fun a ha => ?_⟩
  obtain ⟨h0, h1, h2, h3⟩ := h.2 a ha
  exact ⟨by rw [va_up_ne _ _ (by omega)]; exact h0, by rw [va_up_ne _ _ (by omega)]; exact h1, by rw [va_up_ne _ _ (by omega)]; exact h2, by rw [va_up_ne _ _ (by omega)]; exact h3⟩
section ZSet
variable {z : Nat → Int} {v : zc_S} {u : zc_M} {T : Int}
theorem zRs_congr {z' : Nat → Int} (e : ∀ k, k < 49 → z' k = z k) (h : zRs z v) : zRs z' v := by
  obtain ⟨⟨g0, g1, g2⟩, ⟨i1, i2, i3, i4, i5, i6, i7, i8, i9, i10, i11⟩, hl, hq, ht⟩ := h
  refine ⟨⟨by rw [e 0 (by decide)]; exact g0, by rw [e 1 (by decide)]; exact g1, by rw [e 2 (by decide)]; exact g2⟩, ⟨by rw [e 3 (by decide)]; exact i1, by rw [e 4 (by decide)]; exact i2, by rw [e 5 (by decide)]; exact i3, by rw [e 6 (by decide)]; exact i4, by rw [e 7 (by decide)]; exact i5, by rw [e 8 (by decide)]; exact i6, by rw [e 9 (by decide)]; exact i7, by rw [e 10 (by decide)]; exact i8, by rw [e 11 (by decide)]; exact i9, by rw [e 12 (by decide)]; exact i10, by rw [e 14 (by decide)]; exact i11⟩, fun k hk => by rw [e (15 + k) (by omega)]; exact hl k hk, ⟨by rw [e 24 (by decide)]; exact hq.1, fun a ha => ?_⟩, ?_⟩
  · rw [e (25 + 4 * a) (by omega), e (26 + 4 * a) (by omega), e (27 + 4 * a) (by omega), e (28 + 4 * a) (by omega)]
    exact hq.2 a ha
  · unfold zRt
    rw [e 12 (by decide), e 13 (by decide)]
    exact ht
theorem zRm_congr {z' : Nat → Int} {f : Nat → Int64} (e : ∀ k, k < 49 → z' k = z k) (h : zRm z f) : zRm z' f := fun k hk => by rw [e k hk]; exact h k hk
theorem m_set (h : zRm z (u.1 0)) (j : Nat) (x : Int) : zRm (va_up z j x) ((zc_mL u 0 j (zl x)).1 0) := by
  intro k hk
  show vp_updL (u.1 0) j (zl x) k = _
  by_cases c : k = j
  · subst c; rw [pk_uLs, va_up_self]
  · rw [pk_uLn c, va_up_ne _ _ c]; exact h k hk
theorem s_L0 (h : zRs z v) (x : Int) : zRs (va_up z 0 x) (zc_sL v 0 (zl x)) := by
  obtain ⟨⟨g0, g1, g2⟩, hi, hl, hq, ht⟩ := h
  exact ⟨⟨rfl, g1, g2⟩, hi, zup_l hl (by decide), zup_q hq (by decide), ht⟩
theorem s_L1 (h : zRs z v) (x : Int) : zRs (va_up z 1 x) (zc_sL v 1 (zl x)) := by
  obtain ⟨⟨g0, g1, g2⟩, hi, hl, hq, ht⟩ := h
  exact ⟨⟨g0, rfl, g2⟩, hi, zup_l hl (by decide), zup_q hq (by decide), ht⟩
theorem s_L2 (h : zRs z v) (x : Int) : zRs (va_up z 2 x) (zc_sL v 2 (zl x)) := by
  obtain ⟨⟨g0, g1, g2⟩, hi, hl, hq, ht⟩ := h
  exact ⟨⟨g0, g1, rfl⟩, hi, zup_l hl (by decide), zup_q hq (by decide), ht⟩
theorem s_I9 (h : zRs z v) (x : Int) : zRs (va_up z 3 x) (zc_sI v 9 (zi x)) := by
  obtain ⟨hg, ⟨i1, i2, i3, i4, i5, i6, i7, i8, i9, i10, i11⟩, hl, hq, ht⟩ := h
  exact ⟨hg, ⟨rfl, i2, i3, i4, i5, i6, i7, i8, i9, i10, i11⟩, zup_l hl (by decide), zup_q hq (by decide), ht⟩
theorem s_I3 (h : zRs z v) (x : Int) : zRs (va_up z 4 x) (zc_sI v 3 (zi x)) := by
  obtain ⟨hg, ⟨i1, i2, i3, i4, i5, i6, i7, i8, i9, i10, i11⟩, hl, hq, ht⟩ := h
  exact ⟨hg, ⟨i1, rfl, i3, i4, i5, i6, i7, i8, i9, i10, i11⟩, zup_l hl (by decide), zup_q hq (by decide), ht⟩
theorem s_I4 (h : zRs z v) (x : Int) : zRs (va_up z 5 x) (zc_sI v 4 (zi x)) := by
  obtain ⟨hg, ⟨i1, i2, i3, i4, i5, i6, i7, i8, i9, i10, i11⟩, hl, hq, ht⟩ := h
  exact ⟨hg, ⟨i1, i2, rfl, i4, i5, i6, i7, i8, i9, i10, i11⟩, zup_l hl (by decide), zup_q hq (by decide), ht⟩
theorem s_I5 (h : zRs z v) (x : Int) : zRs (va_up z 6 x) (zc_sI v 5 (zi x)) := by
  obtain ⟨hg, ⟨i1, i2, i3, i4, i5, i6, i7, i8, i9, i10, i11⟩, hl, hq, ht⟩ := h
  exact ⟨hg, ⟨i1, i2, i3, rfl, i5, i6, i7, i8, i9, i10, i11⟩, zup_l hl (by decide), zup_q hq (by decide), ht⟩
theorem s_I6 (h : zRs z v) (x : Int) : zRs (va_up z 7 x) (zc_sI v 6 (zi x)) := by
  obtain ⟨hg, ⟨i1, i2, i3, i4, i5, i6, i7, i8, i9, i10, i11⟩, hl, hq, ht⟩ := h
  exact ⟨hg, ⟨i1, i2, i3, i4, rfl, i6, i7, i8, i9, i10, i11⟩, zup_l hl (by decide), zup_q hq (by decide), ht⟩
theorem s_I7 (h : zRs z v) (x : Int) : zRs (va_up z 8 x) (zc_sI v 7 (zi x)) := by
  obtain ⟨hg, ⟨i1, i2, i3, i4, i5, i6, i7, i8, i9, i10, i11⟩, hl, hq, ht⟩ := h
  exact ⟨hg, ⟨i1, i2, i3, i4, i5, rfl, i7, i8, i9, i10, i11⟩, zup_l hl (by decide), zup_q hq (by decide), ht⟩
theorem s_I8 (h : zRs z v) (x : Int) : zRs (va_up z 9 x) (zc_sI v 8 (zi x)) := by
  obtain ⟨hg, ⟨i1, i2, i3, i4, i5, i6, i7, i8, i9, i10, i11⟩, hl, hq, ht⟩ := h
  exact ⟨hg, ⟨i1, i2, i3, i4, i5, i6, rfl, i8, i9, i10, i11⟩, zup_l hl (by decide), zup_q hq (by decide), ht⟩
theorem s_I10 (h : zRs z v) (x : Int) : zRs (va_up z 10 x) (zc_sI v 10 (zi x)) := by
  obtain ⟨hg, ⟨i1, i2, i3, i4, i5, i6, i7, i8, i9, i10, i11⟩, hl, hq, ht⟩ := h
  exact ⟨hg, ⟨i1, i2, i3, i4, i5, i6, i7, rfl, i9, i10, i11⟩, zup_l hl (by decide), zup_q hq (by decide), ht⟩
theorem s_I11 (h : zRs z v) (x : Int) : zRs (va_up z 11 x) (zc_sI v 11 (zi x)) := by
  obtain ⟨hg, ⟨i1, i2, i3, i4, i5, i6, i7, i8, i9, i10, i11⟩, hl, hq, ht⟩ := h
  exact ⟨hg, ⟨i1, i2, i3, i4, i5, i6, i7, i8, rfl, i10, i11⟩, zup_l hl (by decide), zup_q hq (by decide), ht⟩
theorem s_I12 (h : zRs z v) (x : Int) : zRs (va_up z 14 x) (zc_sI v 12 (zi x)) := by
  obtain ⟨hg, ⟨i1, i2, i3, i4, i5, i6, i7, i8, i9, i10, i11⟩, hl, hq, ht⟩ := h
  exact ⟨hg, ⟨i1, i2, i3, i4, i5, i6, i7, i8, i9, i10, rfl⟩, zup_l hl (by decide), zup_q hq (by decide), ht⟩
theorem s_A (h : zRs z v) {k : Nat} (hk : k < 9) (x : Int) : zRs (va_up z (15 + k) x) (zc_sa v k (zi x)) := by
  obtain ⟨⟨g0, g1, g2⟩, ⟨i1, i2, i3, i4, i5, i6, i7, i8, i9, i10, i11⟩, hl, hq, ht⟩ := h
  have n : ∀ j, j < 15 → va_up z (15 + k) x j = z j := fun j hj => va_up_ne _ _ (by omega)
  refine ⟨⟨by rw [n 0 (by decide)]; exact g0, by rw [n 1 (by decide)]; exact g1, by rw [n 2 (by decide)]; exact g2⟩, ⟨by rw [n 3 (by decide)]; exact i1, by rw [n 4 (by decide)]; exact i2, by rw [n 5 (by decide)]; exact i3, by rw [n 6 (by decide)]; exact i4, by rw [n 7 (by decide)]; exact i5, by rw [n 8 (by decide)]; exact i6, by rw [n 9 (by decide)]; exact i7, by rw [n 10 (by decide)]; exact i8, by rw [n 11 (by decide)]; exact i9, by rw [n 12 (by decide)]; exact i10, by rw [n 14 (by decide)]; exact i11⟩, fun j hj => ?_, zup_q hq (by omega), ?_⟩
  · show upd v.2.2.1 k (zi x) j = _
    by_cases c : j = k
    · subst c; rw [pk_us, va_up_self]
    · rw [pk_un c, va_up_ne _ _ (by omega)]; exact hl j hj
  · unfold zRt
    rw [n 12 (by decide), n 13 (by decide)]
    exact ht
theorem s_q (h : zRs z v) {z' : Nat → Int} (e : ∀ k, k < 24 → z' k = z k) {q : zc_Q} (hq : zRq z' q) : zRs z' (zc_sq v q) := by
  obtain ⟨⟨g0, g1, g2⟩, ⟨i1, i2, i3, i4, i5, i6, i7, i8, i9, i10, i11⟩, hl, -, ht⟩ := h
  refine ⟨⟨by rw [e 0 (by decide)]; exact g0, by rw [e 1 (by decide)]; exact g1, by rw [e 2 (by decide)]; exact g2⟩, ⟨by rw [e 3 (by decide)]; exact i1, by rw [e 4 (by decide)]; exact i2, by rw [e 5 (by decide)]; exact i3, by rw [e 6 (by decide)]; exact i4, by rw [e 7 (by decide)]; exact i5, by rw [e 8 (by decide)]; exact i6, by rw [e 9 (by decide)]; exact i7, by rw [e 10 (by decide)]; exact i8, by rw [e 11 (by decide)]; exact i9, by rw [e 12 (by decide)]; exact i10, by rw [e 14 (by decide)]; exact i11⟩, fun k hk => by rw [e (15 + k) (by omega)]; exact hl k hk, hq, ?_⟩
  unfold zRt
  rw [e 12 (by decide), e 13 (by decide)]
  exact ht
/-- ticks, and whether they were steady -/
theorem s_tk (h : zRs z v) {x y : Int} {v1 : zc_S} (e1 : v1.1 = v.1) (e2 : ∀ k, k ≠ 13 → k ≠ 14 → k ≠ 15 → v1.2.1 k = v.2.1 k) (e3 : v1.2.2 = v.2.2) (ex : v1.2.1 13 = zi x) (ht : zRt (va_up (va_up z 13 y) 12 x) v1) : zRs (va_up (va_up z 13 y) 12 x) v1 := by
  obtain ⟨⟨g0, g1, g2⟩, ⟨i1, i2, i3, i4, i5, i6, i7, i8, i9, i10, i11⟩, hl, hq, -⟩ := h
  refine ⟨⟨by rw [e1]; exact g0, by rw [e1]; exact g1, by rw [e1]; exact g2⟩, ⟨by rw [e2 _ (by decide) (by decide) (by decide)]; exact i1, by rw [e2 _ (by decide) (by decide) (by decide)]; exact i2, by rw [e2 _ (by decide) (by decide) (by decide)]; exact i3, by rw [e2 _ (by decide) (by decide) (by decide)]; exact i4, by rw [e2 _ (by decide) (by decide) (by decide)]; exact i5, by rw [e2 _ (by decide) (by decide) (by decide)]; exact i6, by rw [e2 _ (by decide) (by decide) (by decide)]; exact i7, by rw [e2 _ (by decide) (by decide) (by decide)]; exact i8, by rw [e2 _ (by decide) (by decide) (by decide)]; exact i9, ex, by rw [e2 _ (by decide) (by decide) (by decide)]; exact i11⟩, by rw [e3]; exact zup_l (zup_l hl (by decide)) (by decide), by rw [e3]; exact zup_q (zup_q hq (by decide)) (by decide), ht⟩
def zlik (z : Nat → Int) : Int := if z 11 = 1 ∧ (z 12 = 0 ∨ z 13 = zspan z) then zspan z else 9
theorem s_note (h : zRs z v) (ht : zBt T z) (hb : zBs z) {n : Int} (h1 : 1 ≤ n) (h2 : n ≤ 2000) : ∃ v1, fX1_noteTicks v (zi n) = some v1 ∧ zRs (va_up (va_up z 13 (zlik z)) 12 (z 12 + n)) v1 := by
  have hs := s_span h hb
  obtain ⟨p1, p2⟩ := zspan_bd hb
  have h' := h
  obtain ⟨-, ⟨-, -, -, -, -, -, -, -, e11, e13, -⟩, -, -, ht5, ht6⟩ := h
  obtain ⟨-, -, -, -, -, -, -, -, hp, -⟩ := hb
  obtain ⟨⟨t1, t2⟩, -, -, -, ⟨k1, k2⟩, -⟩ := ht
  simp only [fX1_noteTicks, zc_let]
  rw [hs]
  simp only [Option.bind_some]
  rw [e13, show (0 : Int32) = zi 0 from zi_lit 0, wi_eq (by omega) (by omega) (by omega) (by omega)]
  by_cases c : z 12 = 0
  · rw [if_pos c]
    have e11' : (zc_sI v 14 (zi (zspan z))).2.1 11 = zi (z 11) := e11
    rw [e11', zn_z hp]
    refine ⟨_, rfl, s_tk h' rfl (fun k c1 c2 c3 => ?_) rfl ?_ ?_⟩
    · show upd (upd (upd v.2.1 14 _) 15 _) 13 _ k = _
      rw [pk_un c1, pk_un c3, pk_un c2]
    · show (v.2.1 13) + zi n = _
      rw [e13, zi_add]
    · refine ⟨?_, fun _ => ?_⟩
      · show zi (z 11) = 0 ∨ zi (z 11) = 1
        rcases hp with hp | hp
        · exact Or.inl (by rw [hp]; exact (zi_lit 0).symm)
        · exact Or.inr (by rw [hp]; exact (zi_lit 1).symm)
      · show (zi (z 11) = 1 ∧ zi (zspan z) = zi (zlik z) ∧ 0 ≤ zlik z ∧ zlik z ≤ 8) ∨ (zi (z 11) = 0 ∧ zlik z = 9)
        unfold zlik
        rcases hp with hp | hp
        · exact Or.inr ⟨by rw [hp]; exact (zi_lit 0).symm, by rw [if_neg (by omega)]⟩
        · exact Or.inl ⟨by rw [hp]; exact (zi_lit 1).symm, by rw [if_pos ⟨hp, Or.inl c⟩], by rw [if_pos ⟨hp, Or.inl c⟩]; exact p1, by rw [if_pos ⟨hp, Or.inl c⟩]; exact p2⟩
  · rw [if_neg c]
    have key0 : ∃ v1, (zc_let (zc_sI v 15 (zi 0)) fun (v4 : zc_S) => zc_let (zc_sI v4 13 ((v4.2.1 13) + zi n)) fun (v5 : zc_S) => some v5) = some v1 ∧ (zlik z = 9 → zRs (va_up (va_up z 13 (zlik z)) 12 (z 12 + n)) v1) := by
      refine ⟨_, rfl, fun e9 => s_tk h' rfl (fun k c1 c2 c3 => ?_) rfl ?_ ?_⟩
      · show upd (upd v.2.1 15 _) 13 _ k = _
        rw [pk_un c1, pk_un c3]
      · show (v.2.1 13) + zi n = _
        rw [e13, zi_add]
      · exact ⟨Or.inl (zi_lit 0).symm, fun _ => Or.inr ⟨(zi_lit 0).symm, e9⟩⟩
    have key1 : ∃ v1, (zc_let (zc_sI v 13 (zi (z 12) + zi n)) fun (v7 : zc_S) => some v7) = some v1 ∧ (zlik z = z 13 → zRs (va_up (va_up z 13 (zlik z)) 12 (z 12 + n)) v1) := by
      refine ⟨_, rfl, fun e9 => s_tk h' rfl (fun k c1 c2 c3 => ?_) rfl ?_ ?_⟩
      · show upd v.2.1 13 _ k = _
        rw [pk_un c1]
      · show zi (z 12) + zi n = _
        rw [zi_add]
      · refine ⟨ht5, fun _ => ?_⟩
        show (v.2.1 15 = 1 ∧ v.2.1 14 = zi (zlik z) ∧ 0 ≤ zlik z ∧ zlik z ≤ 8) ∨ (v.2.1 15 = 0 ∧ zlik z = 9)
        rw [e9]
        exact ht6 (by omega)
    obtain ⟨w0, k0, r0⟩ := key0
    obtain ⟨w1, k1', r1⟩ := key1
    unfold zc_let at k0 k1'
    rw [e11, wi_eq (by omega) (by omega) (by omega) (by omega)]
    rcases ht6 (by omega) with ⟨q1, q2, q3, q4⟩ | ⟨q1, q2⟩
    · rw [q2, wi_eq (by omega) (by omega) (by omega) (by omega)]
      by_cases d : z 13 = zspan z
      · rw [if_pos d]
        rcases hp with hp | hp
        · rw [if_pos hp]
          exact ⟨w0, k0, r0 (by unfold zlik; rw [if_neg (by omega)])⟩
        · rw [if_neg (by omega)]
          exact ⟨w1, k1', r1 (by unfold zlik; rw [if_pos ⟨hp, Or.inr d⟩, d])⟩
      · rw [if_neg d]
        exact ⟨w0, k0, r0 (by unfold zlik; rw [if_neg (by omega)])⟩
    · have e9 : zlik z = 9 := by unfold zlik; rw [if_neg (by omega)]
      by_cases d : v.2.1 14 = zi (zspan z)
      · rw [if_pos d]
        rcases hp with hp | hp
        · rw [if_pos hp]
          exact ⟨w0, k0, r0 e9⟩
        · rw [if_neg (by omega)]
          exact ⟨w1, k1', r1 (by rw [e9, q2])⟩
      · rw [if_neg d]
        exact ⟨w0, k0, r0 e9⟩
end ZSet
