/-! rows brought from one place to another; states copied; what is kept of the past -/
def zbr (g f : Nat → Int64) (i j t : Nat) : Nat → Int64 := fun k => if j ≤ k ∧ k < j + t then f (i + (k - j)) else g k
theorem zbr_0 (g f : Nat → Int64) (i j : Nat) : zbr g f i j 0 = g := by
  funext k
  unfold zbr
  rw [if_neg (by omega)]
theorem zbr_succ (g f : Nat → Int64) (i j t : Nat) : vp_updL (zbr g f i j t) (j + t) (f (i + t)) = zbr g f i j (t + 1) := by
  funext k
  by_cases c : k = j + t
  · subst c
    rw [pk_uLs]
    unfold zbr
    rw [if_pos (by omega), show j + t - j = t by omega]
  · rw [pk_uLn c]
    unfold zbr
    by_cases d : j ≤ k ∧ k < j + t
    · rw [if_pos d, if_pos (by omega)]
    · rw [if_neg d, if_neg (by omega)]
theorem m_bring2L (g f : Nat → Int64) {i j n n0 n1 : Nat} (h0 : i + n ≤ n0) (h1 : j + n ≤ n1) (h2 : n0 ≤ 100000) (h3 : n1 ≤ 100000) (N : Nat) : ∀ (r k t : Nat), t + r = n → r < k → fX3_bring2_L N n0 n1 f k (zbr g f i j t) (zi i) (zi j) (zi n) (zi t) = some (zbr g f i j n) := by
  intro r
  induction r with
  | zero =>
    intro k t ht hk
    obtain ⟨k, rfl⟩ : ∃ m, k = m + 1 := ⟨k - 1, by omega⟩
    obtain rfl : t = n := by omega
    rw [fX3_bring2_L, wi_le (by omega) (by omega) (by omega) (by omega), if_pos (by omega)]
  | succ r ih =>
    intro k t ht hk
    obtain ⟨k, rfl⟩ : ∃ m, k = m + 1 := ⟨k - 1, by omega⟩
    have ih' := ih k (t + 1) (by omega) (by omega)
    have e : zi (t : Int) + 1 = zi ((t + 1 : Nat) : Int) := by rw [show (1 : Int32) = zi 1 from zi_lit 1, zi_add]; rfl
    rw [fX3_bring2_L, wi_le (by omega) (by omega) (by omega) (by omega), if_neg (by omega), zi_add, zi_add, zn_in (by omega) (by omega) (by omega), zn_in (by omega) (by omega) (by omega), zi_nat (by omega) (by omega), zi_nat (by omega) (by omega), show ((i : Int) + (t : Int)).toNat = i + t by omega, show ((j : Int) + (t : Int)).toNat = j + t by omega, zbr_succ, e]
    exact ih'
theorem m_bring2 (g f : Nat → Int64) {i j n n0 n1 : Nat} (h0 : i + n ≤ n0) (h1 : j + n ≤ n1) (h2 : n0 ≤ 10000) (h3 : n1 ≤ 10000) {N : Nat} (hN : 100000 < N) : fX3_bring2 N n0 n1 g f (zi i) (zi j) (zi n) = some (zbr g f i j n) := by
  have := m_bring2L g f h0 h1 (by omega) (by omega) N n N 0 (by omega) (by omega)
  rw [zbr_0] at this
  unfold fX3_bring2
  rw [show (0 : Int32) = zi 0 from zi_lit 0]
  exact this
theorem m_bring1L (g : Nat → Int64) {i j n n0 : Nat} (hji : j ≤ i) (h0 : i + n ≤ n0) (h2 : n0 ≤ 100000) (N : Nat) : ∀ (r k t : Nat), t + r = n → r < k → fX3_bring1_L N n0 k (zbr g g i j t) (zi i) (zi j) (zi n) (zi t) = some (zbr g g i j n) := by
  intro r
  induction r with
  | zero =>
    intro k t ht hk
    obtain ⟨k, rfl⟩ : ∃ m, k = m + 1 := ⟨k - 1, by omega⟩
    obtain rfl : t = n := by omega
    rw [fX3_bring1_L, wi_le (by omega) (by omega) (by omega) (by omega), if_pos (by omega)]
  | succ r ih =>
    intro k t ht hk
    obtain ⟨k, rfl⟩ : ∃ m, k = m + 1 := ⟨k - 1, by omega⟩
    have ih' := ih k (t + 1) (by omega) (by omega)
    have e : zi (t : Int) + 1 = zi ((t + 1 : Nat) : Int) := by rw [show (1 : Int32) = zi 1 from zi_lit 1, zi_add]; rfl
    have es : zbr g g i j t (i + t) = g (i + t) := by unfold zbr; rw [if_neg (by omega)]
    rw [fX3_bring1_L, wi_le (by omega) (by omega) (by omega) (by omega), if_neg (by omega), zi_add, zi_add, zn_in (by omega) (by omega) (by omega), zn_in (by omega) (by omega) (by omega), zi_nat (by omega) (by omega), zi_nat (by omega) (by omega), show ((i : Int) + (t : Int)).toNat = i + t by omega, show ((j : Int) + (t : Int)).toNat = j + t by omega, es, zbr_succ, e]
    exact ih'
theorem m_bring1 (g : Nat → Int64) {i j n n0 : Nat} (hji : j ≤ i) (h0 : i + n ≤ n0) (h2 : n0 ≤ 10000) {N : Nat} (hN : 100000 < N) : fX3_bring1 N n0 g (zi i) (zi j) (zi n) = some (zbr g g i j n) := by
  have := m_bring1L g hji h0 (by omega) N n N 0 (by omega) (by omega)
  rw [zbr_0] at this
  unfold fX3_bring1
  rw [show (0 : Int32) = zi 0 from zi_lit 0]
  exact this
/-! a state copied -/
theorem q_copy (q w : zc_Q) : ∃ q', fX0_copyFrom q w = some q' ∧ q'.1 = w.1 ∧ ∀ j, j < 4 → ∀ a, a < 6 → q'.2 j a = w.2 j a := by
  refine ⟨_, rfl, rfl, fun j hj a ha => ?_⟩
  have hc : ∀ f g : Nat → Int32, va_cpy f g 0 0 6 a = f a := fun f g => sb_cpy0 ha
  rcases (show j = 0 ∨ j = 1 ∨ j = 2 ∨ j = 3 by omega) with rfl | rfl | rfl | rfl
  · exact hc _ _
  · exact hc _ _
  · exact hc _ _
  · exact hc _ _
theorem s_copy {z : Nat → Int} {w : zc_S} (h : zRs z w) (hb : zBs z) (v : zc_S) : ∃ v', fX1_copyFrom v w = some v' ∧ zRs z v' := by
  obtain ⟨hg, ⟨i1, i2, i3, i4, i5, i6, i7, i8, i9, i10, i11⟩, hl, hq, ht5, ht6⟩ := h
  obtain ⟨-, -, -, -, -, -, -, -, hp, -⟩ := hb
  unfold fX1_copyFrom
  simp only [zc_let]
  have z11 : ∀ o : Option zc_S, zc_z (w.2.1 11) o = o := fun o => by rw [i9]; exact zn_z hp
  have z15 : ∀ o : Option zc_S, zc_z (w.2.1 15) o = o := fun o => by
    rcases ht5 with c | c
    · rw [c, show (0 : Int32) = zi 0 from zi_lit 0]; exact zn_z (Or.inl rfl)
    · rw [c, show (1 : Int32) = zi 1 from zi_lit 1]; exact zn_z (Or.inr rfl)
  rw [z11, z15]
  generalize hv : zc_sf (zc_sI (zc_sI (zc_sI (zc_sI (zc_sI (zc_sI (zc_sI (zc_sI (zc_sI (zc_sI (zc_sI (zc_sI (zc_sI (zc_sL (zc_sL (zc_sL v 0 (w.1 0)) 1 (w.1 1)) 2 (w.1 2)) 3 (w.2.1 3)) 4 (w.2.1 4)) 5 (w.2.1 5)) 6 (w.2.1 6)) 7 (w.2.1 7)) 8 (w.2.1 8)) 9 (w.2.1 9)) 10 (w.2.1 10)) 11 (w.2.1 11)) 12 (w.2.1 12)) 13 (w.2.1 13)) 14 (w.2.1 14)) 15 (w.2.1 15)) _ = v19
  obtain ⟨q', eq', q1, q2⟩ := q_copy v19.2.2.2 w.2.2.2
  rw [eq', Option.bind_some]
  subst hv
  refine ⟨_, rfl, hg, ⟨i1, i2, i3, i4, i5, i6, i7, i8, i9, i10, i11⟩, fun k hk => ?_, ⟨?_, fun a ha => ?_⟩, ht5, ht6⟩
  · rw [← hl k hk]
    exact sb_cpy0 hk
  · show q'.1 = _
    rw [q1]; exact hq.1
  · obtain ⟨p0, p1, p2, p3⟩ := hq.2 a ha
    exact ⟨by rw [← p0]; exact q2 0 (by decide) a ha, by rw [← p1]; exact q2 1 (by decide) a ha, by rw [← p2]; exact q2 2 (by decide) a ha, by rw [← p3]; exact q2 3 (by decide) a ha⟩
/-! both sides' states, side by side -/
def zPr (T : Int) (v : zc_S) (f : Nat → Int64) : Prop := ∃ z : Nat → Int, zRs z v ∧ zRm z f ∧ zB T z ∧ (-1 ≤ z 13 ∧ z 13 ≤ 9)
theorem zPr.mono {T T' : Int} {v : zc_S} {f : Nat → Int64} (h : zPr T v f) (h1 : T ≤ T') (h2 : T' ≤ 1100000) : zPr T' v f := by
  obtain ⟨z, a, b, c, d⟩ := h
  exact ⟨z, a, b, c.mono h1 h2, d⟩
theorem zPr.congr {T : Int} {v : zc_S} {f g : Nat → Int64} (h : zPr T v f) (e : ∀ k, k < 49 → g k = f k) : zPr T v g := by
  obtain ⟨z, a, b, c, d⟩ := h
  exact ⟨z, a, fun k hk => by rw [e k hk]; exact b k hk, c, d⟩
theorem zPr.copy {T : Int} {w : zc_S} {f : Nat → Int64} (h : zPr T w f) (v : zc_S) : ∃ v', fX1_copyFrom v w = some v' ∧ zPr T v' f := by
  obtain ⟨z, a, b, c, d⟩ := h
  obtain ⟨v', e, r⟩ := s_copy a c.2.1 v
  exact ⟨v', e, z, r, b, c, d⟩
/-- the deeds that can be undone: d of them, the next place p -/
def zPast (T : Int) (b : zc_B) (u : zc_M) : Prop := ∃ d p : Nat, d ≤ 20 ∧ p < 20 ∧ b.1 2 = zi d ∧ u.2.2.1 0 = zi d ∧ b.1 1 = zi p ∧ ∀ j, j < d → zPr T (b.2.2.2 ((p + 20 - d + j) % 20)) (fun k => u.1 1 (49 * j + k))
def zImg (T : Int) (b : zc_B) (u : zc_M) : Prop := ∀ i, i < 2 → (b.2.1 1 i = 0 ∧ u.2.1 0 i = 0) ∨ (b.2.1 1 i = 1 ∧ u.2.1 0 i = 1 ∧ zPr T (b.2.2.2 (i + 20)) (fun k => u.1 2 (50 * i + k)) ∧ ∃ s : Int, b.2.1 0 i = zi s ∧ u.1 2 (50 * i + 49) = zl s ∧ 0 ≤ s ∧ s ≤ 2147483647)
def zBook (b : zc_B) (u : zc_M) : Prop := ∃ e : Nat, e ≤ 20 ∧ b.1 3 = zi e ∧ u.2.2.1 1 = zi e ∧ ∀ k, k < e → b.2.1 2 k = u.2.1 1 k
def zSeed (b : zc_B) (u : zc_M) : Prop := ∃ s : Int, b.1 0 = zi s ∧ u.2.2.2 = zl s ∧ 0 ≤ s ∧ s ≤ 2147483647
def zInv (T : Int) (b : zc_B) (u : zc_M) : Prop := zPr T b.2.2.1 (u.1 0) ∧ zPast T b u ∧ zImg T b u ∧ zBook b u ∧ zSeed b u
theorem zInv.mono {T T' : Int} {b : zc_B} {u : zc_M} (h : zInv T b u) (h1 : T ≤ T') (h2 : T' ≤ 1100000) : zInv T' b u := by
  obtain ⟨a, ⟨d, p, b1, b2, b3, b4, b5, b6⟩, c, e, f⟩ := h
  refine ⟨a.mono h1 h2, ⟨d, p, b1, b2, b3, b4, b5, fun j hj => (b6 j hj).mono h1 h2⟩, fun i hi => ?_, e, f⟩
  rcases c i hi with q | ⟨q1, q2, q3, q4⟩
  · exact Or.inl q
  · exact Or.inr ⟨q1, q2, q3.mono h1 h2, q4⟩
/-- before a deed both keep what is so -/
theorem x_note {T : Int} {b : zc_B} {u : zc_M} (h : zInv T b u) {N : Nat} (hN : 100000 < N) : ∃ b' u', fX2_remember b = some b' ∧ fX3_notes N u = some u' ∧ zInv T b' u' ∧ b'.2.2.1 = b.2.2.1 ∧ u'.1 0 = u.1 0 := by
  obtain ⟨hp, ⟨d, p, d1, d2, d3, d4, d5, d6⟩, hi, hk, hs⟩ := h
  obtain ⟨v', e1, r1⟩ := hp.copy (b.2.2.2 p)
  have eB : fX2_remember b = some (zc_bI (zc_bI (zc_bp b p v') 1 (zi (((p : Int) + 1) % 20))) 2 (zi (if d = 20 then 20 else (d : Int) + 1))) := by
    unfold fX2_remember
    simp only [zc_let]
    rw [d5, zn_in (by omega) (by omega) (by omega), zi_nat (by omega) (by omega), Int.toNat_natCast, e1, Option.bind_some, show (zc_bp b p v').1 1 = zi p from d5, show (1 : Int32) = zi 1 from zi_lit 1, zi_add, n_floorMod20 (by omega) (by omega), Option.bind_some, show (zc_bI (zc_bp b p v') 1 (zi (((p : Int) + 1) % 20))).1 2 = zi d from d3, show (20 : Int32) = zi 20 from zi_lit 20, zi_add, wi_lt (by omega) (by omega) (by omega) (by omega), zi_ite]
    have : (if (20 : Int) < (d : Int) + 1 then (20 : Int) else (d : Int) + 1) = (if d = 20 then 20 else (d : Int) + 1) := by (repeat' split) <;> omega
    rw [this]
  obtain ⟨b', hb'⟩ : ∃ x, x = zc_bI (zc_bI (zc_bp b p v') 1 (zi (((p : Int) + 1) % 20))) 2 (zi (if d = 20 then 20 else (d : Int) + 1)) := ⟨_, rfl⟩
  rw [← hb'] at eB
  have k1 : b'.2.2.2 = va_up b.2.2.2 p v' := by rw [hb']; rfl
  have k2 : b'.2.1 = b.2.1 := by rw [hb']; rfl
  have k3 : b'.2.2.1 = b.2.2.1 := by rw [hb']; rfl
  have k4 : b'.1 1 = zi (((p : Int) + 1) % 20) := by rw [hb']; rfl
  have k5 : b'.1 2 = zi (if d = 20 then 20 else (d : Int) + 1) := by rw [hb']; rfl
  have k6 : b'.1 0 = b.1 0 := by rw [hb']; rfl
  have k7 : b'.1 3 = b.1 3 := by rw [hb']; rfl
  clear hb'
  have hp' : zPr T b'.2.2.1 (u.1 0) := by rw [k3]; exact hp
  have hk' : zBook b' u := by unfold zBook; rw [k7, k2]; exact hk
  have hs' : zSeed b' u := by unfold zSeed; rw [k6]; exact hs
  have himg : zImg T b' u := fun i hi' => by
    rw [k1, k2, va_up_ne _ _ (by omega)]
    exact hi i hi'
  have kp : b'.1 1 = zi (((p + 1) % 20 : Nat) : Int) := by rw [k4, show (((p + 1) % 20 : Nat) : Int) = ((p : Int) + 1) % 20 by omega]
  by_cases c : d = 20
  · subst c
    have eM : fX3_notes N u = some (zc_mI (zc_mf (zc_mI (zc_mf u 1 (zbr (u.1 1) (u.1 1) 49 0 931)) 0 (zi 19)) 1 (zbr (zbr (u.1 1) (u.1 1) 49 0 931) (u.1 0) 0 931 49)) 0 (zi 20)) := by
      unfold fX3_notes
      simp only [zc_let]
      have g1 := m_bring1 (u.1 1) (i := 49) (j := 0) (n := 931) (n0 := 980) (by omega) (by omega) (by omega) hN
      have g2 := m_bring2 (zbr (u.1 1) (u.1 1) 49 0 931) (u.1 0) (i := 0) (j := 931) (n := 49) (n0 := 49) (n1 := 980) (by omega) (by omega) (by omega) (by omega) hN
      rw [if_pos (by rw [d4]; exact (zi_lit 20).symm), show (49 : Int32) = zi ((49 : Nat) : Int) from zi_lit 49, show (0 : Int32) = zi ((0 : Nat) : Int) from zi_lit 0, show (931 : Int32) = zi ((931 : Nat) : Int) from zi_lit 931, g1, Option.bind_some, show (zc_mf u 1 (zbr (u.1 1) (u.1 1) 49 0 931)).2.2.1 0 = zi 20 from d4, show (1 : Int32) = zi 1 from zi_lit 1, zi_sub, show (20 : Int) - 1 = 19 from rfl,
        show (zc_mI (zc_mf u 1 (zbr (u.1 1) (u.1 1) 49 0 931)) 0 (zi 19)).1 1 = zbr (u.1 1) (u.1 1) 49 0 931 from rfl, show (zc_mI (zc_mf u 1 (zbr (u.1 1) (u.1 1) 49 0 931)) 0 (zi 19)).1 0 = u.1 0 from rfl, show (zc_mI (zc_mf u 1 (zbr (u.1 1) (u.1 1) 49 0 931)) 0 (zi 19)).2.2.1 0 = zi 19 from rfl, zi_mul, show ((49 : Nat) : Int) * 19 = ((931 : Nat) : Int) from rfl, g2, Option.bind_some]
      rw [show (zc_mf (zc_mI (zc_mf u 1 (zbr (u.1 1) (u.1 1) 49 0 931)) 0 (zi 19)) 1 (zbr (zbr (u.1 1) (u.1 1) 49 0 931) (u.1 0) 0 931 49)).2.2.1 0 = zi 19 from rfl, zi_add]
      rfl
    refine ⟨b', _, eB, eM, ⟨hp', ⟨20, (p + 1) % 20, by omega, by omega, by rw [k5, if_pos rfl]; rfl, rfl, kp, fun j hj => ?_⟩, himg, hk', hs'⟩, k3, rfl⟩
    · rw [k1]
      have eu : ∀ k, k < 49 → (zc_mI (zc_mf (zc_mI (zc_mf u 1 (zbr (u.1 1) (u.1 1) 49 0 931)) 0 (zi 19)) 1 (zbr (zbr (u.1 1) (u.1 1) 49 0 931) (u.1 0) 0 931 49)) 0 (zi 20)).1 1 (49 * j + k) = if j = 19 then u.1 0 k else u.1 1 (49 * (j + 1) + k) := fun k hk => by
        show zbr (zbr (u.1 1) (u.1 1) 49 0 931) (u.1 0) 0 931 49 (49 * j + k) = _
        unfold zbr
        by_cases cj : j = 19
        · subst cj
          rw [if_pos (by omega), if_pos rfl, show 0 + (49 * 19 + k - 931) = k by omega]
        · rw [if_neg (by omega), if_pos (by omega), if_neg cj, show 49 + (49 * j + k - 0) = 49 * (j + 1) + k by omega]
      by_cases cj : j = 19
      · rw [show ((p + 1) % 20 + 20 - 20 + j) % 20 = p by omega, va_up_self]
        exact r1.congr (fun k hk => by rw [eu k hk, if_pos cj])
      · rw [va_up_ne _ _ (by omega)]
        have := d6 (j + 1) (by omega)
        rw [show ((p + 1) % 20 + 20 - 20 + j) % 20 = (p + 20 - 20 + (j + 1)) % 20 by omega]
        exact this.congr (fun k hk => by rw [eu k hk, if_neg cj])
  · have eM : fX3_notes N u = some (zc_mI (zc_mf u 1 (zbr (u.1 1) (u.1 0) 0 (49 * d) 49)) 0 (zi ((d : Int) + 1))) := by
      unfold fX3_notes
      simp only [zc_let]
      have g2 := m_bring2 (u.1 1) (u.1 0) (i := 0) (j := 49 * d) (n := 49) (n0 := 49) (n1 := 980) (by omega) (by omega) (by omega) (by omega) hN
      rw [if_neg (by rw [d4, show (20 : Int32) = zi 20 from zi_lit 20, zi_eq (by omega) (by omega) (by omega) (by omega)]; omega), d4, show (49 : Int32) = zi ((49 : Nat) : Int) from zi_lit 49, show (0 : Int32) = zi ((0 : Nat) : Int) from zi_lit 0, zi_mul, show ((49 : Nat) : Int) * (d : Int) = ((49 * d : Nat) : Int) by omega, g2, Option.bind_some, show (zc_mf u 1 (zbr (u.1 1) (u.1 0) 0 (49 * d) 49)).2.2.1 0 = zi d from d4, show (1 : Int32) = zi 1 from zi_lit 1, zi_add]
    refine ⟨b', _, eB, eM, ⟨hp', ⟨d + 1, (p + 1) % 20, by omega, by omega, by rw [k5, if_neg c]; rfl, rfl, kp, fun j hj => ?_⟩, himg, hk', hs'⟩, k3, rfl⟩
    · rw [k1]
      have eu : ∀ k, k < 49 → (zc_mI (zc_mf u 1 (zbr (u.1 1) (u.1 0) 0 (49 * d) 49)) 0 (zi ((d : Int) + 1))).1 1 (49 * j + k) = if j = d then u.1 0 k else u.1 1 (49 * j + k) := fun k hk => by
        show zbr (u.1 1) (u.1 0) 0 (49 * d) 49 (49 * j + k) = _
        unfold zbr
        by_cases cj : j = d
        · subst cj
          rw [if_pos (by omega), if_pos rfl, show 0 + (49 * j + k - 49 * j) = k by omega]
        · rw [if_neg (by omega), if_neg cj]
      by_cases cj : j = d
      · rw [show ((p + 1) % 20 + 20 - (d + 1) + j) % 20 = p by omega, va_up_self]
        exact r1.congr (fun k hk => by rw [eu k hk, if_pos cj])
      · rw [va_up_ne _ _ (by omega)]
        have := d6 j (by omega)
        rw [show ((p + 1) % 20 + 20 - (d + 1) + j) % 20 = (p + 20 - d + j) % 20 by omega]
        exact this.congr (fun k hk => by rw [eu k hk, if_neg cj])
