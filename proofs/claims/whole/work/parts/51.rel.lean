/-! the whole numbers behind both: z k is the reference's st[k] -/
def zRq (z : Nat → Int) (q : zc_Q) : Prop := q.1 = zi (z 24) ∧ ∀ a, a < 6 → q.2 0 a = zi (z (25 + 4 * a)) ∧ q.2 1 a = zi (z (26 + 4 * a)) ∧ q.2 2 a = zi (z (27 + 4 * a)) ∧ q.2 3 a = zi (z (28 + 4 * a))
def zRt (z : Nat → Int) (v : zc_S) : Prop := (v.2.1 15 = 0 ∨ v.2.1 15 = 1) ∧ (0 < z 12 → (v.2.1 15 = 1 ∧ v.2.1 14 = zi (z 13) ∧ 0 ≤ z 13 ∧ z 13 ≤ 8) ∨ (v.2.1 15 = 0 ∧ z 13 = 9))
def zRs (z : Nat → Int) (v : zc_S) : Prop := (v.1 0 = zl (z 0) ∧ v.1 1 = zl (z 1) ∧ v.1 2 = zl (z 2)) ∧ (v.2.1 9 = zi (z 3) ∧ v.2.1 3 = zi (z 4) ∧ v.2.1 4 = zi (z 5) ∧ v.2.1 5 = zi (z 6) ∧ v.2.1 6 = zi (z 7) ∧ v.2.1 7 = zi (z 8) ∧ v.2.1 8 = zi (z 9) ∧ v.2.1 10 = zi (z 10) ∧ v.2.1 11 = zi (z 11) ∧ v.2.1 13 = zi (z 12) ∧ v.2.1 12 = zi (z 14)) ∧ (∀ k, k < 9 → v.2.2.1 k = zi (z (15 + k))) ∧ zRq z v.2.2.2 ∧ zRt z v
def zRm (z : Nat → Int) (f : Nat → Int64) : Prop := ∀ k, k < 49 → f k = zl (z k)
def zBq (z : Nat → Int) : Prop := (0 ≤ z 24 ∧ z 24 ≤ 6) ∧ ∀ a, a < 6 → (-1 ≤ z (25 + 4 * a) ∧ z (25 + 4 * a) ≤ 59) ∧ (-1 ≤ z (26 + 4 * a) ∧ z (26 + 4 * a) ≤ 23) ∧ (-1 ≤ z (27 + 4 * a) ∧ z (27 + 4 * a) ≤ 6) ∧ (0 ≤ z (28 + 4 * a) ∧ z (28 + 4 * a) ≤ 99999)
def zBs (z : Nat → Int) : Prop := (0 ≤ z 3 ∧ z 3 ≤ 999999999) ∧ (-20 ≤ z 4 ∧ z 4 ≤ 69) ∧ (0 ≤ z 5 ∧ z 5 ≤ 40) ∧ (0 ≤ z 6 ∧ z 6 ≤ 20) ∧ (-9 ≤ z 7 ∧ z 7 ≤ 9) ∧ (0 ≤ z 8 ∧ z 8 ≤ 15) ∧ (1 ≤ z 9 ∧ z 9 ≤ 200) ∧ (0 ≤ z 10 ∧ z 10 ≤ 999) ∧ (z 11 = 0 ∨ z 11 = 1) ∧ ∀ k, k < 9 → -9999 ≤ z (15 + k) ∧ z (15 + k) ≤ 9999
def zBt (T : Int) (z : Nat → Int) : Prop := (0 ≤ T ∧ T ≤ 1100000) ∧ (0 ≤ z 0 ∧ z 0 ≤ 60000 * T) ∧ (0 ≤ z 1 ∧ z 1 ≤ 62000 * T) ∧ (-(62000 * T) - 20000 ≤ z 2 ∧ z 2 ≤ 62000 * T + 20000) ∧ (0 ≤ z 12 ∧ z 12 ≤ T) ∧ (0 ≤ z 14 ∧ z 14 ≤ T)
def zB (T : Int) (z : Nat → Int) : Prop := zBt T z ∧ zBs z ∧ zBq z
theorem zB.mono {T T' : Int} {z : Nat → Int} (h : zB T z) (h1 : T ≤ T') (h2 : T' ≤ 1100000) : zB T' z := by
  obtain ⟨⟨⟨a1, a2⟩, ⟨b1, b2⟩, ⟨c1, c2⟩, ⟨d1, d2⟩, ⟨e1, e2⟩, f1, f2⟩, hs, hq⟩ := h
  exact ⟨⟨⟨by omega, h2⟩, ⟨b1, by omega⟩, ⟨c1, by omega⟩, ⟨by omega, by omega⟩, ⟨e1, by omega⟩, f1, by omega⟩, hs, hq⟩
/-! what is asked, in whole numbers -/
def zoff (z : Nat → Int) (t : Int) : Int := z 7 - (z 6 * (t - z 5) * (t - z 5)) / 100
def zspan (z : Nat → Int) : Int := (z 4 + 20) / 10
def zlea (z : Nat → Int) : Int := z (15 + (zspan z).toNat)
def zsix (z : Nat → Int) (n : Int) : Int := z 8 - n * zlea z
def zgone (z : Nat → Int) (n : Int) : Int := if z 2 < -(n * z 9) then -(n * z 9) else if n * z 9 < z 2 then n * z 9 else z 2
def zaft (z : Nat → Int) (n : Int) : Int := if z 11 = 1 then z 1 + n * (60000 + zoff z (z 4)) + zsix z n / 16 + zgone z n else z 1 + n * (60000 + zoff z (z 4))
def zwid (z : Nat → Int) : Int := if z 11 = 1 then z 10 else 4 * z 10
theorem zsq {c d : Int} (h1 : 0 ≤ c) (h2 : c ≤ 20) (h3 : -100 ≤ d) (h4 : d ≤ 100) : 0 ≤ c * d * d ∧ c * d * d ≤ 20 * (d * d) ∧ 0 ≤ d * d ∧ d * d ≤ 10000 := by
  have e : c * d * d = c * (d * d) := Int.mul_assoc c d d
  have hd : 0 ≤ d * d := by
    rcases Int.le_total 0 d with h | h
    · exact Int.mul_nonneg h h
    · exact Int.mul_nonneg_of_nonpos_of_nonpos h h
  have hd2 : d * d ≤ 10000 := by
    rcases Int.le_total 0 d with h | h
    · have := Int.mul_le_mul h4 h4 h (by omega : (0 : Int) ≤ 100)
      omega
    · have := Int.mul_le_mul (show -d ≤ 100 by omega) (show -d ≤ 100 by omega) (by omega : 0 ≤ -d) (by omega : (0 : Int) ≤ 100)
      rw [Int.neg_mul_neg] at this
      omega
  refine ⟨by rw [e]; exact Int.mul_nonneg h1 hd, by rw [e]; exact Int.mul_le_mul_of_nonneg_right h2 hd, hd, hd2⟩
theorem zoff_bd {z : Nat → Int} (h : zBs z) {t : Int} (h1 : -60 ≤ t - z 5) (h2 : t - z 5 ≤ 70) : -1000 ≤ zoff z t ∧ zoff z t ≤ 9 := by
  obtain ⟨-, -, ⟨a1, a2⟩, ⟨b1, b2⟩, ⟨c1, c2⟩, -⟩ := h
  have hd : (t - z 5) * (t - z 5) ≤ 4900 := by
    generalize t - z 5 = d at h1 h2
    rcases Int.le_total 0 d with h | h
    · have := Int.mul_le_mul h2 h2 h (by omega : (0 : Int) ≤ 70)
      omega
    · have := Int.mul_le_mul (show -d ≤ 60 by omega) (show -d ≤ 60 by omega) (by omega : 0 ≤ -d) (by omega : (0 : Int) ≤ 60)
      rw [Int.neg_mul_neg] at this
      omega
  obtain ⟨e1, e2, e3, -⟩ := zsq b1 b2 (show -100 ≤ t - z 5 by omega) (by omega)
  unfold zoff
  generalize z 6 * (t - z 5) * (t - z 5) = P at *
  generalize (t - z 5) * (t - z 5) = Q at *
  omega
section ZRel
variable {z : Nat → Int} {v : zc_S} {u : zc_M} {T : Int}
/-! the class's state -/
theorem s_aim (h : zRs z v) : fX1_aim v = some (zl (z 1 + z 2)) := by
  obtain ⟨⟨-, h1, h2⟩, -⟩ := h
  rw [fX1_aim, h1, h2, zl_add]
theorem s_minute (h : zRs z v) (hb : zBt T z) : fX1_minuteNumber v = some (zl (z 1 / 60000)) := by
  obtain ⟨⟨-, h1, h2⟩, -⟩ := h
  obtain ⟨⟨t1, t2⟩, -, ⟨c1, c2⟩, -⟩ := hb
  rw [fX1_minuteNumber, h1, zl_lit, zl_divp c1 (by omega) (by omega) (by omega)]
theorem s_off (h : zRs z v) (hb : zBs z) {t : Int} (h1 : -100 ≤ t - z 5) (h2 : t - z 5 ≤ 100) : fX1_offAt v (zi t) = some (zi (zoff z t)) := by
  obtain ⟨-, ⟨-, -, e5, e6, e7, -⟩, -⟩ := h
  obtain ⟨-, -, ⟨a1, a2⟩, ⟨b1, b2⟩, ⟨c1, c2⟩, -⟩ := hb
  obtain ⟨f1, f2, f3, f4⟩ := zsq b1 b2 h1 h2
  simp only [fX1_offAt, zc_let]
  rw [e5, e6, e7, zi_lit, zi_sub, zi_mul, zi_mul, zi_divp f1 (by omega) (by omega) (by omega), zi_sub]
  rfl
theorem n_isSpan {s : Int} (h1 : 0 ≤ s) (h2 : s ≤ 8) : fX2_isSpan (zi s) = some 1 := by
  unfold fX2_isSpan
  simp only [zi_lit]
  rw [wi_lt (by omega) (by omega) (by omega) (by omega), wi_le (by omega) (by omega) (by omega) (by omega), if_neg (by omega), if_neg (by omega)]
theorem s_learned (h : zRs z v) {s : Int} (h1 : 0 ≤ s) (h2 : s ≤ 8) : fX1_learnedOf v (zi s) = some (zi (z (15 + s.toNat))) := by
  obtain ⟨-, -, hl, -⟩ := h
  unfold fX1_learnedOf
  rw [n_isSpan h1 h2]
  simp only [Option.bind_some]
  rw [if_neg (by decide), zn_in h1 (by omega) (by omega), zi_nat h1 (by omega), hl s.toNat (by omega)]
theorem n_spanOf {t : Int} (h1 : -20 ≤ t) (h2 : t ≤ 1000) : fX2_spanOf (zi t) = some (zi ((t + 20) / 10)) := by
  unfold fX2_spanOf
  simp only [zi_lit, zi_neg]
  rw [zi_sub, zi_divp (by omega) (by omega) (by omega) (by omega)]
  congr 3 <;> omega
theorem zspan_bd (hb : zBs z) : 0 ≤ zspan z ∧ zspan z ≤ 8 := by
  obtain ⟨-, ⟨a1, a2⟩, -⟩ := hb
  unfold zspan
  omega
theorem zlea_bd (hb : zBs z) : -9999 ≤ zlea z ∧ zlea z ≤ 9999 := by
  obtain ⟨e1, e2⟩ := zspan_bd hb
  obtain ⟨-, -, -, -, -, -, -, -, -, hl⟩ := hb
  exact hl (zspan z).toNat (by omega)
theorem s_span (h : zRs z v) (hb : zBs z) : fX2_spanOf (v.2.1 3) = some (zi (zspan z)) := by
  obtain ⟨-, ⟨-, e4, -⟩, -⟩ := h
  obtain ⟨-, ⟨a1, a2⟩, -⟩ := hb
  rw [e4, n_spanOf (by omega) (by omega)]
  rfl
theorem znm {n x a b : Int} (h1 : 0 ≤ n) (h2 : n ≤ 2000) (h3 : -a ≤ x) (h4 : x ≤ b) (ha : 0 ≤ a) (hb : 0 ≤ b) : -(2000 * a) ≤ n * x ∧ n * x ≤ 2000 * b := by
  rcases Int.le_total 0 x with h | h
  · have e1 := Int.mul_nonneg h1 h
    have e2 := Int.mul_le_mul h2 h4 h (by omega : (0 : Int) ≤ 2000)
    omega
  · have e1 := Int.mul_le_mul h2 (show -x ≤ a by omega) (by omega : 0 ≤ -x) (by omega : (0 : Int) ≤ 2000)
    rw [Int.mul_neg] at e1
    have e2 : n * x ≤ 0 := Int.mul_nonpos_of_nonneg_of_nonpos h1 h
    omega
theorem s_six (h : zRs z v) (hb : zBs z) {n : Int} (h1 : 0 ≤ n) (h2 : n ≤ 2000) : fX1_sixteenthsAfter v (zi n) = some (zl (zsix z n)) := by
  obtain ⟨e1, e2⟩ := zspan_bd hb
  obtain ⟨e3, e4⟩ := zlea_bd hb
  have hs := s_span h hb
  have hl := s_learned h e1 e2
  obtain ⟨-, ⟨-, -, -, -, -, e8, -⟩, -⟩ := h
  obtain ⟨-, -, -, -, -, ⟨a1, a2⟩, -⟩ := hb
  unfold fX1_sixteenthsAfter
  rw [hs]
  simp only [Option.bind_some]
  rw [hl]
  simp only [Option.bind_some]
  rw [e8, zi_l (by omega) (by omega), zi_l (by omega) (by omega), show z (15 + (zspan z).toNat) = zlea z from rfl, zi_l (by omega) (by omega), zl_mul, zl_sub]
  rfl
theorem zsix_bd (hb : zBs z) {n : Int} (h1 : 0 ≤ n) (h2 : n ≤ 2000) : -19998000 ≤ zsix z n ∧ zsix z n ≤ 19998015 := by
  obtain ⟨e3, e4⟩ := zlea_bd hb
  obtain ⟨-, -, -, -, -, ⟨a1, a2⟩, -⟩ := hb
  have := znm h1 h2 (a := 9999) (b := 9999) (by omega) e4 (by omega) (by omega)
  unfold zsix
  omega
theorem n_held {a m : Int} (h1 : -9223372036854775807 ≤ a) (h2 : a ≤ 9223372036854775807) (h3 : 0 ≤ m) (h4 : m ≤ 9223372036854775807) : fX2_heldBetween (zl a) (zl (-m)) (zl m) = some (zl (if a < -m then -m else if m < a then m else a)) := by
  unfold fX2_heldBetween
  rw [wl_lt (by omega) (by omega) (by omega) (by omega)]
  by_cases c : m < a
  · simp only [if_pos c]
    rw [wl_lt (by omega) (by omega) (by omega) (by omega), if_neg (by omega), if_neg (by omega)]
  · simp only [if_neg c]
    rw [wl_lt (by omega) (by omega) (by omega) (by omega)]
    by_cases d : a < -m
    · rw [if_pos d, if_pos d]
    · rw [if_neg d, if_neg d]
theorem zst_bd (hb : zBs z) {n : Int} (h1 : 0 ≤ n) (h2 : n ≤ 2000) : 0 ≤ n * z 9 ∧ n * z 9 ≤ 400000 := by
  obtain ⟨-, -, -, -, -, -, ⟨a1, a2⟩, -⟩ := hb
  have e1 := Int.mul_nonneg h1 (show 0 ≤ z 9 by omega)
  have e2 := Int.mul_le_mul h2 a2 (by omega) (by omega : (0 : Int) ≤ 2000)
  omega
theorem s_steps (h : zRs z v) (ht : zBt T z) (hb : zBs z) {n : Int} (h1 : 0 ≤ n) (h2 : n ≤ 2000) : fX1_stepsAfter v (zi n) = some (zl (zgone z n)) := by
  obtain ⟨e1, e2⟩ := zst_bd hb h1 h2
  obtain ⟨⟨-, -, g2⟩, ⟨-, -, -, -, -, -, e9, -⟩, -⟩ := h
  obtain ⟨-, -, -, -, -, -, ⟨a1, a2⟩, -⟩ := hb
  obtain ⟨⟨t1, t2⟩, -, -, ⟨b1, b2⟩, -⟩ := ht
  simp only [fX1_stepsAfter, zc_let]
  rw [e9, zi_l (by omega) (by omega), zi_l (by omega) (by omega), zl_mul, zl_neg, g2, n_held (by omega) (by omega) e1 (by omega)]
  rfl
theorem s_after (h : zRs z v) (ht : zBt T z) (hb : zBs z) {n : Int} (h1 : 0 ≤ n) (h2 : n ≤ 2000) : fX1_boardTimeAfter v (zi n) = some (zl (zaft z n)) := by
  have hb' := hb
  have hs := s_six h hb h1 h2
  have hst := s_steps h ht hb h1 h2
  obtain ⟨b1, b2⟩ := zsix_bd hb h1 h2
  obtain ⟨-, ⟨a1, a2⟩, ⟨a3, a4⟩, -, -, -, -, -, hp, -⟩ := hb
  obtain ⟨o1, o2⟩ := zoff_bd hb' (t := z 4) (by omega) (by omega)
  have ho := s_off h hb' (t := z 4) (by omega) (by omega)
  obtain ⟨⟨-, g1, -⟩, ⟨-, e4, -, -, -, -, -, -, e11, -⟩, -⟩ := h
  simp only [fX1_boardTimeAfter, zc_let]
  rw [e4, ho]
  simp only [Option.bind_some]
  rw [e11, zi_l (by omega) (by omega), zi_l (by omega) (by omega), zl_lit, zi_lit, zl_add, zl_mul, g1, zl_add, wi_eq (by omega) (by omega) (by omega) (by omega), hs, hst]
  simp only [Option.bind_some]
  rw [n_floorDiv16 (by omega) (by omega)]
  simp only [Option.bind_some]
  unfold zaft
  rcases hp with hp | hp
  · rw [if_pos hp, if_neg (by omega)]
  · rw [if_neg (by omega), if_pos hp, zl_add, zl_add]
theorem s_width (h : zRs z v) (hb : zBs z) : fX1_widthPerTick v = some (zi (zwid z)) := by
  obtain ⟨-, ⟨-, -, -, -, -, -, -, e10, e11, -⟩, -⟩ := h
  obtain ⟨-, -, -, -, -, -, -, -, hp, -⟩ := hb
  unfold fX1_widthPerTick zwid
  rw [e11, e10]
  simp only [zi_lit]
  rw [wi_eq (by omega) (by omega) (by omega) (by omega), zi_mul]
  rcases hp with hp | hp
  · rw [if_pos hp, if_neg (by omega)]
  · rw [if_neg (by omega), if_pos hp]
/-! the reference -/
theorem m_at (h : zRm z (u.1 0)) (k : Nat) (hk : k < 49) : u.1 0 k = zl (z k) := h k hk
theorem m_aim (h : zRm z (u.1 0)) : fX3_aim u = some (zl (z 1 + z 2)) := by
  rw [fX3_aim, h 1 (by decide), h 2 (by decide), zl_add]
theorem m_minute (h : zRm z (u.1 0)) (hb : zBt T z) : fX3_minuteNow u = some (zl (z 1 / 60000)) := by
  obtain ⟨⟨t1, t2⟩, -, ⟨c1, c2⟩, -⟩ := hb
  rw [fX3_minuteNow, h 1 (by decide), zl_lit, zl_divp c1 (by omega) (by omega) (by omega)]
theorem m_off (h : zRm z (u.1 0)) (hb : zBs z) {t : Int} (h1 : -100 ≤ t - z 5) (h2 : t - z 5 ≤ 100) : fX3_offAt u (zl t) = some (zl (zoff z t)) := by
  obtain ⟨-, -, ⟨a1, a2⟩, ⟨b1, b2⟩, ⟨c1, c2⟩, -⟩ := hb
  obtain ⟨f1, f2, f3, f4⟩ := zsq b1 b2 h1 h2
  simp only [fX3_offAt, zc_let]
  rw [h 5 (by decide), h 6 (by decide), h 7 (by decide), zl_lit, zl_sub, zl_mul, zl_mul, zl_divp f1 (by omega) (by omega) (by omega), zl_sub]
  rfl
theorem m_span (h : zRm z (u.1 0)) (hb : zBs z) : fX3_spanNow u = some (zi (zspan z)) := by
  obtain ⟨-, ⟨a1, a2⟩, -⟩ := hb
  unfold fX3_spanNow
  rw [h 4 (by decide)]
  simp only [zl_lit]
  rw [zl_add, zl_divp (by omega) (by omega) (by omega) (by omega), zl_i]
  rfl
theorem n_down16 {a : Int} (h1 : -9223372036854775808 ≤ a) (h2 : a ≤ 9223372036854775807) : fX3_down (zl a) 16 = some (zl (a / 16)) := by
  simp only [fX3_down, zc_let]
  simp only [zl_lit]
  rw [zn_nzL (by omega) (by omega) (by omega), zn_nzL (by omega) (by omega) (by omega), zl_div h1 h2 (by omega) (by omega), zl_mul, zl_sub, zl_sub]
  by_cases c : 0 ≤ a
  · rw [Int.tdiv_eq_ediv_of_nonneg c, wg_ge (by omega) (by omega) (by omega) (by omega), if_pos (by omega)]
  · rw [zt_neg a 16 (by omega) (by omega), wg_ge (by omega) (by omega) (by omega) (by omega)]
    by_cases d : 0 ≤ a - -(-a / 16) * 16
    · rw [if_pos d]; congr 2; omega
    · rw [if_neg d]; congr 2; omega
theorem n_down32 {a : Int} (h1 : -9223372036854775808 ≤ a) (h2 : a ≤ 9223372036854775807) : fX3_down (zl a) 32 = some (zl (a / 32)) := by
  simp only [fX3_down, zc_let]
  simp only [zl_lit]
  rw [zn_nzL (by omega) (by omega) (by omega), zn_nzL (by omega) (by omega) (by omega), zl_div h1 h2 (by omega) (by omega), zl_mul, zl_sub, zl_sub]
  by_cases c : 0 ≤ a
  · rw [Int.tdiv_eq_ediv_of_nonneg c, wg_ge (by omega) (by omega) (by omega) (by omega), if_pos (by omega)]
  · rw [zt_neg a 32 (by omega) (by omega), wg_ge (by omega) (by omega) (by omega) (by omega)]
    by_cases d : 0 ≤ a - -(-a / 32) * 32
    · rw [if_pos d]; congr 2; omega
    · rw [if_neg d]; congr 2; omega
theorem m_learnedAt (h : zRm z (u.1 0)) (hb : zBs z) : zi 15 + zi (zspan z) = zi (15 + zspan z) ∧ u.1 0 (zi (15 + zspan z)).toNatClampNeg = zl (zlea z) := by
  obtain ⟨e1, e2⟩ := zspan_bd hb
  refine ⟨zi_add _ _, ?_⟩
  rw [zi_nat (by omega) (by omega), h _ (by omega), show (15 + zspan z).toNat = 15 + (zspan z).toNat by omega]
  rfl
theorem m_spread (h : zRm z (u.1 0)) (hb : zBs z) {n : Int} (h1 : 0 ≤ n) (h2 : n ≤ 2000) : fX3_spread u (zi n) = some (zl (zsix z n / 16)) := by
  obtain ⟨e1, e2⟩ := zspan_bd hb
  obtain ⟨b1, b2⟩ := zsix_bd hb h1 h2
  obtain ⟨l1, l2⟩ := m_learnedAt h hb
  unfold fX3_spread
  rw [m_span h hb]
  simp only [Option.bind_some]
  rw [show (15 : Int32) = zi 15 from zi_lit 15, l1, zn_in (by omega) (by omega) (by omega), l2, zi_l (by omega) (by omega), h 8 (by decide), zl_mul, zl_sub, show z 8 - n * zlea z = zsix z n from rfl, n_down16 (by omega) (by omega)]
  rfl
theorem m_rest (h : zRm z (u.1 0)) (hb : zBs z) {n : Int} (h1 : 0 ≤ n) (h2 : n ≤ 2000) : fX3_restAfter u (zi n) = some (zl (zsix z n % 16)) := by
  obtain ⟨e1, e2⟩ := zspan_bd hb
  obtain ⟨l1, l2⟩ := m_learnedAt h hb
  unfold fX3_restAfter
  rw [m_span h hb, m_spread h hb h1 h2]
  simp only [Option.bind_some]
  rw [show (15 : Int32) = zi 15 from zi_lit 15, l1, zn_in (by omega) (by omega) (by omega), l2, zi_l (by omega) (by omega), h 8 (by decide), zl_mul, zl_sub, show z 8 - n * zlea z = zsix z n from rfl, zl_lit, zl_mul, zl_sub]
  congr 2
  omega
theorem n_size {a : Int} (h1 : -9223372036854775807 ≤ a) (h2 : a ≤ 9223372036854775807) : fX3_size (zl a) = some (zl (if 0 ≤ a then a else -a)) := by
  unfold fX3_size
  rw [show (0 : Int64) = zl 0 from zl_lit 0, wg_ge (by omega) (by omega) (by omega) (by omega), zl_neg]
  by_cases c : 0 ≤ a
  · rw [if_pos c, if_pos c]
  · rw [if_neg c, if_neg c]
theorem n_lesser {a b : Int} (h1 : -9223372036854775808 ≤ a) (h2 : a ≤ 9223372036854775807) (h3 : -9223372036854775808 ≤ b) (h4 : b ≤ 9223372036854775807) : fX3_lesser (zl a) (zl b) = some (zl (if b ≤ a then b else a)) := by
  unfold fX3_lesser
  rw [wg_ge h1 h2 h3 h4]
  by_cases c : b ≤ a
  · rw [if_pos c, if_pos c]
  · rw [if_neg c, if_neg c]
theorem n_greater {a b : Int} (h1 : -9223372036854775808 ≤ a) (h2 : a ≤ 9223372036854775807) (h3 : -9223372036854775808 ≤ b) (h4 : b ≤ 9223372036854775807) : fX3_greater (zl a) (zl b) = some (zl (if a ≤ b then b else a)) := by
  unfold fX3_greater
  rw [wg_le h1 h2 h3 h4]
  by_cases c : a ≤ b
  · rw [if_pos c, if_pos c]
  · rw [if_neg c, if_neg c]
theorem m_gone (h : zRm z (u.1 0)) (ht : zBt T z) (hb : zBs z) {n : Int} (h1 : 0 ≤ n) (h2 : n ≤ 2000) : fX3_gone u (zi n) = some (zl (zgone z n)) := by
  obtain ⟨e1, e2⟩ := zst_bd hb h1 h2
  obtain ⟨⟨t1, t2⟩, -, -, ⟨b1, b2⟩, -⟩ := ht
  unfold fX3_gone zgone
  rw [h 2 (by decide), h 9 (by decide), n_size (by omega) (by omega)]
  simp only [Option.bind_some]
  rw [zi_l (by omega) (by omega), zl_mul, n_lesser (by split <;> omega) (by split <;> omega) (by omega) (by omega)]
  simp only [Option.bind_some]
  rw [show (0 : Int64) = zl 0 from zl_lit 0, wg_ge (by omega) (by omega) (by omega) (by omega), zl_neg]
  by_cases c : 0 ≤ z 2
  · simp only [if_pos c]
    refine congrArg (fun x => some (zl x)) ?_
    (repeat' split) <;> omega
  · simp only [if_neg c]
    refine congrArg (fun x => some (zl x)) ?_
    (repeat' split) <;> omega
theorem m_after (h : zRm z (u.1 0)) (ht : zBt T z) (hb : zBs z) {n : Int} (h1 : 0 ≤ n) (h2 : n ≤ 2000) : fX3_boardAfter u (zi n) = some (zl (zaft z n)) := by
  have hb' := hb
  obtain ⟨b1, b2⟩ := zsix_bd hb h1 h2
  have hs := m_spread h hb h1 h2
  have hst := m_gone h ht hb h1 h2
  obtain ⟨-, ⟨a1, a2⟩, ⟨a3, a4⟩, -, -, -, -, -, hp, -⟩ := hb
  have ho := m_off h hb' (t := z 4) (by omega) (by omega)
  simp only [fX3_boardAfter, zc_let]
  rw [h 4 (by decide), ho, h 11 (by decide), h 1 (by decide), hs, hst]
  simp only [Option.bind_some]
  simp only [zl_lit]
  rw [zi_l (by omega) (by omega), zl_add, zl_mul, zl_add, wg_eq (by omega) (by omega) (by omega) (by omega)]
  unfold zaft
  rcases hp with hp | hp
  · rw [if_neg (by omega), if_neg (by omega)]
  · rw [if_pos hp, if_pos hp, zl_add, zl_add]
theorem m_width (h : zRm z (u.1 0)) (hb : zBs z) : fX3_wider u = some (zl (zwid z)) := by
  obtain ⟨-, -, -, -, -, -, -, -, hp, -⟩ := hb
  unfold fX3_wider zwid
  rw [h 10 (by decide), h 11 (by decide)]
  simp only [zl_lit]
  rw [wg_eq (by omega) (by omega) (by omega) (by omega), zl_mul]
  rcases hp with hp | hp
  · rw [if_neg (by omega), if_neg (by omega)]
  · rw [if_pos hp, if_pos hp]
end ZRel
