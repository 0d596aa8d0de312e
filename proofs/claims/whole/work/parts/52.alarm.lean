/-! alarms: which minutes fit, how many, what rings -/
def zfd (z : Nat → Int) (a : Nat) (m : Int) : Bool := decide (z (27 + 4 * a) = -1) || decide (z (27 + 4 * a) = m / 1440 % 7)
def zfh (z : Nat → Int) (a : Nat) (m : Int) : Bool := decide (z (26 + 4 * a) = -1) || decide (z (26 + 4 * a) = m / 60 % 24)
def zfm (z : Nat → Int) (a : Nat) (m : Int) : Bool := decide (z (25 + 4 * a) = -1) || decide (z (25 + 4 * a) = m % 60)
def zft (z : Nat → Int) (a : Nat) (m : Int) : Bool := zfm z a m && (zfh z a m && zfd z a m)
def zcnt (z : Nat → Int) (a : Nat) (lo : Int) : Nat → Int
  | 0 => 0
  | n + 1 => zcnt z a lo n + (if zft z a (lo + 1 + n) = true then 1 else 0)
theorem zcnt_succ (z : Nat → Int) (a : Nat) (lo : Int) (n : Nat) : zcnt z a lo (n + 1) = zcnt z a lo n + (if zft z a (lo + 1 + n) = true then 1 else 0) := rfl
theorem zcnt_bd (z : Nat → Int) (a : Nat) (lo : Int) (n : Nat) : 0 ≤ zcnt z a lo n ∧ zcnt z a lo n ≤ n := by
  induction n with
  | zero => exact ⟨Int.le_refl 0, Int.le_refl 0⟩
  | succ n ih =>
    unfold zcnt
    split <;> omega
theorem zcnt_congr {z z' : Nat → Int} {a : Nat} (h1 : z' (25 + 4 * a) = z (25 + 4 * a)) (h2 : z' (26 + 4 * a) = z (26 + 4 * a)) (h3 : z' (27 + 4 * a) = z (27 + 4 * a)) (lo : Int) (n : Nat) : zcnt z' a lo n = zcnt z a lo n := by
  induction n with
  | zero => rfl
  | succ n ih =>
    unfold zcnt zft zfm zfh zfd
    rw [ih, h1, h2, h3]
def zrg (z : Nat → Int) (lo : Int) (tot : Nat) (A : Nat) : Nat → Int := fun k => if 25 ≤ k ∧ (k - 25) % 4 = 3 ∧ (k - 25) / 4 < A then (if 99999 < z k + zcnt z ((k - 25) / 4) lo tot then 99999 else z k + zcnt z ((k - 25) / 4) lo tot) else z k
theorem zrg_0 (z : Nat → Int) (lo : Int) (tot : Nat) : zrg z lo tot 0 = z := by
  funext k
  unfold zrg
  rw [if_neg (by omega)]
theorem zrg_lo (z : Nat → Int) (lo : Int) (tot A : Nat) {k : Nat} (hk : k < 25) : zrg z lo tot A k = z k := by
  unfold zrg
  rw [if_neg (by omega)]
theorem zrg_f (z : Nat → Int) (lo : Int) (tot A : Nat) {k : Nat} (hk : (k - 25) % 4 ≠ 3) : zrg z lo tot A k = z k := by
  unfold zrg
  rw [if_neg (by omega)]
theorem zrg_r (z : Nat → Int) (lo : Int) (tot A a : Nat) : zrg z lo tot A (28 + 4 * a) = if a < A then (if 99999 < z (28 + 4 * a) + zcnt z a lo tot then 99999 else z (28 + 4 * a) + zcnt z a lo tot) else z (28 + 4 * a) := by
  unfold zrg
  rw [show (28 + 4 * a - 25) / 4 = a by omega]
  by_cases c : a < A
  · rw [if_pos ⟨by omega, by omega, c⟩, if_pos c]
  · rw [if_neg (fun h => c h.2.2), if_neg c]
theorem zrg_succ (z : Nat → Int) (lo : Int) (tot A : Nat) : zrg z lo tot (A + 1) = va_up (zrg z lo tot A) (28 + 4 * A) (if 99999 < z (28 + 4 * A) + zcnt z A lo tot then 99999 else z (28 + 4 * A) + zcnt z A lo tot) := by
  funext k
  by_cases hk : k = 28 + 4 * A
  · subst hk
    rw [va_up_self, zrg_r, if_pos (by omega)]
  · rw [va_up_ne _ _ hk]
    unfold zrg
    by_cases c : 25 ≤ k ∧ (k - 25) % 4 = 3 ∧ (k - 25) / 4 < A
    · rw [if_pos c, if_pos ⟨c.1, c.2.1, by omega⟩]
    · rw [if_neg c, if_neg (by omega)]
def zbit (z : Nat → Int) (lo : Int) (tot : Nat) : Nat → Int32
  | 0 => 0
  | a + 1 => if 0 < zcnt z a lo tot then zbit z lo tot a ||| ((1 : Int32) <<< (zi a &&& 31)) else zbit z lo tot a
section ZAl
variable {z : Nat → Int} {q : zc_Q} {u : zc_M}
theorem n_weekday {m : Int} (h1 : 0 ≤ m) (h2 : m ≤ 1000000000000) : fX2_weekdayOf (zl m) = some (zi (m / 1440 % 7)) := by
  unfold fX2_weekdayOf
  simp only [zl_lit]
  rw [zl_divp h1 (by omega) (by omega) (by omega), zl_divp (by omega) (by omega) (by omega) (by omega), zl_mul, zl_sub, zl_i]
  congr 2
  omega
theorem n_hour {m : Int} (h1 : 0 ≤ m) (h2 : m ≤ 1000000000000) : fX2_hourOf (zl m) = some (zi (m / 60 % 24)) := by
  unfold fX2_hourOf
  simp only [zl_lit]
  rw [zl_divp h1 (by omega) (by omega) (by omega), zl_divp (by omega) (by omega) (by omega) (by omega), zl_mul, zl_sub, zl_i]
  congr 2
  omega
theorem n_minute {m : Int} (h1 : 0 ≤ m) (h2 : m ≤ 1000000000000) : fX2_minuteOf (zl m) = some (zi (m % 60)) := by
  unfold fX2_minuteOf
  simp only [zl_lit]
  rw [zl_divp h1 (by omega) (by omega) (by omega), zl_mul, zl_sub, zl_i]
  congr 2
  omega
theorem q_has (hq : zRq z q) (hb : zBq z) {a : Nat} (ha : (a : Int) < z 24) : fX0_has q (zi a) = some 1 := by
  obtain ⟨⟨b1, b2⟩, -⟩ := hb
  unfold fX0_has
  rw [hq.1]
  simp only [zi_lit]
  rw [wi_lt (by omega) (by omega) (by omega) (by omega), wi_le (by omega) (by omega) (by omega) (by omega), wi_le (by omega) (by omega) (by omega) (by omega), if_neg (by omega), if_neg (by omega), if_neg (by omega)]
theorem q_day (hq : zRq z q) (hb : zBq z) {a : Nat} (ha : (a : Int) < z 24) {m : Int} (h1 : 0 ≤ m) (h2 : m ≤ 1000000000000) : fX0_fitsDay q (zi a) (zl m) = some (if zfd z a m = true then 1 else 0) := by
  have hh := q_has hq hb ha
  obtain ⟨⟨b1, b2⟩, hb⟩ := hb
  obtain ⟨-, -, ⟨c1, c2⟩, -⟩ := hb a (by omega)
  have e := (hq.2 a (by omega)).2.2.1
  unfold fX0_fitsDay
  rw [hh, n_weekday h1 h2]
  simp only [Option.bind_some]
  rw [if_neg (by decide), zn_in (by omega) (by omega) (by omega), zn_in (by omega) (by omega) (by omega), zi_nat (by omega) (by omega), Int.toNat_natCast, e, show (-1 : Int32) = zi (-1) by rw [← zi_neg, ← zi_lit], wi_eq (by omega) (by omega) (by omega) (by omega), wi_eq (by omega) (by omega) (by omega) (by omega)]
  unfold zfd
  by_cases c : z (27 + 4 * a) = -1
  · simp [c]
  · by_cases d : z (27 + 4 * a) = m / 1440 % 7 <;> simp [c, d]
theorem q_hour (hq : zRq z q) (hb : zBq z) {a : Nat} (ha : (a : Int) < z 24) {m : Int} (h1 : 0 ≤ m) (h2 : m ≤ 1000000000000) : fX0_fitsHour q (zi a) (zl m) = some (if zfh z a m = true then 1 else 0) := by
  have hh := q_has hq hb ha
  obtain ⟨⟨b1, b2⟩, hb⟩ := hb
  obtain ⟨-, ⟨c1, c2⟩, -, -⟩ := hb a (by omega)
  have e := (hq.2 a (by omega)).2.1
  unfold fX0_fitsHour
  rw [hh, n_hour h1 h2]
  simp only [Option.bind_some]
  rw [if_neg (by decide), zn_in (by omega) (by omega) (by omega), zn_in (by omega) (by omega) (by omega), zi_nat (by omega) (by omega), Int.toNat_natCast, e, show (-1 : Int32) = zi (-1) by rw [← zi_neg, ← zi_lit], wi_eq (by omega) (by omega) (by omega) (by omega), wi_eq (by omega) (by omega) (by omega) (by omega)]
  unfold zfh
  by_cases c : z (26 + 4 * a) = -1
  · simp [c]
  · by_cases d : z (26 + 4 * a) = m / 60 % 24 <;> simp [c, d]
theorem q_minute (hq : zRq z q) (hb : zBq z) {a : Nat} (ha : (a : Int) < z 24) {m : Int} (h1 : 0 ≤ m) (h2 : m ≤ 1000000000000) : fX0_fitsMinute q (zi a) (zl m) = some (if zfm z a m = true then 1 else 0) := by
  have hh := q_has hq hb ha
  obtain ⟨⟨b1, b2⟩, hb⟩ := hb
  obtain ⟨⟨c1, c2⟩, -, -, -⟩ := hb a (by omega)
  have e := (hq.2 a (by omega)).1
  unfold fX0_fitsMinute
  rw [hh, n_minute h1 h2]
  simp only [Option.bind_some]
  rw [if_neg (by decide), zn_in (by omega) (by omega) (by omega), zn_in (by omega) (by omega) (by omega), zi_nat (by omega) (by omega), Int.toNat_natCast, e, show (-1 : Int32) = zi (-1) by rw [← zi_neg, ← zi_lit], wi_eq (by omega) (by omega) (by omega) (by omega), wi_eq (by omega) (by omega) (by omega) (by omega)]
  unfold zfm
  by_cases c : z (25 + 4 * a) = -1
  · simp [c]
  · by_cases d : z (25 + 4 * a) = m % 60 <;> simp [c, d]
theorem q_countL (hq : zRq z q) (hb : zBq z) {a : Nat} (ha : (a : Int) < z 24) {lo : Int} (h0 : 0 ≤ lo) (h1 : lo ≤ 10000000000) {tot : Nat} (ht : tot ≤ 100000) (N : Nat) (y : Int64) : ∀ (r n i : Nat), i + r = tot → r < n → fX0_countFitting_L N n q (zi a) y (zl (lo + tot)) (zi (zcnt z a lo i)) (zl (lo + 1 + i)) = some (zi (zcnt z a lo tot)) := by
  intro r
  induction r with
  | zero =>
    intro n i hi hn
    obtain ⟨n, rfl⟩ : ∃ k, n = k + 1 := ⟨n - 1, by omega⟩
    obtain rfl : i = tot := by omega
    rw [fX0_countFitting_L, wg_gt (by omega) (by omega) (by omega) (by omega), if_pos (by omega)]
  | succ r ih =>
    intro n i hi hn
    obtain ⟨n, rfl⟩ : ∃ k, n = k + 1 := ⟨n - 1, by omega⟩
    rw [fX0_countFitting_L, wg_gt (by omega) (by omega) (by omega) (by omega), if_neg (by omega), q_day hq hb ha (by omega) (by omega), q_hour hq hb ha (by omega) (by omega), q_minute hq hb ha (by omega) (by omega)]
    have ih' := ih n (i + 1) (by omega) (by omega)
    rw [show lo + 1 + ((i + 1 : Nat) : Int) = lo + 1 + (i : Int) + 1 by omega, zcnt_succ] at ih'
    have e1 : zl (lo + 1 + (i : Int)) + 1 = zl (lo + 1 + (i : Int) + 1) := by rw [show (1 : Int64) = zl 1 from zl_lit 1, zl_add]
    have e2 : zi (zcnt z a lo i) + 1 = zi (zcnt z a lo i + 1) := by rw [show (1 : Int32) = zi 1 from zi_lit 1, zi_add]
    simp only [Option.bind_some, zc_let, e1, e2]
    cases hd : zfd z a (lo + 1 + i) with
    | false =>
      rw [show zft z a (lo + 1 + i) = false by unfold zft; rw [hd, Bool.and_false, Bool.and_false], if_neg (by decide), Int.add_zero] at ih'
      rw [if_pos (by decide)]
      exact ih'
    | true =>
      rw [if_pos rfl, if_neg (by decide)]
      cases hh : zfh z a (lo + 1 + i) with
      | false =>
        rw [show zft z a (lo + 1 + i) = false by unfold zft; rw [hh, Bool.false_and, Bool.and_false], if_neg (by decide), Int.add_zero] at ih'
        rw [if_pos (by decide)]
        exact ih'
      | true =>
        rw [if_pos rfl, if_neg (by decide)]
        cases hm : zfm z a (lo + 1 + i) with
        | false =>
          rw [show zft z a (lo + 1 + i) = false by unfold zft; rw [hm, Bool.false_and], if_neg (by decide), Int.add_zero] at ih'
          rw [if_pos (by decide)]
          exact ih'
        | true =>
          rw [show zft z a (lo + 1 + i) = true by unfold zft; rw [hm, hh, hd]; rfl, if_pos rfl] at ih'
          rw [if_pos rfl, if_neg (by decide)]
          exact ih'
theorem q_count (hq : zRq z q) (hb : zBq z) {a : Nat} (ha : (a : Int) < z 24) {lo hi : Int} (h0 : 0 ≤ lo) (h1 : lo ≤ 10000000000) (h2 : lo ≤ hi) (h3 : hi ≤ lo + 100000) {N : Nat} (hN : 100000 < N) : fX0_countFitting N q (zi a) (zl lo) (zl hi) = some (zi (zcnt z a lo (hi - lo).toNat)) := by
  simp only [fX0_countFitting, zc_let]
  have := q_countL hq hb ha h0 h1 (tot := (hi - lo).toNat) (by omega) N (zl lo) (hi - lo).toNat N 0 (by omega) (by omega)
  rw [show lo + (((hi - lo).toNat : Nat) : Int) = hi by omega] at this
  rw [show (1 : Int64) = zl 1 from zl_lit 1, zl_add, show (0 : Int32) = zi 0 from zi_lit 0]
  simpa [zcnt] using this
theorem m_fitsIn {t x : Int} (h1 : -1000 ≤ t) (h2 : t ≤ 1000) (h3 : 0 ≤ x) (h4 : x ≤ 1000) : fX3_fitsIn (zl t) (zl x) = some (if (decide (t = -1) || decide (t = x)) = true then 1 else 0) := by
  unfold fX3_fitsIn
  rw [show (-1 : Int64) = zl (-1) by rw [← zl_neg, ← zl_lit], wg_eq (by omega) (by omega) (by omega) (by omega), wg_eq (by omega) (by omega) (by omega) (by omega)]
  by_cases c : t = -1
  · simp [c]
  · by_cases d : t = x <;> simp [c, d]
theorem m_fits (h : zRm z (u.1 0)) (hb : zBq z) {a : Nat} (ha : a < 6) {m : Int} (h1 : 0 ≤ m) (h2 : m ≤ 1000000000000) : fX3_fits u (zi a) (zl m) = some (if zft z a m = true then 1 else 0) := by
  obtain ⟨-, hb⟩ := hb
  obtain ⟨⟨c1, c2⟩, ⟨c3, c4⟩, ⟨c5, c6⟩, -⟩ := hb a ha
  simp only [fX3_fits, zc_let]
  simp only [zl_lit, zi_lit, zi_mul, zi_add]
  rw [zn_in (by omega) (by omega) (by omega), zn_in (by omega) (by omega) (by omega), zn_in (by omega) (by omega) (by omega), zi_nat (by omega) (by omega), zi_nat (by omega) (by omega), zi_nat (by omega) (by omega),
    show (25 + 4 * (a : Int)).toNat = 25 + 4 * a by omega, show (25 + 4 * (a : Int) + 1).toNat = 26 + 4 * a by omega, show (25 + 4 * (a : Int) + 2).toNat = 27 + 4 * a by omega, h _ (by omega), h _ (by omega), h _ (by omega),
    zl_divp h1 (by omega) (by omega) (by omega), zl_divp h1 (by omega) (by omega) (by omega), zl_divp (by omega) (by omega) (by omega) (by omega), zl_divp (by omega) (by omega) (by omega) (by omega)]
  simp only [zl_mul, zl_sub]
  rw [show m - m / 60 * 60 = m % 60 by omega, show m / 60 - m / 60 / 24 * 24 = m / 60 % 24 by omega, show m / 1440 - m / 1440 / 7 * 7 = m / 1440 % 7 by omega, m_fitsIn (by omega) (by omega) (by omega) (by omega), m_fitsIn (by omega) (by omega) (by omega) (by omega), m_fitsIn (by omega) (by omega) (by omega) (by omega)]
  simp only [← zi_lit]
  simp only [Option.bind_some]
  unfold zft zfm zfh zfd
  cases (decide (z (25 + 4 * a) = -1) || decide (z (25 + 4 * a) = m % 60)) <;> cases (decide (z (26 + 4 * a) = -1) || decide (z (26 + 4 * a) = m / 60 % 24)) <;> cases (decide (z (27 + 4 * a) = -1) || decide (z (27 + 4 * a) = m / 1440 % 7)) <;> simp
theorem m_betweenL (h : zRm z (u.1 0)) (hb : zBq z) {a : Nat} (ha : a < 6) {lo : Int} (h0 : 0 ≤ lo) (h1 : lo ≤ 10000000000) {tot : Nat} (ht : tot ≤ 100000) {b : Int} (hb1 : 0 ≤ b) (hb2 : b ≤ 1000000000000000) (hb3 : b / 60000 = lo + tot) (N : Nat) : ∀ (r n i : Nat), i + r = tot → r < n → fX3_between_L N n u (zi a) (zl b) (zl (zcnt z a lo i)) (zl (lo + 1 + i)) = some (zl (zcnt z a lo tot)) := by
  intro r
  induction r with
  | zero =>
    intro n i hi hn
    obtain ⟨n, rfl⟩ : ∃ k, n = k + 1 := ⟨n - 1, by omega⟩
    obtain rfl : i = tot := by omega
    rw [fX3_between_L, show (60000 : Int64) = zl 60000 from zl_lit 60000, zl_divp hb1 (by omega) (by omega) (by omega), hb3, wg_gt (by omega) (by omega) (by omega) (by omega), if_pos (by omega)]
  | succ r ih =>
    intro n i hi hn
    obtain ⟨n, rfl⟩ : ∃ k, n = k + 1 := ⟨n - 1, by omega⟩
    rw [fX3_between_L, show (60000 : Int64) = zl 60000 from zl_lit 60000, zl_divp hb1 (by omega) (by omega) (by omega), hb3, wg_gt (by omega) (by omega) (by omega) (by omega), if_neg (by omega), m_fits h hb ha (by omega) (by omega)]
    have ih' := ih n (i + 1) (by omega) (by omega)
    rw [show lo + 1 + ((i + 1 : Nat) : Int) = lo + 1 + (i : Int) + 1 by omega, zcnt_succ] at ih'
    have e1 : zl (lo + 1 + (i : Int)) + 1 = zl (lo + 1 + (i : Int) + 1) := by rw [show (1 : Int64) = zl 1 from zl_lit 1, zl_add]
    have e2 : zl (zcnt z a lo i) + 1 = zl (zcnt z a lo i + 1) := by rw [show (1 : Int64) = zl 1 from zl_lit 1, zl_add]
    have e3 : zl (zcnt z a lo i) + 0 = zl (zcnt z a lo i + 0) := by rw [show (0 : Int64) = zl 0 from zl_lit 0, zl_add]
    simp only [Option.bind_some, zc_let, e1, e2, e3]
    cases hf : zft z a (lo + 1 + i) with
    | false =>
      rw [hf, if_neg (by decide)] at ih'
      rw [if_pos (by decide)]
      exact ih'
    | true =>
      rw [hf, if_pos rfl] at ih'
      rw [if_pos rfl, if_neg (by decide)]
      exact ih'
end ZAl
