/-! alarms: which minutes fit, how many, what rings -/
def zfd (z : Nat → Int) (a : Nat) (m : Int) : Bool := decide (z (27 + 4 * a) = -1) || decide (z (27 + 4 * a) = m / 1440 % 7)
def zfh (z : Nat → Int) (a : Nat) (m : Int) : Bool := decide (z (26 + 4 * a) = -1) || decide (z (26 + 4 * a) = m / 60 % 24)
def zfm (z : Nat → Int) (a : Nat) (m : Int) : Bool := decide (z (25 + 4 * a) = -1) || decide (z (25 + 4 * a) = m % 60)
def zft (z : Nat → Int) (a : Nat) (m : Int) : Bool := zfm z a m && (zfh z a m && zfd z a m)
def zcnt (z : Nat → Int) (a : Nat) (lo : Int) : Nat → Int
  | 0 => 0
  | n + 1 => zcnt z a lo n + (if zft z a (lo + 1 + n) = true then 1 else 0)
theorem zcnt_succ (z : Nat → Int) (a : Nat) (lo : Int) (n : Nat) : zcnt z a lo (n + 1) = zcnt z a lo n + (if zft z a (lo + 1 + n) = true then 1 else 0) := rfl
theorem zcnt_bd (z : Nat → Int) (a : Nat) (lo : Int) (n : Nat) : 0 ≤ zcnt z a lo n ∧ zcnt z a lo n ≤ n := by
  induction n with
  | zero => exact ⟨Int.le_refl 0, Int.le_refl 0⟩
  | succ n ih =>
    unfold zcnt
    split <;> omega
theorem zcnt_congr {z z' : Nat → Int} {a : Nat} (h1 : z' (25 + 4 * a) = z (25 + 4 * a)) (h2 : z' (26 + 4 * a) = z (26 + 4 * a)) (h3 : z' (27 + 4 * a) = z (27 + 4 * a)) (lo : Int) (n : Nat) : zcnt z' a lo n = zcnt z a lo n := by
  induction n with
  | zero => rfl
  | succ n ih =>
    unfold zcnt zft zfm zfh zfd
    rw [ih, h1, h2, h3]
def zrg (z : Nat → Int) (lo : Int) (tot : Nat) (A : Nat) : Nat → Int := fun k => if 25 ≤ k ∧ (k - 25) % 4 = 3 ∧ (k - 25) / 4 < A then (if 99999 < z k + zcnt z ((k - 25) / 4) lo tot then 99999 else z k + zcnt z ((k - 25) / 4) lo tot) else z k
theorem zrg_0 (z : Nat → Int) (lo : Int) (tot : Nat) : zrg z lo tot 0 = z := by
  funext k
  unfold zrg
  rw [if_neg (by omega)]
theorem zrg_lo (z : Nat → Int) (lo : Int) (tot A : Nat) {k : Nat} (hk : k < 25) : zrg z lo tot A k = z k := by
  unfold zrg
  rw [if_neg (by omega)]
theorem zrg_f (z : Nat → Int) (lo : Int) (tot A : Nat) {k : Nat} (hk : (k - 25) % 4 ≠ 3) : zrg z lo tot A k = z k := by
  unfold zrg
  rw [if_neg (by omega)]
theorem zrg_r (z : Nat → Int) (lo : Int) (tot A a : Nat) : zrg z lo tot A (28 + 4 * a) = if a < A then (if 99999 < z (28 + 4 * a) + zcnt z a lo tot then 99999 else z (28 + 4 * a) + zcnt z a lo tot) else z (28 + 4 * a) := by
  unfold zrg
  rw [show (28 + 4 * a - 25) / 4 = a by omega]
  by_cases c : a < A
  · rw [if_pos ⟨by omega, by omega, c⟩, if_pos c]
  · rw [if_neg (fun h => c h.2.2), if_neg c]
theorem zrg_succ (z : Nat → Int) (lo : Int) (tot A : Nat) : zrg z lo tot (A + 1) = va_up (zrg z lo tot A) (28 + 4 * A) (if 99999 < z (28 + 4 * A) + zcnt z A lo tot then 99999 else z (28 + 4 * A) + zcnt z A lo tot) := by
  funext k
  by_cases hk : k = 28 + 4 * A
  · subst hk
    rw [va_up_self, zrg_r, if_pos (by omega)]
  · rw [va_up_ne _ _ hk]
    unfold zrg
    by_cases c : 25 ≤ k ∧ (k - 25) % 4 = 3 ∧ (k - 25) / 4 < A
    · rw [if_pos c, if_pos ⟨c.1, c.2.1, by omega⟩]
    · rw [if_neg c, if_neg (by omega)]
def zbit (z : Nat → Int) (lo : Int) (tot : Nat) : Nat → Int32
  | 0 => 0
  | a + 1 => if 0 < zcnt z a lo tot then zbit z lo tot a ||| ((1 : Int32) <<< (zi a &&& 31)) else zbit z lo tot a
/-! how many fit ahead of a minute: by whole weeks, days, hours, minutes -/
def zbel (f e : Int) : Int := if f = -1 then e else if f < e then 1 else 0
def zqf (f x : Int) : Int := if (decide (f = -1) || decide (f = x)) = true then 1 else 0
def zG (w h y W d k n : Int) : Int := (W * zbel w 7 + zbel w d) * (zbel h 24 * zbel y 60) + zqf w d * (zbel h k * zbel y 60 + zqf h k * zbel y n)
theorem zbel_succ {f e : Int} (hf : -1 ≤ f) (he : 0 ≤ e) : zbel f (e + 1) = zbel f e + zqf f e := by
  unfold zbel zqf
  simp only [Bool.or_eq_true, decide_eq_true_eq]
  (repeat' split) <;> omega
theorem zbel_0 {f : Int} (hf : -1 ≤ f) : zbel f 0 = 0 := by
  unfold zbel
  (repeat' split) <;> omega
theorem zG_1 {w h y W d k n : Int} (hy : -1 ≤ y) (hn : 0 ≤ n) : zG w h y W d k (n + 1) = zG w h y W d k n + zqf w d * (zqf h k * zqf y n) := by
  unfold zG
  rw [zbel_succ hy hn]
  simp only [Int.mul_add]
  omega
theorem zG_2 {w h y W d k : Int} (hy : -1 ≤ y) (hh : -1 ≤ h) (hk : 0 ≤ k) : zG w h y W d (k + 1) 0 = zG w h y W d k 59 + zqf w d * (zqf h k * zqf y 59) := by
  have e := zbel_succ hy (show (0 : Int) ≤ 59 by omega)
  rw [show (59 : Int) + 1 = 60 from rfl] at e
  unfold zG
  rw [zbel_succ hh hk, zbel_0 hy, e]
  simp only [Int.mul_add, Int.add_mul, Int.mul_zero]
  omega
theorem zG_3 {w h y W d : Int} (hy : -1 ≤ y) (hh : -1 ≤ h) (hw : -1 ≤ w) (hd : 0 ≤ d) : zG w h y W (d + 1) 0 0 = zG w h y W d 23 59 + zqf w d * (zqf h 23 * zqf y 59) := by
  have e := zbel_succ hy (show (0 : Int) ≤ 59 by omega)
  rw [show (59 : Int) + 1 = 60 from rfl] at e
  have g := zbel_succ hh (show (0 : Int) ≤ 23 by omega)
  rw [show (23 : Int) + 1 = 24 from rfl] at g
  unfold zG
  rw [zbel_succ hw hd, zbel_0 hy, zbel_0 hh, e, g]
  simp only [Int.mul_add, Int.add_mul, Int.mul_zero, Int.zero_mul]
  omega
theorem zG_4 {w h y W : Int} (hy : -1 ≤ y) (hh : -1 ≤ h) (hw : -1 ≤ w) : zG w h y (W + 1) 0 0 0 = zG w h y W 6 23 59 + zqf w 6 * (zqf h 23 * zqf y 59) := by
  have e := zbel_succ hy (show (0 : Int) ≤ 59 by omega)
  rw [show (59 : Int) + 1 = 60 from rfl] at e
  have g := zbel_succ hh (show (0 : Int) ≤ 23 by omega)
  rw [show (23 : Int) + 1 = 24 from rfl] at g
  have i := zbel_succ hw (show (0 : Int) ≤ 6 by omega)
  rw [show (6 : Int) + 1 = 7 from rfl] at i
  unfold zG
  rw [zbel_0 hy, zbel_0 hh, zbel_0 hw, e, g, i]
  simp only [Int.mul_add, Int.add_mul, Int.mul_zero, Int.zero_mul, Int.one_mul]
  omega
def zah (z : Nat → Int) (a : Nat) (m : Int) : Int := zG (z (27 + 4 * a)) (z (26 + 4 * a)) (z (25 + 4 * a)) (m / 1440 / 7) (m / 1440 % 7) (m / 60 % 24) (m % 60)
theorem zah_q (z : Nat → Int) (a : Nat) (m : Int) : zqf (z (27 + 4 * a)) (m / 1440 % 7) * (zqf (z (26 + 4 * a)) (m / 60 % 24) * zqf (z (25 + 4 * a)) (m % 60)) = if zft z a m = true then 1 else 0 := by
  unfold zqf zft zfm zfh zfd
  cases (decide (z (25 + 4 * a) = -1) || decide (z (25 + 4 * a) = m % 60)) <;> cases (decide (z (26 + 4 * a) = -1) || decide (z (26 + 4 * a) = m / 60 % 24)) <;> cases (decide (z (27 + 4 * a) = -1) || decide (z (27 + 4 * a) = m / 1440 % 7)) <;> simp
theorem zah_succ {z : Nat → Int} (hb : zBq z) {a : Nat} (ha : a < 6) (m : Int) : zah z a (m + 1) = zah z a m + (if zft z a m = true then 1 else 0) := by
  obtain ⟨⟨c1, -⟩, ⟨c3, -⟩, ⟨c5, -⟩, -⟩ := hb.2 a ha
  rw [← zah_q]
  unfold zah
  obtain ⟨W, d, k, n, hm, d1, d2, k1, k2, n1, n2⟩ : ∃ W d k n : Int, m = 10080 * W + (d * 1440 + k * 60 + n) ∧ 0 ≤ d ∧ d ≤ 6 ∧ 0 ≤ k ∧ k ≤ 23 ∧ 0 ≤ n ∧ n ≤ 59 := ⟨m / 10080, m % 10080 / 1440, m % 1440 / 60, m % 60, by omega, by omega, by omega, by omega, by omega, by omega, by omega⟩
  rw [show m / 1440 / 7 = W by omega, show m / 1440 % 7 = d by omega, show m / 60 % 24 = k by omega, show m % 60 = n by omega]
  by_cases hn : n = 59
  · subst hn
    by_cases hk : k = 23
    · subst hk
      by_cases hd : d = 6
      · subst hd
        rw [show (m + 1) / 1440 / 7 = W + 1 by omega, show (m + 1) / 1440 % 7 = 0 by omega, show (m + 1) / 60 % 24 = 0 by omega, show (m + 1) % 60 = 0 by omega]
        exact zG_4 c1 c3 c5
      · rw [show (m + 1) / 1440 / 7 = W by omega, show (m + 1) / 1440 % 7 = d + 1 by omega, show (m + 1) / 60 % 24 = 0 by omega, show (m + 1) % 60 = 0 by omega]
        exact zG_3 c1 c3 c5 d1
    · rw [show (m + 1) / 1440 / 7 = W by omega, show (m + 1) / 1440 % 7 = d by omega, show (m + 1) / 60 % 24 = k + 1 by omega, show (m + 1) % 60 = 0 by omega]
      exact zG_2 c1 c3 k1
  · rw [show (m + 1) / 1440 / 7 = W by omega, show (m + 1) / 1440 % 7 = d by omega, show (m + 1) / 60 % 24 = k by omega, show (m + 1) % 60 = n + 1 by omega]
    exact zG_1 c1 n1
theorem zah_cnt {z : Nat → Int} (hb : zBq z) {a : Nat} (ha : a < 6) (lo : Int) (n : Nat) : zah z a (lo + 1 + n) = zah z a (lo + 1) + zcnt z a lo n := by
  induction n with
  | zero => simp [zcnt]
  | succ n ih =>
    rw [zcnt_succ, show lo + 1 + ((n + 1 : Nat) : Int) = lo + 1 + (n : Int) + 1 by omega, zah_succ hb ha, ih]
    omega
section ZAl
variable {z : Nat → Int} {q : zc_Q} {u : zc_M}
theorem n_weekday {m : Int} (h1 : 0 ≤ m) (h2 : m ≤ 1000000000000) : fX2_weekdayOf (zl m) = some (zi (m / 1440 % 7)) := by
  unfold fX2_weekdayOf
  simp only [zl_lit]
  rw [zl_divp h1 (by omega) (by omega) (by omega), zl_divp (by omega) (by omega) (by omega) (by omega), zl_mul, zl_sub, zl_i]
  congr 2
  omega
theorem n_hour {m : Int} (h1 : 0 ≤ m) (h2 : m ≤ 1000000000000) : fX2_hourOf (zl m) = some (zi (m / 60 % 24)) := by
  unfold fX2_hourOf
  simp only [zl_lit]
  rw [zl_divp h1 (by omega) (by omega) (by omega), zl_divp (by omega) (by omega) (by omega) (by omega), zl_mul, zl_sub, zl_i]
  congr 2
  omega
theorem n_minute {m : Int} (h1 : 0 ≤ m) (h2 : m ≤ 1000000000000) : fX2_minuteOf (zl m) = some (zi (m % 60)) := by
  unfold fX2_minuteOf
  simp only [zl_lit]
  rw [zl_divp h1 (by omega) (by omega) (by omega), zl_mul, zl_sub, zl_i]
  congr 2
  omega
theorem q_has (hq : zRq z q) (hb : zBq z) {a : Nat} (ha : (a : Int) < z 24) : fX0_has q (zi a) = some 1 := by
  obtain ⟨⟨b1, b2⟩, -⟩ := hb
  unfold fX0_has
  rw [hq.1]
  simp only [zi_lit]
  rw [wi_lt (by omega) (by omega) (by omega) (by omega), wi_le (by omega) (by omega) (by omega) (by omega), wi_le (by omega) (by omega) (by omega) (by omega), if_neg (by omega), if_neg (by omega), if_neg (by omega)]
theorem q_fits {f x : Int} (h1 : -1000 ≤ f) (h2 : f ≤ 1000) (h3 : 0 ≤ x) (h4 : x ≤ 1000) : fX0_fits q (zi f) (zi x) = some (if (decide (f = -1) || decide (f = x)) = true then 1 else 0) := by
  unfold fX0_fits
  rw [show (-1 : Int32) = zi (-1) by rw [← zi_neg, ← zi_lit], wi_eq (by omega) (by omega) (by omega) (by omega), wi_eq (by omega) (by omega) (by omega) (by omega)]
  by_cases c : f = -1
  · simp [c]
  · by_cases d : f = x <;> simp [c, d]
theorem q_day {α : Type} {K : Int32 → Option α} (hq : zRq z q) (hb : zBq z) {a : Nat} (ha : (a : Int) < z 24) {m : Int} (h1 : 0 ≤ m) (h2 : m ≤ 1000000000000) : zc_in (zi a) 6 (Option.bind (fX2_weekdayOf (zl m)) fun (r : Int32) => Option.bind (fX0_fits q (q.2 2 (zi a).toNatClampNeg) r) K) = K (if zfd z a m = true then 1 else 0) := by
  obtain ⟨⟨b1, b2⟩, hb⟩ := hb
  obtain ⟨-, -, ⟨c1, c2⟩, -⟩ := hb a (by omega)
  have e := (hq.2 a (by omega)).2.2.1
  rw [zn_in (by omega) (by omega) (by omega), n_weekday h1 h2, Option.bind_some, zi_nat (by omega) (by omega), Int.toNat_natCast, e, q_fits (by omega) (by omega) (by omega) (by omega), Option.bind_some]
  rfl
theorem q_hour {α : Type} {K : Int32 → Option α} (hq : zRq z q) (hb : zBq z) {a : Nat} (ha : (a : Int) < z 24) {m : Int} (h1 : 0 ≤ m) (h2 : m ≤ 1000000000000) : zc_in (zi a) 6 (Option.bind (fX2_hourOf (zl m)) fun (r : Int32) => Option.bind (fX0_fits q (q.2 1 (zi a).toNatClampNeg) r) K) = K (if zfh z a m = true then 1 else 0) := by
  obtain ⟨⟨b1, b2⟩, hb⟩ := hb
  obtain ⟨-, ⟨c1, c2⟩, -, -⟩ := hb a (by omega)
  have e := (hq.2 a (by omega)).2.1
  rw [zn_in (by omega) (by omega) (by omega), n_hour h1 h2, Option.bind_some, zi_nat (by omega) (by omega), Int.toNat_natCast, e, q_fits (by omega) (by omega) (by omega) (by omega), Option.bind_some]
  rfl
theorem q_minute {α : Type} {K : Int32 → Option α} (hq : zRq z q) (hb : zBq z) {a : Nat} (ha : (a : Int) < z 24) {m : Int} (h1 : 0 ≤ m) (h2 : m ≤ 1000000000000) : zc_in (zi a) 6 (Option.bind (fX2_minuteOf (zl m)) fun (r : Int32) => Option.bind (fX0_fits q (q.2 0 (zi a).toNatClampNeg) r) K) = K (if zfm z a m = true then 1 else 0) := by
  obtain ⟨⟨b1, b2⟩, hb⟩ := hb
  obtain ⟨⟨c1, c2⟩, -, -, -⟩ := hb a (by omega)
  have e := (hq.2 a (by omega)).1
  rw [zn_in (by omega) (by omega) (by omega), n_minute h1 h2, Option.bind_some, zi_nat (by omega) (by omega), Int.toNat_natCast, e, q_fits (by omega) (by omega) (by omega) (by omega), Option.bind_some]
  rfl
theorem q_below {f e : Int} (h1 : -1000 ≤ f) (h2 : f ≤ 1000) (h3 : 0 ≤ e) (h4 : e ≤ 1000) : fX0_fittingBelow q (zi f) (zl e) = some (zl (zbel f e)) := by
  unfold fX0_fittingBelow
  rw [show (-1 : Int32) = zi (-1) by rw [← zi_neg, ← zi_lit], zi_l (by omega) (by omega), wi_eq (by omega) (by omega) (by omega) (by omega), wg_ge (by omega) (by omega) (by omega) (by omega)]
  unfold zbel
  by_cases c : f = -1
  · rw [if_pos c, if_pos c]
  · by_cases d : f < e
    · rw [if_neg c, if_neg c, if_neg (by omega), if_pos d, show (1 : Int64) = zl 1 from zl_lit 1]
    · rw [if_neg c, if_neg c, if_pos (by omega), if_neg d, show (0 : Int64) = zl 0 from zl_lit 0]
theorem q_ahead (hq : zRq z q) (hb : zBq z) {a : Nat} (ha : (a : Int) < z 24) {m : Int} (h1 : 0 ≤ m) (h2 : m ≤ 1000000000000) : fX0_fittingAheadOf q (zi a) (zl m) = some (zl (zah z a m)) := by
  have hh := q_has hq hb ha
  obtain ⟨⟨b1, b2⟩, hb⟩ := hb
  obtain ⟨⟨c1, c2⟩, ⟨c3, c4⟩, ⟨c5, c6⟩, -⟩ := hb a (by omega)
  obtain ⟨e0, e1, e2, -⟩ := hq.2 a (by omega)
  have en : (zi (a : Int)).toNatClampNeg = a := by rw [zi_nat (by omega) (by omega), Int.toNat_natCast]
  have hin : ∀ o : Option Int64, zc_in (zi (a : Int)) 6 o = o := fun o => zn_in (by omega) (by omega) (by omega)
  have d1 : zl m / 1440 = zl (m / 1440) := by rw [show (1440 : Int64) = zl 1440 from zl_lit 1440, zl_divp h1 (by omega) (by omega) (by omega)]
  have d2 : zl (m / 1440) / 7 = zl (m / 1440 / 7) := by rw [show (7 : Int64) = zl 7 from zl_lit 7, zl_divp (by omega) (by omega) (by omega) (by omega)]
  have d3 : zl (m / 1440) - zl (m / 1440 / 7) * 7 = zl (m / 1440 % 7) := by
    rw [show (7 : Int64) = zl 7 from zl_lit 7, zl_mul, zl_sub]
    congr 1
    omega
  have l1 : (zi (m / 60 % 24)).toInt64 = zl (m / 60 % 24) := zi_l (by omega) (by omega)
  have l2 : (zi (m % 60)).toInt64 = zl (m % 60) := zi_l (by omega) (by omega)
  have f1 : fX0_fittingBelow q (zi (z (25 + 4 * a))) 60 = some (zl (zbel (z (25 + 4 * a)) 60)) := by rw [show (60 : Int64) = zl 60 from zl_lit 60, q_below (by omega) (by omega) (by omega) (by omega)]
  have f2 : fX0_fittingBelow q (zi (z (26 + 4 * a))) 24 = some (zl (zbel (z (26 + 4 * a)) 24)) := by rw [show (24 : Int64) = zl 24 from zl_lit 24, q_below (by omega) (by omega) (by omega) (by omega)]
  have f3 : fX0_fittingBelow q (zi (z (27 + 4 * a))) 7 = some (zl (zbel (z (27 + 4 * a)) 7)) := by rw [show (7 : Int64) = zl 7 from zl_lit 7, q_below (by omega) (by omega) (by omega) (by omega)]
  have f4 : fX0_fittingBelow q (zi (z (27 + 4 * a))) (zl (m / 1440 % 7)) = some (zl (zbel (z (27 + 4 * a)) (m / 1440 % 7))) := q_below (by omega) (by omega) (by omega) (by omega)
  have f5 : fX0_fittingBelow q (zi (z (26 + 4 * a))) (zl (m / 60 % 24)) = some (zl (zbel (z (26 + 4 * a)) (m / 60 % 24))) := q_below (by omega) (by omega) (by omega) (by omega)
  have f6 : fX0_fittingBelow q (zi (z (25 + 4 * a))) (zl (m % 60)) = some (zl (zbel (z (25 + 4 * a)) (m % 60))) := q_below (by omega) (by omega) (by omega) (by omega)
  have g1 : fX0_fits q (zi (z (27 + 4 * a))) (zi (m / 1440 % 7)) = some (if zfd z a m = true then 1 else 0) := q_fits (by omega) (by omega) (by omega) (by omega)
  have g2 : fX0_fits q (zi (z (26 + 4 * a))) (zi (m / 60 % 24)) = some (if zfh z a m = true then 1 else 0) := q_fits (by omega) (by omega) (by omega) (by omega)
  unfold fX0_fittingAheadOf
  rw [hh, Option.bind_some, if_neg (by decide)]
  simp only [zc_let, hin, en, e0, e1, e2, d1, d2, d3, n_weekday h1 h2, n_hour h1 h2, n_minute h1 h2, Option.bind_some, l1, l2, f1, f2, f3, f4, f5, f6, g1, g2]
  simp only [zl_mul, zl_add]
  unfold zah zG
  rw [show zqf (z (27 + 4 * a)) (m / 1440 % 7) = (if zfd z a m = true then 1 else 0) from rfl, show zqf (z (26 + 4 * a)) (m / 60 % 24) = (if zfh z a m = true then 1 else 0) from rfl]
  cases zfd z a m with
  | false =>
    rw [if_pos (by decide)]
    show _ = some (zl (_ + 0 * _))
    rw [Int.zero_mul, Int.add_zero]
  | true =>
    rw [if_neg (by decide)]
    cases zfh z a m with
    | false =>
      rw [if_pos (by decide)]
      show _ = some (zl (_ + 1 * (_ + 0 * _)))
      rw [Int.one_mul, Int.zero_mul, Int.add_zero]
    | true =>
      rw [if_neg (by decide)]
      show _ = some (zl (_ + 1 * (_ + 1 * _)))
      rw [Int.one_mul, Int.one_mul, ← Int.add_assoc]
theorem q_count (hq : zRq z q) (hb : zBq z) {a : Nat} (ha : (a : Int) < z 24) {lo hi : Int} (h0 : 0 ≤ lo) (h1 : lo ≤ 10000000000) (h2 : lo ≤ hi) (h3 : hi ≤ lo + 100000) : fX0_countFitting q (zi a) (zl lo) (zl hi) = some (zi (zcnt z a lo (hi - lo).toNat)) := by
  have h24 := hb.1
  unfold fX0_countFitting
  rw [show (1 : Int64) = zl 1 from zl_lit 1, zl_add, zl_add, q_ahead hq hb ha (by omega) (by omega), Option.bind_some, q_ahead hq hb ha (by omega) (by omega), Option.bind_some, zl_sub, zl_i]
  have e := zah_cnt hb (a := a) (by omega) lo (hi - lo).toNat
  rw [show lo + 1 + (((hi - lo).toNat : Nat) : Int) = hi + 1 by omega] at e
  rw [e]
  congr 2
  omega
theorem m_fitsIn {t x : Int} (h1 : -1000 ≤ t) (h2 : t ≤ 1000) (h3 : 0 ≤ x) (h4 : x ≤ 1000) : fX3_fitsIn (zl t) (zl x) = some (if (decide (t = -1) || decide (t = x)) = true then 1 else 0) := by
  unfold fX3_fitsIn
  rw [show (-1 : Int64) = zl (-1) by rw [← zl_neg, ← zl_lit], wg_eq (by omega) (by omega) (by omega) (by omega), wg_eq (by omega) (by omega) (by omega) (by omega)]
  by_cases c : t = -1
  · simp [c]
  · by_cases d : t = x <;> simp [c, d]
theorem m_fits (h : zRm z (u.1 0)) (hb : zBq z) {a : Nat} (ha : a < 6) {m : Int} (h1 : 0 ≤ m) (h2 : m ≤ 1000000000000) : fX3_fits u (zi a) (zl m) = some (if zft z a m = true then 1 else 0) := by
  obtain ⟨-, hb⟩ := hb
  obtain ⟨⟨c1, c2⟩, ⟨c3, c4⟩, ⟨c5, c6⟩, -⟩ := hb a ha
  simp only [fX3_fits, zc_let]
  simp only [zl_lit, zi_lit, zi_mul, zi_add]
  rw [zn_in (by omega) (by omega) (by omega), zn_in (by omega) (by omega) (by omega), zn_in (by omega) (by omega) (by omega), zi_nat (by omega) (by omega), zi_nat (by omega) (by omega), zi_nat (by omega) (by omega),
    show (25 + 4 * (a : Int)).toNat = 25 + 4 * a by omega, show (25 + 4 * (a : Int) + 1).toNat = 26 + 4 * a by omega, show (25 + 4 * (a : Int) + 2).toNat = 27 + 4 * a by omega, h _ (by omega), h _ (by omega), h _ (by omega),
    zl_divp h1 (by omega) (by omega) (by omega), zl_divp h1 (by omega) (by omega) (by omega), zl_divp (by omega) (by omega) (by omega) (by omega), zl_divp (by omega) (by omega) (by omega) (by omega)]
  simp only [zl_mul, zl_sub]
  rw [show m - m / 60 * 60 = m % 60 by omega, show m / 60 - m / 60 / 24 * 24 = m / 60 % 24 by omega, show m / 1440 - m / 1440 / 7 * 7 = m / 1440 % 7 by omega, m_fitsIn (by omega) (by omega) (by omega) (by omega), m_fitsIn (by omega) (by omega) (by omega) (by omega), m_fitsIn (by omega) (by omega) (by omega) (by omega)]
  simp only [← zi_lit]
  simp only [Option.bind_some]
  unfold zft zfm zfh zfd
  cases (decide (z (25 + 4 * a) = -1) || decide (z (25 + 4 * a) = m % 60)) <;> cases (decide (z (26 + 4 * a) = -1) || decide (z (26 + 4 * a) = m / 60 % 24)) <;> cases (decide (z (27 + 4 * a) = -1) || decide (z (27 + 4 * a) = m / 1440 % 7)) <;> simp
theorem m_betweenL (h : zRm z (u.1 0)) (hb : zBq z) {a : Nat} (ha : a < 6) {lo : Int} (h0 : 0 ≤ lo) (h1 : lo ≤ 10000000000) {tot : Nat} (ht : tot ≤ 100000) {b : Int} (hb1 : 0 ≤ b) (hb2 : b ≤ 1000000000000000) (hb3 : b / 60000 = lo + tot) (N : Nat) : ∀ (r n i : Nat), i + r = tot → r < n → fX3_between_L N n u (zi a) (zl b) (zl (zcnt z a lo i)) (zl (lo + 1 + i)) = some (zl (zcnt z a lo tot)) := by
  intro r
  induction r with
  | zero =>
    intro n i hi hn
    obtain ⟨n, rfl⟩ : ∃ k, n = k + 1 := ⟨n - 1, by omega⟩
    obtain rfl : i = tot := by omega
    rw [fX3_between_L, show (60000 : Int64) = zl 60000 from zl_lit 60000, zl_divp hb1 (by omega) (by omega) (by omega), hb3, wg_gt (by omega) (by omega) (by omega) (by omega), if_pos (by omega)]
  | succ r ih =>
    intro n i hi hn
    obtain ⟨n, rfl⟩ : ∃ k, n = k + 1 := ⟨n - 1, by omega⟩
    rw [fX3_between_L, show (60000 : Int64) = zl 60000 from zl_lit 60000, zl_divp hb1 (by omega) (by omega) (by omega), hb3, wg_gt (by omega) (by omega) (by omega) (by omega), if_neg (by omega), m_fits h hb ha (by omega) (by omega)]
    have ih' := ih n (i + 1) (by omega) (by omega)
    rw [show lo + 1 + ((i + 1 : Nat) : Int) = lo + 1 + (i : Int) + 1 by omega, zcnt_succ] at ih'
    have e1 : zl (lo + 1 + (i : Int)) + 1 = zl (lo + 1 + (i : Int) + 1) := by rw [show (1 : Int64) = zl 1 from zl_lit 1, zl_add]
    have e2 : zl (zcnt z a lo i) + 1 = zl (zcnt z a lo i + 1) := by rw [show (1 : Int64) = zl 1 from zl_lit 1, zl_add]
    have e3 : zl (zcnt z a lo i) + 0 = zl (zcnt z a lo i + 0) := by rw [show (0 : Int64) = zl 0 from zl_lit 0, zl_add]
    simp only [Option.bind_some, zc_let, e1, e2, e3]
    cases hf : zft z a (lo + 1 + i) with
    | false =>
      rw [hf, if_neg (by decide)] at ih'
      rw [if_pos (by decide)]
      exact ih'
    | true =>
      rw [hf, if_pos rfl] at ih'
      rw [if_pos rfl, if_neg (by decide)]
      exact ih'
end ZAl
