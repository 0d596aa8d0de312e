/-! a time is heard -/
def zclamp (x : Int) : Int := if x < -9999 then -9999 else if 9999 < x then 9999 else x
def zlr (z : Nat → Int) (t : Int) : Nat → Int := if 0 < z 12 ∧ z 13 ≠ 9 then va_up z (15 + (z 13).toNat) (zclamp (z (15 + (z 13).toNat) + ((z 1 + z 2 - t) * 16).tdiv (2 * z 12))) else z
def zlo (z : Nat → Int) (t c : Int) : Int := if (z 1 + z 2) * 16 - z 3 < (t - c) * 16 then (t - c) * 16 else (z 1 + z 2) * 16 - z 3
def zhi (z : Nat → Int) (t c : Int) : Int := if (z 1 + z 2) * 16 + z 3 < (t + c) * 16 then (z 1 + z 2) * 16 + z 3 else (t + c) * 16
def zLo (z : Nat → Int) (t c : Int) : Int := if zlo z t c ≤ zhi z t c then zlo z t c else (t - c) * 16
def zHi (z : Nat → Int) (t c : Int) : Int := if zlo z t c ≤ zhi z t c then zhi z t c else (t + c) * 16
def zW (L H : Int) : Int := if (L + H) / 32 * 16 - L < H - (L + H) / 32 * 16 then H - (L + H) / 32 * 16 else (L + H) / 32 * 16 - L
def zbk (z : Nat → Int) (t c : Int) : Int := if zlo z t c ≤ zhi z t c then 0 else 1
def zhr (z : Nat → Int) (e c : Int) : Nat → Int := fun k => if k = 2 then (zLo z (z 0 + e) c + zHi z (z 0 + e) c) / 32 - z 1 else if k = 3 then zW (zLo z (z 0 + e) c) (zHi z (z 0 + e) c) else if k = 12 then 0 else if k = 13 then -1 else if k = 14 then z 14 + zbk z (z 0 + e) c else zlr z (z 0 + e) k
theorem ztd_bd {a b : Int} (hb : 1 ≤ b) : (0 ≤ a → 0 ≤ a.tdiv b ∧ a.tdiv b ≤ a) ∧ (a < 0 → a ≤ a.tdiv b ∧ a.tdiv b ≤ 0) := by
  constructor
  · intro h
    rw [Int.tdiv_eq_ediv_of_nonneg h]
    exact ⟨Int.ediv_nonneg h (by omega), Int.ediv_le_self b h⟩
  · intro h
    rw [zt_neg a b h (by omega)]
    have h1 := Int.ediv_nonneg (a := -a) (b := b) (by omega) (by omega)
    have h2 := Int.ediv_le_self b (show 0 ≤ -a by omega)
    omega
section ZHear
variable {z : Nat → Int} {v : zc_S} {u : zc_M} {T : Int}
theorem zlr_lo {t : Int} {k : Nat} (hk : k < 15) : zlr z t k = z k := by
  unfold zlr
  split
  · rw [va_up_ne _ _ (by omega)]
  · rfl
theorem zlr_hi {t : Int} {k : Nat} (h : 0 < z 12 → 0 ≤ z 13 ∧ z 13 ≤ 9) (hk : 24 ≤ k) : zlr z t k = z k := by
  unfold zlr
  split
  · rename_i c
    have := h c.1
    rw [va_up_ne _ _ (by omega)]
  · rfl
theorem zlr_bl {t : Int} (hb : ∀ k, k < 9 → -9999 ≤ z (15 + k) ∧ z (15 + k) ≤ 9999) (k : Nat) (hk : k < 9) : -9999 ≤ zlr z t (15 + k) ∧ zlr z t (15 + k) ≤ 9999 := by
  unfold zlr
  split
  · by_cases c : 15 + k = 15 + (z 13).toNat
    · rw [c, va_up_self]
      unfold zclamp
      split
      · omega
      · split <;> omega
    · rw [va_up_ne _ _ c]
      exact hb k hk
  · exact hb k hk
theorem s_learn (h : zRs z v) (ht : zBt T z) (hb : zBs z) {t : Int} (h1 : -20000 ≤ t) (h2 : t ≤ 60000 * T + 20000) : ∃ v', fX1_learnFrom v (zl t) = some v' ∧ zRs (zlr z t) v' := by
  have ha := s_aim h
  have h' := h
  obtain ⟨-, ⟨-, -, -, -, -, -, -, -, -, e13, -⟩, hl, -, ht5, ht6⟩ := h
  obtain ⟨-, -, -, -, -, -, -, -, -, bl⟩ := hb
  obtain ⟨⟨t1, t2⟩, -, ⟨x1, y1⟩, ⟨x2, y2⟩, ⟨x12, y12⟩, -⟩ := ht
  unfold fX1_learnFrom
  rw [e13, show (0 : Int32) = zi 0 from zi_lit 0, wi_le (by omega) (by omega) (by omega) (by omega)]
  by_cases c : z 12 ≤ 0
  · rw [if_pos c]
    refine ⟨v, rfl, ?_⟩
    unfold zlr
    rw [if_neg (by omega)]
    exact h'
  · rw [if_neg c]
    rcases ht6 (by omega) with ⟨q1, q2, q3, q4⟩ | ⟨q1, q2⟩
    · rw [if_neg (by rw [q1]; decide), q2, n_isSpan q3 q4]
      simp only [Option.bind_some]
      rw [if_neg (by decide), ha]
      simp only [Option.bind_some, zc_let]
      obtain ⟨d1, d2⟩ := ztd_bd (a := (z 1 + z 2 - t) * 16) (b := 2 * z 12) (by omega)
      have hle := bl (z 13).toNat (by omega)
      have hd : -9000000000000 ≤ ((z 1 + z 2 - t) * 16).tdiv (2 * z 12) ∧ ((z 1 + z 2 - t) * 16).tdiv (2 * z 12) ≤ 9000000000000 := by
        rcases Int.lt_or_le ((z 1 + z 2 - t) * 16) 0 with c | c
        · have := d2 c; omega
        · have := d1 c; omega
      rw [zi_l (by omega) (by omega), show (2 : Int64) = zl 2 from zl_lit 2, show (16 : Int64) = zl 16 from zl_lit 16, zl_sub, zl_mul, zl_mul, zn_nzL (by omega) (by omega) (by omega), zl_div (by omega) (by omega) (by omega) (by omega), zn_in q3 (by omega) (by omega), zi_nat q3 (by omega), hl _ (by omega), zi_l (by omega) (by omega), zl_add, show (9999 : Int64) = zl 9999 from zl_lit 9999, zl_neg, n_held (by omega) (by omega) (by omega) (by omega)]
      simp only [Option.bind_some]
      rw [zn_in q3 (by omega) (by omega), zl_i]
      refine ⟨_, rfl, ?_⟩
      unfold zlr
      rw [if_pos ⟨by omega, by omega⟩]
      exact s_A h' (by omega) _
    · rw [if_pos (by rw [q1]; exact zi_lit 0)]
      refine ⟨v, rfl, ?_⟩
      unfold zlr
      rw [if_neg (by omega)]
      exact h'
theorem m_learn (h : zRm z (u.1 0)) (ht : zBt T z) (hb : zBs z) (h13 : 0 < z 12 → 0 ≤ z 13 ∧ z 13 ≤ 9) (h13' : -1 ≤ z 13 ∧ z 13 ≤ 9) {t : Int} (h1 : -20000 ≤ t) (h2 : t ≤ 60000 * T + 20000) : ∃ u', fX3_learns u (zl t) = some u' ∧ zRm (zlr z t) (u'.1 0) ∧ zOth u u' := by
  have ha := m_aim h
  obtain ⟨-, -, -, -, -, -, -, -, -, bl⟩ := hb
  obtain ⟨⟨t1, t2⟩, -, ⟨x1, y1⟩, ⟨x2, y2⟩, ⟨x12, y12⟩, -⟩ := ht
  unfold fX3_learns
  rw [h 12 (by decide), h 13 (by decide), show (0 : Int64) = zl 0 from zl_lit 0, show (9 : Int64) = zl 9 from zl_lit 9, wg_le (by omega) (by omega) (by omega) (by omega), wg_eq (by omega) (by omega) (by omega) (by omega)]
  by_cases c : z 12 ≤ 0
  · rw [if_pos c]
    refine ⟨u, rfl, ?_, rfl, rfl, rfl⟩
    unfold zlr
    rw [if_neg (by omega)]
    exact h
  · rw [if_neg c]
    by_cases d : z 13 = 9
    · rw [if_pos d]
      refine ⟨u, rfl, ?_, rfl, rfl, rfl⟩
      unfold zlr
      rw [if_neg (by omega)]
      exact h
    · rw [if_neg d]
      have q := h13 (by omega)
      obtain ⟨d1, d2⟩ := ztd_bd (a := (z 1 + z 2 - t) * 16) (b := 2 * z 12) (by omega)
      have hle := bl (z 13).toNat (by omega)
      have hd : -9000000000000 ≤ ((z 1 + z 2 - t) * 16).tdiv (2 * z 12) ∧ ((z 1 + z 2 - t) * 16).tdiv (2 * z 12) ≤ 9000000000000 := by
        rcases Int.lt_or_le ((z 1 + z 2 - t) * 16) 0 with c | c
        · have := d2 c; omega
        · have := d1 c; omega
      simp only [zc_let]
      rw [zl_i, show (15 : Int32) = zi 15 from zi_lit 15, zi_add, zn_in (by omega) (by omega) (by omega), ha]
      simp only [Option.bind_some]
      rw [show (2 : Int64) = zl 2 from zl_lit 2, show (16 : Int64) = zl 16 from zl_lit 16, zl_sub, zl_mul, zl_mul, zn_nzL (by omega) (by omega) (by omega), zl_div (by omega) (by omega) (by omega) (by omega), zi_nat (by omega) (by omega), show (15 + z 13).toNat = 15 + (z 13).toNat by omega, h _ (by omega), zl_add, show (9999 : Int64) = zl 9999 from zl_lit 9999, zl_neg, n_lesser (by omega) (by omega) (by omega) (by omega)]
      simp only [Option.bind_some]
      rw [n_greater (by omega) (by omega) (by split <;> omega) (by split <;> omega)]
      simp only [Option.bind_some]
      rw [zn_in (by omega) (by omega) (by omega)]
      refine ⟨_, rfl, ?_, rfl, rfl, rfl⟩
      unfold zlr
      rw [if_pos ⟨by omega, d⟩]
      have e : zclamp (z (15 + (z 13).toNat) + ((z 1 + z 2 - t) * 16).tdiv (2 * z 12)) = (if -9999 ≤ (if z (15 + (z 13).toNat) + ((z 1 + z 2 - t) * 16).tdiv (2 * z 12) ≤ 9999 then z (15 + (z 13).toNat) + ((z 1 + z 2 - t) * 16).tdiv (2 * z 12) else 9999) then (if z (15 + (z 13).toNat) + ((z 1 + z 2 - t) * 16).tdiv (2 * z 12) ≤ 9999 then z (15 + (z 13).toNat) + ((z 1 + z 2 - t) * 16).tdiv (2 * z 12) else 9999) else -9999) := by
        unfold zclamp
        generalize z (15 + (z 13).toNat) + ((z 1 + z 2 - t) * 16).tdiv (2 * z 12) = X
        (repeat' split) <;> omega
      rw [e]
      exact m_set h _ _
theorem s_aimB (h : zRs z v) {L H : Int} (h1 : -1000000000000000 ≤ L) (h2 : L ≤ 1000000000000000) (h3 : -1000000000000000 ≤ H) (h4 : H ≤ 1000000000000000) : ∃ v', fX1_aimBetween v (zl L) (zl H) = some v' ∧ zRs (va_up (va_up z 3 (zW L H)) 2 ((L + H) / 32 - z 1)) v' := by
  simp only [fX1_aimBetween, zc_let]
  rw [zl_add, n_floorDiv32 (by omega) (by omega)]
  simp only [Option.bind_some]
  rw [show (16 : Int64) = zl 16 from zl_lit 16, zl_mul, zl_sub, zl_sub, wl_lt (by omega) (by omega) (by omega) (by omega), zl_ite, zl_i]
  have r := s_I9 h (zW L H)
  have e : (zc_sI v 9 (zi (zW L H))).1 1 = zl (z 1) := r.1.2.1
  rw [show (if (L + H) / 32 * 16 - L < H - (L + H) / 32 * 16 then H - (L + H) / 32 * 16 else (L + H) / 32 * 16 - L) = zW L H from rfl, e, zl_sub]
  exact ⟨_, rfl, s_L2 r _⟩
theorem zlohi_bd (ht : zBt T z) (hb : zBs z) {t c : Int} (h1 : -20000 ≤ t) (h2 : t ≤ 60000 * T + 20000) (h3 : 0 ≤ c) (h4 : c ≤ 5000) : (-4000000000000 ≤ zlo z t c ∧ zlo z t c ≤ 4000000000000) ∧ (-4000000000000 ≤ zhi z t c ∧ zhi z t c ≤ 4000000000000) ∧ ((t - c) * 16 ≤ zLo z t c ∧ zLo z t c ≤ zHi z t c ∧ zHi z t c ≤ (t + c) * 16) := by
  obtain ⟨b3, -⟩ := hb
  obtain ⟨⟨t1, t2⟩, -, ⟨x1, y1⟩, ⟨x2, y2⟩, -⟩ := ht
  have e1 : -4000000000000 ≤ zlo z t c ∧ zlo z t c ≤ 4000000000000 ∧ (t - c) * 16 ≤ zlo z t c := by unfold zlo; split <;> omega
  have e2 : -4000000000000 ≤ zhi z t c ∧ zhi z t c ≤ 4000000000000 ∧ zhi z t c ≤ (t + c) * 16 := by unfold zhi; split <;> omega
  refine ⟨⟨e1.1, e1.2.1⟩, ⟨e2.1, e2.2.1⟩, ?_⟩
  unfold zLo zHi
  split <;> omega
theorem s_end (h : zRs z v) : zRs (va_up (va_up z 13 (-1)) 12 0) (zc_sI v 13 0) := by
  refine s_tk h rfl (fun k c1 c2 c3 => ?_) rfl ?_ ⟨h.2.2.2.2.1, fun hh => ?_⟩
  · show upd v.2.1 13 _ k = _
    rw [pk_un c1]
  · show upd v.2.1 13 0 13 = _
    rw [pk_us]
    exact zi_lit 0
  · rw [va_up_self] at hh
    exact absurd hh (Int.lt_irrefl 0)
theorem zhr_ok {e c : Int} (cc : zlo z (z 0 + e) c ≤ zhi z (z 0 + e) c) (k : Nat) : zhr z e c k = va_up (va_up (va_up (va_up (zlr z (z 0 + e)) 3 (zW (zlo z (z 0 + e) c) (zhi z (z 0 + e) c))) 2 ((zlo z (z 0 + e) c + zhi z (z 0 + e) c) / 32 - zlr z (z 0 + e) 1)) 13 (-1)) 12 0 k := by
  have eL : zLo z (z 0 + e) c = zlo z (z 0 + e) c := by unfold zLo; rw [if_pos cc]
  have eH : zHi z (z 0 + e) c = zhi z (z 0 + e) c := by unfold zHi; rw [if_pos cc]
  have eb : zbk z (z 0 + e) c = 0 := by unfold zbk; rw [if_pos cc]
  unfold zhr
  rw [eL, eH, eb]
  by_cases k2 : k = 2
  · subst k2; rw [if_pos rfl, va_up_ne _ _ (by decide), va_up_ne _ _ (by decide), va_up_self, zlr_lo (by decide)]
  · rw [if_neg k2]
    by_cases k3 : k = 3
    · subst k3; rw [if_pos rfl, va_up_ne _ _ (by decide), va_up_ne _ _ (by decide), va_up_ne _ _ (by decide), va_up_self]
    · rw [if_neg k3]
      by_cases k12 : k = 12
      · subst k12; rw [if_pos rfl, va_up_self]
      · rw [if_neg k12, va_up_ne _ _ k12]
        by_cases k13 : k = 13
        · subst k13; rw [if_pos rfl, va_up_self]
        · rw [if_neg k13, va_up_ne _ _ k13, va_up_ne _ _ k2, va_up_ne _ _ k3]
          by_cases k14 : k = 14
          · subst k14; rw [if_pos rfl, zlr_lo (by decide), Int.add_zero]
          · rw [if_neg k14]
theorem zhr_br {e c : Int} (cc : ¬ zlo z (z 0 + e) c ≤ zhi z (z 0 + e) c) (k : Nat) : zhr z e c k = va_up (va_up (va_up (va_up (va_up (zlr z (z 0 + e)) 14 (z 14 + 1)) 3 (zW ((z 0 + e - c) * 16) ((z 0 + e + c) * 16))) 2 (((z 0 + e - c) * 16 + (z 0 + e + c) * 16) / 32 - va_up (zlr z (z 0 + e)) 14 (z 14 + 1) 1)) 13 (-1)) 12 0 k := by
  have eL : zLo z (z 0 + e) c = (z 0 + e - c) * 16 := by unfold zLo; rw [if_neg cc]
  have eH : zHi z (z 0 + e) c = (z 0 + e + c) * 16 := by unfold zHi; rw [if_neg cc]
  have eb : zbk z (z 0 + e) c = 1 := by unfold zbk; rw [if_neg cc]
  unfold zhr
  rw [eL, eH, eb]
  by_cases k2 : k = 2
  · subst k2; rw [if_pos rfl, va_up_ne _ _ (by decide), va_up_ne _ _ (by decide), va_up_self, va_up_ne _ _ (by decide), zlr_lo (by decide)]
  · rw [if_neg k2]
    by_cases k3 : k = 3
    · subst k3; rw [if_pos rfl, va_up_ne _ _ (by decide), va_up_ne _ _ (by decide), va_up_ne _ _ (by decide), va_up_self]
    · rw [if_neg k3]
      by_cases k12 : k = 12
      · subst k12; rw [if_pos rfl, va_up_self]
      · rw [if_neg k12, va_up_ne _ _ k12]
        by_cases k13 : k = 13
        · subst k13; rw [if_pos rfl, va_up_self]
        · rw [if_neg k13, va_up_ne _ _ k13, va_up_ne _ _ k2, va_up_ne _ _ k3]
          by_cases k14 : k = 14
          · subst k14; rw [if_pos rfl, va_up_self]
          · rw [if_neg k14, va_up_ne _ _ k14]
/-- what takeIn does behind its learning -/
theorem zh_x3 {t c : Int} (h3 : 0 ≤ c) (h4 : c ≤ 5000) : (zl t - (zi c).toInt64) * 16 = zl ((t - c) * 16) := by rw [zi_l (by omega) (by omega), show (16 : Int64) = zl 16 from zl_lit 16, zl_sub, zl_mul]
theorem zh_x4 {t c : Int} (h3 : 0 ≤ c) (h4 : c ≤ 5000) : (zl t + (zi c).toInt64) * 16 = zl ((t + c) * 16) := by rw [zi_l (by omega) (by omega), show (16 : Int64) = zl 16 from zl_lit 16, zl_add, zl_mul]
theorem zh_a6 {a w : Int} (h3 : 0 ≤ w) (h4 : w ≤ 999999999) : zl a * 16 - (zi w).toInt64 = zl (a * 16 - w) := by rw [zi_l (by omega) (by omega), show (16 : Int64) = zl 16 from zl_lit 16, zl_mul, zl_sub]
theorem zh_a8 {a w : Int} (h3 : 0 ≤ w) (h4 : w ≤ 999999999) : zl a * 16 + (zi w).toInt64 = zl (a * 16 + w) := by rw [zi_l (by omega) (by omega), show (16 : Int64) = zl 16 from zl_lit 16, zl_mul, zl_add]
theorem zh_lo {t c : Int} (hb3 : 0 ≤ z 3 ∧ z 3 ≤ 999999999) (q1 : -40000000000000 ≤ z 1 + z 2) (q2 : z 1 + z 2 ≤ 40000000000000) (q3 : -40000000000000 ≤ t) (q4 : t ≤ 40000000000000) (h3 : 0 ≤ c) (h4 : c ≤ 5000) : (if zl ((z 1 + z 2) * 16 - z 3) < zl ((t - c) * 16) then zl ((t - c) * 16) else zl ((z 1 + z 2) * 16 - z 3)) = zl (zlo z t c) := by
  rw [wl_lt (by omega) (by omega) (by omega) (by omega), zl_ite]
  rfl
theorem zh_hi {t c : Int} (hb3 : 0 ≤ z 3 ∧ z 3 ≤ 999999999) (q1 : -40000000000000 ≤ z 1 + z 2) (q2 : z 1 + z 2 ≤ 40000000000000) (q3 : -40000000000000 ≤ t) (q4 : t ≤ 40000000000000) (h3 : 0 ≤ c) (h4 : c ≤ 5000) : (if zl ((z 1 + z 2) * 16 + z 3) < zl ((t + c) * 16) then zl ((z 1 + z 2) * 16 + z 3) else zl ((t + c) * 16)) = zl (zhi z t c) := by
  rw [wl_lt (by omega) (by omega) (by omega) (by omega), zl_ite]
  rfl
theorem s_hear3 {v v2 : zc_S} {e c : Int32} {x1 x3 x4 a x6 x8 : Int64} (ev : v.1 0 + e.toInt64 = x1) (el : fX1_learnFrom v x1 = some v2) (g3 : (x1 - c.toInt64) * 16 = x3) (g4 : (x1 + c.toInt64) * 16 = x4) (a1 : fX1_aim v2 = some a) (g6 : (if (a * 16 - (v2.2.1 9).toInt64) < x3 then x3 else (a * 16 - (v2.2.1 9).toInt64)) = x6) (g8 : (if (a * 16 + (v2.2.1 9).toInt64) < x4 then (a * 16 + (v2.2.1 9).toInt64) else x4) = x8) : fX1_takeIn v e c = if lg_cmp x6 x8 ≤ 0 then (Option.bind (fX1_aimBetween v2 x6 x8) fun (r11 : zc_S) => some ((0 : Int32), zc_sI r11 13 (0 : Int32))) else (Option.bind (fX1_aimBetween (zc_sI v2 12 ((v2.2.1 12) + (1 : Int32))) x3 x4) fun (r15 : zc_S) => some ((1 : Int32), zc_sI r15 13 (0 : Int32))) := by
  subst ev
  subst g3
  subst g4
  subst g6
  subst g8
  unfold fX1_takeIn zc_let
  dsimp only
  rw [el, Option.bind_some, a1, Option.bind_some, Option.bind_some]
theorem s_hear2 {e c t : Int} {v2 : zc_S} (a1 : fX1_aim v2 = some (zl (z 1 + z 2))) (e9 : v2.2.1 9 = zi (z 3)) (hb3 : 0 ≤ z 3 ∧ z 3 ≤ 999999999) (q1 : -40000000000000 ≤ z 1 + z 2) (q2 : z 1 + z 2 ≤ 40000000000000) (q3 : -40000000000000 ≤ t) (q4 : t ≤ 40000000000000) (h3 : 0 ≤ c) (h4 : c ≤ 5000) (e1 : -2000000000000000 ≤ zlo z t c ∧ zlo z t c ≤ 2000000000000000) (e2 : -2000000000000000 ≤ zhi z t c ∧ zhi z t c ≤ 2000000000000000) (ev : v.1 0 + (zi e).toInt64 = zl t) (el : fX1_learnFrom v (zl t) = some v2) : fX1_takeIn v (zi e) (zi c) = if zlo z t c ≤ zhi z t c then (Option.bind (fX1_aimBetween v2 (zl (zlo z t c)) (zl (zhi z t c))) fun (r11 : zc_S) => some ((0 : Int32), zc_sI r11 13 (0 : Int32))) else (Option.bind (fX1_aimBetween (zc_sI v2 12 ((v2.2.1 12) + (1 : Int32))) (zl ((t - c) * 16)) (zl ((t + c) * 16))) fun (r15 : zc_S) => some ((1 : Int32), zc_sI r15 13 (0 : Int32))) := by
  have g6 : (if (zl (z 1 + z 2) * 16 - (v2.2.1 9).toInt64) < zl ((t - c) * 16) then zl ((t - c) * 16) else (zl (z 1 + z 2) * 16 - (v2.2.1 9).toInt64)) = zl (zlo z t c) := by rw [e9, zh_a6 hb3.1 hb3.2]; exact zh_lo hb3 q1 q2 q3 q4 h3 h4
  have g8 : (if (zl (z 1 + z 2) * 16 + (v2.2.1 9).toInt64) < zl ((t + c) * 16) then (zl (z 1 + z 2) * 16 + (v2.2.1 9).toInt64) else zl ((t + c) * 16)) = zl (zhi z t c) := by rw [e9, zh_a8 hb3.1 hb3.2]; exact zh_hi hb3 q1 q2 q3 q4 h3 h4
  rw [s_hear3 ev el (zh_x3 h3 h4) (zh_x4 h3 h4) a1 g6 g8, wg_le (by omega) (by omega) (by omega) (by omega)]
theorem s_hear (h : zRs z v) (hB : zB T z) {e c : Int} (h1 : -9999 ≤ e) (h2 : e ≤ 9999) (h3 : 0 ≤ c) (h4 : c ≤ 5000) : ∃ v', fX1_takeIn v (zi e) (zi c) = some (zi (zbk z (z 0 + e) c), v') ∧ zRs (zhr z e c) v' := by
  obtain ⟨ht, hb, hq⟩ := hB
  have ht' := ht
  obtain ⟨⟨t1, t2⟩, ⟨x0, y0⟩, ⟨x1, y1⟩, ⟨x2, y2⟩, ⟨x12, y12⟩, ⟨x14, y14⟩⟩ := ht'
  obtain ⟨⟨l1, l2⟩, ⟨l3, l4⟩, -⟩ := zlohi_bd ht hb (t := z 0 + e) (c := c) (by omega) (by omega) h3 h4
  obtain ⟨v2, e2, r2⟩ := s_learn h ht hb (t := z 0 + e) (by omega) (by omega)
  have ha := s_aim r2
  rw [zlr_lo (by decide), zlr_lo (by decide)] at ha
  have e9 : v2.2.1 9 = zi (z 3) := by rw [r2.2.1.1, zlr_lo (by decide)]
  have e12 : v2.2.1 12 = zi (z 14) := by rw [r2.2.1.2.2.2.2.2.2.2.2.2.2, zlr_lo (by decide)]
  have ev : v.1 0 + (zi e).toInt64 = zl (z 0 + e) := by rw [h.1.1, zi_l (by omega) (by omega), zl_add]
  rw [s_hear2 ha e9 hb.1 (by omega) (by omega) (by omega) (by omega) h3 h4 ⟨by omega, by omega⟩ ⟨by omega, by omega⟩ ev e2]
  by_cases cc : zlo z (z 0 + e) c ≤ zhi z (z 0 + e) c
  · obtain ⟨v3, e3, r3⟩ := s_aimB r2 (L := zlo z (z 0 + e) c) (H := zhi z (z 0 + e) c) (by omega) (by omega) (by omega) (by omega)
    rw [if_pos cc, e3]
    simp only [Option.bind_some]
    have eb : zi (zbk z (z 0 + e) c) = 0 := by unfold zbk; rw [if_pos cc]; exact (zi_lit 0).symm
    exact ⟨zc_sI v3 13 0, by rw [eb], zRs_congr (fun k _ => zhr_ok cc k) (s_end r3)⟩
  · have r14 := s_I12 r2 (z 14 + 1)
    obtain ⟨v3, e3, r3⟩ := s_aimB r14 (L := (z 0 + e - c) * 16) (H := (z 0 + e + c) * 16) (by omega) (by omega) (by omega) (by omega)
    have e14 : v2.2.1 12 + 1 = zi (z 14 + 1) := by rw [e12, show (1 : Int32) = zi 1 from zi_lit 1, zi_add]
    rw [if_neg cc, e14, e3]
    simp only [Option.bind_some]
    have eb : zi (zbk z (z 0 + e) c) = 1 := by unfold zbk; rw [if_neg cc]; exact (zi_lit 1).symm
    exact ⟨zc_sI v3 13 0, by rw [eb], zRs_congr (fun k _ => zhr_br cc k) (s_end r3)⟩
end ZHear
