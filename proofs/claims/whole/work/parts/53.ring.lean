/-! ringing, and rings counted -/
section ZRing
variable {z : Nat → Int} {q : zc_Q} {u : zc_M} {T : Int}
theorem q_setR (hq : zRq z q) {a : Nat} (ha : a < 6) (x : Int) : zRq (va_up z (28 + 4 * a) x) (zc_qa q 3 a (zi x)) := by
  refine ⟨?_, fun b hb => ?_⟩
  · rw [va_up_ne _ _ (by omega)]; exact hq.1
  · obtain ⟨h0, h1, h2, h3⟩ := hq.2 b hb
    refine ⟨?_, ?_, ?_, ?_⟩
    · rw [va_up_ne _ _ (by omega), ← h0]; rfl
    · rw [va_up_ne _ _ (by omega), ← h1]; rfl
    · rw [va_up_ne _ _ (by omega), ← h2]; rfl
    · show upd (q.2 3) a (zi x) b = _
      by_cases c : b = a
      · subst c
        rw [pk_us, va_up_self]
      · rw [pk_un c, va_up_ne _ _ (by omega)]; exact h3
theorem zrg_bq (hb : zBq z) (lo : Int) (tot A : Nat) : zBq (zrg z lo tot A) := by
  obtain ⟨h24, h⟩ := hb
  refine ⟨by rw [zrg_lo _ _ _ _ (by omega)]; exact h24, fun a ha => ?_⟩
  obtain ⟨c1, c2, c3, c4⟩ := h a ha
  refine ⟨by rw [zrg_f _ _ _ _ (by omega)]; exact c1, by rw [zrg_f _ _ _ _ (by omega)]; exact c2, by rw [zrg_f _ _ _ _ (by omega)]; exact c3, ?_⟩
  rw [zrg_r]
  have := zcnt_bd z a lo tot
  split
  · split <;> omega
  · exact c4
theorem zrg_cnt (lo : Int) (tot A a : Nat) : zcnt (zrg z lo tot A) a lo tot = zcnt z a lo tot := zcnt_congr (zrg_f _ _ _ _ (by omega)) (zrg_f _ _ _ _ (by omega)) (zrg_f _ _ _ _ (by omega)) lo tot
theorem va_up_id {α : Type} (f : Nat → α) (k : Nat) (x : α) (h : x = f k) : va_up f k x = f := by
  funext j
  by_cases c : j = k
  · subst c; rw [va_up_self, h]
  · rw [va_up_ne _ _ c]
theorem q_ringL (hb : zBq z) {lo hi : Int} (h0 : 0 ≤ lo) (h1 : lo ≤ 10000000000) (h2 : lo ≤ hi) (h3 : hi ≤ lo + 100000) {N : Nat} (hN : 100000 < N) : ∀ (r n a : Nat) (q : zc_Q), a + r = (z 24).toNat → r < n → zRq (zrg z lo (hi - lo).toNat a) q → ∃ q', fX0_ring_L N n q (zl lo) (zl hi) (zbit z lo (hi - lo).toNat a) (zi a) = some (zbit z lo (hi - lo).toNat (z 24).toNat, q') ∧ zRq (zrg z lo (hi - lo).toNat (z 24).toNat) q' := by
  intro r
  have h24 := hb.1
  induction r with
  | zero =>
    intro n a q ha hn hq
    obtain ⟨n, rfl⟩ : ∃ k, n = k + 1 := ⟨n - 1, by omega⟩
    obtain rfl : a = (z 24).toNat := by omega
    refine ⟨q, ?_, hq⟩
    rw [fX0_ring_L, hq.1, zrg_lo _ _ _ _ (by omega), wi_le (by omega) (by omega) (by omega) (by omega), if_pos (by omega)]
  | succ r ih =>
    intro n a q ha hn hq
    obtain ⟨n, rfl⟩ : ∃ k, n = k + 1 := ⟨n - 1, by omega⟩
    have hbq := zrg_bq hb lo (hi - lo).toNat a
    have hz24 : zrg z lo (hi - lo).toNat a 24 = z 24 := zrg_lo _ _ _ _ (by omega)
    have hc := q_count hq hbq (a := a) (by rw [hz24]; omega) h0 h1 h2 h3
    rw [zrg_cnt] at hc
    have hbd := zcnt_bd z a lo (hi - lo).toNat
    have h28 : zrg z lo (hi - lo).toNat a (28 + 4 * a) = z (28 + 4 * a) := by rw [zrg_r, if_neg (by omega)]
    have hr := (hb.2 a (by omega)).2.2.2
    rw [fX0_ring_L, hq.1, hz24, show (6 : Int32) = zi 6 from zi_lit 6, wi_le (by omega) (by omega) (by omega) (by omega), wi_le (by omega) (by omega) (by omega) (by omega), if_neg (by omega), if_neg (by omega), hc]
    simp only [Option.bind_some, zc_let]
    rw [show (0 : Int32) = zi 0 from zi_lit 0, wi_le (by omega) (by omega) (by omega) (by omega), show (1 : Int32) = zi 1 from zi_lit 1, zi_add]
    have hsucc := zrg_succ z lo (hi - lo).toNat a
    by_cases c : zcnt z a lo (hi - lo).toNat ≤ 0
    · rw [if_pos c]
      have e : zrg z lo (hi - lo).toNat (a + 1) = zrg z lo (hi - lo).toNat a := by
        rw [hsucc]
        refine va_up_id _ _ _ ?_
        rw [h28, if_neg (by omega)]
        omega
      have hbit : zbit z lo (hi - lo).toNat (a + 1) = zbit z lo (hi - lo).toNat a := by
        rw [zbit, if_neg (by omega)]
      have := ih n (a + 1) q (by omega) (by omega) (by rw [e]; exact hq)
      rw [hbit] at this
      exact this
    · rw [if_neg c, zn_in (by omega) (by omega) (by omega), zn_in (by omega) (by omega) (by omega), zi_nat (by omega) (by omega), Int.toNat_natCast, (hq.2 a (by omega)).2.2.2, h28, show (99999 : Int32) = zi 99999 from zi_lit 99999, zi_add, wi_lt (by omega) (by omega) (by omega) (by omega)]
      have e : (if 99999 < z (28 + 4 * a) + zcnt z a lo (hi - lo).toNat then zi 99999 else zi (z (28 + 4 * a) + zcnt z a lo (hi - lo).toNat)) = zi (if 99999 < z (28 + 4 * a) + zcnt z a lo (hi - lo).toNat then 99999 else z (28 + 4 * a) + zcnt z a lo (hi - lo).toNat) := by split <;> rfl
      rw [e]
      have hbit : zbit z lo (hi - lo).toNat (a + 1) = (zbit z lo (hi - lo).toNat a ||| (zi 1 <<< (zi a &&& 31))) := by
        rw [zbit, if_pos (by omega), ← zi_lit]
      have := ih n (a + 1) _ (by omega) (by omega) (by rw [hsucc]; exact q_setR hq (a := a) (by omega) _)
      rw [hbit] at this
      exact this
theorem q_ring (hq : zRq z q) (hb : zBq z) {lo hi : Int} (h0 : 0 ≤ lo) (h1 : lo ≤ 10000000000) (h2 : lo ≤ hi) (h3 : hi ≤ lo + 100000) {N : Nat} (hN : 100000 < N) : ∃ q', fX0_ring N q (zl lo) (zl hi) = some (zbit z lo (hi - lo).toNat (z 24).toNat, q') ∧ zRq (zrg z lo (hi - lo).toNat (z 24).toNat) q' := by
  have h24 := hb.1
  have := q_ringL hb h0 h1 h2 h3 hN (z 24).toNat N 0 q (by omega) (by omega) (by rw [zrg_0]; exact hq)
  unfold fX0_ring
  rw [show (0 : Int32) = zi 0 from zi_lit 0]
  have e : zbit z lo (hi - lo).toNat 0 = zi 0 := by rw [zbit, ← zi_lit]
  rw [e] at this
  exact this
/-! rings of all together -/
def zall (z : Nat → Int) : Nat → Int
  | 0 => 0
  | a + 1 => zall z a + z (28 + 4 * a)
theorem zall_bd (hb : zBq z) : ∀ a : Nat, a ≤ 6 → 0 ≤ zall z a ∧ zall z a ≤ 99999 * a := by
  intro a
  induction a with
  | zero => intro _; exact ⟨Int.le_refl 0, Int.le_refl 0⟩
  | succ a ih =>
    intro h
    have h1 := ih (by omega)
    have h2 := (hb.2 a (by omega)).2.2.2
    unfold zall
    omega
theorem q_totalL (hq : zRq z q) (hb : zBq z) (N : Nat) : ∀ (r n a : Nat), a + r = (z 24).toNat → r < n → fX0_totalRings_L N n q (zi (zall z a)) (zi a) = some (zi (zall z (z 24).toNat)) := by
  intro r
  have h24 := hb.1
  induction r with
  | zero =>
    intro n a ha hn
    obtain ⟨n, rfl⟩ : ∃ k, n = k + 1 := ⟨n - 1, by omega⟩
    obtain rfl : a = (z 24).toNat := by omega
    rw [fX0_totalRings_L, hq.1, wi_le (by omega) (by omega) (by omega) (by omega), if_pos (by omega)]
  | succ r ih =>
    intro n a ha hn
    obtain ⟨n, rfl⟩ : ∃ k, n = k + 1 := ⟨n - 1, by omega⟩
    have := ih n (a + 1) (by omega) (by omega)
    rw [fX0_totalRings_L, hq.1, show (6 : Int32) = zi 6 from zi_lit 6, wi_le (by omega) (by omega) (by omega) (by omega), wi_le (by omega) (by omega) (by omega) (by omega), if_neg (by omega), if_neg (by omega), zn_in (by omega) (by omega) (by omega), zi_nat (by omega) (by omega), Int.toNat_natCast, (hq.2 a (by omega)).2.2.2]
    simp only [zc_let]
    rw [show (1 : Int32) = zi 1 from zi_lit 1, zi_add, zi_add]
    exact this
theorem q_total (hq : zRq z q) (hb : zBq z) {N : Nat} (hN : 100000 < N) : fX0_totalRings N q = some (zi (zall z (z 24).toNat)) := by
  have h24 := hb.1
  have := q_totalL hq hb N (z 24).toNat N 0 (by omega) (by omega)
  unfold fX0_totalRings
  rw [show (0 : Int32) = zi 0 from zi_lit 0]
  exact this
theorem m_ringsAt (h : zRm z (u.1 0)) {a : Nat} (ha : a < 6) : fX3_ringsAt u (zi a) = some (zl (z (28 + 4 * a))) := by
  unfold fX3_ringsAt
  simp only [zi_lit, zi_mul, zi_add]
  rw [zn_in (by omega) (by omega) (by omega), zi_nat (by omega) (by omega), show (25 + 4 * (a : Int) + 3).toNat = 28 + 4 * a by omega, h _ (by omega)]
theorem m_allL (h : zRm z (u.1 0)) (hb : zBq z) (N : Nat) : ∀ (r n a : Nat), a + r = (z 24).toNat → r < n → fX3_allRings_L N n u (zl (zall z a)) (zi a) = some (zl (zall z (z 24).toNat)) := by
  intro r
  have h24 := hb.1
  induction r with
  | zero =>
    intro n a ha hn
    obtain ⟨n, rfl⟩ : ∃ k, n = k + 1 := ⟨n - 1, by omega⟩
    obtain rfl : a = (z 24).toNat := by omega
    rw [fX3_allRings_L, h 24 (by decide), zi_l (by omega) (by omega), wg_ge (by omega) (by omega) (by omega) (by omega), if_pos (by omega)]
  | succ r ih =>
    intro n a ha hn
    obtain ⟨n, rfl⟩ : ∃ k, n = k + 1 := ⟨n - 1, by omega⟩
    have := ih n (a + 1) (by omega) (by omega)
    rw [fX3_allRings_L, h 24 (by decide), zi_l (by omega) (by omega), wg_ge (by omega) (by omega) (by omega) (by omega), if_neg (by omega), m_ringsAt h (by omega)]
    simp only [Option.bind_some, zc_let]
    rw [show (1 : Int32) = zi 1 from zi_lit 1, zi_add, zl_add]
    exact this
theorem m_all (h : zRm z (u.1 0)) (hb : zBq z) {N : Nat} (hN : 100000 < N) : fX3_allRings N u = some (zl (zall z (z 24).toNat)) := by
  have h24 := hb.1
  have := m_allL h hb N (z 24).toNat N 0 (by omega) (by omega)
  unfold fX3_allRings
  rw [show (0 : Int32) = zi 0 from zi_lit 0, show (0 : Int64) = zl 0 from zl_lit 0]
  exact this
theorem m_between (h : zRm z (u.1 0)) (ht : zBt T z) (hb : zBq z) {a : Nat} (ha : a < 6) {b : Int} (h1 : z 1 / 60000 ≤ b / 60000) (h2 : b / 60000 ≤ z 1 / 60000 + 100000) (h3 : 0 ≤ b) (h4 : b ≤ 1000000000000000) {N : Nat} (hN : 100000 < N) : fX3_between N u (zi a) (zl b) = some (zl (zcnt z a (z 1 / 60000) (b / 60000 - z 1 / 60000).toNat)) := by
  have hm := m_minute h ht
  obtain ⟨⟨t1, t2⟩, -, ⟨c1, c2⟩, -⟩ := ht
  unfold fX3_between
  rw [hm]
  simp only [Option.bind_some, zc_let]
  have := m_betweenL h hb ha (lo := z 1 / 60000) (by omega) (by omega) (tot := (b / 60000 - z 1 / 60000).toNat) (by omega) h3 h4 (by omega) N (b / 60000 - z 1 / 60000).toNat N 0 (by omega) (by omega)
  rw [show (1 : Int64) = zl 1 from zl_lit 1, zl_add, show (0 : Int64) = zl 0 from zl_lit 0]
  simpa [zcnt] using this
/-! rings to come -/
def zcom (z : Nat → Int) (lo : Int) (tot : Nat) : Nat → Int
  | 0 => 0
  | a + 1 => zcom z lo tot a + (if 99999 - z (28 + 4 * a) < zcnt z a lo tot then 99999 - z (28 + 4 * a) else zcnt z a lo tot)
theorem zcom_bd (hb : zBq z) (lo : Int) (tot : Nat) : ∀ a : Nat, a ≤ 6 → 0 ≤ zcom z lo tot a ∧ zcom z lo tot a ≤ 99999 * a := by
  intro a
  induction a with
  | zero => intro _; exact ⟨Int.le_refl 0, Int.le_refl 0⟩
  | succ a ih =>
    intro h
    have h1 := ih (by omega)
    have h2 := (hb.2 a (by omega)).2.2.2
    have h3 := zcnt_bd z a lo tot
    unfold zcom
    split <;> omega
theorem q_comL (hq : zRq z q) (hb : zBq z) {lo hi : Int} (h0 : 0 ≤ lo) (h1 : lo ≤ 10000000000) (h2 : lo ≤ hi) (h3 : hi ≤ lo + 100000) {N : Nat} (hN : 100000 < N) : ∀ (r n a : Nat), a + r = (z 24).toNat → r < n → fX0_ringsToCome_L N n q (zl lo) (zl hi) (zi (zcom z lo (hi - lo).toNat a)) (zi a) = some (zi (zcom z lo (hi - lo).toNat (z 24).toNat)) := by
  intro r
  have h24 := hb.1
  induction r with
  | zero =>
    intro n a ha hn
    obtain ⟨n, rfl⟩ : ∃ k, n = k + 1 := ⟨n - 1, by omega⟩
    obtain rfl : a = (z 24).toNat := by omega
    rw [fX0_ringsToCome_L, hq.1, wi_le (by omega) (by omega) (by omega) (by omega), if_pos (by omega)]
  | succ r ih =>
    intro n a ha hn
    obtain ⟨n, rfl⟩ : ∃ k, n = k + 1 := ⟨n - 1, by omega⟩
    have ih' := ih n (a + 1) (by omega) (by omega)
    have hr := (hb.2 a (by omega)).2.2.2
    have hbd := zcnt_bd z a lo (hi - lo).toNat
    rw [fX0_ringsToCome_L, hq.1, show (6 : Int32) = zi 6 from zi_lit 6, wi_le (by omega) (by omega) (by omega) (by omega), wi_le (by omega) (by omega) (by omega) (by omega), if_neg (by omega), if_neg (by omega), q_count hq hb (a := a) (by omega) h0 h1 h2 h3]
    simp only [Option.bind_some, zc_let]
    rw [zn_in (by omega) (by omega) (by omega), zi_nat (by omega) (by omega), Int.toNat_natCast, (hq.2 a (by omega)).2.2.2, show (99999 : Int32) = zi 99999 from zi_lit 99999, zi_sub, wi_lt (by omega) (by omega) (by omega) (by omega), show (1 : Int32) = zi 1 from zi_lit 1, zi_add]
    have e : (if 99999 - z (28 + 4 * a) < zcnt z a lo (hi - lo).toNat then zi (99999 - z (28 + 4 * a)) else zi (zcnt z a lo (hi - lo).toNat)) = zi (if 99999 - z (28 + 4 * a) < zcnt z a lo (hi - lo).toNat then 99999 - z (28 + 4 * a) else zcnt z a lo (hi - lo).toNat) := by split <;> rfl
    rw [e, zi_add]
    exact ih'
theorem q_com (hq : zRq z q) (hb : zBq z) {lo hi : Int} (h0 : 0 ≤ lo) (h1 : lo ≤ 10000000000) (h2 : lo ≤ hi) (h3 : hi ≤ lo + 100000) {N : Nat} (hN : 100000 < N) : fX0_ringsToCome N q (zl lo) (zl hi) = some (zi (zcom z lo (hi - lo).toNat (z 24).toNat)) := by
  have h24 := hb.1
  have := q_comL hq hb h0 h1 h2 h3 hN (z 24).toNat N 0 (by omega) (by omega)
  unfold fX0_ringsToCome
  rw [show (0 : Int32) = zi 0 from zi_lit 0]
  exact this
theorem m_comL (h : zRm z (u.1 0)) (ht : zBt T z) (hb : zBq z) {b : Int} (h1 : z 1 / 60000 ≤ b / 60000) (h2 : b / 60000 ≤ z 1 / 60000 + 100000) (h3 : 0 ≤ b) (h4 : b ≤ 1000000000000000) {N : Nat} (hN : 100000 < N) (y : Int32) : ∀ (r n a : Nat), a + r = (z 24).toNat → r < n → fX3_rings_L N n u y (zl b) (zl (zcom z (z 1 / 60000) (b / 60000 - z 1 / 60000).toNat a)) (zi a) = some (zi (zcom z (z 1 / 60000) (b / 60000 - z 1 / 60000).toNat (z 24).toNat)) := by
  intro r
  have h24 := hb.1
  induction r with
  | zero =>
    intro n a ha hn
    obtain ⟨n, rfl⟩ : ∃ k, n = k + 1 := ⟨n - 1, by omega⟩
    obtain rfl : a = (z 24).toNat := by omega
    rw [fX3_rings_L, h 24 (by decide), zi_l (by omega) (by omega), wg_ge (by omega) (by omega) (by omega) (by omega), if_pos (by omega), zl_i]
  | succ r ih =>
    intro n a ha hn
    obtain ⟨n, rfl⟩ : ∃ k, n = k + 1 := ⟨n - 1, by omega⟩
    have ih' := ih n (a + 1) (by omega) (by omega)
    have hr := (hb.2 a (by omega)).2.2.2
    have hbd := zcnt_bd z a (z 1 / 60000) (b / 60000 - z 1 / 60000).toNat
    rw [fX3_rings_L, h 24 (by decide), zi_l (by omega) (by omega), wg_ge (by omega) (by omega) (by omega) (by omega), if_neg (by omega), m_ringsAt h (by omega), m_between h ht hb (by omega) h1 h2 h3 h4 hN]
    simp only [Option.bind_some, zc_let]
    rw [show (99999 : Int64) = zl 99999 from zl_lit 99999, zl_sub, n_lesser (by omega) (by omega) (by omega) (by omega), show (1 : Int32) = zi 1 from zi_lit 1, zi_add]
    simp only [Option.bind_some]
    rw [zl_add]
    have e : (if zcnt z a (z 1 / 60000) (b / 60000 - z 1 / 60000).toNat ≤ 99999 - z (28 + 4 * a) then zcnt z a (z 1 / 60000) (b / 60000 - z 1 / 60000).toNat else 99999 - z (28 + 4 * a)) = (if 99999 - z (28 + 4 * a) < zcnt z a (z 1 / 60000) (b / 60000 - z 1 / 60000).toNat then 99999 - z (28 + 4 * a) else zcnt z a (z 1 / 60000) (b / 60000 - z 1 / 60000).toNat) := by split <;> split <;> omega
    rw [e]
    exact ih'
end ZRing
