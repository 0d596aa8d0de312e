/-! the next minute that fits -/
section ZNext
variable {z : Nat → Int} {q : zc_Q} {u : zc_M} {T : Int} {a : Nat}
theorem nx_ex (hb : zBq z) (ha : a < 6) (lo : Int) : ∃ k0 : Nat, k0 < 10080 ∧ zft z a (lo + 1 + k0) = true ∧ ∀ j : Nat, j < k0 → zft z a (lo + 1 + j) = false := by
  obtain ⟨⟨c1, c2⟩, ⟨c3, c4⟩, ⟨c5, c6⟩, -⟩ := hb.2 a ha
  have key : ∃ k : Nat, k < 10080 ∧ zft z a (lo + 1 + k) = true := by
    obtain ⟨mm, m1, m2, m3⟩ : ∃ mm : Int, 0 ≤ mm ∧ mm ≤ 59 ∧ (z (25 + 4 * a) = -1 ∨ z (25 + 4 * a) = mm) := by
      by_cases c : z (25 + 4 * a) = -1
      · exact ⟨0, by omega, by omega, Or.inl c⟩
      · exact ⟨z (25 + 4 * a), by omega, by omega, Or.inr rfl⟩
    obtain ⟨hh, g1, g2, g3⟩ : ∃ hh : Int, 0 ≤ hh ∧ hh ≤ 23 ∧ (z (26 + 4 * a) = -1 ∨ z (26 + 4 * a) = hh) := by
      by_cases c : z (26 + 4 * a) = -1
      · exact ⟨0, by omega, by omega, Or.inl c⟩
      · exact ⟨z (26 + 4 * a), by omega, by omega, Or.inr rfl⟩
    obtain ⟨dd, d1, d2, d3⟩ : ∃ dd : Int, 0 ≤ dd ∧ dd ≤ 6 ∧ (z (27 + 4 * a) = -1 ∨ z (27 + 4 * a) = dd) := by
      by_cases c : z (27 + 4 * a) = -1
      · exact ⟨0, by omega, by omega, Or.inl c⟩
      · exact ⟨z (27 + 4 * a), by omega, by omega, Or.inr rfl⟩
    refine ⟨((dd * 1440 + hh * 60 + mm - (lo + 1)) % 10080).toNat, by omega, ?_⟩
    obtain ⟨M, hM⟩ : ∃ M, M = lo + 1 + ((((dd * 1440 + hh * 60 + mm - (lo + 1)) % 10080).toNat : Nat) : Int) := ⟨_, rfl⟩
    rw [← hM]
    obtain ⟨qq, hqq⟩ : ∃ qq : Int, M = 10080 * qq + (dd * 1440 + hh * 60 + mm) := ⟨(M - (dd * 1440 + hh * 60 + mm)) / 10080, by omega⟩
    have e1 : M % 60 = mm := by omega
    have e2 : M / 60 % 24 = hh := by omega
    have e3 : M / 1440 % 7 = dd := by omega
    unfold zft zfm zfh zfd
    rw [e1, e2, e3]
    simp only [Bool.and_eq_true, Bool.or_eq_true, decide_eq_true_eq]
    exact ⟨m3, g3, d3⟩
  obtain ⟨k0, hk0, hmin⟩ := pk_least (fun k => k < 10080 ∧ zft z a (lo + 1 + k) = true) key
  refine ⟨k0, hk0.1, hk0.2, fun j hj => ?_⟩
  have := hmin j hj
  cases h : zft z a (lo + 1 + j) with
  | false => rfl
  | true => exact absurd ⟨by omega, h⟩ this
theorem m_nextL (h : zRm z (u.1 0)) (hb : zBq z) (ha : a < 6) {lo : Int} (h0 : 0 ≤ lo) (h1 : lo ≤ 10000000000) {k0 : Nat} (hk : k0 < 10080) (hf : zft z a (lo + 1 + k0) = true) (hn : ∀ j : Nat, j < k0 → zft z a (lo + 1 + j) = false) (N : Nat) : ∀ (r n j : Nat), j + r = k0 → r < n → fX3_next_L N n u (zi a) (zl (lo + 1 + j)) (zi j) = some (zl (lo + 1 + k0)) := by
  intro r
  induction r with
  | zero =>
    intro n j hj hn'
    obtain ⟨n, rfl⟩ : ∃ k, n = k + 1 := ⟨n - 1, by omega⟩
    obtain rfl : j = k0 := by omega
    rw [fX3_next_L, show (10080 : Int32) = zi 10080 from zi_lit 10080, wi_le (by omega) (by omega) (by omega) (by omega), if_neg (by omega), m_fits h hb ha (by omega) (by omega), hf, if_pos rfl, Option.bind_some, if_neg (by decide)]
  | succ r ih =>
    intro n j hj hn'
    obtain ⟨n, rfl⟩ : ∃ k, n = k + 1 := ⟨n - 1, by omega⟩
    have ih' := ih n (j + 1) (by omega) (by omega)
    have e1 : zl (lo + 1 + (j : Int)) + 1 = zl (lo + 1 + ((j + 1 : Nat) : Int)) := by rw [show (1 : Int64) = zl 1 from zl_lit 1, zl_add]; congr 1; try omega
    have e2 : zi (j : Int) + 1 = zi ((j + 1 : Nat) : Int) := by rw [show (1 : Int32) = zi 1 from zi_lit 1, zi_add]; congr 1; try omega
    rw [fX3_next_L, show (10080 : Int32) = zi 10080 from zi_lit 10080, wi_le (by omega) (by omega) (by omega) (by omega), if_neg (by omega), m_fits h hb ha (by omega) (by omega), hn j (by omega), if_neg (by decide), Option.bind_some, if_pos rfl]
    simp only [zc_let]
    rw [e1, e2]
    exact ih'
def zph (M m : Int) : Int := (M / 60 - m / 60) + (if M / 60 - m / 60 = 0 then M - m else 59 + (if m % 60 = 0 then 0 else 60 - m % 60))
theorem zph_jump {M m m' : Int} (h1 : m' ≤ M) (h2 : m' % 60 = 0) (h3 : m / 60 + 1 ≤ m' / 60) : zph M m' + 1 ≤ zph M m := by
  unfold zph
  (repeat' split) <;> omega
theorem zph_step {M m : Int} (h1 : m + 1 ≤ M) (h2 : M / 60 - m / 60 = 0 ∨ 1 ≤ m % 60) : zph M (m + 1) + 1 ≤ zph M m := by
  unfold zph
  (repeat' split) <;> omega
theorem zph_bd {M m : Int} (h1 : m ≤ M) (h2 : M ≤ m + 10080) : 0 ≤ zph M m ∧ zph M m ≤ 300 := by
  unfold zph
  (repeat' split) <;> omega
theorem zph_nn {M m : Int} (h1 : m ≤ M) : 0 ≤ zph M m := by
  unfold zph
  (repeat' split) <;> omega
theorem q_nextL (hq : zRq z q) (hb : zBq z) (ha : (a : Int) < z 24) {lo : Int} (h0 : 0 ≤ lo) (h1 : lo ≤ 10000000000) {k0 : Nat} (hk : k0 < 10080) (hf : zft z a (lo + 1 + k0) = true) (hn : ∀ j : Nat, j < k0 → zft z a (lo + 1 + j) = false) (N : Nat) (y : Int64) : ∀ (p n i : Nat) (m : Int), zph (lo + 1 + k0) m ≤ p → p < n → i + p < 1000 → lo + 1 ≤ m → m ≤ lo + 1 + k0 → fX0_nextFit_L N n q (zi a) y (zl m) (zi i) = some (zl (lo + 1 + k0)) := by
  have h24 := hb.1
  have ha6 : a < 6 := by omega
  obtain ⟨M, hM⟩ : ∃ M, M = lo + 1 + (k0 : Int) := ⟨_, rfl⟩
  have hleast : ∀ m : Int, lo + 1 ≤ m → m < M → zft z a m = false := fun m g1 g2 => by
    have := hn (m - (lo + 1)).toNat (by omega)
    rw [show lo + 1 + (((m - (lo + 1)).toNat : Nat) : Int) = m by omega] at this
    exact this
  rw [← hM] at hf ⊢
  have hfM : zfm z a M = true ∧ zfh z a M = true ∧ zfd z a M = true := by
    unfold zft at hf
    simp only [Bool.and_eq_true] at hf
    exact hf
  obtain ⟨⟨c1, c2⟩, -, -, -⟩ := hb.2 a ha6
  intro p
  induction p with
  | zero =>
    intro n i m hp hn' hi g1 g2
    obtain ⟨n, rfl⟩ : ∃ k, n = k + 1 := ⟨n - 1, by omega⟩
    have hm : m = M := by
      have : zph M m ≤ 0 := hp
      unfold zph at this
      split at this
      · omega
      · split at this <;> omega
    subst hm
    rw [fX0_nextFit_L, show (1000 : Int32) = zi 1000 from zi_lit 1000, wi_le (by omega) (by omega) (by omega) (by omega), if_neg (by omega), q_day hq hb ha (by omega) (by omega), q_hour hq hb ha (by omega) (by omega), q_minute hq hb ha (by omega) (by omega), hfM.1, hfM.2.1, hfM.2.2, if_neg (by decide), if_neg (by decide), if_neg (by decide)]
  | succ p ih =>
    intro n i m hp hn' hi g1 g2
    obtain ⟨n, rfl⟩ : ∃ k, n = k + 1 := ⟨n - 1, by omega⟩
    have e2 : zi (i : Int) + 1 = zi ((i + 1 : Nat) : Int) := by rw [show (1 : Int32) = zi 1 from zi_lit 1, zi_add]; congr 1; try omega
    have hph : zph M m ≤ p + 1 := by omega
    rw [fX0_nextFit_L, show (1000 : Int32) = zi 1000 from zi_lit 1000, wi_le (by omega) (by omega) (by omega) (by omega), if_neg (by omega), q_day hq hb ha (by omega) (by omega), q_hour hq hb ha (by omega) (by omega), q_minute hq hb ha (by omega) (by omega)]
    simp only [zc_let]
    rw [e2]
    cases hd : zfd z a m with
    | false =>
      rw [if_pos (by decide), show (1440 : Int64) = zl 1440 from zl_lit 1440, show (1 : Int64) = zl 1 from zl_lit 1, zl_divp (by omega) (by omega) (by omega) (by omega), zl_add, zl_mul]
      have hne : M / 1440 ≠ m / 1440 := fun e => by
        have : zfd z a M = zfd z a m := by unfold zfd; rw [e]
        rw [hfM.2.2, hd] at this
        cases this
      have hle : (m / 1440 + 1) * 1440 ≤ M := by omega
      have := zph_jump (M := M) (m := m) (m' := (m / 1440 + 1) * 1440) hle (by omega) (by omega)
      exact ih n (i + 1) _ (by omega) (by omega) (by omega) (by omega) hle
    | true =>
      rw [if_neg (by decide)]
      cases hh : zfh z a m with
      | false =>
        rw [if_pos (by decide), show (60 : Int64) = zl 60 from zl_lit 60, show (1 : Int64) = zl 1 from zl_lit 1, zl_divp (by omega) (by omega) (by omega) (by omega), zl_add, zl_mul]
        have hne : M / 60 ≠ m / 60 := fun e => by
          have : zfh z a M = zfh z a m := by unfold zfh; rw [e]
          rw [hfM.2.1, hh] at this
          cases this
        have hle : (m / 60 + 1) * 60 ≤ M := by omega
        have := zph_jump (M := M) (m := m) (m' := (m / 60 + 1) * 60) hle (by omega) (by omega)
        exact ih n (i + 1) _ (by omega) (by omega) (by omega) (by omega) hle
      | true =>
        rw [if_neg (by decide)]
        cases hm : zfm z a m with
        | false =>
          rw [if_pos (by decide), show (1 : Int64) = zl 1 from zl_lit 1, zl_add]
          have hne : m ≠ M := fun e => by
            rw [e, hfM.1] at hm
            cases hm
          have hmi : z (25 + 4 * a) ≠ -1 ∧ z (25 + 4 * a) ≠ m % 60 := by
            unfold zfm at hm
            simp only [Bool.or_eq_false_iff, decide_eq_false_iff_not] at hm
            exact hm
          have hcase : M / 60 - m / 60 = 0 ∨ 1 ≤ m % 60 := by
            by_cases c : M / 60 - m / 60 = 0
            · exact Or.inl c
            · refine Or.inr ?_
              by_cases c0 : 1 ≤ m % 60
              · exact c0
              · have m0 : m % 60 = 0 := by omega
                have hlt : m + z (25 + 4 * a) < M := by omega
                have hx := hleast (m + z (25 + 4 * a)) (by omega) hlt
                have y1 : zfm z a (m + z (25 + 4 * a)) = true := by
                  unfold zfm
                  simp only [Bool.or_eq_true, decide_eq_true_eq]
                  exact Or.inr (by omega)
                have y2 : zfh z a (m + z (25 + 4 * a)) = zfh z a m := by unfold zfh; rw [show (m + z (25 + 4 * a)) / 60 = m / 60 by omega]
                have y3 : zfd z a (m + z (25 + 4 * a)) = zfd z a m := by unfold zfd; rw [show (m + z (25 + 4 * a)) / 1440 = m / 1440 by omega]
                unfold zft at hx
                rw [y1, y2, y3, hh, hd] at hx
                cases hx
          have := zph_step (M := M) (m := m) (by omega) hcase
          exact ih n (i + 1) _ (by omega) (by omega) (by omega) (by omega) (by omega)
        | true =>
          rw [if_neg (by decide)]
          have hft : zft z a m = true := by unfold zft; rw [hm, hh, hd]; rfl
          by_cases c : m < M
          · have := hleast m g1 c
            rw [hft] at this
            cases this
          · rw [show m = M by omega]
/-- both find the same one -/
theorem x_next (hq : zRq z q) (h : zRm z (u.1 0)) (ht : zBt T z) (hb : zBq z) (ha : (a : Int) < z 24) {N : Nat} (hN : 100000 < N) : ∃ r : Int, fX0_nextFit N q (zi a) (zl (z 1 / 60000)) = some (zl r) ∧ fX3_next N u (zi a) = some (zl r) := by
  have h24 := hb.1
  have hm := m_minute h ht
  obtain ⟨⟨t1, t2⟩, -, ⟨x1, y1⟩, -⟩ := ht
  obtain ⟨k0, hk, hf, hn⟩ := nx_ex hb (a := a) (by omega) (z 1 / 60000)
  refine ⟨z 1 / 60000 + 1 + k0, ?_, ?_⟩
  · unfold fX0_nextFit zc_let
    rw [q_has hq hb ha, Option.bind_some, if_neg (by decide), show (1 : Int64) = zl 1 from zl_lit 1, zl_add, show (0 : Int32) = zi 0 from zi_lit 0]
    have hp := zph_bd (M := z 1 / 60000 + 1 + k0) (m := z 1 / 60000 + 1) (by omega) (by omega)
    exact q_nextL hq hb ha (by omega) (by omega) hk hf hn N _ 300 N 0 _ (by omega) (by omega) (by omega) (by omega) (by omega)
  · unfold fX3_next zc_let
    rw [hm, Option.bind_some, show (1 : Int64) = zl 1 from zl_lit 1, zl_add, show (0 : Int32) = zi 0 from zi_lit 0]
    have := m_nextL h hb (a := a) (by omega) (by omega) (by omega) hk hf hn N k0 N 0 (by omega) (by omega)
    rw [show z 1 / 60000 + 1 + ((0 : Nat) : Int) = z 1 / 60000 + 1 by omega] at this
    exact this
end ZNext
