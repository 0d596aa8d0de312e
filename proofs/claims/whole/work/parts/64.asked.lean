/-! what is asked, both sides at once -/
theorem x_ite {α : Type} {c : Prop} {d d' : Decidable c} {A B A' B' : Option α} (h1 : c → ∃ r, A = some r ∧ A' = some r) (h2 : ¬ c → ∃ r, B = some r ∧ B' = some r) : ∃ r, @ite _ c d A B = some r ∧ @ite _ c d' A' B' = some r := by
  by_cases h : c
  · rw [if_pos h, if_pos h]; exact h1 h
  · rw [if_neg h, if_neg h]; exact h2 h
section ZAsk
variable {T : Int} {b : zc_B} {u : zc_M} {N : Nat} {z : Nat → Int} {v : zc_S}
theorem x_hold (rs : zRs z v) (rm : zRm z (u.1 0)) (hB : zB T z) : ∃ r : Int32, (r = 0 ∨ r = 1) ∧ fX1_isWithinBounds v = some r ∧ fX3_holds u = some r := by
  obtain ⟨⟨⟨t1, t2⟩, ⟨x0, y0⟩, ⟨x1, y1⟩, ⟨x2, y2⟩, -⟩, ⟨b3, -⟩, -⟩ := hB
  unfold fX1_isWithinBounds fX3_holds
  rw [s_aim rs, m_aim rm, Option.bind_some, Option.bind_some, rs.1.1, rs.2.1.1, rm 0 (by decide), rm 3 (by decide), zi_l (by omega) (by omega), zl_sub, zl_neg, show (0 : Int64) = zl 0 from zl_lit 0, wl_lt (by omega) (by omega) (by omega) (by omega), zl_ite, show (16 : Int64) = zl 16 from zl_lit 16, zl_mul, n_size (by omega) (by omega), Option.bind_some, zl_mul, wg_gt (by split <;> omega) (by split <;> omega) (by omega) (by omega), wg_gt (by split <;> omega) (by split <;> omega) (by omega) (by omega)]
  by_cases c : z 3 < (if 0 < z 0 - (z 1 + z 2) then z 0 - (z 1 + z 2) else -(z 0 - (z 1 + z 2))) * 16
  · exact ⟨0, Or.inl rfl, by rw [if_pos c], by rw [if_pos]; revert c; (repeat' split) <;> omega⟩
  · exact ⟨1, Or.inr rfl, by rw [if_neg c], by rw [if_neg]; revert c; (repeat' split) <;> omega⟩
theorem x_done (rs : zRs z v) (rm : zRm z (u.1 0)) (hB : zB T z) : ∃ r : Int32, fX1_ticksUntilDone v = some r ∧ fX3_untilDone u = some r := by
  obtain ⟨⟨⟨t1, t2⟩, -, -, ⟨x2, y2⟩, -⟩, ⟨-, -, -, -, -, -, b9, -, b11, -⟩, -⟩ := hB
  unfold fX1_ticksUntilDone fX3_untilDone
  simp only [zc_let]
  have e8 : v.2.1 8 = zi (z 9) := rs.2.1.2.2.2.2.2.2.1
  have e11 : v.2.1 11 = zi (z 11) := rs.2.1.2.2.2.2.2.2.2.2.1
  rw [rs.1.2.2, rm 2 (by decide), rm 9 (by decide), rm 11 (by decide), e8, e11, n_size (by omega) (by omega), Option.bind_some, show (0 : Int64) = zl 0 from zl_lit 0, wg_eq (by omega) (by omega) (by omega) (by omega), wg_eq (by split <;> omega) (by split <;> omega) (by omega) (by omega)]
  by_cases c : z 2 = 0
  · exact ⟨0, by rw [if_pos c], by rw [if_pos (by split <;> omega)]⟩
  · obtain ⟨A, hA⟩ : ∃ A : Int, A = (if 0 ≤ z 2 then z 2 else -z 2) := ⟨_, rfl⟩
    have hA1 : 1 ≤ A ∧ A ≤ 62000 * T + 20000 := by rw [hA]; split <;> omega
    have hA2 : (if 0 < z 2 then z 2 else -z 2) = A := by rw [hA]; (repeat' split) <;> omega
    rw [if_neg c, ← hA, if_neg (show ¬ A = 0 by omega), zl_neg, wl_lt (by omega) (by omega) (by omega) (by omega), zl_ite, hA2, zi_l (by omega) (by omega), zn_nzL (by omega) (by omega) (by omega), zn_nzL (by omega) (by omega) (by omega), show (1 : Int64) = zl 1 from zl_lit 1, zl_add, zl_sub, zl_divp (by omega) (by omega) (by omega) (by omega), zl_i]
    have hd : 0 ≤ (A + z 9 - 1) / z 9 ∧ (A + z 9 - 1) / z 9 ≤ A + z 9 - 1 := ⟨Int.ediv_nonneg (by omega) (by omega), Int.ediv_le_self _ (by omega)⟩
    rw [show (2000 : Int64) = zl 2000 from zl_lit 2000, wg_gt (by omega) (by omega) (by omega) (by omega), wg_eq (by omega) (by omega) (by omega) (by omega)]
    rcases b11 with hp | hp
    · exact ⟨-1, by rw [if_pos (show zi (z 11) = 0 by rw [hp]; exact (zi_lit 0).symm)], by rw [if_neg (by omega)]⟩
    · rw [if_neg (show ¬ zi (z 11) = 0 by rw [hp]; decide), if_pos (show (1 : Int32) ≤ zi (z 9) by rw [show (1 : Int32) = zi 1 from zi_lit 1, zi_le (by omega) (by omega) (by omega) (by omega)]; omega), if_pos hp]
      exact x_ite (fun _ => ⟨_, rfl, rfl⟩) (fun _ => ⟨_, rfl, rfl⟩)
theorem x_wrongL (hk : zBook b u) {m : Int} (m1 : 0 ≤ m) (m2 : m ≤ 1000000000) (hm : fX3_minuteNow u = some (zl m)) : ∀ (r n i : Nat), i + r = 20 → r < n → ∃ x : Int32, fX2_firstWrong_L N n b (zl m) (zi i) = some x ∧ fX3_wrong_L N n u (zi i) = some x := by
  obtain ⟨e, e1, e2, e3, e4⟩ := hk
  have key : ∀ (n i : Nat), e ≤ i → i ≤ 20 → ∃ x : Int32, fX2_firstWrong_L N (n + 1) b (zl m) (zi i) = some x ∧ fX3_wrong_L N (n + 1) u (zi i) = some x := by
    intro n i h1 h2
    refine ⟨-1, ?_, ?_⟩
    · rw [fX2_firstWrong_L, e2, wi_le (by omega) (by omega) (by omega) (by omega), if_pos (by omega)]
    · rw [fX3_wrong_L, e3, wi_le (by omega) (by omega) (by omega) (by omega), if_pos (by omega)]
  intro r
  induction r with
  | zero =>
    intro n i hi hn
    obtain ⟨n, rfl⟩ : ∃ k, n = k + 1 := ⟨n - 1, by omega⟩
    exact key n i (by omega) (by omega)
  | succ r ih =>
    intro n i hi hn
    obtain ⟨n, rfl⟩ : ∃ k, n = k + 1 := ⟨n - 1, by omega⟩
    by_cases c : e ≤ i
    · exact key n i c (by omega)
    · have he : zi (i : Int) + 1 = zi ((i + 1 : Nat) : Int) := by rw [show (1 : Int32) = zi 1 from zi_lit 1, zi_add]; rfl
      rw [fX2_firstWrong_L, fX3_wrong_L, e2, e3, wi_le (by omega) (by omega) (by omega) (by omega), wi_le (by omega) (by omega) (by omega) (by omega), if_neg (show ¬ (e : Int) ≤ (i : Int) by omega), if_neg (show ¬ (e : Int) ≤ (i : Int) by omega), show (20 : Int32) = zi 20 from zi_lit 20, wi_le (by omega) (by omega) (by omega) (by omega), if_neg (show ¬ (20 : Int) ≤ (i : Int) by omega), zn_in (by omega) (by omega) (by omega), zn_in (by omega) (by omega) (by omega), zi_nat (by omega) (by omega), Int.toNat_natCast, hm, Option.bind_some, e4 i (by omega)]
      simp only [zc_let]
      rw [he]
      exact x_ite (fun _ => ih n (i + 1) (by omega) (by omega)) (fun _ => ⟨_, rfl, rfl⟩)
theorem x_wide (rs : zRs z v) (rm : zRm z (u.1 0)) (hB : zB T z) {w : Int} (w1 : 0 ≤ w) (w2 : w ≤ 99999) : ∃ r : Int32, fX1_ticksUntilWide v (zl (w * 16)) = some r ∧ (zc_let (((16 : Int64) * zl w) - (u.1 0 3)) fun (x3 : Int64) => if 0 ≤ (lg_cmp x3 (0 : Int64)) then (Option.bind (fX3_wider u) fun (r5 : Int64) => if (lg_cmp r5 (0 : Int64)) = 0 then (some (-1 : Int32)) else (Option.bind (fX3_wider u) fun (r7 : Int64) => zc_nzL r7 (some (((x3 / r7)).toInt32 + (1 : Int32))))) else (some (0 : Int32))) = some r := by
  have hw := s_width rs hB.2.1
  have hw' := m_width rm hB.2.1
  obtain ⟨q1, q2⟩ := zwid_bd hB.2.1
  have b3 := hB.2.1.1
  unfold fX1_ticksUntilWide
  simp only [zc_let]
  rw [hw, hw', Option.bind_some, Option.bind_some, Option.bind_some, rs.2.1.1, rm 3 (by decide), zi_l (by omega) (by omega), zi_l (by omega) (by omega), show (16 : Int64) = zl 16 from zl_lit 16, show (0 : Int64) = zl 0 from zl_lit 0, zl_mul, zl_sub, zl_sub, wg_le (by omega) (by omega) (by omega) (by omega), wg_ge (by omega) (by omega) (by omega) (by omega), wg_eq (by omega) (by omega) (by omega) (by omega), show (0 : Int32) = zi 0 from zi_lit 0, wi_lt (by omega) (by omega) (by omega) (by omega)]
  by_cases c : z 3 ≤ w * 16
  · rw [if_pos c, if_pos (show (0 : Int) ≤ 16 * w - z 3 by omega)]
    by_cases d : zwid z = 0
    · exact ⟨-1, by rw [if_neg (by omega)], by rw [if_pos d]⟩
    · rw [if_pos (by omega), if_neg d, zn_nzL (by omega) (by omega) d, zn_nzL (by omega) (by omega) d, show 16 * w - z 3 = w * 16 - z 3 by omega]
      exact ⟨_, rfl, rfl⟩
  · exact ⟨zi 0, by rw [if_neg c], by rw [if_neg (show ¬ (0 : Int) ≤ 16 * w - z 3 by omega)]⟩
theorem zaft_ge (hb : zBs z) {n : Int} (h1 : 0 ≤ n) (h2 : n ≤ 2000) : z 1 ≤ zaft z n := by
  by_cases c : n = 0
  · subst c
    have b8 := hb.2.2.2.2.2.1
    unfold zaft zsix zgone
    rw [Int.zero_mul, Int.zero_mul, Int.zero_mul]
    (repeat' split) <;> omega
  · have := zaft_bd hb h1 h2
    omega
theorem X_after (h : zInv T b u) (a1 : Int32) : ∃ r, fX2_after b a1 = some r ∧ fX3_after u a1 = some r := by
  obtain ⟨n, rfl, n1, n2⟩ := x_arg a1
  obtain ⟨z, rs, rm, hB, h13⟩ := h.1
  unfold fX2_after fX3_after
  rw [n_within (l := 0) (h := 2000) (zi_lit 0) (zi_lit 2000) n1 n2 (by omega) (by omega) (by omega) (by omega), n_in (l := 0) (h := 2000) (zl_lit 0) (zl_lit 2000) n1 n2 (by omega) (by omega) (by omega) (by omega), Option.bind_some, Option.bind_some]
  by_cases c : 0 ≤ n ∧ n ≤ 2000
  · rw [if_pos c, if_neg z10, if_neg z10, s_after rs hB.1 hB.2.1 c.1 c.2, m_after rm hB.1 hB.2.1 c.1 c.2]
    exact ⟨_, rfl, rfl⟩
  · rw [if_neg c, if_pos z00, if_pos z00]
    exact ⟨_, rfl, rfl⟩
theorem X_rings (h : zInv T b u) (hN : 100000 < N) (a1 : Int32) : ∃ r, fX2_rings N b a1 = some r ∧ fX3_rings N u a1 = some r := by
  obtain ⟨n, rfl, n1, n2⟩ := x_arg a1
  obtain ⟨z, rs, rm, hB, h13⟩ := h.1
  unfold fX2_rings fX3_rings
  rw [n_within (l := 0) (h := 2000) (zi_lit 0) (zi_lit 2000) n1 n2 (by omega) (by omega) (by omega) (by omega), n_in (l := 0) (h := 2000) (zl_lit 0) (zl_lit 2000) n1 n2 (by omega) (by omega) (by omega) (by omega), Option.bind_some, Option.bind_some]
  by_cases c : 0 ≤ n ∧ n ≤ 2000
  · have f1 := zaft_ge hB.2.1 c.1 c.2
    obtain ⟨-, f2⟩ := zaft_bd hB.2.1 c.1 c.2
    have h24 := hB.2.2.1
    have hm := s_minute rs hB.1
    have ht := hB.1
    obtain ⟨⟨t1, t2⟩, -, ⟨x1, y1⟩, -⟩ := ht
    have g := m_comL rm hB.1 hB.2.2 (b := zaft z n) (by omega) (by omega) (by omega) (by omega) hN (zi n) (z 24).toNat N 0 (by omega) (by omega)
    rw [if_pos c, if_neg z10, if_neg z10, hm, Option.bind_some, s_after rs hB.1 hB.2.1 c.1 c.2, m_after rm hB.1 hB.2.1 c.1 c.2, Option.bind_some, Option.bind_some, show (60000 : Int64) = zl 60000 from zl_lit 60000, zl_divp (by omega) (by omega) (by omega) (by omega), q_com rs.2.2.2.1 hB.2.2 (lo := z 1 / 60000) (hi := zaft z n / 60000) (by omega) (by omega) (by omega) (by omega) hN, Option.bind_some, show (0 : Int64) = zl 0 from zl_lit 0, show (0 : Int32) = zi ((0 : Nat) : Int) from zi_lit 0]
    exact ⟨_, rfl, g⟩
  · rw [if_neg c, if_pos z00, if_pos z00]
    exact ⟨_, rfl, rfl⟩
theorem X_untilWide (h : zInv T b u) (a1 : Int32) : ∃ r, fX2_untilWide b a1 = some r ∧ fX3_untilWide u a1 = some r := by
  obtain ⟨n, rfl, n1, n2⟩ := x_arg a1
  obtain ⟨z, rs, rm, hB, h13⟩ := h.1
  unfold fX2_untilWide fX3_untilWide
  rw [n_within (l := 0) (h := 99999) (zi_lit 0) (zi_lit 99999) n1 n2 (by omega) (by omega) (by omega) (by omega), n_in (l := 0) (h := 99999) (zl_lit 0) (zl_lit 99999) n1 n2 (by omega) (by omega) (by omega) (by omega), Option.bind_some, Option.bind_some]
  by_cases c : 0 ≤ n ∧ n ≤ 99999
  · obtain ⟨r, e1, e2⟩ := x_wide rs rm hB c.1 c.2
    rw [if_pos c, if_neg z10, if_neg z10, zi_l n1 n2, e2, show (16 : Int64) = zl 16 from zl_lit 16, zl_mul, e1]
    exact ⟨r, rfl, rfl⟩
  · rw [if_neg c, if_pos z00, if_pos z00]
    exact ⟨_, rfl, rfl⟩
theorem X_time (h : zInv T b u) (a1 : Int32) : ∃ r, fX2_time b a1 = some r ∧ fX3_time u a1 = some r := by
  obtain ⟨z, rs, rm, hB, h13⟩ := h.1
  unfold fX2_time fX3_time
  rw [s_aim rs, m_aim rm, rs.1.1, rs.1.2.1, rm 0 (by decide), rm 1 (by decide)]
  exact x_ite (fun _ => ⟨_, rfl, rfl⟩) (fun _ => x_ite (fun _ => ⟨_, rfl, rfl⟩) (fun _ => x_ite (fun _ => ⟨_, rfl, rfl⟩) (fun _ => ⟨_, rfl, rfl⟩)))
theorem X_calendar (h : zInv T b u) (a1 : Int32) : ∃ r, fX2_calendar b a1 = some r ∧ fX3_calendar u a1 = some r := by
  obtain ⟨z, rs, rm, hB, h13⟩ := h.1
  have e1 := s_minute rs hB.1
  have e2 := m_minute rm hB.1
  obtain ⟨⟨t1, t2⟩, -, ⟨x1, y1⟩, -⟩ := hB.1
  obtain ⟨m, hm⟩ : ∃ m, m = z 1 / 60000 := ⟨_, rfl⟩
  rw [← hm] at e1 e2
  have m1 : 0 ≤ m ∧ m ≤ 2000000 := by omega
  unfold fX2_calendar fX3_calendar
  simp only [zc_let]
  rw [e1, e2, Option.bind_some, Option.bind_some, zl_i, n_minute (by omega) (by omega), n_hour (by omega) (by omega), n_weekday (by omega) (by omega), show (60 : Int32) = zi 60 from zi_lit 60, show (24 : Int32) = zi 24 from zi_lit 24, show (1440 : Int32) = zi 1440 from zi_lit 1440, show (7 : Int32) = zi 7 from zi_lit 7, zi_divp (by omega) (by omega) (by omega) (by omega), zi_divp (by omega) (by omega) (by omega) (by omega), zi_divp (by omega) (by omega) (by omega) (by omega), zi_divp (by omega) (by omega) (by omega) (by omega), zi_mul, zi_sub, zi_mul, zi_sub, zi_mul, zi_sub, show m - m / 60 * 60 = m % 60 by omega, show m / 60 - m / 60 / 24 * 24 = m / 60 % 24 by omega, show m / 1440 - m / 1440 / 7 * 7 = m / 1440 % 7 by omega]
  exact x_ite (fun _ => ⟨_, rfl, rfl⟩) (fun _ => x_ite (fun _ => ⟨_, rfl, rfl⟩) (fun _ => x_ite (fun _ => ⟨_, rfl, rfl⟩) (fun _ => x_ite (fun _ => ⟨_, rfl, rfl⟩) (fun _ => ⟨_, rfl, rfl⟩))))
theorem X_span (h : zInv T b u) (a1 a2 : Int32) : ∃ r, fX2_span b a1 a2 = some r ∧ fX3_span u a1 a2 = some r := by
  obtain ⟨n, rfl, n1, n2⟩ := x_arg a1
  obtain ⟨p, rfl, p1, p2⟩ := x_arg a2
  obtain ⟨z, rs, rm, hB, h13⟩ := h.1
  have hb := hB.2.1
  obtain ⟨-, -, b5, -, -, -, -, -, -, bl⟩ := hB.2.1
  unfold fX2_span fX3_span
  rw [n_isSpan2 n1 n2, n_in (l := 0) (h := 8) (zl_lit 0) (zl_lit 8) n1 n2 (by omega) (by omega) (by omega) (by omega), n_in (l := 0) (h := 1) (zl_lit 0) (zl_lit 1) p1 p2 (by omega) (by omega) (by omega) (by omega), Option.bind_some, Option.bind_some, Option.bind_some]
  by_cases c : 0 ≤ n ∧ n ≤ 8
  · rw [if_pos c, if_neg z10, if_neg z10]
    have hl := bl n.toNat (by omega)
    simp only [zc_let]
    by_cases p0 : p = 0
    · subst p0
      rw [if_pos (zi_lit 0).symm, if_pos (show (0 : Int) ≤ 0 ∧ (0 : Int) ≤ 1 by omega), if_neg z10, if_pos (zi_lit 0).symm, show (15 : Int32) = zi 15 from zi_lit 15, zi_add, zn_in (by omega) (by omega) (by omega), zn_in (by omega) (by omega) (by omega), zi_nat (by omega) (by omega), zi_nat (by omega) (by omega), show (15 + n).toNat = 15 + n.toNat by omega, rs.2.2.1 _ (by omega), rm _ (by omega), show (10000 : Int32) = zi 10000 from zi_lit 10000, show (10000 : Int64) = zl 10000 from zl_lit 10000, zl_add, zl_i, zi_add]
      exact ⟨_, rfl, rfl⟩
    · by_cases p1' : p = 1
      · subst p1'
        have z1 : ¬ zi 1 = 0 := by decide
        have o1 := s_off rs hb (t := -20 + n * 10 + 5) (by omega) (by omega)
        have o2 := m_off rm hb (t := 10 * n - 15) (by omega) (by omega)
        have ef : fX1_fitOf b.2.2.1 (zi n) = some (zi (z (15 + n.toNat) - 16 * zoff z (-20 + n * 10 + 5))) := by
          unfold fX1_fitOf
          simp only [zc_let]
          rw [s_learned rs c.1 c.2, Option.bind_some, show (-20 : Int32) = zi (-20) from zi_nlit 20, show (10 : Int32) = zi 10 from zi_lit 10, show (5 : Int32) = zi 5 from zi_lit 5, zi_mul, zi_add, zi_add, o1, Option.bind_some, show (16 : Int32) = zi 16 from zi_lit 16, zi_mul, zi_sub]
        rw [if_neg z1, if_pos (zi_lit 1).symm, if_pos (show (0 : Int) ≤ 1 ∧ (1 : Int) ≤ 1 by omega), if_neg z10, if_neg z1, ef, Option.bind_some, show (15 : Int32) = zi 15 from zi_lit 15, zi_add, zn_in (by omega) (by omega) (by omega), zi_nat (by omega) (by omega), show (15 + n).toNat = 15 + n.toNat by omega, rm _ (by omega), zi_l n1 n2, show (10 : Int64) = zl 10 from zl_lit 10, show (15 : Int64) = zl 15 from zl_lit 15, zl_mul, zl_sub, o2, Option.bind_some, show (16 : Int64) = zl 16 from zl_lit 16, show (100000 : Int64) = zl 100000 from zl_lit 100000, zl_mul, zl_sub, zl_add, zl_i, show (100000 : Int32) = zi 100000 from zi_lit 100000, zi_add, show 10 * n - 15 = -20 + n * 10 + 5 by omega]
        exact ⟨_, rfl, rfl⟩
      · have z0 : ¬ zi p = 0 := by rw [show (0 : Int32) = zi 0 from zi_lit 0, zi_eq p1 p2 (by omega) (by omega)]; exact p0
        have z1 : ¬ zi p = 1 := by rw [show (1 : Int32) = zi 1 from zi_lit 1, zi_eq p1 p2 (by omega) (by omega)]; exact p1'
        rw [if_neg z0, if_neg z1, if_neg (show ¬ (0 ≤ p ∧ p ≤ 1) by omega), if_pos z00]
        exact ⟨_, rfl, rfl⟩
  · rw [if_neg c, if_pos z00, if_pos z00]
    exact ⟨_, rfl, rfl⟩
theorem X_alarmAt (h : zInv T b u) (hN : 100000 < N) (a1 a2 : Int32) : ∃ r, fX2_alarmAt N b a1 a2 = some r ∧ fX3_alarmAt N u a1 a2 = some r := by
  obtain ⟨n, rfl, n1, n2⟩ := x_arg a1
  obtain ⟨p, rfl, p1, p2⟩ := x_arg a2
  obtain ⟨z, rs, rm, hB, h13⟩ := h.1
  have h24 := hB.2.2.1
  unfold fX2_alarmAt fX3_alarmAt
  rw [n_has rs.2.2.2.1 hB.2.2 n1 n2, m_isAlarm rm hB.2.2 n1 n2, n_in (l := 0) (h := 4) (zl_lit 0) (zl_lit 4) p1 p2 (by omega) (by omega) (by omega) (by omega), Option.bind_some, Option.bind_some, Option.bind_some]
  by_cases c : 0 ≤ n ∧ n < z 24
  · obtain ⟨a, ha⟩ : ∃ a : Nat, (a : Int) = n := ⟨n.toNat, by omega⟩
    subst ha
    obtain ⟨g0, g1, g2, g3⟩ := rs.2.2.2.1.2 a (by omega)
    rw [if_pos c, if_neg z10, if_neg z10]
    have ne : ∀ k : Int, -2147483648 ≤ k → k ≤ 2147483647 → p ≠ k → ¬ zi p = zi k := fun k k1 k2 hk => by rw [zi_eq p1 p2 k1 k2]; exact hk
    rw [show (25 : Int32) = zi 25 from zi_lit 25, show (4 : Int32) = zi 4 from zi_lit 4, zi_mul, zi_add, zi_add]
    by_cases q4 : p = 4
    · subst q4
      obtain ⟨r, f1, f2⟩ := x_next rs.2.2.2.1 rm hB.1 hB.2.2 c.2 hN
      rw [if_neg (by decide), if_neg (by decide), if_neg (by decide), if_neg (by decide), if_pos rfl, if_pos (show (0 : Int) ≤ 4 ∧ (4 : Int) ≤ 4 by omega), if_neg z10, if_pos rfl, s_minute rs hB.1, Option.bind_some, f1, f2]
      exact ⟨_, rfl, rfl⟩
    · by_cases q5 : 0 ≤ p ∧ p ≤ 4
      · rw [if_pos q5, if_neg z10, if_neg (ne 4 (by omega) (by omega) q4), zn_in (by omega) (by omega) (by omega), zi_nat (by omega) (by omega), zn_in (by omega) (by omega) (by omega), zn_in (by omega) (by omega) (by omega), zn_in (by omega) (by omega) (by omega), zn_in (by omega) (by omega) (by omega), zi_nat (by omega) (by omega), Int.toNat_natCast, g0, g1, g2, g3, rm _ (by omega), zl_i, if_neg (ne 4 (by omega) (by omega) q4)]
        rcases (show p = 0 ∨ p = 1 ∨ p = 2 ∨ p = 3 by omega) with rfl | rfl | rfl | rfl
        · rw [if_pos (zi_lit 0).symm, show (25 + 4 * (a : Int) + 0).toNat = 25 + 4 * a by omega]
          exact ⟨_, rfl, rfl⟩
        · rw [if_neg (by decide), if_pos (zi_lit 1).symm, show (25 + 4 * (a : Int) + 1).toNat = 26 + 4 * a by omega]
          exact ⟨_, rfl, rfl⟩
        · rw [if_neg (by decide), if_neg (by decide), if_pos (zi_lit 2).symm, show (25 + 4 * (a : Int) + 2).toNat = 27 + 4 * a by omega]
          exact ⟨_, rfl, rfl⟩
        · rw [if_neg (by decide), if_neg (by decide), if_neg (by decide), if_pos (zi_lit 3).symm, show (25 + 4 * (a : Int) + 3).toNat = 28 + 4 * a by omega]
          exact ⟨_, rfl, rfl⟩
      · rw [if_neg q5, if_pos z00, show (0 : Int32) = zi 0 from zi_lit 0, show (1 : Int32) = zi 1 from zi_lit 1, show (2 : Int32) = zi 2 from zi_lit 2, show (3 : Int32) = zi 3 from zi_lit 3, if_neg (ne 0 (by omega) (by omega) (by omega)), if_neg (ne 1 (by omega) (by omega) (by omega)), if_neg (ne 2 (by omega) (by omega) (by omega)), if_neg (ne 3 (by omega) (by omega) (by omega)), if_neg (ne 4 (by omega) (by omega) (by omega))]
        exact ⟨_, rfl, rfl⟩
  · rw [if_neg c, if_pos z00, if_pos z00]
    exact ⟨_, rfl, rfl⟩
theorem zev {n k i : Int} (h1 : 1 ≤ n) (h2 : 0 ≤ k) (h3 : 0 ≤ i) : (i + 1) * k / n ≤ i * k / n ↔ i * k % n + k < n := by
  have e : (i + 1) * k = (i * k % n + k) + n * (i * k / n) := by
    have := Int.emod_add_mul_ediv (i * k) n
    rw [Int.add_mul, Int.one_mul]
    omega
  rw [e, Int.add_mul_ediv_left _ _ (by omega)]
  have hr := Int.emod_nonneg (i * k) (show n ≠ 0 by omega)
  generalize i * k % n = R at *
  generalize i * k / n = Q at *
  constructor
  · intro h
    by_cases c : R + k < n
    · exact c
    · have := Int.le_ediv_of_mul_le (show 0 < n by omega) (show 1 * n ≤ R + k by omega)
      omega
  · intro h
    have := Int.ediv_eq_zero_of_lt (show 0 ≤ R + k by omega) h
    omega
theorem X_evenly (a1 a2 a3 : Int32) : ∃ r, fX2_evenly b a1 a2 a3 = some r ∧ fX3_evenly u a1 a2 a3 = some r := by
  obtain ⟨n, rfl, n1, n2⟩ := x_arg a1
  obtain ⟨k, rfl, k1, k2⟩ := x_arg a2
  obtain ⟨i, rfl, i1, i2⟩ := x_arg a3
  unfold fX2_evenly fX3_evenly
  rw [n_within (l := 1) (h := 999) (zi_lit 1) (zi_lit 999) n1 n2 (by omega) (by omega) (by omega) (by omega), n_in (l := 1) (h := 999) (zl_lit 1) (zl_lit 999) n1 n2 (by omega) (by omega) (by omega) (by omega), Option.bind_some, Option.bind_some]
  by_cases c : 1 ≤ n ∧ n ≤ 999
  · rw [if_pos c, if_neg z10, if_neg z10, n_within (l := 0) (h := n) (zi_lit 0) rfl k1 k2 (by omega) (by omega) (by omega) (by omega), n_in (l := 0) (h := n) (zl_lit 0) (zi_l n1 n2) k1 k2 (by omega) (by omega) (by omega) (by omega), Option.bind_some, Option.bind_some]
    by_cases d : 0 ≤ k ∧ k ≤ n
    · have em : zi n - 1 = zi (n - 1) := by rw [show (1 : Int32) = zi 1 from zi_lit 1, zi_sub]
      rw [if_pos d, if_neg z10, if_neg z10, em, zi_l (a := n - 1) (by omega) (by omega), n_within (l := 0) (h := n - 1) (zi_lit 0) rfl i1 i2 (by omega) (by omega) (by omega) (by omega), n_in (l := 0) (h := n - 1) (zl_lit 0) rfl i1 i2 (by omega) (by omega) (by omega) (by omega), Option.bind_some, Option.bind_some]
      by_cases e : 0 ≤ i ∧ i ≤ n - 1
      · have p1 : 0 ≤ i * k := Int.mul_nonneg e.1 d.1
        have p2 : i * k ≤ 998 * 999 := Int.mul_le_mul (by omega) (by omega) d.1 (by omega)
        have p3 : 0 ≤ (i + 1) * k := Int.mul_nonneg (by omega) d.1
        have p4 : (i + 1) * k ≤ 999 * 999 := Int.mul_le_mul (by omega) (by omega) d.1 (by omega)
        have q1 := Int.ediv_nonneg p1 (show 0 ≤ n by omega)
        have q2 := Int.ediv_le_self n p1
        have q3 := Int.ediv_nonneg p3 (show 0 ≤ n by omega)
        have q4 := Int.ediv_le_self n p3
        have hr : i * k - i * k / n * n = i * k % n := by
          have := Int.emod_add_mul_ediv (i * k) n
          rw [Int.mul_comm n (i * k / n)] at this
          omega
        have r1 := Int.emod_nonneg (i * k) (show n ≠ 0 by omega)
        have r2 := Int.emod_lt_of_pos (i * k) (show 0 < n by omega)
        have hz := zev c.1 d.1 e.1
        rw [if_pos e, if_neg z10, if_neg z10, zn_nz (by omega) (by omega) (by omega), zn_nz (by omega) (by omega) (by omega), zn_nz (by omega) (by omega) (by omega), show (zi i + 1) = zi (i + 1) by rw [show (1 : Int32) = zi 1 from zi_lit 1, zi_add], zi_mul, zi_mul, zi_divp p3 (by omega) (by omega) (by omega), zi_divp p1 (by omega) (by omega) (by omega), zi_mul, zi_sub, hr, zi_add, wi_le (by omega) (by omega) (by omega) (by omega), wi_lt (by omega) (by omega) (by omega) (by omega)]
        by_cases f : i * k % n + k < n
        · exact ⟨0, by rw [if_pos (hz.mpr f)]; rfl, by rw [if_pos f]⟩
        · exact ⟨1, by rw [if_neg (fun h => f (hz.mp h))]; rfl, by rw [if_neg f]⟩
      · rw [if_neg e, if_pos z00, if_pos z00]
        exact ⟨_, rfl, rfl⟩
    · rw [if_neg d, if_pos z00, if_pos z00]
      exact ⟨_, rfl, rfl⟩
  · rw [if_neg c, if_pos z00, if_pos z00]
    exact ⟨_, rfl, rfl⟩
theorem X_told (h : zInv T b u) (hN : 100000 < N) (a1 : Int32) : ∃ r, fX2_told N b a1 = some r ∧ fX3_told N u a1 = some r := by
  have hk := h.2.2.2.1
  obtain ⟨d, p, d1, d2, d3, d4, d5, d6⟩ := h.2.1
  obtain ⟨z, rs, rm, hB, h13⟩ := h.1
  obtain ⟨b3, b4, b5, b6, b7, b8, b9, b10, b11, bl⟩ := hB.2.1
  have em := s_minute rs hB.1
  have em' := m_minute rm hB.1
  obtain ⟨⟨t1, t2⟩, ⟨x0, y0⟩, ⟨x1, y1⟩, ⟨x2, y2⟩, ⟨x12, y12⟩, ⟨x14, y14⟩⟩ := hB.1
  obtain ⟨e, e1, e2, e3, e4⟩ := id hk
  unfold fX2_told fX3_told
  refine x_ite (fun _ => ?_) (fun _ => ?_)
  · rw [rs.2.1.2.1, rm 4 (by decide), zl_i]
    exact ⟨_, rfl, rfl⟩
  refine x_ite (fun _ => ?_) (fun _ => ?_)
  · rw [s_span rs hB.2.1, m_span rm hB.2.1]
    exact ⟨_, rfl, rfl⟩
  refine x_ite (fun _ => ?_) (fun _ => ?_)
  · rw [rs.2.1.2.1, s_off rs hB.2.1 (by omega) (by omega), rm 4 (by decide), m_off rm hB.2.1 (by omega) (by omega), Option.bind_some, Option.bind_some, zl_i]
    exact ⟨_, rfl, rfl⟩
  refine x_ite (fun _ => ?_) (fun _ => ?_)
  · rw [rs.2.1.2.2.2.2.2.1, rm 8 (by decide), zl_i]
    exact ⟨_, rfl, rfl⟩
  refine x_ite (fun _ => ?_) (fun _ => ?_)
  · rw [rs.1.2.2, rm 2 (by decide)]
    exact x_ite (fun _ => ⟨1, rfl, rfl⟩) (fun _ => ⟨0, rfl, rfl⟩)
  refine x_ite (fun _ => ?_) (fun _ => ?_)
  · rw [rs.2.1.1, rm 3 (by decide), zl_i]
    exact ⟨_, rfl, rfl⟩
  refine x_ite (fun _ => ?_) (fun _ => ?_)
  · rw [rs.2.1.2.2.2.2.2.2.1, rm 9 (by decide), zl_i]
    exact ⟨_, rfl, rfl⟩
  refine x_ite (fun _ => ?_) (fun _ => ?_)
  · rw [rs.2.1.2.2.2.2.2.2.2.1, rm 10 (by decide), zl_i]
    exact ⟨_, rfl, rfl⟩
  refine x_ite (fun _ => ?_) (fun _ => ?_)
  · rw [rs.2.1.2.2.2.2.2.2.2.2.1, n_asInt b11, rm 11 (by decide), zl_i]
    exact ⟨_, rfl, rfl⟩
  refine x_ite (fun _ => ?_) (fun _ => ?_)
  · rw [rs.2.1.2.2.2.2.2.2.2.2.2.1, rm 12 (by decide), zl_i]
    exact ⟨_, rfl, rfl⟩
  refine x_ite (fun _ => ?_) (fun _ => ?_)
  · rw [rs.2.1.2.2.2.2.2.2.2.2.2.2, rm 14 (by decide), zl_i]
    exact ⟨_, rfl, rfl⟩
  refine x_ite (fun _ => ?_) (fun _ => ?_)
  · obtain ⟨r, hr, f1, f2⟩ := x_hold rs rm hB
    rw [f1, f2, Option.bind_some, Option.bind_some]
    rcases hr with rfl | rfl
    · exact ⟨0, rfl, rfl⟩
    · exact ⟨1, rfl, rfl⟩
  refine x_ite (fun _ => ?_) (fun _ => ?_)
  · rw [rs.2.2.2.1.1, rm 24 (by decide), zl_i]
    exact ⟨_, rfl, rfl⟩
  refine x_ite (fun _ => ?_) (fun _ => ?_)
  · rw [q_total rs.2.2.2.1 hB.2.2 hN, m_all rm hB.2.2 hN, Option.bind_some, Option.bind_some, zl_i]
    exact ⟨_, rfl, rfl⟩
  refine x_ite (fun _ => ?_) (fun _ => ?_)
  · obtain ⟨r, f1, f2⟩ := x_done rs rm hB
    rw [f1, f2]
    exact ⟨r, rfl, rfl⟩
  refine x_ite (fun _ => ?_) (fun _ => ?_)
  · rw [e2, e3]
    exact ⟨_, rfl, rfl⟩
  refine x_ite (fun _ => ?_) (fun _ => ?_)
  · obtain ⟨r, f1, f2⟩ := x_wrongL (N := N) hk (m := z 1 / 60000) (by omega) (by omega) em' 20 N 0 (by omega) (by omega)
    unfold fX2_firstWrong fX3_wrong
    rw [em, Option.bind_some, show (0 : Int32) = zi ((0 : Nat) : Int) from zi_lit 0, f1, f2]
    exact ⟨r, rfl, rfl⟩
  refine x_ite (fun _ => ?_) (fun _ => ?_)
  · rw [d3, d4]
    exact ⟨_, rfl, rfl⟩
  exact ⟨_, rfl, rfl⟩
end ZAsk
