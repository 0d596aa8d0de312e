/-! more deeds -/
section ZDeed2
variable {T : Int} {b : zc_B} {u : zc_M} {N : Nat} {z : Nat → Int} {q : zc_Q}
theorem X_bound (h : zInv T b u) (hT : T + 2000 ≤ 1100000) (hN : 100000 < N) (a1 a2 : Int32) : ∃ r b' u', fX2_bound b a1 a2 = some (r, b') ∧ fX3_bound N u a1 a2 = some (r, u') ∧ zInv (T + 2000) b' u' := by
  obtain ⟨n, rfl, n1, n2⟩ := x_arg a1
  obtain ⟨p, rfl, p1, p2⟩ := x_arg a2
  unfold fX2_bound fX3_bound
  rw [n_in (l := 0) (h := 1) (zl_lit 0) (zl_lit 1) n1 n2 (by omega) (by omega) (by omega) (by omega), Option.bind_some]
  by_cases c0 : n = 0
  · subst c0
    rw [if_pos (show (0 : Int) ≤ 0 ∧ (0 : Int) ≤ 1 by omega), if_neg z10, if_pos (zi_lit 0).symm, if_pos (zi_lit 0).symm]
    have el : ((1 : Int32) - zi 0).toInt64 = zl 1 := by rw [show (1 : Int32) = zi 1 from zi_lit 1, zi_sub, zi_l (by omega) (by omega)]; rfl
    unfold fX2_changeStep
    rw [n_within (l := 1) (h := 200) (zi_lit 1) (zi_lit 200) p1 p2 (by omega) (by omega) (by omega) (by omega), n_in (l := 1) (h := 200) el (zl_lit 200) p1 p2 (by omega) (by omega) (by omega) (by omega), Option.bind_some, Option.bind_some]
    by_cases d : 1 ≤ p ∧ p ≤ 200
    · obtain ⟨b1, u1, e1, e2, i1, k1, k2⟩ := x_note h hN
      obtain ⟨z, rs, rm, hB, h13⟩ := i1.1
      rw [if_pos d, if_neg z10, if_neg z10, e1, e2, Option.bind_some]
      simp only [zc_let]
      rw [Option.bind_some, show (9 : Int32) = zi 9 from zi_lit 9, zi_add, zn_in (by omega) (by omega) (by omega), zi_nat (by omega) (by omega), show ((9 : Int) + 0).toNat = 9 from rfl, Option.bind_some, zn_in (by omega) (by omega) (by omega), show b1.2.2.1.2.1 8 = zi (z 9) from rs.2.1.2.2.2.2.2.2.1, ← k2, rm 9 (by decide), zl_i, zi_l p1 p2]
      exact ⟨_, _, _, rfl, rfl, x_put i1 (by omega) hT ⟨va_up z 9 p, s_I8 rs p, m_set rm 9 p, (zB_up9 hB d.1 d.2).mono (by omega) hT, h13⟩ ⟨rfl, rfl, rfl⟩⟩
    · rw [if_neg d, if_pos z00, if_pos z00, Option.bind_some]
      exact x_same h hT rfl rfl
  · by_cases c1 : n = 1
    · subst c1
      have z1 : ¬ zi 1 = 0 := by decide
      rw [if_pos (show (0 : Int) ≤ 1 ∧ (1 : Int) ≤ 1 by omega), if_neg z10, if_neg z1, if_pos (zi_lit 1).symm, if_neg z1]
      have el : ((1 : Int32) - zi 1).toInt64 = zl 0 := by rw [show (1 : Int32) = zi 1 from zi_lit 1, zi_sub, zi_l (by omega) (by omega)]; rfl
      unfold fX2_changeWider
      rw [n_within (l := 0) (h := 999) (zi_lit 0) (zi_lit 999) p1 p2 (by omega) (by omega) (by omega) (by omega), n_in (l := 0) (h := 999) el (zl_lit 999) p1 p2 (by omega) (by omega) (by omega) (by omega), Option.bind_some, Option.bind_some]
      by_cases d : 0 ≤ p ∧ p ≤ 999
      · obtain ⟨b1, u1, e1, e2, i1, k1, k2⟩ := x_note h hN
        obtain ⟨z, rs, rm, hB, h13⟩ := i1.1
        rw [if_pos d, if_neg z10, if_neg z10, e1, e2, Option.bind_some]
        simp only [zc_let]
        rw [Option.bind_some, show (9 : Int32) = zi 9 from zi_lit 9, zi_add, zn_in (by omega) (by omega) (by omega), zi_nat (by omega) (by omega), show ((9 : Int) + 1).toNat = 10 from rfl, Option.bind_some, zn_in (by omega) (by omega) (by omega), show b1.2.2.1.2.1 10 = zi (z 10) from rs.2.1.2.2.2.2.2.2.2.1, ← k2, rm 10 (by decide), zl_i, zi_l p1 p2]
        exact ⟨_, _, _, rfl, rfl, x_put i1 (by omega) hT ⟨va_up z 10 p, s_I10 rs p, m_set rm 10 p, (zB_up10 hB d.1 d.2).mono (by omega) hT, h13⟩ ⟨rfl, rfl, rfl⟩⟩
      · rw [if_neg d, if_pos z00, if_pos z00, Option.bind_some]
        exact x_same h hT rfl rfl
    · rw [if_neg (show ¬ (0 ≤ n ∧ n ≤ 1) by omega), if_pos z00, if_neg (by rw [show (0 : Int32) = zi 0 from zi_lit 0, zi_eq n1 n2 (by omega) (by omega)]; exact c0), if_neg (by rw [show (1 : Int32) = zi 1 from zi_lit 1, zi_eq n1 n2 (by omega) (by omega)]; exact c1)]
      exact x_same h hT rfl rfl
/-! an alarm comes -/
def zad (z : Nat → Int) (m h w : Int) : Nat → Int := va_up (va_up (va_up (va_up (va_up z (25 + 4 * (z 24).toNat) m) (26 + 4 * (z 24).toNat) h) (27 + 4 * (z 24).toNat) w) (28 + 4 * (z 24).toNat) 0) 24 (z 24 + 1)
theorem zad_lo {m h w : Int} {k : Nat} (hk : k < 24) : zad z m h w k = z k := by
  unfold zad
  rw [va_up_ne _ _ (by omega), va_up_ne _ _ (by omega), va_up_ne _ _ (by omega), va_up_ne _ _ (by omega), va_up_ne _ _ (by omega)]
theorem zad_at {m h w : Int} (a : Nat) : zad z m h w (25 + 4 * a) = (if a = (z 24).toNat then m else z (25 + 4 * a)) ∧ zad z m h w (26 + 4 * a) = (if a = (z 24).toNat then h else z (26 + 4 * a)) ∧ zad z m h w (27 + 4 * a) = (if a = (z 24).toNat then w else z (27 + 4 * a)) ∧ zad z m h w (28 + 4 * a) = (if a = (z 24).toNat then 0 else z (28 + 4 * a)) := by
  unfold zad
  by_cases c : a = (z 24).toNat
  · rw [← c]
    refine ⟨?_, ?_, ?_, ?_⟩
    · rw [if_pos rfl, va_up_ne _ _ (by omega), va_up_ne _ _ (by omega), va_up_ne _ _ (by omega), va_up_ne _ _ (by omega), va_up_self]
    · rw [if_pos rfl, va_up_ne _ _ (by omega), va_up_ne _ _ (by omega), va_up_ne _ _ (by omega), va_up_self]
    · rw [if_pos rfl, va_up_ne _ _ (by omega), va_up_ne _ _ (by omega), va_up_self]
    · rw [if_pos rfl, va_up_ne _ _ (by omega), va_up_self]
  · rw [if_neg c, if_neg c, if_neg c, if_neg c]
    refine ⟨?_, ?_, ?_, ?_⟩ <;> rw [va_up_ne _ _ (by omega), va_up_ne _ _ (by omega), va_up_ne _ _ (by omega), va_up_ne _ _ (by omega), va_up_ne _ _ (by omega)]
theorem q_add (hq : zRq z q) (hb : zBq z) (h6 : z 24 < 6) (m h w : Int) : ∃ q', fX0_add q (zi m) (zi h) (zi w) = some (zi (z 24), q') ∧ zRq (zad z m h w) q' := by
  have h24 := hb.1
  unfold fX0_add
  simp only [zc_let]
  rw [hq.1, show (0 : Int32) = zi 0 from zi_lit 0, show (6 : Int32) = zi 6 from zi_lit 6, wi_lt (by omega) (by omega) (by omega) (by omega), wi_lt (by omega) (by omega) (by omega) (by omega), if_neg (by omega), if_pos h6, zn_in (by omega) (by omega) (by omega), zn_in (by omega) (by omega) (by omega), zn_in (by omega) (by omega) (by omega), zn_in (by omega) (by omega) (by omega), zi_nat (by omega) (by omega)]
  refine ⟨_, rfl, ?_, fun a ha => ?_⟩
  · show q.1 + 1 = zi (zad z m h w 24)
    rw [hq.1, show (1 : Int32) = zi 1 from zi_lit 1, zi_add]
    rfl
  · obtain ⟨g1, g2, g3, g4⟩ := zad_at (z := z) (m := m) (h := h) (w := w) a
    obtain ⟨p0, p1, p2, p3⟩ := hq.2 a ha
    rw [g1, g2, g3, g4]
    refine ⟨?_, ?_, ?_, ?_⟩
    · show upd (q.2 0) (z 24).toNat (zi m) a = _
      by_cases c : a = (z 24).toNat
      · rw [if_pos c, ← c, pk_us]
      · rw [if_neg c, pk_un c]; exact p0
    · show upd (q.2 1) (z 24).toNat (zi h) a = _
      by_cases c : a = (z 24).toNat
      · rw [if_pos c, ← c, pk_us]
      · rw [if_neg c, pk_un c]; exact p1
    · show upd (q.2 2) (z 24).toNat (zi w) a = _
      by_cases c : a = (z 24).toNat
      · rw [if_pos c, ← c, pk_us]
      · rw [if_neg c, pk_un c]; exact p2
    · show upd (q.2 3) (z 24).toNat (zi 0) a = _
      by_cases c : a = (z 24).toNat
      · rw [if_pos c, ← c, pk_us]
      · rw [if_neg c, pk_un c]; exact p3
theorem zad_B (h : zB T z) (h6 : z 24 < 6) {m hh w : Int} (m1 : -1 ≤ m) (m2 : m ≤ 59) (g1 : -1 ≤ hh) (g2 : hh ≤ 23) (w1 : -1 ≤ w) (w2 : w ≤ 6) : zB T (zad z m hh w) := by
  obtain ⟨ht, ⟨b3, b4, b5, b6, b7, b8, b9, b10, b11, bl⟩, hq⟩ := h
  have n : ∀ k, k < 24 → zad z m hh w k = z k := fun k hk => zad_lo hk
  refine ⟨?_, ⟨by rw [n 3 (by decide)]; exact b3, by rw [n 4 (by decide)]; exact b4, by rw [n 5 (by decide)]; exact b5, by rw [n 6 (by decide)]; exact b6, by rw [n 7 (by decide)]; exact b7, by rw [n 8 (by decide)]; exact b8, by rw [n 9 (by decide)]; exact b9, by rw [n 10 (by decide)]; exact b10, by rw [n 11 (by decide)]; exact b11, fun k hk => by rw [n (15 + k) (by omega)]; exact bl k hk⟩, ?_, fun a ha => ?_⟩
  · unfold zBt
    rw [n 0 (by decide), n 1 (by decide), n 2 (by decide), n 12 (by decide), n 14 (by decide)]
    exact ht
  · have h24 := hq.1
    have e : zad z m hh w 24 = z 24 + 1 := va_up_self _ _ _
    rw [e]
    omega
  · obtain ⟨e1, e2, e3, e4⟩ := zad_at (z := z) (m := m) (h := hh) (w := w) a
    have := hq.2 a ha
    rw [e1, e2, e3, e4]
    by_cases c : a = (z 24).toNat
    · rw [if_pos c, if_pos c, if_pos c, if_pos c]; omega
    · rw [if_neg c, if_neg c, if_neg c, if_neg c]; exact this
theorem X_alarm (h : zInv T b u) (hT : T + 2000 ≤ 1100000) (hN : 100000 < N) (a1 a2 a3 : Int32) : ∃ r b' u', fX2_alarm b a1 a2 a3 = some (r, b') ∧ fX3_alarm N u a1 a2 a3 = some (r, u') ∧ zInv (T + 2000) b' u' := by
  obtain ⟨n, rfl, n1, n2⟩ := x_arg a1
  obtain ⟨p, rfl, p1, p2⟩ := x_arg a2
  obtain ⟨w, rfl, q1, q2⟩ := x_arg a3
  unfold fX2_alarm fX3_alarm
  rw [n_within (l := -1) (h := 59) (zi_nlit 1) (zi_lit 59) n1 n2 (by omega) (by omega) (by omega) (by omega), n_in (l := -1) (h := 59) (zl_nlit 1) (zl_lit 59) n1 n2 (by omega) (by omega) (by omega) (by omega), n_within (l := -1) (h := 23) (zi_nlit 1) (zi_lit 23) p1 p2 (by omega) (by omega) (by omega) (by omega), n_in (l := -1) (h := 23) (zl_nlit 1) (zl_lit 23) p1 p2 (by omega) (by omega) (by omega) (by omega), n_within (l := -1) (h := 6) (zi_nlit 1) (zi_lit 6) q1 q2 (by omega) (by omega) (by omega) (by omega), n_in (l := -1) (h := 6) (zl_nlit 1) (zl_lit 6) q1 q2 (by omega) (by omega) (by omega) (by omega), Option.bind_some, Option.bind_some, Option.bind_some, Option.bind_some, Option.bind_some, Option.bind_some]
  by_cases c : -1 ≤ n ∧ n ≤ 59
  · rw [if_pos c, if_neg z10, if_neg z10]
    by_cases d : -1 ≤ p ∧ p ≤ 23
    · rw [if_pos d, if_neg z10, if_neg z10]
      by_cases f : -1 ≤ w ∧ w ≤ 6
      · rw [if_pos f, if_neg z10, if_neg z10]
        obtain ⟨z0, rs0, rm0, hB0, h130⟩ := h.1
        have h240 := hB0.2.2.1
        rw [show b.2.2.1.2.2.2.1 = zi (z0 24) from rs0.2.2.2.1.1, rm0 24 (by decide), show (6 : Int32) = zi 6 from zi_lit 6, show (6 : Int64) = zl 6 from zl_lit 6, wi_lt (by omega) (by omega) (by omega) (by omega), wg_eq (by omega) (by omega) (by omega) (by omega)]
        by_cases g : z0 24 < 6
        · obtain ⟨b1, u1, e1, e2, i1, k1, k2⟩ := x_note h hN
          have rs : zRs z0 b1.2.2.1 := by rw [k1]; exact rs0
          have rm : zRm z0 (u1.1 0) := by rw [k2]; exact rm0
          obtain ⟨q', e3, r3⟩ := q_add rs.2.2.2.1 hB0.2.2 g n p w
          rw [if_pos g, if_neg (by omega), e1, e2, Option.bind_some, Option.bind_some, e3, Option.bind_some]
          simp only [zc_let]
          have eix : ∀ i : Int, 0 ≤ i → i ≤ 3 → (25 + 4 * z0 24 + i).toNat = 25 + 4 * (z0 24).toNat + i.toNat := fun i h1 h2 => by omega
          rw [rm 24 (by decide), zl_i, show (25 : Int32) = zi 25 from zi_lit 25, show (4 : Int32) = zi 4 from zi_lit 4, show (1 : Int32) = zi 1 from zi_lit 1, show (2 : Int32) = zi 2 from zi_lit 2, show (3 : Int32) = zi 3 from zi_lit 3, zi_mul, zi_add, zi_add, zi_add, zi_add, zn_in (by omega) (by omega) (by omega), zn_in (by omega) (by omega) (by omega), zn_in (by omega) (by omega) (by omega), zn_in (by omega) (by omega) (by omega), zi_nat (by omega) (by omega), zi_nat (by omega) (by omega), zi_nat (by omega) (by omega), zi_nat (by omega) (by omega), show (25 + 4 * z0 24).toNat = 25 + 4 * (z0 24).toNat by omega, show (25 + 4 * z0 24 + 1).toNat = 26 + 4 * (z0 24).toNat by omega, show (25 + 4 * z0 24 + 2).toNat = 27 + 4 * (z0 24).toNat by omega, show (25 + 4 * z0 24 + 3).toNat = 28 + 4 * (z0 24).toNat by omega, zi_l n1 n2, zi_l p1 p2, zi_l q1 q2, show (0 : Int64) = zl 0 from zl_lit 0]
          have r4 := m_set (m_set (m_set (m_set rm (25 + 4 * (z0 24).toNat) n) (26 + 4 * (z0 24).toNat) p) (27 + 4 * (z0 24).toNat) w) (28 + 4 * (z0 24).toNat) 0
          have e24 : (zc_mL (zc_mL (zc_mL (zc_mL u1 0 (25 + 4 * (z0 24).toNat) (zl n)) 0 (26 + 4 * (z0 24).toNat) (zl p)) 0 (27 + 4 * (z0 24).toNat) (zl w)) 0 (28 + 4 * (z0 24).toNat) (zl 0)).1 0 24 = zl (z0 24) := by rw [r4 24 (by decide), va_up_ne _ _ (by omega), va_up_ne _ _ (by omega), va_up_ne _ _ (by omega), va_up_ne _ _ (by omega)]
          rw [e24, show (1 : Int64) = zl 1 from zl_lit 1, zl_add]
          have r5 := m_set r4 24 (z0 24 + 1)
          exact ⟨_, _, _, rfl, rfl, x_put i1 (by omega) hT ⟨zad z0 n p w, s_q rs (fun k hk => zad_lo hk) r3, r5, (zad_B hB0 g c.1 c.2 d.1 d.2 f.1 f.2).mono (by omega) hT, by rw [zad_lo (by decide)]; exact h130⟩ ⟨rfl, rfl, rfl⟩⟩
        · rw [if_neg g, if_pos (by omega)]
          exact x_same h hT rfl rfl
      · rw [if_neg f, if_pos z00, if_pos z00]
        exact x_same h hT rfl rfl
    · rw [if_neg d, if_pos z00, if_pos z00]
      exact x_same h hT rfl rfl
  · rw [if_neg c, if_pos z00, if_pos z00]
    exact x_same h hT rfl rfl
/-! the book, the seed -/
theorem X_write (h : zInv T b u) (hT : T + 2000 ≤ 1100000) (a1 : Int32) : ∃ r b' u', fX2_write b a1 = some (r, b') ∧ fX3_write u a1 = some (r, u') ∧ zInv (T + 2000) b' u' := by
  obtain ⟨g1, g2, g3, ⟨e, e1, e2, e3, e4⟩, g5⟩ := h.mono (show T ≤ T + 2000 by omega) hT
  unfold fX2_write fX3_write
  simp only [zc_let]
  by_cases c : e = 20
  · subst c
    rw [if_neg (by rw [e2, show (20 : Int32) = zi 20 from zi_lit 20, zi_lt (by omega) (by omega) (by omega) (by omega)]; omega), if_pos (by rw [e3]; exact (zi_lit 20).symm)]
    exact ⟨_, _, _, rfl, rfl, g1, g2, g3, ⟨20, by omega, e2, e3, e4⟩, g5⟩
  · rw [if_pos (by rw [e2, show (20 : Int32) = zi 20 from zi_lit 20, zi_lt (by omega) (by omega) (by omega) (by omega)]; omega), if_neg (by rw [e3, show (20 : Int32) = zi 20 from zi_lit 20, zi_eq (by omega) (by omega) (by omega) (by omega)]; omega), e2, e3, zn_in (by omega) (by omega) (by omega), zn_in (by omega) (by omega) (by omega), zi_nat (by omega) (by omega), Int.toNat_natCast, show (zc_ba b 2 e a1).1 3 = zi e from e2, show (zc_ma u 1 e a1).2.2.1 1 = zi e from e3, show (1 : Int32) = zi 1 from zi_lit 1, zi_add]
    refine ⟨_, _, _, rfl, rfl, g1, g2, g3, ⟨e + 1, by omega, rfl, rfl, fun k hk => ?_⟩, g5⟩
    show upd (b.2.1 2) e a1 k = upd (u.2.1 1) e a1 k
    by_cases d : k = e
    · subst d; rw [pk_us, pk_us]
    · rw [pk_un d, pk_un d]; exact e4 k (by omega)
theorem X_tear (h : zInv T b u) (hT : T + 2000 ≤ 1100000) : ∃ r b' u', fX2_tear b = some (r, b') ∧ fX3_tear u = some (r, u') ∧ zInv (T + 2000) b' u' := by
  obtain ⟨g1, g2, g3, ⟨e, e1, e2, e3, e4⟩, g5⟩ := h.mono (show T ≤ T + 2000 by omega) hT
  unfold fX2_tear fX3_tear
  simp only [zc_let]
  rw [e2, e3]
  exact ⟨_, _, _, rfl, rfl, g1, g2, g3, ⟨0, by omega, zi_lit 0, zi_lit 0, fun k hk => absurd hk (Nat.not_lt_zero k)⟩, g5⟩
theorem X_seed (h : zInv T b u) (hT : T + 2000 ≤ 1100000) (a1 : Int32) : ∃ r b' u', fX2_seed b a1 = some (r, b') ∧ fX3_seed u a1 = some (r, u') ∧ zInv (T + 2000) b' u' := by
  obtain ⟨n, rfl, n1, n2⟩ := x_arg a1
  obtain ⟨g1, g2, g3, g4, ⟨s, s1, s2, s3, s4⟩⟩ := h.mono (show T ≤ T + 2000 by omega) hT
  unfold fX2_seed fX3_seed
  simp only [zc_let]
  rw [show (0 : Int32) = zi 0 from zi_lit 0, wi_le (by omega) (by omega) n1 n2, wi_le (by omega) (by omega) n1 n2]
  by_cases c : 0 ≤ n
  · rw [if_pos c, if_pos c, s1, s2, zl_i, zi_l n1 n2]
    exact ⟨_, _, _, rfl, rfl, g1, g2, g3, g4, n, rfl, rfl, c, n2⟩
  · rw [if_neg c, if_neg c]
    exact ⟨_, _, _, rfl, rfl, g1, g2, g3, g4, s, s1, s2, s3, s4⟩
/-! undone; images -/
theorem X_undo (h : zInv T b u) (hT : T + 2000 ≤ 1100000) (hN : 100000 < N) (a1 : Int32) : ∃ r b' u', fX2_undo b a1 = some (r, b') ∧ fX3_undo N u a1 = some (r, u') ∧ zInv (T + 2000) b' u' := by
  obtain ⟨n, rfl, n1, n2⟩ := x_arg a1
  have h0 := h
  obtain ⟨g1, ⟨d, p, d1, d2, d3, d4, d5, d6⟩, g3, g4, g5⟩ := h.mono (show T ≤ T + 2000 by omega) hT
  unfold fX2_undo fX3_undo
  simp only [zc_let]
  rw [n_within (l := 1) (h := 20) (zi_lit 1) (zi_lit 20) n1 n2 (by omega) (by omega) (by omega) (by omega), n_in (l := 1) (h := 20) (zl_lit 1) (zl_lit 20) n1 n2 (by omega) (by omega) (by omega) (by omega), Option.bind_some, Option.bind_some]
  by_cases c : 1 ≤ n ∧ n ≤ 20
  · rw [if_pos c, if_neg z10, if_neg z10, d3, d4, d5, wi_le n1 n2 (by omega) (by omega), wi_le n1 n2 (by omega) (by omega)]
    by_cases e : n ≤ d
    · obtain ⟨k, hk⟩ : ∃ k : Nat, (k : Int) = (d : Int) - n := ⟨((d : Int) - n).toNat, by omega⟩
      obtain ⟨p', hp'⟩ : ∃ p' : Nat, (p' : Int) = ((p : Int) - n) % 20 := ⟨(((p : Int) - n) % 20).toNat, by omega⟩
      have hj := d6 k (by omega)
      rw [show (p + 20 - d + k) % 20 = p' by omega] at hj
      obtain ⟨v', e1, r1⟩ := hj.copy b.2.2.1
      have g2 := m_bring2 (u.1 0) (u.1 1) (i := 49 * k) (j := 0) (n := 49) (n0 := 980) (n1 := 49) (by omega) (by omega) (by omega) (by omega) hN
      rw [if_pos e, if_pos e, zi_sub, n_floorMod20 (by omega) (by omega), Option.bind_some, ← hp', show (zc_bI b 1 (zi p')).1 1 = zi p' from rfl, zn_in (by omega) (by omega) (by omega), zi_nat (by omega) (by omega), Int.toNat_natCast, show (zc_bI b 1 (zi p')).2.2.1 = b.2.2.1 from rfl, show (zc_bI b 1 (zi p')).2.2.2 p' = b.2.2.2 p' from rfl, e1, Option.bind_some, zi_sub, ← hk, show (zc_mI u 0 (zi k)).1 0 = u.1 0 from rfl, show (zc_mI u 0 (zi k)).1 1 = u.1 1 from rfl, show (zc_mI u 0 (zi k)).2.2.1 0 = zi k from rfl, show (49 : Int32) = zi ((49 : Nat) : Int) from zi_lit 49, show (0 : Int32) = zi ((0 : Nat) : Int) from zi_lit 0, zi_mul, show ((49 : Nat) : Int) * (k : Int) = ((49 * k : Nat) : Int) by omega, g2, Option.bind_some,
        show (zc_bs (zc_bI b 1 (zi p')) v').1 2 = zi d from d3, zi_sub, ← hk]
      refine ⟨_, _, _, rfl, rfl, r1.congr (fun j hj => ?_), ⟨k, p', by omega, by omega, rfl, rfl, rfl, fun j hj => ?_⟩, g3, g4, g5⟩
      · show zbr (u.1 0) (u.1 1) (49 * k) 0 49 j = _
        unfold zbr
        rw [if_pos (by omega), show 49 * k + (j - 0) = 49 * k + j by omega]
      · have := d6 j (by omega)
        rw [show (p + 20 - d + j) % 20 = (p' + 20 - k + j) % 20 by omega] at this
        exact this
    · rw [if_neg e, if_neg e]
      exact x_same h0 hT rfl rfl
  · rw [if_neg c, if_pos z00, if_pos z00]
    exact x_same h0 hT rfl rfl
theorem X_keep (h : zInv T b u) (hT : T + 2000 ≤ 1100000) (hN : 100000 < N) (a1 : Int32) : ∃ r b' u', fX2_keep b a1 = some (r, b') ∧ fX3_keep N u a1 = some (r, u') ∧ zInv (T + 2000) b' u' := by
  obtain ⟨n, rfl, n1, n2⟩ := x_arg a1
  have h0 := h
  obtain ⟨g1, ⟨d, p, d1, d2, d3, d4, d5, d6⟩, g3, g4, ⟨s, s1, s2, s3, s4⟩⟩ := h.mono (show T ≤ T + 2000 by omega) hT
  unfold fX2_keep fX3_keep
  simp only [zc_let]
  rw [n_within (l := 0) (h := 1) (zi_lit 0) (zi_lit 1) n1 n2 (by omega) (by omega) (by omega) (by omega), n_in (l := 0) (h := 1) (zl_lit 0) (zl_lit 1) n1 n2 (by omega) (by omega) (by omega) (by omega), Option.bind_some, Option.bind_some]
  by_cases c : 0 ≤ n ∧ n ≤ 1
  · obtain ⟨i, hi⟩ : ∃ i : Nat, (i : Int) = n := ⟨n.toNat, by omega⟩
    subst hi
    obtain ⟨v', e1, r1⟩ := g1.copy (b.2.2.2 (i + 20))
    have g2 := m_bring2 (u.1 2) (u.1 0) (i := 0) (j := 50 * i) (n := 49) (n0 := 49) (n1 := 100) (by omega) (by omega) (by omega) (by omega) hN
    rw [if_pos c, if_neg z10, if_neg z10, zn_in (by omega) (by omega) (by omega), zn_in (by omega) (by omega) (by omega), zi_nat (by omega) (by omega), Int.toNat_natCast, e1, Option.bind_some, zn_in (by omega) (by omega) (by omega), zn_in (by omega) (by omega) (by omega), show (zc_bp b (i + 20) v').1 0 = zi s from s1, show (zc_ma u 0 i 1).1 0 = u.1 0 from rfl, show (zc_ma u 0 i 1).1 2 = u.1 2 from rfl, show (49 : Int32) = zi ((49 : Nat) : Int) from zi_lit 49, show (0 : Int32) = zi ((0 : Nat) : Int) from zi_lit 0, show (50 : Int32) = zi ((50 : Nat) : Int) from zi_lit 50, zi_mul, show ((50 : Nat) : Int) * (i : Int) = ((50 * i : Nat) : Int) by omega, g2, Option.bind_some, zi_add, zn_in (by omega) (by omega) (by omega), zi_nat (by omega) (by omega), show (((50 * i : Nat) : Int) + ((49 : Nat) : Int)).toNat = 50 * i + 49 by omega, show (zc_mf (zc_ma u 0 i 1) 2 (zbr (u.1 2) (u.1 0) 0 (50 * i) 49)).2.2.2 = zl s from s2]
    refine ⟨_, _, _, rfl, rfl, g1, ⟨0, p, by omega, by omega, rfl, rfl, d5, fun j hj => absurd hj (Nat.not_lt_zero j)⟩, fun j hj => ?_, g4, s, s1, s2, s3, s4⟩
    by_cases cj : j = i
    · subst cj
      refine Or.inr ⟨?_, ?_, ?_, s, ?_, ?_, s3, s4⟩
      · show upd (b.2.1 1) j 1 j = 1
        rw [pk_us]
      · show upd (u.2.1 0) j 1 j = 1
        rw [pk_us]
      · show zPr (T + 2000) (va_up b.2.2.2 (j + 20) v' (j + 20)) _
        rw [va_up_self]
        refine r1.congr (fun k hk => ?_)
        show vp_updL (zbr (u.1 2) (u.1 0) 0 (50 * j) 49) (50 * j + 49) (zl s) (50 * j + k) = _
        rw [pk_uLn (by omega)]
        unfold zbr
        rw [if_pos (by omega), show 0 + (50 * j + k - 50 * j) = k by omega]
      · show upd (b.2.1 0) j (zi s) j = zi s
        rw [pk_us]
      · show vp_updL (zbr (u.1 2) (u.1 0) 0 (50 * j) 49) (50 * j + 49) (zl s) (50 * j + 49) = zl s
        rw [pk_uLs]
    · have e0 : ∀ k, k < 50 → vp_updL (zbr (u.1 2) (u.1 0) 0 (50 * i) 49) (50 * i + 49) (zl s) (50 * j + k) = u.1 2 (50 * j + k) := fun k hk => by
        rw [pk_uLn (by omega)]
        unfold zbr
        rw [if_neg (by omega)]
      rcases g3 j hj with ⟨q1, q2⟩ | ⟨q1, q2, q3, s', q4, q5, q6, q7⟩
      · refine Or.inl ⟨?_, ?_⟩
        · show upd (b.2.1 1) i 1 j = 0
          rw [pk_un cj]; exact q1
        · show upd (u.2.1 0) i 1 j = 0
          rw [pk_un cj]; exact q2
      · refine Or.inr ⟨?_, ?_, ?_, s', ?_, ?_, q6, q7⟩
        · show upd (b.2.1 1) i 1 j = 1
          rw [pk_un cj]; exact q1
        · show upd (u.2.1 0) i 1 j = 1
          rw [pk_un cj]; exact q2
        · show zPr (T + 2000) (va_up b.2.2.2 (i + 20) v' (j + 20)) _
          rw [va_up_ne _ _ (by omega)]
          exact q3.congr (fun k hk => e0 k (by omega))
        · show upd (b.2.1 0) i (zi s) j = zi s'
          rw [pk_un cj]; exact q4
        · show vp_updL (zbr (u.1 2) (u.1 0) 0 (50 * i) 49) (50 * i + 49) (zl s) (50 * j + 49) = zl s'
          rw [e0 49 (by omega)]; exact q5
  · rw [if_neg c, if_pos z00, if_pos z00]
    exact x_same h0 hT rfl rfl
theorem X_goBack (h : zInv T b u) (hT : T + 2000 ≤ 1100000) (hN : 100000 < N) (a1 : Int32) : ∃ r b' u', fX2_goBack b a1 = some (r, b') ∧ fX3_goBack N u a1 = some (r, u') ∧ zInv (T + 2000) b' u' := by
  obtain ⟨n, rfl, n1, n2⟩ := x_arg a1
  have h0 := h
  obtain ⟨g1, ⟨d, p, d1, d2, d3, d4, d5, d6⟩, g3, g4, g5⟩ := h.mono (show T ≤ T + 2000 by omega) hT
  unfold fX2_goBack fX3_goBack
  simp only [zc_let]
  rw [n_within (l := 0) (h := 1) (zi_lit 0) (zi_lit 1) n1 n2 (by omega) (by omega) (by omega) (by omega), n_in (l := 0) (h := 1) (zl_lit 0) (zl_lit 1) n1 n2 (by omega) (by omega) (by omega) (by omega), Option.bind_some, Option.bind_some]
  by_cases c : 0 ≤ n ∧ n ≤ 1
  · obtain ⟨i, hi⟩ : ∃ i : Nat, (i : Int) = n := ⟨n.toNat, by omega⟩
    subst hi
    rw [if_pos c, if_neg z10, if_neg z10, zn_in (by omega) (by omega) (by omega), zn_in (by omega) (by omega) (by omega), zn_in (by omega) (by omega) (by omega), zi_nat (by omega) (by omega), Int.toNat_natCast]
    rcases g3 i (by omega) with ⟨q1, q2⟩ | ⟨q1, q2, q3, s, q4, q5, q6, q7⟩
    · rw [if_pos q1, if_pos q2]
      exact x_same h0 hT rfl rfl
    · obtain ⟨v', e1, r1⟩ := q3.copy b.2.2.1
      have g2 := m_bring2 (u.1 0) (u.1 2) (i := 50 * i) (j := 0) (n := 49) (n0 := 100) (n1 := 49) (by omega) (by omega) (by omega) (by omega) hN
      rw [if_neg (by rw [q1]; decide), if_neg (by rw [q2]; decide), e1, Option.bind_some, zn_in (by omega) (by omega) (by omega), show (zc_bs b v').2.1 0 i = zi s from q4, show (49 : Int32) = zi ((49 : Nat) : Int) from zi_lit 49, show (0 : Int32) = zi ((0 : Nat) : Int) from zi_lit 0, show (50 : Int32) = zi ((50 : Nat) : Int) from zi_lit 50, zi_mul, show ((50 : Nat) : Int) * (i : Int) = ((50 * i : Nat) : Int) by omega, g2, Option.bind_some, zi_add, zn_in (by omega) (by omega) (by omega), zi_nat (by omega) (by omega), show (((50 * i : Nat) : Int) + ((49 : Nat) : Int)).toNat = 50 * i + 49 by omega, show (zc_mf u 0 (zbr (u.1 0) (u.1 2) (50 * i) 0 49)).1 2 (50 * i + 49) = zl s from q5]
      refine ⟨_, _, _, rfl, rfl, r1.congr (fun j hj => ?_), ⟨0, p, by omega, by omega, rfl, rfl, d5, fun j hj => absurd hj (Nat.not_lt_zero j)⟩, g3, g4, s, rfl, rfl, q6, q7⟩
      show zbr (u.1 0) (u.1 2) (50 * i) 0 49 j = _
      unfold zbr
      rw [if_pos (by omega), show 50 * i + (j - 0) = 50 * i + j by omega]
  · rw [if_neg c, if_pos z00, if_pos z00]
    exact x_same h0 hT rfl rfl
end ZDeed2
