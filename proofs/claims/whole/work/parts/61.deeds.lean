/-! deeds, both sides at once -/
theorem x_arg (a : Int32) : ∃ n : Int, a = zi n ∧ -2147483648 ≤ n ∧ n ≤ 2147483647 := ⟨a.toInt, (Int32.ofInt_toInt a).symm, by have := a.le_toInt; omega, by have := a.toInt_lt; omega⟩
theorem zi_nlit (n : Nat) : -(no_index (OfNat.ofNat n) : Int32) = zi (-(no_index (OfNat.ofNat n))) := by rw [← zi_neg, ← zi_lit]
theorem zl_nlit (n : Nat) : -(no_index (OfNat.ofNat n) : Int64) = zl (-(no_index (OfNat.ofNat n))) := by rw [← zl_neg, ← zl_lit]
theorem n_within {n l h : Int} {lo hi : Int32} (hl : lo = zi l) (hh : hi = zi h) (n1 : -2147483648 ≤ n) (n2 : n ≤ 2147483647) (l1 : -2147483648 ≤ l) (l2 : l ≤ 2147483647) (h1 : -2147483648 ≤ h) (h2 : h ≤ 2147483647) : fX2_isWithin (zi n) lo hi = some (if l ≤ n ∧ n ≤ h then 1 else 0) := by
  subst hl
  subst hh
  unfold fX2_isWithin
  rw [wi_lt (by omega) (by omega) (by omega) (by omega), wi_lt (by omega) (by omega) (by omega) (by omega)]
  by_cases c : n < l
  · rw [if_pos c, if_neg (by omega)]
  · rw [if_neg c]
    by_cases d : h < n
    · rw [if_pos d, if_neg (by omega)]
    · rw [if_neg d, if_pos (by omega)]
theorem n_in {n l h : Int} {lo hi : Int64} (hl : lo = zl l) (hh : hi = zl h) (n1 : -2147483648 ≤ n) (n2 : n ≤ 2147483647) (l1 : -2147483648 ≤ l) (l2 : l ≤ 2147483647) (h1 : -2147483648 ≤ h) (h2 : h ≤ 2147483647) : fX3_in (zi n).toInt64 lo hi = some (if l ≤ n ∧ n ≤ h then 1 else 0) := by
  subst hl
  subst hh
  unfold fX3_in
  rw [zi_l n1 n2, wg_lt (by omega) (by omega) (by omega) (by omega), wg_gt (by omega) (by omega) (by omega) (by omega)]
  by_cases c : n < l
  · rw [if_pos c, if_neg (by omega)]
  · rw [if_neg c]
    by_cases d : h < n
    · rw [if_pos d, if_neg (by omega)]
    · rw [if_neg d, if_pos (by omega)]
theorem z10 : ¬ (1 : Int32) = 0 := by decide
theorem z00 : (0 : Int32) = 0 := rfl
section ZDeed
variable {T : Int} {b : zc_B} {u : zc_M} {N : Nat} {z : Nat → Int}
theorem x_put {T' : Int} (h : zInv T b u) (h1 : T ≤ T') (h2 : T' ≤ 1100000) {v : zc_S} {u' : zc_M} (hp : zPr T' v (u'.1 0)) (ho : zOth u u') : zInv T' (zc_bs b v) u' := by
  obtain ⟨-, g2, g3, g4, g5⟩ := h.mono h1 h2
  obtain ⟨o1, o2, o3⟩ := ho
  refine ⟨hp, ?_, ?_, ?_, ?_⟩
  · unfold zPast; rw [o1, o3]; exact g2
  · unfold zImg; rw [o2, o3]; exact g3
  · unfold zBook; rw [o3]; exact g4
  · unfold zSeed; rw [o3]; exact g5
/-- a refused call -/
theorem x_same {r : Int32} {f : Option (Int32 × zc_B)} {g : Option (Int32 × zc_M)} (h : zInv T b u) (hT : T + 2000 ≤ 1100000) (e1 : f = some (r, b)) (e2 : g = some (r, u)) : ∃ r b' u', f = some (r, b') ∧ g = some (r, u') ∧ zInv (T + 2000) b' u' := ⟨r, b, u, e1, e2, h.mono (by omega) hT⟩
theorem zB_up4 (h : zB T z) {x : Int} (h1 : -20 ≤ x) (h2 : x ≤ 69) : zB T (va_up z 4 x) := by
  obtain ⟨ht, ⟨b3, b4, b5, b6, b7, b8, b9, b10, b11, bl⟩, hq⟩ := h
  exact ⟨ht, ⟨b3, ⟨h1, h2⟩, b5, b6, b7, b8, b9, b10, b11, zup_b bl (by decide)⟩, zup_bq hq (by decide)⟩
theorem zB_up5 (h : zB T z) {x : Int} (h1 : 0 ≤ x) (h2 : x ≤ 40) : zB T (va_up z 5 x) := by
  obtain ⟨ht, ⟨b3, b4, b5, b6, b7, b8, b9, b10, b11, bl⟩, hq⟩ := h
  exact ⟨ht, ⟨b3, b4, ⟨h1, h2⟩, b6, b7, b8, b9, b10, b11, zup_b bl (by decide)⟩, zup_bq hq (by decide)⟩
theorem zB_up6 (h : zB T z) {x : Int} (h1 : 0 ≤ x) (h2 : x ≤ 20) : zB T (va_up z 6 x) := by
  obtain ⟨ht, ⟨b3, b4, b5, b6, b7, b8, b9, b10, b11, bl⟩, hq⟩ := h
  exact ⟨ht, ⟨b3, b4, b5, ⟨h1, h2⟩, b7, b8, b9, b10, b11, zup_b bl (by decide)⟩, zup_bq hq (by decide)⟩
theorem zB_up7 (h : zB T z) {x : Int} (h1 : -9 ≤ x) (h2 : x ≤ 9) : zB T (va_up z 7 x) := by
  obtain ⟨ht, ⟨b3, b4, b5, b6, b7, b8, b9, b10, b11, bl⟩, hq⟩ := h
  exact ⟨ht, ⟨b3, b4, b5, b6, ⟨h1, h2⟩, b8, b9, b10, b11, zup_b bl (by decide)⟩, zup_bq hq (by decide)⟩
theorem zB_up9 (h : zB T z) {x : Int} (h1 : 1 ≤ x) (h2 : x ≤ 200) : zB T (va_up z 9 x) := by
  obtain ⟨ht, ⟨b3, b4, b5, b6, b7, b8, b9, b10, b11, bl⟩, hq⟩ := h
  exact ⟨ht, ⟨b3, b4, b5, b6, b7, b8, ⟨h1, h2⟩, b10, b11, zup_b bl (by decide)⟩, zup_bq hq (by decide)⟩
theorem zB_up10 (h : zB T z) {x : Int} (h1 : 0 ≤ x) (h2 : x ≤ 999) : zB T (va_up z 10 x) := by
  obtain ⟨ht, ⟨b3, b4, b5, b6, b7, b8, b9, b10, b11, bl⟩, hq⟩ := h
  exact ⟨ht, ⟨b3, b4, b5, b6, b7, b8, b9, ⟨h1, h2⟩, b11, zup_b bl (by decide)⟩, zup_bq hq (by decide)⟩
theorem zB_up11 (h : zB T z) {x : Int} (h1 : x = 0 ∨ x = 1) : zB T (va_up z 11 x) := by
  obtain ⟨ht, ⟨b3, b4, b5, b6, b7, b8, b9, b10, b11, bl⟩, hq⟩ := h
  exact ⟨ht, ⟨b3, b4, b5, b6, b7, b8, b9, b10, h1, zup_b bl (by decide)⟩, zup_bq hq (by decide)⟩
theorem zB_upl (h : zB T z) {s : Nat} (hs : s < 9) {x : Int} (h1 : -9999 ≤ x) (h2 : x ≤ 9999) : zB T (va_up z (15 + s) x) := by
  have n : ∀ j, j < 15 → va_up z (15 + s) x j = z j := fun j hj => va_up_ne _ _ (by omega)
  obtain ⟨ht, ⟨b3, b4, b5, b6, b7, b8, b9, b10, b11, bl⟩, hq⟩ := h
  refine ⟨?_, ⟨by rw [n 3 (by decide)]; exact b3, by rw [n 4 (by decide)]; exact b4, by rw [n 5 (by decide)]; exact b5, by rw [n 6 (by decide)]; exact b6, by rw [n 7 (by decide)]; exact b7, by rw [n 8 (by decide)]; exact b8, by rw [n 9 (by decide)]; exact b9, by rw [n 10 (by decide)]; exact b10, by rw [n 11 (by decide)]; exact b11, fun k hk => ?_⟩, zup_bq hq (by omega)⟩
  · unfold zBt
    rw [n 0 (by decide), n 1 (by decide), n 2 (by decide), n 12 (by decide), n 14 (by decide)]
    exact ht
  · by_cases c : 15 + k = 15 + s
    · rw [c, va_up_self]; exact ⟨h1, h2⟩
    · rw [va_up_ne _ _ c]; exact bl k hk
theorem X_tick (h : zInv T b u) (hT : T + 2000 ≤ 1100000) (hN : 100000 < N) (a1 : Int32) : ∃ r b' u', fX2_tick N b a1 = some (r, b') ∧ fX3_tick N u a1 = some (r, u') ∧ zInv (T + 2000) b' u' := by
  obtain ⟨n, rfl, n1, n2⟩ := x_arg a1
  unfold fX2_tick fX3_tick
  rw [n_within (l := 1) (h := 2000) (zi_lit 1) (zi_lit 2000) n1 n2 (by omega) (by omega) (by omega) (by omega), n_in (l := 1) (h := 2000) (zl_lit 1) (zl_lit 2000) n1 n2 (by omega) (by omega) (by omega) (by omega), Option.bind_some, Option.bind_some]
  by_cases c : 1 ≤ n ∧ n ≤ 2000
  · obtain ⟨b1, u1, e1, e2, i1, -, -⟩ := x_note h hN
    obtain ⟨z, rs, rm, hB, h13⟩ := i1.1
    obtain ⟨v', e3, r3⟩ := s_pass rs hB hT c.1 c.2 hN
    obtain ⟨u', e4, r4, o4⟩ := m_goes rm hB h13 c.1 c.2 hT hN
    rw [if_pos c, if_neg z10, if_neg z10, e1, e2, Option.bind_some, Option.bind_some, e3, e4, Option.bind_some, Option.bind_some]
    exact ⟨_, _, _, rfl, rfl, x_put i1 (by omega) hT ⟨zgo z n, r3, r4, (zgo_B hB c.1 c.2 (by omega)).mono (by omega) hT, zgo_13 hB.2.1 n⟩ o4⟩
  · rw [if_neg c, if_pos z00, if_pos z00]
    exact x_same h hT rfl rfl
theorem X_warm (h : zInv T b u) (hT : T + 2000 ≤ 1100000) (hN : 100000 < N) (a1 : Int32) : ∃ r b' u', fX2_warm b a1 = some (r, b') ∧ fX3_warm N u a1 = some (r, u') ∧ zInv (T + 2000) b' u' := by
  obtain ⟨n, rfl, n1, n2⟩ := x_arg a1
  unfold fX2_warm fX3_warm
  rw [n_within (l := (-20)) (h := 69) (zi_nlit 20) (zi_lit 69) n1 n2 (by omega) (by omega) (by omega) (by omega), n_in (l := (-20)) (h := 69) (zl_nlit 20) (zl_lit 69) n1 n2 (by omega) (by omega) (by omega) (by omega), Option.bind_some, Option.bind_some]
  by_cases c : -20 ≤ n ∧ n ≤ 69
  · obtain ⟨b1, u1, e1, e2, i1, k1, k2⟩ := x_note h hN
    obtain ⟨z, rs, rm, hB, h13⟩ := i1.1
    rw [if_pos c, if_neg z10, if_neg z10, e1, e2, Option.bind_some]
    simp only [zc_let]
    rw [Option.bind_some, show b1.2.2.1.2.1 3 = zi (z 4) from rs.2.1.2.1, ← k2, rm 4 (by decide), zl_i, zi_l n1 n2]
    exact ⟨_, _, _, rfl, rfl, x_put i1 (by omega) hT ⟨va_up z 4 n, s_I3 rs n, m_set rm 4 n, (zB_up4 hB c.1 c.2).mono (by omega) hT, h13⟩ ⟨rfl, rfl, rfl⟩⟩
  · rw [if_neg c, if_pos z00, if_pos z00]
    exact x_same h hT rfl rfl
theorem X_crystal (h : zInv T b u) (hT : T + 2000 ≤ 1100000) (hN : 100000 < N) (a1 a2 a3 : Int32) : ∃ r b' u', fX2_crystal b a1 a2 a3 = some (r, b') ∧ fX3_crystal N u a1 a2 a3 = some (r, u') ∧ zInv (T + 2000) b' u' := by
  obtain ⟨n, rfl, n1, n2⟩ := x_arg a1
  obtain ⟨p, rfl, p1, p2⟩ := x_arg a2
  obtain ⟨q, rfl, q1, q2⟩ := x_arg a3
  unfold fX2_crystal fX3_crystal
  rw [n_within (l := 0) (h := 40) (zi_lit 0) (zi_lit 40) n1 n2 (by omega) (by omega) (by omega) (by omega), n_in (l := 0) (h := 40) (zl_lit 0) (zl_lit 40) n1 n2 (by omega) (by omega) (by omega) (by omega), n_within (l := 0) (h := 20) (zi_lit 0) (zi_lit 20) p1 p2 (by omega) (by omega) (by omega) (by omega), n_in (l := 0) (h := 20) (zl_lit 0) (zl_lit 20) p1 p2 (by omega) (by omega) (by omega) (by omega), n_within (l := (-9)) (h := 9) (zi_nlit 9) (zi_lit 9) q1 q2 (by omega) (by omega) (by omega) (by omega), n_in (l := (-9)) (h := 9) (zl_nlit 9) (zl_lit 9) q1 q2 (by omega) (by omega) (by omega) (by omega), Option.bind_some, Option.bind_some, Option.bind_some, Option.bind_some, Option.bind_some, Option.bind_some]
  by_cases c : 0 ≤ n ∧ n ≤ 40
  · rw [if_pos c, if_neg z10, if_neg z10]
    by_cases d : 0 ≤ p ∧ p ≤ 20
    · rw [if_pos d, if_neg z10, if_neg z10]
      by_cases f : -9 ≤ q ∧ q ≤ 9
      · obtain ⟨b1, u1, e1, e2, i1, k1, k2⟩ := x_note h hN
        obtain ⟨z, rs, rm, hB, h13⟩ := i1.1
        rw [if_pos f, if_neg z10, if_neg z10, e1, e2, Option.bind_some, Option.bind_some]
        simp only [zc_let]
        have rs3 := s_I6 (s_I5 (s_I4 rs n) p) q
        rw [zi_l n1 n2, zi_l p1 p2, zi_l q1 q2]
        have rm3 := m_set (m_set (m_set rm 5 n) 6 p) 7 q
        have hB3 := zB_up7 (zB_up6 (zB_up5 hB c.1 c.2) d.1 d.2) f.1 f.2
        have b4 := hB.2.1.2.1
        have o1 := s_off rs3 hB3.2.1 (t := z 4) (show -100 ≤ z 4 - n by omega) (show z 4 - n ≤ 100 by omega)
        have o2 := m_off rm3 hB3.2.1 (t := z 4) (show -100 ≤ z 4 - n by omega) (show z 4 - n ≤ 100 by omega)
        have g1 : (zc_bs (zc_bs (zc_bs b1 (zc_sI b1.2.2.1 4 (zi n))) (zc_sI (zc_bs b1 (zc_sI b1.2.2.1 4 (zi n))).2.2.1 5 (zi p))) (zc_sI (zc_bs (zc_bs b1 (zc_sI b1.2.2.1 4 (zi n))) (zc_sI (zc_bs b1 (zc_sI b1.2.2.1 4 (zi n))).2.2.1 5 (zi p))).2.2.1 6 (zi q))) = zc_bs b1 (zc_sI (zc_sI (zc_sI b1.2.2.1 4 (zi n)) 5 (zi p)) 6 (zi q)) := rfl
        rw [g1, show (zc_bs b1 (zc_sI (zc_sI (zc_sI b1.2.2.1 4 (zi n)) 5 (zi p)) 6 (zi q))).2.2.1 = zc_sI (zc_sI (zc_sI b1.2.2.1 4 (zi n)) 5 (zi p)) 6 (zi q) from rfl, show (zc_sI (zc_sI (zc_sI b1.2.2.1 4 (zi n)) 5 (zi p)) 6 (zi q)).2.1 3 = zi (z 4) from rs.2.1.2.1, o1, show (zc_mL (zc_mL (zc_mL u1 0 5 (zl n)) 0 6 (zl p)) 0 7 (zl q)).1 0 4 = zl (z 4) from rm3 4 (by decide), o2, Option.bind_some, Option.bind_some, zl_i]
        exact ⟨_, _, _, rfl, rfl, x_put i1 (by omega) hT ⟨_, rs3, rm3, hB3.mono (by omega) hT, h13⟩ ⟨rfl, rfl, rfl⟩⟩
      · rw [if_neg f, if_pos z00, if_pos z00]
        exact x_same h hT rfl rfl
    · rw [if_neg d, if_pos z00, if_pos z00]
      exact x_same h hT rfl rfl
  · rw [if_neg c, if_pos z00, if_pos z00]
    exact x_same h hT rfl rfl
theorem X_power (h : zInv T b u) (hT : T + 2000 ≤ 1100000) (hN : 100000 < N) {a1 : Int32} (ha : a1 = 0 ∨ a1 = 1) : ∃ r b' u', fX2_power b a1 = some (r, b') ∧ fX3_power N u a1 = some (r, u') ∧ zInv (T + 2000) b' u' := by
  obtain ⟨b1, u1, e1, e2, i1, k1, k2⟩ := x_note h hN
  obtain ⟨z, rs, rm, hB, h13⟩ := i1.1
  have hp := hB.2.1.2.2.2.2.2.2.2.2.1
  unfold fX2_power fX3_power
  simp only [zc_let]
  rw [e1, e2, Option.bind_some, Option.bind_some, show b1.2.2.1.2.1 11 = zi (z 11) from rs.2.1.2.2.2.2.2.2.2.2.1, ← k2, rm 11 (by decide), zl_i]
  have ea : fX2_asInt (zi (z 11)) = some (zi (z 11)) := by
    unfold fX2_asInt
    rcases hp with hp | hp
    · rw [hp]; rfl
    · rw [hp]; rfl
  rw [ea, Option.bind_some]
  rcases ha with rfl | rfl
  · rw [if_pos rfl, show (0 : Int32) = zi 0 from zi_lit 0, zn_z (Or.inl rfl), show (0 : Int64) = zl 0 from zl_lit 0]
    exact ⟨_, _, _, rfl, rfl, x_put i1 (by omega) hT ⟨va_up z 11 0, s_I11 rs 0, m_set rm 11 0, (zB_up11 hB (Or.inl rfl)).mono (by omega) hT, h13⟩ ⟨rfl, rfl, rfl⟩⟩
  · rw [if_neg (by decide), show (1 : Int32) = zi 1 from zi_lit 1, zn_z (Or.inr rfl), show (1 : Int64) = zl 1 from zl_lit 1]
    exact ⟨_, _, _, rfl, rfl, x_put i1 (by omega) hT ⟨va_up z 11 1, s_I11 rs 1, m_set rm 11 1, (zB_up11 hB (Or.inr rfl)).mono (by omega) hT, h13⟩ ⟨rfl, rfl, rfl⟩⟩
theorem zh13 {v : zc_S} (h : zRs z v) : 0 < z 12 → 0 ≤ z 13 ∧ z 13 ≤ 9 := fun hk => by
  rcases h.2.2.2.2.2 hk with q | q
  · omega
  · omega
theorem n_asInt {x : Int} (h : x = 0 ∨ x = 1) : fX2_asInt (zi x) = some (zi x) := by
  unfold fX2_asInt
  rcases h with rfl | rfl <;> rfl
theorem X_hear (h : zInv T b u) (hT : T + 2000 ≤ 1100000) (hN : 100000 < N) (a1 a2 : Int32) : ∃ r b' u', fX2_hear b a1 a2 = some (r, b') ∧ fX3_hear N u a1 a2 = some (r, u') ∧ zInv (T + 2000) b' u' := by
  obtain ⟨n, rfl, n1, n2⟩ := x_arg a1
  obtain ⟨p, rfl, p1, p2⟩ := x_arg a2
  unfold fX2_hear fX3_hear
  rw [n_within (l := (-9999)) (h := 9999) (zi_nlit 9999) (zi_lit 9999) n1 n2 (by omega) (by omega) (by omega) (by omega), n_in (l := (-9999)) (h := 9999) (zl_nlit 9999) (zl_lit 9999) n1 n2 (by omega) (by omega) (by omega) (by omega), n_within (l := 0) (h := 5000) (zi_lit 0) (zi_lit 5000) p1 p2 (by omega) (by omega) (by omega) (by omega), n_in (l := 0) (h := 5000) (zl_lit 0) (zl_lit 5000) p1 p2 (by omega) (by omega) (by omega) (by omega), Option.bind_some, Option.bind_some, Option.bind_some, Option.bind_some]
  by_cases c : -9999 ≤ n ∧ n ≤ 9999
  · rw [if_pos c, if_neg z10, if_neg z10]
    by_cases d : 0 ≤ p ∧ p ≤ 5000
    · obtain ⟨b1, u1, e1, e2, i1, k1, k2⟩ := x_note h hN
      obtain ⟨z, rs, rm, hB, h13⟩ := i1.1
      have hh := zh13 rs
      obtain ⟨v', e3, r3⟩ := s_hear rs hB c.1 c.2 d.1 d.2
      obtain ⟨u', e4, r4, o4⟩ := m_hear rm hB hh h13 c.1 c.2 d.1 d.2
      have hbk : zbk z (z 0 + n) p = 0 ∨ zbk z (z 0 + n) p = 1 := by unfold zbk; split <;> omega
      rw [if_pos d, if_neg z10, if_neg z10, e1, e2, Option.bind_some, Option.bind_some, e3, zi_l n1 n2, zi_l p1 p2, e4, Option.bind_some, Option.bind_some]
      simp only [zc_let]
      rw [n_asInt hbk, Option.bind_some]
      exact ⟨_, _, _, rfl, rfl, x_put i1 (by omega) hT ⟨zhr z n p, r3, r4, (zhr_B hB hh c.1 c.2 d.1 d.2 (by omega)).mono (by omega) hT, show -1 ≤ (-1 : Int) ∧ (-1 : Int) ≤ 9 by omega⟩ o4⟩
    · rw [if_neg d, if_pos z00, if_pos z00]
      exact x_same h hT rfl rfl
  · rw [if_neg c, if_pos z00, if_pos z00]
    exact x_same h hT rfl rfl
theorem n_isSpan2 {n : Int} (n1 : -2147483648 ≤ n) (n2 : n ≤ 2147483647) : fX2_isSpan (zi n) = some (if 0 ≤ n ∧ n ≤ 8 then 1 else 0) := by
  by_cases c : 0 ≤ n ∧ n ≤ 8
  · rw [n_isSpan c.1 c.2, if_pos c]
  · rw [if_neg c]
    unfold fX2_isSpan
    simp only [zi_lit]
    rw [wi_lt (by omega) (by omega) (by omega) (by omega), wi_le (by omega) (by omega) (by omega) (by omega)]
    by_cases d : n < 0
    · rw [if_pos d]
    · rw [if_neg d, if_pos (by omega)]
theorem X_learn (h : zInv T b u) (hT : T + 2000 ≤ 1100000) (hN : 100000 < N) (a1 a2 : Int32) : ∃ r b' u', fX2_learn b a1 a2 = some (r, b') ∧ fX3_learn N u a1 a2 = some (r, u') ∧ zInv (T + 2000) b' u' := by
  obtain ⟨n, rfl, n1, n2⟩ := x_arg a1
  obtain ⟨p, rfl, p1, p2⟩ := x_arg a2
  unfold fX2_learn fX3_learn
  rw [n_isSpan2 n1 n2, n_in (l := 0) (h := 8) (zl_lit 0) (zl_lit 8) n1 n2 (by omega) (by omega) (by omega) (by omega), n_within (l := (-9999)) (h := 9999) (zi_nlit 9999) (zi_lit 9999) p1 p2 (by omega) (by omega) (by omega) (by omega), n_in (l := (-9999)) (h := 9999) (zl_nlit 9999) (zl_lit 9999) p1 p2 (by omega) (by omega) (by omega) (by omega), Option.bind_some, Option.bind_some, Option.bind_some, Option.bind_some]
  by_cases c : 0 ≤ n ∧ n ≤ 8
  · rw [if_pos c, if_neg z10, if_neg z10]
    by_cases d : -9999 ≤ p ∧ p ≤ 9999
    · obtain ⟨b1, u1, e1, e2, i1, k1, k2⟩ := x_note h hN
      obtain ⟨z, rs, rm, hB, h13⟩ := i1.1
      rw [if_pos d, if_neg z10, if_neg z10, e1, e2, Option.bind_some]
      simp only [zc_let]
      rw [show (15 : Int32) = zi 15 from zi_lit 15, zi_add, zn_in (by omega) (by omega) (by omega), Option.bind_some, zn_in (by omega) (by omega) (by omega), zn_in (by omega) (by omega) (by omega), zn_in (by omega) (by omega) (by omega), zi_nat (by omega) (by omega), zi_nat (by omega) (by omega), show (15 + n).toNat = 15 + n.toNat by omega, show b1.2.2.1.2.2.1 n.toNat = zi (z (15 + n.toNat)) from rs.2.2.1 _ (by omega), ← k2, rm _ (by omega), zl_i, zi_l p1 p2]
      exact ⟨_, _, _, rfl, rfl, x_put i1 (by omega) hT ⟨va_up z (15 + n.toNat) p, s_A rs (by omega) p, m_set rm _ p, (zB_upl hB (by omega) d.1 d.2).mono (by omega) hT, by rw [va_up_ne _ _ (by omega)]; exact h13⟩ ⟨rfl, rfl, rfl⟩⟩
    · rw [if_neg d, if_pos z00, if_pos z00]
      exact x_same h hT rfl rfl
  · rw [if_neg c, if_pos z00, if_pos z00]
    exact x_same h hT rfl rfl
end ZDeed
