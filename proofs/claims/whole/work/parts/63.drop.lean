/-! an alarm goes; minutes by draws -/
def zdi (z : Nat → Int) (a i : Nat) : Nat → Int := fun k => if k = 24 then z 24 - 1 else if 25 + 4 * a ≤ k ∧ k < 25 + 4 * i then z (k + 4) else z k
theorem zdi_lo {z : Nat → Int} {a i k : Nat} (hk : k < 24) : zdi z a i k = z k := by
  unfold zdi
  rw [if_neg (by omega), if_neg (by omega)]
section ZDrop
variable {T : Int} {b : zc_B} {u : zc_M} {N : Nat} {z : Nat → Int} {q : zc_Q}
theorem n_has (hq : zRq z q) (hb : zBq z) {n : Int} (n1 : -2147483648 ≤ n) (n2 : n ≤ 2147483647) : fX0_has q (zi n) = some (if 0 ≤ n ∧ n < z 24 then 1 else 0) := by
  have h24 := hb.1
  by_cases c : 0 ≤ n ∧ n < z 24
  · obtain ⟨a, ha⟩ : ∃ a : Nat, (a : Int) = n := ⟨n.toNat, by omega⟩
    rw [if_pos c, ← ha, q_has hq hb (by omega)]
  · rw [if_neg c]
    unfold fX0_has
    rw [hq.1]
    by_cases d : n < 0
    · rw [if_pos (by rw [show (0 : Int32) = zi 0 from zi_lit 0, zi_lt n1 n2 (by omega) (by omega)]; exact d)]
    · rw [if_neg (by rw [show (0 : Int32) = zi 0 from zi_lit 0, zi_lt n1 n2 (by omega) (by omega)]; exact d), if_pos (by rw [zi_le (by omega) (by omega) n1 n2]; omega)]
theorem m_isAlarm (h : zRm z (u.1 0)) (hb : zBq z) {n : Int} (n1 : -2147483648 ≤ n) (n2 : n ≤ 2147483647) : fX3_isAlarm u (zi n) = some (if 0 ≤ n ∧ n < z 24 then 1 else 0) := by
  have h24 := hb.1
  unfold fX3_isAlarm
  rw [h 24 (by decide), n_in (l := 0) (h := z 24 - 1) (zl_lit 0) (by rw [show (1 : Int64) = zl 1 from zl_lit 1, zl_sub]) n1 n2 (by omega) (by omega) (by omega) (by omega), Option.bind_some]
  by_cases c : 0 ≤ n ∧ n < z 24
  · rw [if_pos c, if_pos (by omega)]; rfl
  · rw [if_neg c, if_neg (by omega)]; rfl
theorem zdi_succ (z : Nat → Int) (a i : Nat) (h : a ≤ i) (k : Nat) : zdi z a (i + 1) k = if 25 + 4 * i ≤ k ∧ k < 29 + 4 * i then zdi z a i (k + 4) else zdi z a i k := by
  unfold zdi
  by_cases c : k = 24
  · rw [if_pos c, if_neg (by omega), if_pos c]
  · rw [if_neg c]
    by_cases d : 25 + 4 * i ≤ k ∧ k < 29 + 4 * i
    · rw [if_pos d, if_pos (by omega), if_neg (by omega), if_neg (by omega)]
    · rw [if_neg d, if_neg c]
      by_cases e : 25 + 4 * a ≤ k ∧ k < 25 + 4 * i
      · rw [if_pos e, if_pos (by omega)]
      · rw [if_neg e, if_neg (by omega)]
theorem q_shift (hq : zRq z q) {i : Nat} (hi : i + 1 < 6) : zRq (fun k => if 25 + 4 * i ≤ k ∧ k < 29 + 4 * i then z (k + 4) else z k) (zc_qa (zc_qa (zc_qa (zc_qa q 0 i (q.2 0 (i + 1))) 1 i (q.2 1 (i + 1))) 2 i (q.2 2 (i + 1))) 3 i (q.2 3 (i + 1))) := by
  obtain ⟨s0, s1, s2, s3⟩ := hq.2 (i + 1) hi
  refine ⟨?_, fun a ha => ?_⟩
  · show q.1 = zi (if 25 + 4 * i ≤ 24 ∧ 24 < 29 + 4 * i then z (24 + 4) else z 24)
    rw [if_neg (by omega)]; exact hq.1
  · obtain ⟨p0, p1, p2, p3⟩ := hq.2 a ha
    by_cases c : a = i
    · subst c
      refine ⟨?_, ?_, ?_, ?_⟩
      · show upd (q.2 0) a (q.2 0 (a + 1)) a = zi (if 25 + 4 * a ≤ 25 + 4 * a ∧ 25 + 4 * a < 29 + 4 * a then z (25 + 4 * a + 4) else z (25 + 4 * a))
        rw [pk_us, if_pos (by omega), s0]; congr 2
      · show upd (q.2 1) a (q.2 1 (a + 1)) a = zi (if 25 + 4 * a ≤ 26 + 4 * a ∧ 26 + 4 * a < 29 + 4 * a then z (26 + 4 * a + 4) else z (26 + 4 * a))
        rw [pk_us, if_pos (by omega), s1]; congr 2
      · show upd (q.2 2) a (q.2 2 (a + 1)) a = zi (if 25 + 4 * a ≤ 27 + 4 * a ∧ 27 + 4 * a < 29 + 4 * a then z (27 + 4 * a + 4) else z (27 + 4 * a))
        rw [pk_us, if_pos (by omega), s2]; congr 2
      · show upd (q.2 3) a (q.2 3 (a + 1)) a = zi (if 25 + 4 * a ≤ 28 + 4 * a ∧ 28 + 4 * a < 29 + 4 * a then z (28 + 4 * a + 4) else z (28 + 4 * a))
        rw [pk_us, if_pos (by omega), s3]; congr 2
    · refine ⟨?_, ?_, ?_, ?_⟩
      · show upd (q.2 0) i (q.2 0 (i + 1)) a = zi (if 25 + 4 * i ≤ 25 + 4 * a ∧ 25 + 4 * a < 29 + 4 * i then z (25 + 4 * a + 4) else z (25 + 4 * a))
        rw [pk_un c, if_neg (by omega)]; exact p0
      · show upd (q.2 1) i (q.2 1 (i + 1)) a = zi (if 25 + 4 * i ≤ 26 + 4 * a ∧ 26 + 4 * a < 29 + 4 * i then z (26 + 4 * a + 4) else z (26 + 4 * a))
        rw [pk_un c, if_neg (by omega)]; exact p1
      · show upd (q.2 2) i (q.2 2 (i + 1)) a = zi (if 25 + 4 * i ≤ 27 + 4 * a ∧ 27 + 4 * a < 29 + 4 * i then z (27 + 4 * a + 4) else z (27 + 4 * a))
        rw [pk_un c, if_neg (by omega)]; exact p2
      · show upd (q.2 3) i (q.2 3 (i + 1)) a = zi (if 25 + 4 * i ≤ 28 + 4 * a ∧ 28 + 4 * a < 29 + 4 * i then z (28 + 4 * a + 4) else z (28 + 4 * a))
        rw [pk_un c, if_neg (by omega)]; exact p3
theorem q_removeL (hb : zBq z) {a : Nat} (y : Int32) : ∀ (r n i : Nat) (q : zc_Q), a ≤ i → (i : Int) + r = z 24 - 1 → r < n → zRq (zdi z a i) q → ∃ q', fX0_remove_L N n q y (zi i) = some q' ∧ zRq (zdi z a (z 24 - 1).toNat) q' := by
  intro r
  have h24 := hb.1
  induction r with
  | zero =>
    intro n i q hai hi hn hq
    obtain ⟨n, rfl⟩ : ∃ k, n = k + 1 := ⟨n - 1, by omega⟩
    refine ⟨q, ?_, ?_⟩
    · rw [fX0_remove_L, hq.1, show zdi z a i 24 = z 24 - 1 from rfl, wi_le (by omega) (by omega) (by omega) (by omega), if_pos (by omega)]
    · rw [show (z 24 - 1).toNat = i by omega]; exact hq
  | succ r ih =>
    intro n i q hai hi hn hq
    obtain ⟨n, rfl⟩ : ∃ k, n = k + 1 := ⟨n - 1, by omega⟩
    have hs := q_shift hq (i := i) (by omega)
    have hs' : zRq (zdi z a (i + 1)) _ := (funext (zdi_succ z a i hai)) ▸ hs
    obtain ⟨q', e', r'⟩ := ih n (i + 1) _ (by omega) (by omega) (by omega) hs'
    refine ⟨q', ?_, r'⟩
    have e1 : zi (i : Int) + 1 = zi ((i + 1 : Nat) : Int) := by rw [show (1 : Int32) = zi 1 from zi_lit 1, zi_add]; rfl
    rw [fX0_remove_L, hq.1, show zdi z a i 24 = z 24 - 1 from rfl, wi_le (by omega) (by omega) (by omega) (by omega), if_neg (by omega), e1, show (6 : Int32) = zi 6 from zi_lit 6, wi_le (by omega) (by omega) (by omega) (by omega), if_neg (by omega), zi_nat (by omega) (by omega), zi_nat (by omega) (by omega), Int.toNat_natCast, Int.toNat_natCast]
    simp only [zc_let]
    rw [zn_in (by omega) (by omega) (by omega), zn_in (by omega) (by omega) (by omega), zn_in (by omega) (by omega) (by omega), zn_in (by omega) (by omega) (by omega), zn_in (by omega) (by omega) (by omega), zn_in (by omega) (by omega) (by omega), zn_in (by omega) (by omega) (by omega), zn_in (by omega) (by omega) (by omega)]
    exact e'
theorem zdi_B (h : zB T z) {a : Nat} (ha : (a : Int) < z 24) : zB T (zdi z a (z 24 - 1).toNat) := by
  obtain ⟨ht, ⟨b3, b4, b5, b6, b7, b8, b9, b10, b11, bl⟩, hq⟩ := h
  have h24 := hq.1
  have n : ∀ k, k < 24 → zdi z a (z 24 - 1).toNat k = z k := fun k hk => zdi_lo hk
  refine ⟨?_, ⟨by rw [n 3 (by decide)]; exact b3, by rw [n 4 (by decide)]; exact b4, by rw [n 5 (by decide)]; exact b5, by rw [n 6 (by decide)]; exact b6, by rw [n 7 (by decide)]; exact b7, by rw [n 8 (by decide)]; exact b8, by rw [n 9 (by decide)]; exact b9, by rw [n 10 (by decide)]; exact b10, by rw [n 11 (by decide)]; exact b11, fun k hk => by rw [n (15 + k) (by omega)]; exact bl k hk⟩, ?_, fun c hc => ?_⟩
  · unfold zBt
    rw [n 0 (by decide), n 1 (by decide), n 2 (by decide), n 12 (by decide), n 14 (by decide)]
    exact ht
  · show 0 ≤ z 24 - 1 ∧ z 24 - 1 ≤ 6
    omega
  · have e : ∀ j, j < 4 → zdi z a (z 24 - 1).toNat (25 + j + 4 * c) = if a ≤ c ∧ c < (z 24 - 1).toNat then z (25 + j + 4 * (c + 1)) else z (25 + j + 4 * c) := fun j hj => by
      unfold zdi
      rw [if_neg (by omega)]
      by_cases d : a ≤ c ∧ c < (z 24 - 1).toNat
      · rw [if_pos d, if_pos (by omega), show 25 + j + 4 * c + 4 = 25 + j + 4 * (c + 1) by omega]
      · rw [if_neg d, if_neg (by omega)]
    have e0 := e 0 (by omega)
    have e1 := e 1 (by omega)
    have e2 := e 2 (by omega)
    have e3 := e 3 (by omega)
    simp only [Nat.add_zero, Nat.reduceAdd] at e0 e1 e2 e3
    rw [e0, e1, e2, e3]
    by_cases d : a ≤ c ∧ c < (z 24 - 1).toNat
    · rw [if_pos d, if_pos d, if_pos d, if_pos d]
      exact hq.2 (c + 1) (by omega)
    · rw [if_neg d, if_neg d, if_neg d, if_neg d]
      exact hq.2 c hc
theorem X_drop (h : zInv T b u) (hT : T + 2000 ≤ 1100000) (hN : 100000 < N) (a1 : Int32) : ∃ r b' u', fX2_drop N b a1 = some (r, b') ∧ fX3_drop N u a1 = some (r, u') ∧ zInv (T + 2000) b' u' := by
  obtain ⟨n, rfl, n1, n2⟩ := x_arg a1
  obtain ⟨z, rs0, rm0, hB, h13⟩ := h.1
  have h24 := hB.2.2.1
  unfold fX2_drop fX3_drop
  rw [n_has rs0.2.2.2.1 hB.2.2 n1 n2, m_isAlarm rm0 hB.2.2 n1 n2, Option.bind_some, Option.bind_some]
  by_cases c : 0 ≤ n ∧ n < z 24
  · obtain ⟨a, ha⟩ : ∃ a : Nat, (a : Int) = n := ⟨n.toNat, by omega⟩
    subst ha
    obtain ⟨b1, u1, e1, e2, i1, k1, k2⟩ := x_note h hN
    have rs : zRs z b1.2.2.1 := by rw [k1]; exact rs0
    have rm : zRm z (u1.1 0) := by rw [k2]; exact rm0
    have hq0 : zRq (zdi z a a) (zc_qn b1.2.2.1.2.2.2 (zi (z 24 - 1))) := by
      have e : ∀ k, k ≠ 24 → zdi z a a k = z k := fun k hk => by unfold zdi; rw [if_neg hk, if_neg (by omega)]
      refine ⟨rfl, fun d hd => ?_⟩
      rw [e _ (by omega), e _ (by omega), e _ (by omega), e _ (by omega)]
      exact rs.2.2.2.1.2 d hd
    obtain ⟨q', e3, r3⟩ := q_removeL (N := N) hB.2.2 (a := a) (zi a) (z 24 - 1 - a).toNat N a _ (Nat.le_refl a) (by omega) (by omega) hq0
    have eR : fX0_remove N b1.2.2.1.2.2.2 (zi a) = some q' := by
      unfold fX0_remove
      simp only [zc_let]
      rw [n_has rs.2.2.2.1 hB.2.2 (by omega) (by omega), if_pos c, Option.bind_some, if_neg z10, show b1.2.2.1.2.2.2.1 = zi (z 24) from rs.2.2.2.1.1, show (1 : Int32) = zi 1 from zi_lit 1, zi_sub]
      exact e3
    have r4 := m_set rm 24 (z 24 - 1)
    have g := m_bring1 ((zc_mL u1 0 24 (zl (z 24 - 1))).1 0) (i := 29 + 4 * a) (j := 25 + 4 * a) (n := 4 * ((z 24 - 1).toNat - a)) (n0 := 49) (by omega) (by omega) (by omega) hN
    rw [if_pos c, if_neg z10, if_neg z10, e1, e2, Option.bind_some, Option.bind_some, eR, Option.bind_some]
    simp only [zc_let]
    rw [rm 24 (by decide), show (1 : Int64) = zl 1 from zl_lit 1, zl_sub, show (zc_mL u1 0 24 (zl (z 24 - 1))).1 0 24 = zl (z 24 - 1) from r4 24 (by decide), zl_i, show (25 : Int32) = zi 25 from zi_lit 25, show (4 : Int32) = zi 4 from zi_lit 4, zi_sub, zi_mul, zi_mul, zi_add, zi_add,
      show (25 : Int) + 4 * (a : Int) + 4 = ((29 + 4 * a : Nat) : Int) by omega, show (25 : Int) + 4 * (a : Int) = ((25 + 4 * a : Nat) : Int) by omega, show (4 : Int) * (z 24 - 1 - (a : Int)) = ((4 * ((z 24 - 1).toNat - a) : Nat) : Int) by omega, g, Option.bind_some, show (zc_bs b1 (zc_sq b1.2.2.1 q')).2.2.1.2.2.2.1 = zi (z 24 - 1) from r3.1]
    refine ⟨_, _, _, rfl, rfl, x_put i1 (by omega) hT ⟨zdi z a (z 24 - 1).toNat, s_q rs (fun k hk => zdi_lo hk) r3, fun k hk => ?_, (zdi_B hB c.2).mono (by omega) hT, by rw [zdi_lo (by decide)]; exact h13⟩ ⟨rfl, rfl, rfl⟩⟩
    show zbr ((zc_mL u1 0 24 (zl (z 24 - 1))).1 0) ((zc_mL u1 0 24 (zl (z 24 - 1))).1 0) (29 + 4 * a) (25 + 4 * a) (4 * ((z 24 - 1).toNat - a)) k = _
    unfold zbr zdi
    by_cases c24 : k = 24
    · rw [if_pos c24, if_neg (by omega), c24]; exact r4 24 (by decide)
    · rw [if_neg c24]
      by_cases d : 25 + 4 * a ≤ k ∧ k < 25 + 4 * (z 24 - 1).toNat
      · rw [if_pos d, if_pos (by omega), show 29 + 4 * a + (k - (25 + 4 * a)) = k + 4 by omega, r4 (k + 4) (by omega), va_up_ne _ _ (by omega)]
      · rw [if_neg d, if_neg (by omega), r4 k hk, va_up_ne _ _ c24]
  · rw [if_neg c, if_pos z00, if_pos z00]
    exact x_same h hT rfl rfl
/-! draws -/
theorem zl_mask {a : Int} (h1 : 0 ≤ a) (h2 : a ≤ 9223372036854775807) : zl a &&& 2147483647 = zl (a % 2147483648) := by
  have e1 : (zl a).toBitVec.toNat = a.toNat := by
    have : (zl a).toInt = a := zl_toInt (by omega) h2
    have h3 : (zl a).toBitVec.toInt = a := this
    have h4 := BitVec.toInt_eq_toNat_cond (zl a).toBitVec
    have h5 := (zl a).toBitVec.isLt
    rw [h3] at h4
    split at h4 <;> omega
  have e2 : (zl (a % 2147483648)).toBitVec.toNat = (a % 2147483648).toNat := by
    have : (zl (a % 2147483648)).toInt = a % 2147483648 := zl_toInt (by omega) (by omega)
    have h3 : (zl (a % 2147483648)).toBitVec.toInt = a % 2147483648 := this
    have h4 := BitVec.toInt_eq_toNat_cond (zl (a % 2147483648)).toBitVec
    have h5 := (zl (a % 2147483648)).toBitVec.isLt
    rw [h3] at h4
    split at h4 <;> omega
  apply Int64.toBitVec_inj.mp
  apply BitVec.eq_of_toNat_eq
  rw [e2]
  show ((zl a).toBitVec &&& (2147483647 : Int64).toBitVec).toNat = _
  rw [BitVec.toNat_and, e1, show (2147483647 : Int64).toBitVec.toNat = 2 ^ 31 - 1 from rfl, Nat.and_two_pow_sub_one_eq_mod]
  omega
def znx (s : Int) : Int := (s * 1103515245 + 12345) % 2147483648
theorem znx_bd (s : Int) : 0 ≤ znx s ∧ znx s ≤ 2147483647 := by unfold znx; omega
theorem c_draw {s n : Int} (hs : b.1 0 = zi s) (s1 : 0 ≤ s) (s2 : s ≤ 2147483647) (n1 : 1 ≤ n) (n2 : n ≤ 10000) {m : Int32} (hm : m = zi n) : fX2_draw b m = some (zi (znx s / 65536 % n), zc_bI b 0 (zi (znx s))) := by
  subst hm
  have hb := znx_bd s
  have e : ((((b.1 0).toInt64 * (1103515245 : Int64)) + (12345 : Int64)) &&& (2147483647 : Int64)).toInt32 = zi (znx s) := by
    rw [hs, zi_l (by omega) (by omega), show (1103515245 : Int64) = zl 1103515245 from zl_lit 1103515245, show (12345 : Int64) = zl 12345 from zl_lit 12345, zl_mul, zl_add, zl_mask (by omega) (by omega), zl_i]
    rfl
  unfold fX2_draw
  simp only [zc_let]
  rw [e, show (zc_bI b 0 (zi (znx s))).1 0 = zi (znx s) from rfl, if_neg (by rw [show (0 : Int32) = zi 0 from zi_lit 0, zi_le (by omega) (by omega) (by omega) (by omega)]; omega), zn_nz (by omega) (by omega) (by omega), show (65536 : Int32) = zi 65536 from zi_lit 65536, zi_divp (by omega) (by omega) (by omega) (by omega), zi_divp (by omega) (by omega) (by omega) (by omega), zi_mul, zi_sub]
  have : znx s / 65536 - znx s / 65536 / n * n = znx s / 65536 % n := by
    have := Int.emod_add_mul_ediv (znx s / 65536) n
    rw [Int.mul_comm] at this
    omega
  rw [this]
theorem m_draw {s n : Int} (hs : u.2.2.2 = zl s) (s1 : 0 ≤ s) (s2 : s ≤ 2147483647) (n1 : 1 ≤ n) (n2 : n ≤ 10000) {m : Int32} (hm : m = zi n) : fX3_draw u m = some (zl (znx s / 65536 % n), zc_mS u (zl (znx s))) := by
  subst hm
  have hb := znx_bd s
  have e : (((u.2.2.2) * (1103515245 : Int64)) + (12345 : Int64)) - (((u.2.2.2) * (1103515245 : Int64)) + (12345 : Int64)) / (2147483648 : Int64) * (2147483648 : Int64) = zl (znx s) := by
    rw [hs, show (1103515245 : Int64) = zl 1103515245 from zl_lit 1103515245, show (12345 : Int64) = zl 12345 from zl_lit 12345, show (2147483648 : Int64) = zl 2147483648 from zl_lit 2147483648, zl_mul, zl_add, zl_divp (by omega) (by omega) (by omega) (by omega), zl_mul, zl_sub]
    unfold znx
    congr 1
    omega
  unfold fX3_draw
  simp only [zc_let]
  rw [e, show (zc_mS u (zl (znx s))).2.2.2 = zl (znx s) from rfl, zi_l (by omega) (by omega), zn_nzL (by omega) (by omega) (by omega), show (65536 : Int64) = zl 65536 from zl_lit 65536, zl_divp (by omega) (by omega) (by omega) (by omega), zl_divp (by omega) (by omega) (by omega) (by omega), zl_mul, zl_sub]
  have : znx s / 65536 - znx s / 65536 / n * n = znx s / 65536 % n := by
    have := Int.emod_add_mul_ediv (znx s / 65536) n
    rw [Int.mul_comm] at this
    omega
  rw [this]
theorem x_seed (h : zInv T b u) {s : Int} (h1 : 0 ≤ s) (h2 : s ≤ 2147483647) : zInv T (zc_bI b 0 (zi s)) (zc_mS u (zl s)) := ⟨h.1, h.2.1, h.2.2.1, h.2.2.2.1, s, rfl, rfl, h1, h2⟩
theorem m_noteS {u1 : zc_M} (h : fX3_notes N u = some u1) (s : Int64) : fX3_notes N (zc_mS u s) = some (zc_mS u1 s) := by
  unfold fX3_notes at h ⊢
  simp only [zc_let] at h ⊢
  by_cases c : u.2.2.1 0 = 20
  · rw [if_pos c] at h
    rw [if_pos (show (zc_mS u s).2.2.1 0 = 20 from c)]
    obtain ⟨r5, e5, h⟩ := zc_bind h
    obtain ⟨r8, e8, h⟩ := zc_bind h
    rw [show fX3_bring1 N 980 ((zc_mS u s).1 1) 49 0 931 = some r5 from e5, Option.bind_some, show fX3_bring2 N 49 980 ((zc_mI (zc_mf (zc_mS u s) 1 r5) 0 ((zc_mf (zc_mS u s) 1 r5).2.2.1 0 - 1)).1 1) ((zc_mI (zc_mf (zc_mS u s) 1 r5) 0 ((zc_mf (zc_mS u s) 1 r5).2.2.1 0 - 1)).1 0) 0 (49 * (zc_mI (zc_mf (zc_mS u s) 1 r5) 0 ((zc_mf (zc_mS u s) 1 r5).2.2.1 0 - 1)).2.2.1 0) 49 = some r8 from e8, Option.bind_some]
    obtain rfl := Option.some.inj h
    rfl
  · rw [if_neg c] at h
    rw [if_neg (show ¬ (zc_mS u s).2.2.1 0 = 20 from c)]
    obtain ⟨r2, e2, h⟩ := zc_bind h
    rw [show fX3_bring2 N 49 980 ((zc_mS u s).1 1) ((zc_mS u s).1 0) 0 (49 * (zc_mS u s).2.2.1 0) 49 = some r2 from e2, Option.bind_some]
    obtain rfl := Option.some.inj h
    rfl
theorem c_remS {b1 : zc_B} (h : fX2_remember b = some b1) : b1.1 0 = b.1 0 := by
  unfold fX2_remember at h
  simp only [zc_let] at h
  obtain ⟨_, h⟩ := zc_inE h
  obtain ⟨r2, e2, h⟩ := zc_bind h
  obtain ⟨r4, e4, h⟩ := zc_bind h
  obtain rfl := Option.some.inj h
  rfl
/-- one time by draws -/
theorem x_act (h : zInv T b u) (hT : T + 2000 ≤ 1100000) (hN : 100000 < N) (y1 y2 : Int32) (n : Nat) : ∃ b' u', fX2_actByDraws N b = some b' ∧ fX3_drift_L N (n + 1) u y1 y2 = (if y1 ≤ y2 then (Option.bind (fX3_allRings N u) fun (r4 : Int64) => some ((r4).toInt32, u)) else fX3_drift_L N n u' y1 (y2 + 1)) ∧ zInv (T + 1) b' u' := by
  obtain ⟨b1, u1, e1, e2, i1, k1, k2⟩ := x_note h hN
  obtain ⟨-, -, -, -, s, hs1, hs2, hs3, hs4⟩ := h
  have hb1 : b1.1 0 = zi s := by rw [c_remS e1]; exact hs1
  obtain ⟨s1, q1, q1', d1, d1'⟩ : ∃ s1 : Int, 0 ≤ s1 ∧ s1 ≤ 2147483647 ∧ fX2_draw b1 8 = some (zi (s1 / 65536 % 8), zc_bI b1 0 (zi s1)) ∧ fX3_draw u 8 = some (zl (s1 / 65536 % 8), zc_mS u (zl s1)) := ⟨znx s, (znx_bd s).1, (znx_bd s).2, c_draw hb1 hs3 hs4 (by omega) (by omega) (zi_lit 8), m_draw hs2 hs3 hs4 (by omega) (by omega) (zi_lit 8)⟩
  obtain ⟨s2, q2, q2', d2, d2'⟩ : ∃ s2 : Int, 0 ≤ s2 ∧ s2 ≤ 2147483647 ∧ fX2_draw (zc_bI b1 0 (zi s1)) 90 = some (zi (s2 / 65536 % 90), zc_bI (zc_bI b1 0 (zi s1)) 0 (zi s2)) ∧ fX3_draw (zc_mS u (zl s1)) 90 = some (zl (s2 / 65536 % 90), zc_mS (zc_mS u (zl s1)) (zl s2)) := ⟨znx s1, (znx_bd s1).1, (znx_bd s1).2, c_draw rfl q1 q1' (by omega) (by omega) (zi_lit 90), m_draw rfl q1 q1' (by omega) (by omega) (zi_lit 90)⟩
  obtain ⟨s3, q3, q3', d3, d3'⟩ : ∃ s3 : Int, 0 ≤ s3 ∧ s3 ≤ 2147483647 ∧ fX2_draw (zc_bI (zc_bI b1 0 (zi s1)) 0 (zi s2)) 1001 = some (zi (s3 / 65536 % 1001), zc_bI (zc_bI (zc_bI b1 0 (zi s1)) 0 (zi s2)) 0 (zi s3)) ∧ fX3_draw (zc_mS (zc_mS u (zl s1)) (zl s2)) 1001 = some (zl (s3 / 65536 % 1001), zc_mS (zc_mS (zc_mS u (zl s1)) (zl s2)) (zl s3)) := ⟨znx s2, (znx_bd s2).1, (znx_bd s2).2, c_draw rfl q2 q2' (by omega) (by omega) (zi_lit 1001), m_draw rfl q2 q2' (by omega) (by omega) (zi_lit 1001)⟩
  have i9 := x_seed (x_seed (x_seed i1 q1 q1') q2 q2') q3 q3'
  have e14 := m_noteS (m_noteS (m_noteS e2 (zl s1)) (zl s2)) (zl s3)
  generalize zc_bI (zc_bI (zc_bI b1 0 (zi s1)) 0 (zi s2)) 0 (zi s3) = b9 at d3 i9
  generalize zc_mS (zc_mS (zc_mS u1 (zl s1)) (zl s2)) (zl s3) = u9 at e14 i9
  obtain ⟨z, rs, rm, hB, h13⟩ := i9.1
  obtain ⟨k, hk⟩ : ∃ k, k = s1 / 65536 % 8 := ⟨_, rfl⟩
  obtain ⟨w, hw⟩ : ∃ w, w = s2 / 65536 % 90 := ⟨_, rfl⟩
  obtain ⟨e, he⟩ : ∃ e, e = s3 / 65536 % 1001 := ⟨_, rfl⟩
  rw [← hk] at d1 d1'
  rw [← hw] at d2 d2'
  rw [← he] at d3 d3'
  have kk : 0 ≤ k ∧ k < 8 := by omega
  have ww : 0 ≤ w ∧ w < 90 := by omega
  have ee : 0 ≤ e ∧ e < 1001 := by omega
  clear hk hw he
  rw [fX3_drift_L]
  unfold fX2_actByDraws
  simp only [zc_let]
  rw [e1, Option.bind_some, d1, Option.bind_some, d1', Option.bind_some]
  dsimp only
  rw [d2, Option.bind_some, d2', Option.bind_some]
  dsimp only
  rw [d3, Option.bind_some, d3', Option.bind_some]
  dsimp only
  rw [e14, Option.bind_some, show (20 : Int32) = zi 20 from zi_lit 20, show (20 : Int64) = zl 20 from zl_lit 20, show (500 : Int32) = zi 500 from zi_lit 500, show (500 : Int64) = zl 500 from zl_lit 500, zi_sub, zl_sub, zi_sub, zl_sub]
  by_cases c0 : k = 0
  · rw [if_pos (show zi k = 0 by rw [c0]; exact (zi_lit 0).symm), if_pos (show lg_cmp (zl k) 0 = 0 by rw [show (0 : Int64) = zl 0 from zl_lit 0, zg_eq (by omega) (by omega) (by omega) (by omega)]; exact c0)]
    exact ⟨_, zc_mL u9 0 4 (zl (w - 20)), rfl, rfl, x_put i9 (by omega) (by omega) ⟨va_up z 4 (w - 20), s_I3 rs _, m_set rm 4 _, (zB_up4 hB (by omega) (by omega)).mono (by omega) (by omega), h13⟩ ⟨rfl, rfl, rfl⟩⟩
  · rw [if_neg (show ¬ zi k = 0 by rw [show (0 : Int32) = zi 0 from zi_lit 0, zi_eq (by omega) (by omega) (by omega) (by omega)]; exact c0), if_neg (show ¬ lg_cmp (zl k) 0 = 0 by rw [show (0 : Int64) = zl 0 from zl_lit 0, zg_eq (by omega) (by omega) (by omega) (by omega)]; exact c0)]
    by_cases c1 : k = 1
    · have hh := zh13 rs
      obtain ⟨v', e3, r3⟩ := s_hear rs hB (e := e - 500) (c := 500) (by omega) (by omega) (by omega) (by omega)
      obtain ⟨u', e4, r4, o4⟩ := m_hear rm hB hh h13 (e := e - 500) (c := 500) (by omega) (by omega) (by omega) (by omega)
      rw [if_pos (show zi k = 1 by rw [c1]; exact (zi_lit 1).symm), if_pos (show lg_cmp (zl k) 1 = 0 by rw [show (1 : Int64) = zl 1 from zl_lit 1, zg_eq (by omega) (by omega) (by omega) (by omega)]; exact c1), e3, Option.bind_some, e4, Option.bind_some]
      exact ⟨_, u', rfl, rfl, x_put i9 (by omega) (by omega) ⟨zhr z (e - 500) 500, r3, r4, zhr_B hB hh (by omega) (by omega) (by omega) (by omega) (by omega), show -1 ≤ (-1 : Int) ∧ (-1 : Int) ≤ 9 by omega⟩ o4⟩
    · obtain ⟨v', e3, r3⟩ := s_pass rs hB hT (n := 1) (by omega) (by omega) hN
      obtain ⟨u', e4, r4, o4⟩ := m_goes rm hB h13 (n := 1) (by omega) (by omega) hT hN
      rw [if_neg (show ¬ zi k = 1 by rw [show (1 : Int32) = zi 1 from zi_lit 1, zi_eq (by omega) (by omega) (by omega) (by omega)]; exact c1), if_neg (show ¬ lg_cmp (zl k) 1 = 0 by rw [show (1 : Int64) = zl 1 from zl_lit 1, zg_eq (by omega) (by omega) (by omega) (by omega)]; exact c1)]
      have g3 : fX1_pass N b9.2.2.1 1 = some (zbit z (z 1 / 60000) (ztot z 1) (z 24).toNat, v') := by rw [show (1 : Int32) = zi 1 from zi_lit 1]; exact e3
      have g4 : fX3_goes N u9 1 = some (zbit z (z 1 / 60000) (ztot z 1) (z 24).toNat, u') := by rw [show (1 : Int32) = zi 1 from zi_lit 1]; exact e4
      rw [g3, Option.bind_some, g4, Option.bind_some]
      exact ⟨_, u', rfl, rfl, x_put i9 (by omega) (by omega) ⟨zgo z 1, r3, r4, zgo_B hB (by omega) (by omega) (by omega), zgo_13 hB.2.1 1⟩ o4⟩
theorem x_driftL (hN : 100000 < N) {m : Nat} (hm : m ≤ 20) : ∀ (r n i : Nat) (T : Int) (b : zc_B) (u : zc_M), i + r = m → r < n → T + r + 2000 ≤ 1100000 → zInv T b u → ∃ x b' u', fX2_drift_L N n b (zi m) (zi i) = some (x, b') ∧ fX3_drift_L N n u (zi m) (zi i) = some (x, u') ∧ zInv (T + r) b' u' := by
  intro r
  induction r with
  | zero =>
    intro n i T b u hi hn hT h
    obtain ⟨n, rfl⟩ : ∃ k, n = k + 1 := ⟨n - 1, by omega⟩
    obtain rfl : i = m := by omega
    obtain ⟨z, rs, rm, hB, h13⟩ := h.1
    rw [fX2_drift_L, fX3_drift_L, wi_le (by omega) (by omega) (by omega) (by omega), wi_le (by omega) (by omega) (by omega) (by omega), if_pos (by omega), if_pos (by omega), q_total rs.2.2.2.1 hB.2.2 hN, m_all rm hB.2.2 hN, Option.bind_some, Option.bind_some, zl_i]
    exact ⟨_, _, _, rfl, rfl, h.mono (by omega) (by omega)⟩
  | succ r ih =>
    intro n i T b u hi hn hT h
    obtain ⟨n, rfl⟩ : ∃ k, n = k + 1 := ⟨n - 1, by omega⟩
    obtain ⟨b1, u1, e1, e2, i1⟩ := x_act h (by omega) hN (zi m) (zi i) n
    have e : zi (i : Int) + 1 = zi ((i + 1 : Nat) : Int) := by rw [show (1 : Int32) = zi 1 from zi_lit 1, zi_add]; rfl
    obtain ⟨x, b', u', g1, g2, g3⟩ := ih n (i + 1) (T + 1) b1 u1 (by omega) (by omega) (by omega) i1
    rw [e2, fX2_drift_L, wi_le (by omega) (by omega) (by omega) (by omega), wi_le (by omega) (by omega) (by omega) (by omega), if_neg (by omega), if_neg (by omega), e1, Option.bind_some]
    simp only [zc_let]
    rw [e]
    refine ⟨x, b', u', g1, g2, ?_⟩
    rw [show T + ((r + 1 : Nat) : Int) = T + 1 + (r : Int) by omega]
    exact g3
theorem X_drift (h : zInv T b u) (hT : T + 4000 ≤ 1100000) (hN : 100000 < N) (a1 : Int32) : ∃ r b' u', fX2_drift N b a1 = some (r, b') ∧ fX3_drift N u a1 = some (r, u') ∧ zInv (T + 2000) b' u' := by
  obtain ⟨n, rfl, n1, n2⟩ := x_arg a1
  unfold fX2_drift fX3_drift
  rw [n_within (l := 1) (h := 20) (zi_lit 1) (zi_lit 20) n1 n2 (by omega) (by omega) (by omega) (by omega), n_in (l := 1) (h := 20) (zl_lit 1) (zl_lit 20) n1 n2 (by omega) (by omega) (by omega) (by omega), Option.bind_some, Option.bind_some]
  by_cases c : 1 ≤ n ∧ n ≤ 20
  · obtain ⟨m, hm⟩ : ∃ m : Nat, (m : Int) = n := ⟨n.toNat, by omega⟩
    subst hm
    obtain ⟨x, b', u', g1, g2, g3⟩ := x_driftL hN (m := m) (by omega) m N 0 T b u (by omega) (by omega) (by omega) h
    rw [if_pos c, if_neg z10, if_neg z10, show (0 : Int32) = zi ((0 : Nat) : Int) from zi_lit 0]
    exact ⟨x, b', u', g1, g2, g3.mono (by omega) (by omega)⟩
  · rw [if_neg c, if_pos z00, if_pos z00]
    exact x_same h (by omega) rfl rfl
end ZDrop
