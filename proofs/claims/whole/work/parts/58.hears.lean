/-! a time heard by the reference; bounds of what comes out -/
section ZHears
variable {z : Nat → Int} {u : zc_M} {T : Int}
theorem zW_eq {L H : Int} (h : L ≤ H) : (if (if 0 ≤ L - 16 * ((L + H) / 32) then L - 16 * ((L + H) / 32) else -(L - 16 * ((L + H) / 32))) ≤ (if 0 ≤ H - 16 * ((L + H) / 32) then H - 16 * ((L + H) / 32) else -(H - 16 * ((L + H) / 32))) then (if 0 ≤ H - 16 * ((L + H) / 32) then H - 16 * ((L + H) / 32) else -(H - 16 * ((L + H) / 32))) else (if 0 ≤ L - 16 * ((L + H) / 32) then L - 16 * ((L + H) / 32) else -(L - 16 * ((L + H) / 32)))) = zW L H := by
  unfold zW
  (repeat' split) <;> omega
theorem m_tail2 (h : zRm z (u.1 0)) {L H : Int} (h1 : -1000000000000000 ≤ L) (h2 : L ≤ H) (h4 : H ≤ 1000000000000000) {s : Int32} {i : Int} (hs : s.toInt64 = zl i) : ∃ u', (Option.bind (fX3_down (zl L + zl H) (32 : Int64)) fun (r9 : Int64) => zc_let (zc_mL u 0 14 ((u.1 0 14) + s.toInt64)) fun (u10 : zc_M) => zc_let (zc_mL u10 0 2 (r9 - (u10.1 0 1))) fun (u11 : zc_M) => Option.bind (fX3_size (zl L - ((16 : Int64) * r9))) fun (r12 : Int64) => Option.bind (fX3_size (zl H - ((16 : Int64) * r9))) fun (r13 : Int64) => Option.bind (fX3_greater r12 r13) fun (r14 : Int64) => zc_let (zc_mL u11 0 3 r14) fun (u15 : zc_M) => zc_let (zc_mL u15 0 12 (0 : Int64)) fun (u16 : zc_M) => zc_let (zc_mL u16 0 13 (-1 : Int64)) fun (u17 : zc_M) => some (s, u17)) = some (s, u') ∧ zRm (va_up (va_up (va_up (va_up (va_up z 14 (z 14 + i)) 2 ((L + H) / 32 - z 1)) 3 (zW L H)) 12 0) 13 (-1)) (u'.1 0) ∧ zOth u u' := by
  unfold zc_let
  rw [zl_add, n_down32 (by omega) (by omega), Option.bind_some, hs, h 14 (by decide), zl_add]
  dsimp only
  have r10 := m_set h 14 (z 14 + i)
  rw [show (zc_mL u 0 14 (zl (z 14 + i))).1 0 1 = zl (z 1) from r10 1 (by decide), zl_sub, show (16 : Int64) = zl 16 from zl_lit 16, zl_mul, zl_sub, zl_sub, n_size (by omega) (by omega), n_size (by omega) (by omega), Option.bind_some, Option.bind_some, n_greater (by split <;> omega) (by split <;> omega) (by split <;> omega) (by split <;> omega), Option.bind_some, zW_eq h2, show (0 : Int64) = zl 0 from zl_lit 0, show (-1 : Int64) = zl (-1) by rw [← zl_neg, ← zl_lit]]
  have r11 := m_set r10 2 ((L + H) / 32 - z 1)
  have r15 := m_set r11 3 (zW L H)
  have r16 := m_set r15 12 0
  have r17 := m_set r16 13 (-1)
  exact ⟨_, rfl, r17, rfl, rfl, rfl⟩
theorem m_hear (h : zRm z (u.1 0)) (hB : zB T z) (h13 : 0 < z 12 → 0 ≤ z 13 ∧ z 13 ≤ 9) (h13' : -1 ≤ z 13 ∧ z 13 ≤ 9) {e c : Int} (h1 : -9999 ≤ e) (h2 : e ≤ 9999) (h3 : 0 ≤ c) (h4 : c ≤ 5000) : ∃ u', fX3_hears u (zl e) (zl c) = some (zi (zbk z (z 0 + e) c), u') ∧ zRm (zhr z e c) (u'.1 0) ∧ zOth u u' := by
  obtain ⟨ht, hb, hq⟩ := hB
  have ht' := ht
  obtain ⟨⟨t1, t2⟩, ⟨x0, y0⟩, ⟨x1, y1⟩, ⟨x2, y2⟩, ⟨x12, y12⟩, ⟨x14, y14⟩⟩ := ht'
  have hb3 := hb.1
  obtain ⟨⟨l1, l2⟩, ⟨l3, l4⟩, -⟩ := zlohi_bd ht hb (t := z 0 + e) (c := c) (by omega) (by omega) h3 h4
  obtain ⟨u2, e2, r2, o2⟩ := m_learn h ht hb h13 h13' (t := z 0 + e) (by omega) (by omega)
  have ha := m_aim r2
  rw [zlr_lo (by decide), zlr_lo (by decide)] at ha
  have g4 : fX3_greater ((16 : Int64) * (zl (z 0 + e) - zl c)) (((16 : Int64) * zl (z 1 + z 2)) - (u2.1 0 3)) = some (zl (zlo z (z 0 + e) c)) := by
    rw [r2 3 (by decide), zlr_lo (by decide), show (16 : Int64) = zl 16 from zl_lit 16, zl_sub, zl_mul, zl_mul, zl_sub, n_greater (by omega) (by omega) (by omega) (by omega)]
    refine congrArg (fun x => some (zl x)) ?_
    unfold zlo
    (repeat' split) <;> omega
  have g6 : fX3_lesser ((16 : Int64) * (zl (z 0 + e) + zl c)) (((16 : Int64) * zl (z 1 + z 2)) + (u2.1 0 3)) = some (zl (zhi z (z 0 + e) c)) := by
    rw [r2 3 (by decide), zlr_lo (by decide), show (16 : Int64) = zl 16 from zl_lit 16, zl_add, zl_mul, zl_mul, zl_add, n_lesser (by omega) (by omega) (by omega) (by omega)]
    refine congrArg (fun x => some (zl x)) ?_
    unfold zhi
    (repeat' split) <;> omega
  have g19 : (16 : Int64) * (zl (z 0 + e) - zl c) = zl ((z 0 + e - c) * 16) := by rw [show (16 : Int64) = zl 16 from zl_lit 16, zl_sub, zl_mul, Int.mul_comm]
  have g20 : (16 : Int64) * (zl (z 0 + e) + zl c) = zl ((z 0 + e + c) * 16) := by rw [show (16 : Int64) = zl 16 from zl_lit 16, zl_add, zl_mul, Int.mul_comm]
  unfold fX3_hears
  rw [h 0 (by decide), zl_add, zc_let, e2, Option.bind_some, ha, Option.bind_some, g4, Option.bind_some, Option.bind_some, g6, Option.bind_some, wg_le (by omega) (by omega) (by omega) (by omega)]
  by_cases cc : zlo z (z 0 + e) c ≤ zhi z (z 0 + e) c
  · rw [if_pos cc]
    obtain ⟨u', e', r', o'⟩ := m_tail2 r2 (L := zlo z (z 0 + e) c) (H := zhi z (z 0 + e) c) (s := 0) (i := 0) (by omega) cc (by omega) (by decide)
    have eb : zi (zbk z (z 0 + e) c) = 0 := by unfold zbk; rw [if_pos cc]; exact (zi_lit 0).symm
    rw [eb]
    refine ⟨u', e', zRm_congr (fun k _ => ?_) r', o2.trans o'⟩
    rw [zhr_ok cc k]
    by_cases k13 : k = 13
    · subst k13; rw [va_up_self, va_up_ne _ _ (by decide), va_up_self]
    · rw [va_up_ne _ _ k13]
      by_cases k12 : k = 12
      · subst k12; rw [va_up_self, va_up_self]
      · rw [va_up_ne _ _ k12, va_up_ne _ _ k12, va_up_ne _ _ k13]
        by_cases k2 : k = 2
        · subst k2; rw [va_up_self, va_up_ne _ _ (by decide), va_up_self]
        · rw [va_up_ne _ _ k2]
          by_cases k3 : k = 3
          · subst k3; rw [va_up_self, va_up_self]
          · rw [va_up_ne _ _ k3, va_up_ne _ _ k3, va_up_ne _ _ k2]
            by_cases k14 : k = 14
            · subst k14; rw [va_up_self, Int.add_zero]
            · rw [va_up_ne _ _ k14]
  · rw [if_neg cc, g19, g20, zc_let, zc_let]
    obtain ⟨u', e', r', o'⟩ := m_tail2 r2 (L := (z 0 + e - c) * 16) (H := (z 0 + e + c) * 16) (s := 1) (i := 1) (by omega) (by omega) (by omega) (by decide)
    have eb : zi (zbk z (z 0 + e) c) = 1 := by unfold zbk; rw [if_neg cc]; exact (zi_lit 1).symm
    rw [eb]
    refine ⟨u', e', zRm_congr (fun k _ => ?_) r', o2.trans o'⟩
    rw [zhr_br cc k]
    by_cases k13 : k = 13
    · subst k13; rw [va_up_self, va_up_ne _ _ (by decide), va_up_self]
    · rw [va_up_ne _ _ k13]
      by_cases k12 : k = 12
      · subst k12; rw [va_up_self, va_up_self]
      · rw [va_up_ne _ _ k12, va_up_ne _ _ k12, va_up_ne _ _ k13]
        by_cases k2 : k = 2
        · subst k2; rw [va_up_self, va_up_ne _ _ (by decide), va_up_ne _ _ (by decide), va_up_self]
        · rw [va_up_ne _ _ k2]
          by_cases k3 : k = 3
          · subst k3; rw [va_up_self, va_up_self]
          · rw [va_up_ne _ _ k3, va_up_ne _ _ k3, va_up_ne _ _ k2]
            by_cases k14 : k = 14
            · subst k14; rw [va_up_self, va_up_self, zlr_lo (by decide)]
            · rw [va_up_ne _ _ k14, va_up_ne _ _ k14]
/-! bounds of what comes out -/
theorem zgo_13 (hb : zBs z) (n : Int) : -1 ≤ zgo z n 13 ∧ zgo z n 13 ≤ 9 := by
  obtain ⟨p1, p2⟩ := zspan_bd hb
  show -1 ≤ zlik z ∧ zlik z ≤ 9
  unfold zlik
  split <;> omega
theorem zgo_hi {n : Int} {k : Nat} (hk : 25 ≤ k) : zgo z n k = zrg z (z 1 / 60000) (ztot z n) (z 24).toNat k := by
  unfold zgo
  rw [if_neg (by omega), if_neg (by omega), if_neg (by omega), if_neg (by omega), if_neg (by omega), if_neg (by omega), if_neg (by omega)]
theorem zgo_l {n : Int} {k : Nat} (hk : k < 9) : zgo z n (15 + k) = z (15 + k) := by
  unfold zgo
  rw [if_neg (by omega), if_neg (by omega), if_neg (by omega), if_neg (by omega), if_neg (by omega), if_neg (by omega), if_neg (by omega), zrg_lo _ _ _ _ (by omega)]
theorem zgo_B (hB : zB T z) {n : Int} (h1 : 1 ≤ n) (h2 : n ≤ 2000) (hT : T + n ≤ 1100000) : zB (T + n) (zgo z n) := by
  obtain ⟨ht, hb, hq⟩ := hB
  have hb' := hb
  obtain ⟨⟨t1, t2⟩, ⟨x0, y0⟩, ⟨x1, y1⟩, ⟨x2, y2⟩, ⟨x12, y12⟩, ⟨x14, y14⟩⟩ := ht
  obtain ⟨b3, b4, b5, b6, b7, b8, b9, b10, b11, bl⟩ := hb
  obtain ⟨f1, f2⟩ := zaft_bd hb' (n := n) (by omega) h2
  obtain ⟨w1, w2⟩ := zwid_bd hb'
  obtain ⟨s1, s2⟩ := zst_bd hb' (n := n) (by omega) h2
  have hnw := znm (n := n) (by omega) h2 (x := zwid z) (a := 0) (b := 3996) (by omega) w2 (by omega) (by omega)
  have e2 : -(62000 * (T + n)) - 20000 ≤ (if z 11 = 1 then z 2 - zgone z n else z 2) ∧ (if z 11 = 1 then z 2 - zgone z n else z 2) ≤ 62000 * (T + n) + 20000 := by
    unfold zgone
    generalize n * z 9 = R at *
    (repeat' split) <;> omega
  have e3 : 0 ≤ (if 999999999 < z 3 + n * zwid z then 999999999 else z 3 + n * zwid z) ∧ (if 999999999 < z 3 + n * zwid z then 999999999 else z 3 + n * zwid z) ≤ 999999999 := by split <;> omega
  have e8 : 0 ≤ (if z 11 = 1 then zsix z n % 16 else z 8) ∧ (if z 11 = 1 then zsix z n % 16 else z 8) ≤ 15 := by split <;> omega
  refine ⟨⟨⟨by omega, hT⟩, ⟨show 0 ≤ z 0 + n * 60000 by omega, show z 0 + n * 60000 ≤ _ by omega⟩, ⟨show 0 ≤ zaft z n by omega, show zaft z n ≤ _ by omega⟩, e2, ⟨show 0 ≤ z 12 + n by omega, show z 12 + n ≤ _ by omega⟩, ⟨x14, show z 14 ≤ _ by omega⟩⟩, ⟨e3, b4, b5, b6, b7, e8, b9, b10, b11, fun k hk => by rw [zgo_l hk]; exact bl k hk⟩, ?_⟩
  obtain ⟨c1, c2⟩ := zrg_bq hq (z 1 / 60000) (ztot z n) (z 24).toNat
  refine ⟨hq.1, fun a ha => ?_⟩
  rw [zgo_hi (by omega), zgo_hi (by omega), zgo_hi (by omega), zgo_hi (by omega)]
  exact c2 a ha
theorem zhr_hi {e c : Int} {k : Nat} (h13 : 0 < z 12 → 0 ≤ z 13 ∧ z 13 ≤ 9) (hk : 24 ≤ k) : zhr z e c k = z k := by
  unfold zhr
  rw [if_neg (by omega), if_neg (by omega), if_neg (by omega), if_neg (by omega), if_neg (by omega), zlr_hi h13 hk]
theorem zhr_lo {e c : Int} {k : Nat} (hk : k < 15) (n2 : k ≠ 2) (n3 : k ≠ 3) (n12 : k ≠ 12) (n13 : k ≠ 13) (n14 : k ≠ 14) : zhr z e c k = z k := by
  unfold zhr
  rw [if_neg n2, if_neg n3, if_neg n12, if_neg n13, if_neg n14, zlr_lo hk]
theorem zhr_B (hB : zB T z) (h13 : 0 < z 12 → 0 ≤ z 13 ∧ z 13 ≤ 9) {e c : Int} (h1 : -9999 ≤ e) (h2 : e ≤ 9999) (h3 : 0 ≤ c) (h4 : c ≤ 5000) (hT : T + 1 ≤ 1100000) : zB (T + 1) (zhr z e c) := by
  obtain ⟨ht, hb, hq⟩ := hB
  have ht' := ht
  have hb' := hb
  obtain ⟨⟨t1, t2⟩, ⟨x0, y0⟩, ⟨x1, y1⟩, ⟨x2, y2⟩, ⟨x12, y12⟩, ⟨x14, y14⟩⟩ := ht
  obtain ⟨b3, b4, b5, b6, b7, b8, b9, b10, b11, bl⟩ := hb
  obtain ⟨-, -, l5, l6, l7⟩ := zlohi_bd ht' hb' (t := z 0 + e) (c := c) (by omega) (by omega) h3 h4
  have lo : ∀ k, k < 15 → k ≠ 2 → k ≠ 3 → k ≠ 12 → k ≠ 13 → k ≠ 14 → zhr z e c k = z k := fun k hk a1 a2 a3 a4 a5 => zhr_lo hk a1 a2 a3 a4 a5
  have e2 : zhr z e c 2 = (zLo z (z 0 + e) c + zHi z (z 0 + e) c) / 32 - z 1 := rfl
  have e3 : zhr z e c 3 = zW (zLo z (z 0 + e) c) (zHi z (z 0 + e) c) := rfl
  have e12 : zhr z e c 12 = 0 := rfl
  have e14 : zhr z e c 14 = z 14 + zbk z (z 0 + e) c := rfl
  have eb : 0 ≤ zbk z (z 0 + e) c ∧ zbk z (z 0 + e) c ≤ 1 := by unfold zbk; split <;> omega
  have ew : 0 ≤ zW (zLo z (z 0 + e) c) (zHi z (z 0 + e) c) ∧ zW (zLo z (z 0 + e) c) (zHi z (z 0 + e) c) ≤ 999999999 := by
    unfold zW
    generalize zLo z (z 0 + e) c = L at *
    generalize zHi z (z 0 + e) c = H at *
    split <;> omega
  refine ⟨⟨⟨by omega, hT⟩, ?_, ?_, ?_, ?_, ?_⟩, ⟨?_, ?_, ?_, ?_, ?_, ?_, ?_, ?_, ?_, fun k hk => ?_⟩, ?_, fun a ha => ?_⟩
  · rw [lo 0 (by decide) (by decide) (by decide) (by decide) (by decide) (by decide)]; omega
  · rw [lo 1 (by decide) (by decide) (by decide) (by decide) (by decide) (by decide)]; omega
  · rw [e2]
    generalize zLo z (z 0 + e) c = L at *
    generalize zHi z (z 0 + e) c = H at *
    omega
  · rw [e12]; omega
  · rw [e14]; omega
  · rw [e3]; exact ew
  · rw [lo 4 (by decide) (by decide) (by decide) (by decide) (by decide) (by decide)]; exact b4
  · rw [lo 5 (by decide) (by decide) (by decide) (by decide) (by decide) (by decide)]; exact b5
  · rw [lo 6 (by decide) (by decide) (by decide) (by decide) (by decide) (by decide)]; exact b6
  · rw [lo 7 (by decide) (by decide) (by decide) (by decide) (by decide) (by decide)]; exact b7
  · rw [lo 8 (by decide) (by decide) (by decide) (by decide) (by decide) (by decide)]; exact b8
  · rw [lo 9 (by decide) (by decide) (by decide) (by decide) (by decide) (by decide)]; exact b9
  · rw [lo 10 (by decide) (by decide) (by decide) (by decide) (by decide) (by decide)]; exact b10
  · rw [lo 11 (by decide) (by decide) (by decide) (by decide) (by decide) (by decide)]; exact b11
  · have : zhr z e c (15 + k) = zlr z (z 0 + e) (15 + k) := by
      unfold zhr
      rw [if_neg (by omega), if_neg (by omega), if_neg (by omega), if_neg (by omega), if_neg (by omega)]
    rw [this]
    exact zlr_bl bl k hk
  · rw [zhr_hi h13 (by omega)]; exact hq.1
  · rw [zhr_hi h13 (by omega), zhr_hi h13 (by omega), zhr_hi h13 (by omega), zhr_hi h13 (by omega)]
    exact hq.2 a ha
end ZHears
