/-! n ticks of the reference -/
def zOth (u u' : zc_M) : Prop := u'.1 1 = u.1 1 ∧ u'.1 2 = u.1 2 ∧ u'.2 = u.2
def ztl (z : Nat → Int) (n B : Int) : Nat → Int := fun k => if k = 0 then z 0 + n * 60000 else if k = 1 then B else if k = 2 then (if z 11 = 1 then z 2 - zgone z n else z 2) else if k = 3 then (if 999999999 < z 3 + n * zwid z then 999999999 else z 3 + n * zwid z) else if k = 8 then (if z 11 = 1 then zsix z n % 16 else z 8) else if k = 12 then z 12 + n else if k = 13 then zlik z else z k
theorem ztl_hi (z : Nat → Int) (n B : Int) {k : Nat} (hk : 25 ≤ k) : ztl z n B k = z k := by
  unfold ztl
  rw [if_neg (by omega), if_neg (by omega), if_neg (by omega), if_neg (by omega), if_neg (by omega), if_neg (by omega), if_neg (by omega)]
section ZGoes
variable {z : Nat → Int} {u : zc_M} {T : Int}
theorem m_goesE (h : zRm z (u.1 0)) (ht : zBt T z) (hb : zBs z) (h24 : 0 ≤ z 24 ∧ z 24 ≤ 6) (h13 : -1 ≤ z 13 ∧ z 13 ≤ 9) {n : Int} (h1 : 1 ≤ n) (h2 : n ≤ 2000) (B : Int) (N k : Nat) (y : Int32) : ∃ u', fX3_goes_L N (k + 1) u (zi n) (zl B) y (zi (z 24)) = some (y, u') ∧ zRm (ztl z n B) (u'.1 0) ∧ zOth u u' := by
  have hrest := m_rest h hb (n := n) (by omega) h2
  have hgone := m_gone h ht hb (n := n) (by omega) h2
  have hb' := hb
  obtain ⟨b3, b4, b5, b6, b7, b8, b9, b10, b11, bl⟩ := hb
  obtain ⟨w1, w2⟩ := zwid_bd hb'
  obtain ⟨s1, s2⟩ := zspan_bd hb'
  obtain ⟨⟨t1, t2⟩, -, -, -, ⟨x12, y12⟩, -⟩ := ht
  have hnw := znm (n := n) (by omega) h2 (x := zwid z) (a := 0) (b := 3996) (by omega) w2 (by omega) (by omega)
  have hW : (if z 3 + n * zwid z ≤ 999999999 then z 3 + n * zwid z else 999999999) = (if 999999999 < z 3 + n * zwid z then 999999999 else z 3 + n * zwid z) := by split <;> split <;> omega
  rw [fX3_goes_L, h 24 (by decide), zi_l (by omega) (by omega), wg_ge (by omega) (by omega) (by omega) (by omega), if_pos (by omega), h 11 (by decide), show (1 : Int64) = zl 1 from zl_lit 1, wg_eq (by omega) (by omega) (by omega) (by omega)]
  rcases b11 with hp | hp
  · rw [if_neg (by omega)]
    simp only [Option.bind_some, zc_let]
    have r31 := m_set h 1 B
    rw [show (zc_mL u 0 1 (zl B)).1 0 0 = zl (z 0) from r31 0 (by decide), zi_l (by omega) (by omega), show (60000 : Int64) = zl 60000 from zl_lit 60000, zl_mul, zl_add]
    have r32 := m_set r31 0 (z 0 + n * 60000)
    have hb32 : zBs (va_up (va_up z 1 B) 0 (z 0 + n * 60000)) := ⟨b3, b4, b5, b6, b7, b8, b9, b10, Or.inl hp, (zup_b (zup_b bl (by decide)) (by decide))⟩
    rw [m_width r32 hb32, show zwid (va_up (va_up z 1 B) 0 (z 0 + n * 60000)) = zwid z from rfl]
    simp only [Option.bind_some]
    rw [show (zc_mL (zc_mL u 0 1 (zl B)) 0 0 (zl (z 0 + n * 60000))).1 0 3 = zl (z 3) from r32 3 (by decide), zl_mul, zl_add, show (999999999 : Int64) = zl 999999999 from zl_lit 999999999, n_lesser (by omega) (by omega) (by omega) (by omega), hW]
    simp only [Option.bind_some]
    have r35 := m_set r32 3 (if 999999999 < z 3 + n * zwid z then 999999999 else z 3 + n * zwid z)
    have hW2 : 0 ≤ (if 999999999 < z 3 + n * zwid z then 999999999 else z 3 + n * zwid z) ∧ (if 999999999 < z 3 + n * zwid z then 999999999 else z 3 + n * zwid z) ≤ 999999999 := by split <;> omega
    have hb35 : zBs (va_up (va_up (va_up z 1 B) 0 (z 0 + n * 60000)) 3 (if 999999999 < z 3 + n * zwid z then 999999999 else z 3 + n * zwid z)) := ⟨hW2, b4, b5, b6, b7, b8, b9, b10, Or.inl hp, (zup_b (zup_b (zup_b bl (by decide)) (by decide)) (by decide))⟩
    generalize hu35 : zc_mL (zc_mL (zc_mL u 0 1 (zl B)) 0 0 (zl (z 0 + n * 60000))) 0 3 (zl (if 999999999 < z 3 + n * zwid z then 999999999 else z 3 + n * zwid z)) = u35 at r35 ⊢
    have ho : zOth u u35 := by rw [← hu35]; exact ⟨rfl, rfl, rfl⟩
    rw [show u35.1 0 11 = zl (z 11) from r35 11 (by decide), wg_eq (by omega) (by omega) (by omega) (by omega)]
    rw [if_neg (by omega), show (9 : Int64) = zl 9 from zl_lit 9]
    have r43 := m_set r35 13 9
    rw [show (zc_mL u35 0 13 (zl 9)).1 0 12 = zl (z 12) from r43 12 (by decide), zl_add]
    have r44 := m_set r43 12 (z 12 + n)
    refine ⟨_, rfl, zRm_congr ?_ r44, ho⟩
    intro k hk0
    clear hk0
    revert k
    refine z25 rfl rfl ?_ rfl rfl rfl rfl rfl ?_ rfl rfl rfl rfl ?_ rfl rfl rfl rfl rfl rfl rfl rfl rfl rfl rfl (fun k hk => ?_)
    · show (if z 11 = 1 then z 2 - zgone z n else z 2) = z 2
      rw [if_neg (by omega)]
    · show (if z 11 = 1 then zsix z n % 16 else z 8) = z 8
      rw [if_neg (by omega)]
    · show zlik z = 9
      unfold zlik
      rw [if_neg (by omega)]
    · rw [ztl_hi _ _ _ hk, va_up_ne _ _ (by omega), va_up_ne _ _ (by omega), va_up_ne _ _ (by omega), va_up_ne _ _ (by omega), va_up_ne _ _ (by omega)]
  · rw [if_pos hp, hrest, hgone]
    simp only [Option.bind_some, zc_let]
    rw [h 2 (by decide), zl_sub]
    have r29 := m_set h 2 (z 2 - zgone z n)
    have r30 := m_set r29 8 (zsix z n % 16)
    have r31 := m_set r30 1 B
    rw [show (zc_mL (zc_mL (zc_mL u 0 2 (zl (z 2 - zgone z n))) 0 8 (zl (zsix z n % 16))) 0 1 (zl B)).1 0 0 = zl (z 0) from r31 0 (by decide), zi_l (by omega) (by omega), show (60000 : Int64) = zl 60000 from zl_lit 60000, zl_mul, zl_add]
    have r32 := m_set r31 0 (z 0 + n * 60000)
    have hb32 : zBs (va_up (va_up (va_up (va_up z 2 (z 2 - zgone z n)) 8 (zsix z n % 16)) 1 B) 0 (z 0 + n * 60000)) := ⟨b3, b4, b5, b6, b7, ⟨show 0 ≤ zsix z n % 16 by omega, show zsix z n % 16 ≤ 15 by omega⟩, b9, b10, Or.inr hp, (zup_b (zup_b (zup_b (zup_b bl (by decide)) (by decide)) (by decide)) (by decide))⟩
    rw [m_width r32 hb32, show zwid (va_up (va_up (va_up (va_up z 2 (z 2 - zgone z n)) 8 (zsix z n % 16)) 1 B) 0 (z 0 + n * 60000)) = zwid z from rfl]
    simp only [Option.bind_some]
    rw [show (zc_mL (zc_mL (zc_mL (zc_mL u 0 2 (zl (z 2 - zgone z n))) 0 8 (zl (zsix z n % 16))) 0 1 (zl B)) 0 0 (zl (z 0 + n * 60000))).1 0 3 = zl (z 3) from r32 3 (by decide), zl_mul, zl_add, show (999999999 : Int64) = zl 999999999 from zl_lit 999999999, n_lesser (by omega) (by omega) (by omega) (by omega), hW]
    simp only [Option.bind_some]
    have r35 := m_set r32 3 (if 999999999 < z 3 + n * zwid z then 999999999 else z 3 + n * zwid z)
    have hW2 : 0 ≤ (if 999999999 < z 3 + n * zwid z then 999999999 else z 3 + n * zwid z) ∧ (if 999999999 < z 3 + n * zwid z then 999999999 else z 3 + n * zwid z) ≤ 999999999 := by split <;> omega
    have hb35 : zBs (va_up (va_up (va_up (va_up (va_up z 2 (z 2 - zgone z n)) 8 (zsix z n % 16)) 1 B) 0 (z 0 + n * 60000)) 3 (if 999999999 < z 3 + n * zwid z then 999999999 else z 3 + n * zwid z)) := ⟨hW2, b4, b5, b6, b7, ⟨show 0 ≤ zsix z n % 16 by omega, show zsix z n % 16 ≤ 15 by omega⟩, b9, b10, Or.inr hp, (zup_b (zup_b (zup_b (zup_b (zup_b bl (by decide)) (by decide)) (by decide)) (by decide)) (by decide))⟩
    generalize hu35 : zc_mL (zc_mL (zc_mL (zc_mL (zc_mL u 0 2 (zl (z 2 - zgone z n))) 0 8 (zl (zsix z n % 16))) 0 1 (zl B)) 0 0 (zl (z 0 + n * 60000))) 0 3 (zl (if 999999999 < z 3 + n * zwid z then 999999999 else z 3 + n * zwid z)) = u35 at r35 ⊢
    have ho : zOth u u35 := by rw [← hu35]; exact ⟨rfl, rfl, rfl⟩
    rw [show u35.1 0 11 = zl (z 11) from r35 11 (by decide), wg_eq (by omega) (by omega) (by omega) (by omega)]
    rw [if_pos hp, show u35.1 0 12 = zl (z 12) from r35 12 (by decide), show (0 : Int64) = zl 0 from zl_lit 0, wg_eq (by omega) (by omega) (by omega) (by omega), m_span r35 hb35, show zspan (va_up (va_up (va_up (va_up (va_up z 2 (z 2 - zgone z n)) 8 (zsix z n % 16)) 1 B) 0 (z 0 + n * 60000)) 3 (if 999999999 < z 3 + n * zwid z then 999999999 else z 3 + n * zwid z)) = zspan z from rfl]
    simp only [Option.bind_some]
    rw [zi_l (by omega) (by omega), show u35.1 0 13 = zl (z 13) from r35 13 (by decide), wg_eq (by omega) (by omega) (by omega) (by omega)]
    by_cases c : z 12 = 0
    · rw [if_pos c]
      have r43 := m_set r35 13 (zspan z)
      rw [show (zc_mL u35 0 13 (zl (zspan z))).1 0 12 = zl (z 12) from r43 12 (by decide), zl_add]
      have r44 := m_set r43 12 (z 12 + n)
      refine ⟨_, rfl, zRm_congr ?_ r44, ho⟩
      intro k hk0
      clear hk0
      revert k
      refine z25 rfl rfl ?_ rfl rfl rfl rfl rfl ?_ rfl rfl rfl rfl ?_ rfl rfl rfl rfl rfl rfl rfl rfl rfl rfl rfl (fun k hk => ?_)
      · show (if z 11 = 1 then z 2 - zgone z n else z 2) = z 2 - zgone z n
        rw [if_pos hp]
      · show (if z 11 = 1 then zsix z n % 16 else z 8) = zsix z n % 16
        rw [if_pos hp]
      · show zlik z = (zspan z)
        unfold zlik
        rw [if_pos ⟨hp, Or.inl c⟩]
      · rw [ztl_hi _ _ _ hk, va_up_ne _ _ (by omega), va_up_ne _ _ (by omega), va_up_ne _ _ (by omega), va_up_ne _ _ (by omega), va_up_ne _ _ (by omega), va_up_ne _ _ (by omega), va_up_ne _ _ (by omega)]
    · rw [if_neg c]
      by_cases d : z 13 = zspan z
      · rw [if_pos d]
        have r43 := m_set r35 13 (zspan z)
        rw [show (zc_mL u35 0 13 (zl (zspan z))).1 0 12 = zl (z 12) from r43 12 (by decide), zl_add]
        have r44 := m_set r43 12 (z 12 + n)
        refine ⟨_, rfl, zRm_congr ?_ r44, ho⟩
        intro k hk0
        clear hk0
        revert k
        refine z25 rfl rfl ?_ rfl rfl rfl rfl rfl ?_ rfl rfl rfl rfl ?_ rfl rfl rfl rfl rfl rfl rfl rfl rfl rfl rfl (fun k hk => ?_)
        · show (if z 11 = 1 then z 2 - zgone z n else z 2) = z 2 - zgone z n
          rw [if_pos hp]
        · show (if z 11 = 1 then zsix z n % 16 else z 8) = zsix z n % 16
          rw [if_pos hp]
        · show zlik z = (zspan z)
          unfold zlik
          rw [if_pos ⟨hp, Or.inr d⟩]
        · rw [ztl_hi _ _ _ hk, va_up_ne _ _ (by omega), va_up_ne _ _ (by omega), va_up_ne _ _ (by omega), va_up_ne _ _ (by omega), va_up_ne _ _ (by omega), va_up_ne _ _ (by omega), va_up_ne _ _ (by omega)]
      · rw [if_neg d, show (9 : Int64) = zl 9 from zl_lit 9]
        have r43 := m_set r35 13 9
        rw [show (zc_mL u35 0 13 (zl 9)).1 0 12 = zl (z 12) from r43 12 (by decide), zl_add]
        have r44 := m_set r43 12 (z 12 + n)
        refine ⟨_, rfl, zRm_congr ?_ r44, ho⟩
        intro k hk0
        clear hk0
        revert k
        refine z25 rfl rfl ?_ rfl rfl rfl rfl rfl ?_ rfl rfl rfl rfl ?_ rfl rfl rfl rfl rfl rfl rfl rfl rfl rfl rfl (fun k hk => ?_)
        · show (if z 11 = 1 then z 2 - zgone z n else z 2) = z 2 - zgone z n
          rw [if_pos hp]
        · show (if z 11 = 1 then zsix z n % 16 else z 8) = zsix z n % 16
          rw [if_pos hp]
        · show zlik z = 9
          unfold zlik
          rw [if_neg (by omega)]
        · rw [ztl_hi _ _ _ hk, va_up_ne _ _ (by omega), va_up_ne _ _ (by omega), va_up_ne _ _ (by omega), va_up_ne _ _ (by omega), va_up_ne _ _ (by omega), va_up_ne _ _ (by omega), va_up_ne _ _ (by omega)]
theorem zup_m {z : Nat → Int} {u : zc_M} (h : zRm z (u.1 0)) {a : Nat} (ha : a < 6) (x : Int) : zRm (va_up z (28 + 4 * a) x) ((zc_mL u 0 (zi (25 + 4 * (a : Int) + 3)).toNatClampNeg (zl x)).1 0) := by
  rw [zi_nat (by omega) (by omega), show (25 + 4 * (a : Int) + 3).toNat = 28 + 4 * a by omega]
  exact m_set h (28 + 4 * a) x
theorem zOth.trans {u u1 u2 : zc_M} (h : zOth u u1) (h' : zOth u1 u2) : zOth u u2 := ⟨h'.1.trans h.1, h'.2.1.trans h.2.1, h'.2.2.trans h.2.2⟩
theorem m_goesL (hB : zB T z) (h13 : -1 ≤ z 13 ∧ z 13 ≤ 9) {n : Int} (h1 : 1 ≤ n) (h2 : n ≤ 2000) (hT : T + 2000 ≤ 1100000) {N : Nat} (hN : 100000 < N) : ∀ (r k a : Nat) (u : zc_M), a + r = (z 24).toNat → r < k → zRm (zrg z (z 1 / 60000) (ztot z n) a) (u.1 0) → ∃ u', fX3_goes_L N k u (zi n) (zl (zaft z n)) (zbit z (z 1 / 60000) (ztot z n) a) (zi a) = some (zbit z (z 1 / 60000) (ztot z n) (z 24).toNat, u') ∧ zRm (zgo z n) (u'.1 0) ∧ zOth u u' := by
  obtain ⟨ht, hb, hq⟩ := hB
  obtain ⟨f1, f2⟩ := zaft_bd hb (n := n) (by omega) h2
  have h24 := hq.1
  have ht' := ht
  obtain ⟨⟨t1, t2⟩, -, ⟨x1, y1⟩, -⟩ := ht'
  have hlo : z 1 / 60000 ≤ zaft z n / 60000 := by omega
  have zt : ∀ a, zBt T (zrg z (z 1 / 60000) (ztot z n) a) := fun a => ht
  have zs : ∀ a, zBs (zrg z (z 1 / 60000) (ztot z n) a) := fun a => ⟨hb.1, hb.2.1, hb.2.2.1, hb.2.2.2.1, hb.2.2.2.2.1, hb.2.2.2.2.2.1, hb.2.2.2.2.2.2.1, hb.2.2.2.2.2.2.2.1, hb.2.2.2.2.2.2.2.2.1, fun k hk => by rw [zrg_lo _ _ _ _ (by omega)]; exact hb.2.2.2.2.2.2.2.2.2 k hk⟩
  intro r
  induction r with
  | zero =>
    intro k a u ha hk hm
    obtain ⟨k, rfl⟩ : ∃ j, k = j + 1 := ⟨k - 1, by omega⟩
    obtain rfl : a = (z 24).toNat := by omega
    have e := m_goesE hm (zt _) (zs _) (show 0 ≤ z 24 ∧ z 24 ≤ 6 from h24) (show -1 ≤ z 13 ∧ z 13 ≤ 9 from h13) h1 h2 (zaft z n) N k (zbit z (z 1 / 60000) (ztot z n) (z 24).toNat)
    rw [show zrg z (z 1 / 60000) (ztot z n) (z 24).toNat 24 = (((z 24).toNat : Nat) : Int) by rw [zrg_lo _ _ _ _ (by omega)]; omega] at e
    obtain ⟨u', e1, e2, e3⟩ := e
    refine ⟨u', e1, zRm_congr ?_ e2, e3⟩
    intro j hj0
    clear hj0
    revert j
    refine z25 rfl rfl rfl rfl rfl rfl rfl rfl ?_ rfl rfl rfl rfl rfl rfl rfl rfl rfl rfl rfl rfl rfl rfl rfl rfl (fun j hj => ?_)
    · show (if z 11 = 1 then zsix z n % 16 else z 8) = (if z 11 = 1 then zsix (zrg z (z 1 / 60000) (ztot z n) (z 24).toNat) n % 16 else z 8)
      rw [zc_six (z' := zrg z (z 1 / 60000) (ztot z n) (z 24).toNat) hb rfl rfl (fun k hk => zrg_lo _ _ _ _ (by omega))]
    · rw [ztl_hi _ _ _ hj]
      unfold zgo
      rw [if_neg (by omega), if_neg (by omega), if_neg (by omega), if_neg (by omega), if_neg (by omega), if_neg (by omega), if_neg (by omega)]
  | succ r ih =>
    intro k a u ha hk hm
    obtain ⟨k, rfl⟩ : ∃ j, k = j + 1 := ⟨k - 1, by omega⟩
    have hbq := zrg_bq hq (z 1 / 60000) (ztot z n) a
    have hc := m_between hm (zt a) hbq (a := a) (by omega) (b := zaft z n) (show z 1 / 60000 ≤ _ from hlo) (show _ ≤ z 1 / 60000 + 100000 by omega) (by omega) (by omega) hN
    rw [show zrg z (z 1 / 60000) (ztot z n) a 1 = z 1 from rfl, show (zaft z n / 60000 - z 1 / 60000).toNat = ztot z n from rfl, zrg_cnt] at hc
    have hbd := zcnt_bd z a (z 1 / 60000) (ztot z n)
    have htn : ztot z n ≤ 100000 := by unfold ztot; omega
    have h28 : zrg z (z 1 / 60000) (ztot z n) a (28 + 4 * a) = z (28 + 4 * a) := by rw [zrg_r, if_neg (by omega)]
    have hr := (hq.2 a (by omega)).2.2.2
    have hra := m_ringsAt hm (a := a) (by omega)
    rw [h28] at hra
    rw [fX3_goes_L, show u.1 0 24 = zl (z 24) from hm 24 (by decide), zi_l (by omega) (by omega), wg_ge (by omega) (by omega) (by omega) (by omega), if_neg (by omega), hc]
    simp only [Option.bind_some, zc_let]
    rw [show (0 : Int64) = zl 0 from zl_lit 0, wg_le (by omega) (by omega) (by omega) (by omega), hra]
    simp only [Option.bind_some]
    have hW : (if z (28 + 4 * a) + zcnt z a (z 1 / 60000) (ztot z n) ≤ 99999 then z (28 + 4 * a) + zcnt z a (z 1 / 60000) (ztot z n) else 99999) = (if 99999 < z (28 + 4 * a) + zcnt z a (z 1 / 60000) (ztot z n) then 99999 else z (28 + 4 * a) + zcnt z a (z 1 / 60000) (ztot z n)) := by split <;> split <;> omega
    rw [show (99999 : Int64) = zl 99999 from zl_lit 99999, zl_add, n_lesser (by omega) (by omega) (by omega) (by omega), hW]
    simp only [Option.bind_some]
    rw [show ((25 : Int32) + (4 : Int32) * zi a) + (3 : Int32) = zi (25 + 4 * (a : Int) + 3) by rw [show (25 : Int32) = zi 25 from zi_lit 25, show (4 : Int32) = zi 4 from zi_lit 4, show (3 : Int32) = zi 3 from zi_lit 3, zi_mul, zi_add, zi_add], zn_in (by omega) (by omega) (by omega), zn_in (by omega) (by omega) (by omega)]
    have hup := zup_m hm (a := a) (by omega) (if 99999 < z (28 + 4 * a) + zcnt z a (z 1 / 60000) (ztot z n) then 99999 else z (28 + 4 * a) + zcnt z a (z 1 / 60000) (ztot z n))
    rw [← zrg_succ] at hup
    have e1 : zi (a : Int) + 1 = zi ((a + 1 : Nat) : Int) := by rw [show (1 : Int32) = zi 1 from zi_lit 1, zi_add]; rfl
    obtain ⟨u', g1, g2, g3⟩ := ih k (a + 1) _ (by omega) (by omega) hup
    refine ⟨u', ?_, g2, zOth.trans ⟨rfl, rfl, rfl⟩ g3⟩
    rw [e1]
    by_cases c : zcnt z a (z 1 / 60000) (ztot z n) ≤ 0
    · rw [if_pos c]
      have hbit : zbit z (z 1 / 60000) (ztot z n) (a + 1) = zbit z (z 1 / 60000) (ztot z n) a ||| 0 := by rw [zbit, if_neg (by omega), Int32.or_zero]
      rw [← hbit]
      exact g1
    · rw [if_neg c]
      have hbit : zbit z (z 1 / 60000) (ztot z n) (a + 1) = zbit z (z 1 / 60000) (ztot z n) a ||| ((1 : Int32) <<< (zi a &&& 31)) := by rw [zbit, if_pos (by omega)]
      rw [← hbit]
      exact g1
theorem m_goes (h : zRm z (u.1 0)) (hB : zB T z) (h13 : -1 ≤ z 13 ∧ z 13 ≤ 9) {n : Int} (h1 : 1 ≤ n) (h2 : n ≤ 2000) (hT : T + 2000 ≤ 1100000) {N : Nat} (hN : 100000 < N) : ∃ u', fX3_goes N u (zi n) = some (zbit z (z 1 / 60000) (ztot z n) (z 24).toNat, u') ∧ zRm (zgo z n) (u'.1 0) ∧ zOth u u' := by
  have h24 := hB.2.2.1
  have e := m_goesL hB h13 h1 h2 hT hN (z 24).toNat N 0 u (by omega) (by omega) (by rw [zrg_0]; exact h)
  unfold fX3_goes
  rw [m_after h hB.1 hB.2.1 (by omega) h2]
  simp only [Option.bind_some]
  rw [show (0 : Int32) = zi 0 from zi_lit 0]
  rw [show zbit z (z 1 / 60000) (ztot z n) 0 = zi 0 by rw [zbit, ← zi_lit]] at e
  exact e
end ZGoes
