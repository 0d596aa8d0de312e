/-! n ticks -/
def ztot (z : Nat → Int) (n : Int) : Nat := (zaft z n / 60000 - z 1 / 60000).toNat
def zgo (z : Nat → Int) (n : Int) : Nat → Int := fun k => if k = 0 then z 0 + n * 60000 else if k = 1 then zaft z n else if k = 2 then (if z 11 = 1 then z 2 - zgone z n else z 2) else if k = 3 then (if 999999999 < z 3 + n * zwid z then 999999999 else z 3 + n * zwid z) else if k = 8 then (if z 11 = 1 then zsix z n % 16 else z 8) else if k = 12 then z 12 + n else if k = 13 then zlik z else zrg z (z 1 / 60000) (ztot z n) (z 24).toNat k
theorem zup_b {z : Nat → Int} (h : ∀ k, k < 9 → -9999 ≤ z (15 + k) ∧ z (15 + k) ≤ 9999) {j : Nat} {x : Int} (hj : j < 15) : ∀ k, k < 9 → -9999 ≤ va_up z j x (15 + k) ∧ va_up z j x (15 + k) ≤ 9999 := by
  intro k hk
  rw [va_up_ne _ _ (by omega)]
  exact h k hk
theorem zup_bq {z : Nat → Int} (h : zBq z) {j : Nat} {x : Int} (hj : j < 24) : zBq (va_up z j x) := by
  refine ⟨by rw [va_up_ne _ _ (by omega)]; exact h.1, fun a ha => ?_⟩
  rw [va_up_ne _ _ (by omega), va_up_ne _ _ (by omega), va_up_ne _ _ (by omega), va_up_ne _ _ (by omega)]
  exact h.2 a ha
section ZPass
variable {z z' : Nat → Int} {v : zc_S} {u : zc_M} {T : Int}
theorem zc_span (h4 : z' 4 = z 4) : zspan z' = zspan z := by unfold zspan; rw [h4]
theorem zc_lea (hb : zBs z) (h4 : z' 4 = z 4) (hl : ∀ k, k < 9 → z' (15 + k) = z (15 + k)) : zlea z' = zlea z := by
  obtain ⟨p1, p2⟩ := zspan_bd hb
  unfold zlea
  rw [zc_span h4, hl _ (by omega)]
theorem zc_six (hb : zBs z) (h4 : z' 4 = z 4) (h8 : z' 8 = z 8) (hl : ∀ k, k < 9 → z' (15 + k) = z (15 + k)) (n : Int) : zsix z' n = zsix z n := by
  unfold zsix
  rw [zc_lea hb h4 hl, h8]
theorem zc_gone (h2 : z' 2 = z 2) (h9 : z' 9 = z 9) (n : Int) : zgone z' n = zgone z n := by
  unfold zgone
  rw [h2, h9]
theorem zc_aft (hb : zBs z) (h1 : z' 1 = z 1) (h2 : z' 2 = z 2) (h4 : z' 4 = z 4) (h5 : z' 5 = z 5) (h6 : z' 6 = z 6) (h7 : z' 7 = z 7) (h8 : z' 8 = z 8) (h9 : z' 9 = z 9) (h11 : z' 11 = z 11) (hl : ∀ k, k < 9 → z' (15 + k) = z (15 + k)) (n : Int) : zaft z' n = zaft z n := by
  unfold zaft zoff
  rw [zc_six hb h4 h8 hl, zc_gone h2 h9, h1, h4, h5, h6, h7, h11]
theorem zaft_bd (hb : zBs z) {n : Int} (h1 : 0 ≤ n) (h2 : n ≤ 2000) : z 1 + 58000 * n - 1 ≤ zaft z n ∧ zaft z n ≤ z 1 + 61000 * n + 1 := by
  have hb' := hb
  obtain ⟨l1, l2⟩ := zlea_bd hb
  obtain ⟨-, ⟨a1, a2⟩, ⟨a3, a4⟩, -, -, ⟨a5, a6⟩, ⟨a7, a8⟩, -, -, -⟩ := hb
  obtain ⟨o1, o2⟩ := zoff_bd hb' (t := z 4) (by omega) (by omega)
  have p1 : n * 59000 ≤ n * (60000 + zoff z (z 4)) := Int.mul_le_mul_of_nonneg_left (by omega) h1
  have p2 : n * (60000 + zoff z (z 4)) ≤ n * 60009 := Int.mul_le_mul_of_nonneg_left (by omega) h1
  have q1 : n * (-9999) ≤ n * zlea z := Int.mul_le_mul_of_nonneg_left (by omega) h1
  have q2 : n * zlea z ≤ n * 9999 := Int.mul_le_mul_of_nonneg_left (by omega) h1
  have r1 : n * 0 ≤ n * z 9 := Int.mul_le_mul_of_nonneg_left (by omega) h1
  have r2 : n * z 9 ≤ n * 200 := Int.mul_le_mul_of_nonneg_left (by omega) h1
  unfold zaft zsix zgone
  generalize n * (60000 + zoff z (z 4)) = P at *
  generalize n * zlea z = Q at *
  generalize n * z 9 = R at *
  constructor <;> (repeat' split) <;> omega
theorem zc_bit {lo : Int} {tot : Nat} (h : ∀ a, zcnt z' a lo tot = zcnt z a lo tot) (A : Nat) : zbit z' lo tot A = zbit z lo tot A := by
  induction A with
  | zero => rfl
  | succ A ih => unfold zbit; rw [ih, h]
theorem zl_ite {c : Prop} {d : Decidable c} (a b : Int) : @ite Int64 c d (zl a) (zl b) = zl (if c then a else b) := by
  by_cases h : c
  · rw [if_pos h, if_pos h]
  · rw [if_neg h, if_neg h]
theorem zi_ite {c : Prop} {d : Decidable c} (a b : Int) : @ite Int32 c d (zi a) (zi b) = zi (if c then a else b) := by
  by_cases h : c
  · rw [if_pos h, if_pos h]
  · rw [if_neg h, if_neg h]
theorem zrg_c (e : ∀ k, 25 ≤ k → z' k = z k) (lo : Int) (tot A : Nat) {k : Nat} (hk : 25 ≤ k) : zrg z' lo tot A k = zrg z lo tot A k := by
  unfold zrg
  rw [e k hk, zcnt_congr (z := z) (z' := z') (e _ (by omega)) (e _ (by omega)) (e _ (by omega))]
theorem zwid_bd (hb : zBs z) : 0 ≤ zwid z ∧ zwid z ≤ 3996 := by
  obtain ⟨-, -, -, -, -, -, -, ⟨a1, a2⟩, -, -⟩ := hb
  unfold zwid
  split <;> omega
theorem s_pass (h : zRs z v) (hB : zB T z) (hT : T + 2000 ≤ 1100000) {n : Int} (h1 : 1 ≤ n) (h2 : n ≤ 2000) {N : Nat} (hN : 100000 < N) : ∃ v', fX1_pass N v (zi n) = some (zbit z (z 1 / 60000) (ztot z n) (z 24).toNat, v') ∧ zRs (zgo z n) v' := by
  obtain ⟨ht, hb, hq⟩ := hB
  obtain ⟨v2, e2, r2⟩ := s_note h ht hb h1 h2
  have hm := s_minute h ht
  have ht' := ht
  have hb' := hb
  obtain ⟨⟨t1, t2⟩, ⟨x0, y0⟩, ⟨x1, y1⟩, ⟨x2, y2⟩, ⟨x12, y12⟩, ⟨x14, y14⟩⟩ := ht
  obtain ⟨b3, b4, b5, b6, b7, b8, b9, b10, b11, bl⟩ := hb
  obtain ⟨w1, w2⟩ := zwid_bd hb'
  obtain ⟨f1, f2⟩ := zaft_bd hb' (n := n) (by omega) h2
  have hnw := znm (n := n) (by omega) h2 (x := zwid z) (a := 0) (b := 3996) (by omega) w2 (by omega) (by omega)
  have r3 := s_L0 r2 (z 0 + n * 60000)
  have r5 := s_L1 r3 (zaft z n)
  have ht3 : zBt (T + 2000) (va_up (va_up (va_up z 13 (zlik z)) 12 (z 12 + n)) 0 (z 0 + n * 60000)) := ⟨⟨by omega, hT⟩, ⟨show 0 ≤ z 0 + n * 60000 by omega, show z 0 + n * 60000 ≤ _ by omega⟩, ⟨x1, show z 1 ≤ _ by omega⟩, ⟨show _ ≤ z 2 by omega, show z 2 ≤ _ by omega⟩, ⟨show 0 ≤ z 12 + n by omega, show z 12 + n ≤ _ by omega⟩, ⟨x14, show z 14 ≤ _ by omega⟩⟩
  have hb3 : zBs (va_up (va_up (va_up z 13 (zlik z)) 12 (z 12 + n)) 0 (z 0 + n * 60000)) := ⟨b3, b4, b5, b6, b7, b8, b9, b10, b11, zup_b (zup_b (zup_b bl (by decide)) (by decide)) (by decide)⟩
  have hl3 : ∀ k, k < 9 → va_up (va_up (va_up z 13 (zlik z)) 12 (z 12 + n)) 0 (z 0 + n * 60000) (15 + k) = z (15 + k) := fun k hk => by rw [va_up_ne _ _ (by omega), va_up_ne _ _ (by omega), va_up_ne _ _ (by omega)]
  have ea := s_after r3 ht3 hb3 (n := n) (by omega) h2
  rw [zc_aft (z' := va_up (va_up (va_up z 13 (zlik z)) 12 (z 12 + n)) 0 (z 0 + n * 60000)) hb' rfl rfl rfl rfl rfl rfl rfl rfl rfl hl3] at ea
  have ht5 : zBt (T + 2000) (va_up (va_up (va_up (va_up z 13 (zlik z)) 12 (z 12 + n)) 0 (z 0 + n * 60000)) 1 (zaft z n)) := ⟨⟨by omega, hT⟩, ⟨show 0 ≤ z 0 + n * 60000 by omega, show z 0 + n * 60000 ≤ _ by omega⟩, ⟨show 0 ≤ zaft z n by omega, show zaft z n ≤ _ by omega⟩, ⟨show _ ≤ z 2 by omega, show z 2 ≤ _ by omega⟩, ⟨show 0 ≤ z 12 + n by omega, show z 12 + n ≤ _ by omega⟩, ⟨x14, show z 14 ≤ _ by omega⟩⟩
  have hb5 : zBs (va_up (va_up (va_up (va_up z 13 (zlik z)) 12 (z 12 + n)) 0 (z 0 + n * 60000)) 1 (zaft z n)) := ⟨b3, b4, b5, b6, b7, b8, b9, b10, b11, zup_b (zup_b (zup_b (zup_b bl (by decide)) (by decide)) (by decide)) (by decide)⟩
  have hl5 : ∀ k, k < 9 → va_up (va_up (va_up (va_up z 13 (zlik z)) 12 (z 12 + n)) 0 (z 0 + n * 60000)) 1 (zaft z n) (15 + k) = z (15 + k) := fun k hk => by rw [va_up_ne _ _ (by omega)]; exact hl3 k hk
  simp only [fX1_pass, zc_let]
  rw [hm, e2]
  simp only [Option.bind_some]
  rw [show v2.1 0 = zl (z 0) from r2.1.1, zi_l (by omega) (by omega), show (60000 : Int64) = zl 60000 from zl_lit 60000, zl_mul, zl_add, ea]
  simp only [Option.bind_some]
  generalize hv5 : zc_sL (zc_sL v2 0 (zl (z 0 + n * 60000))) 1 (zl (zaft z n)) = v5 at r5 ⊢
  have e11 : v5.2.1 11 = zi (z 11) := r5.2.1.2.2.2.2.2.2.2.2.1
  have e9 : v5.2.1 9 = zi (z 3) := r5.2.1.1
  have hwv : ∀ (w : zc_S) (x : Int), w.2.1 9 = zi (z 3) → (if (999999999 : Int64) < (w.2.1 9).toInt64 + zl n * (zi (zwid z)).toInt64 then (999999999 : Int64) else (w.2.1 9).toInt64 + zl n * (zi (zwid z)).toInt64).toInt32 = zi (if 999999999 < z 3 + n * zwid z then 999999999 else z 3 + n * zwid z) := by
    intro w x hw
    rw [hw, zi_l (by omega) (by omega), zi_l (by omega) (by omega), show (999999999 : Int64) = zl 999999999 from zl_lit 999999999, zl_mul, zl_add, wl_lt (by omega) (by omega) (by omega) (by omega), zl_ite, zl_i]
  have hlo : z 1 / 60000 ≤ zaft z n / 60000 := by omega
  rcases b11 with hp | hp
  · have c11 : v5.2.1 11 = 0 := by rw [e11, hp]; exact (zi_lit 0).symm
    rw [if_pos c11, s_width r5 hb5, show zwid (va_up (va_up (va_up (va_up z 13 (zlik z)) 12 (z 12 + n)) 0 (z 0 + n * 60000)) 1 (zaft z n)) = zwid z from rfl]
    simp only [Option.bind_some]
    rw [hwv v5 0 e9]
    have r8 := s_I9 r5 (if 999999999 < z 3 + n * zwid z then 999999999 else z 3 + n * zwid z)
    generalize hZ : va_up (va_up (va_up (va_up (va_up z 13 (zlik z)) 12 (z 12 + n)) 0 (z 0 + n * 60000)) 1 (zaft z n)) 3 (if 999999999 < z 3 + n * zwid z then 999999999 else z 3 + n * zwid z) = z8 at r8
    have hq8 : zBq z8 := by rw [← hZ]; exact zup_bq (zup_bq (zup_bq (zup_bq (zup_bq hq (by decide)) (by decide)) (by decide)) (by decide)) (by decide)
    have g24 : z8 24 = z 24 := by rw [← hZ]; rfl
    have g1 : z8 1 = zaft z n := by rw [← hZ]; rfl
    have ghi : ∀ k, 25 ≤ k → z8 k = z k := fun k hk => by rw [← hZ, va_up_ne _ _ (by omega), va_up_ne _ _ (by omega), va_up_ne _ _ (by omega), va_up_ne _ _ (by omega), va_up_ne _ _ (by omega)]
    have em : fX1_minuteNumber (zc_sI v5 9 (zi (if 999999999 < z 3 + n * zwid z then 999999999 else z 3 + n * zwid z))) = some (zl (zaft z n / 60000)) := by
      rw [fX1_minuteNumber, show (zc_sI v5 9 (zi (if 999999999 < z 3 + n * zwid z then 999999999 else z 3 + n * zwid z))).1 1 = zl (zaft z n) from r5.1.2.1, zl_lit, zl_divp (by omega) (by omega) (by omega) (by omega)]
    obtain ⟨q', eq', rq⟩ := q_ring r8.2.2.2.1 hq8 (lo := z 1 / 60000) (hi := zaft z n / 60000) (by omega) (by omega) hlo (by omega) hN
    rw [em]
    simp only [Option.bind_some]
    rw [eq']
    simp only [Option.bind_some]
    refine ⟨_, ?_, zRs_congr ?_ (s_q r8 (fun k hk => zrg_lo _ _ _ _ (by omega)) rq)⟩
    · rw [g24, zc_bit (z := z) (fun a => zcnt_congr (ghi _ (by omega)) (ghi _ (by omega)) (ghi _ (by omega)) _ _)]
      rfl
    · rw [g24]
      subst hZ
      intro k hk0
      clear hk0
      revert k
      refine z25 rfl rfl ?_ rfl rfl rfl rfl rfl ?_ rfl rfl rfl rfl rfl rfl rfl rfl rfl rfl rfl rfl rfl rfl rfl rfl (fun k hk => ?_)
      · show (if z 11 = 1 then z 2 - zgone z n else z 2) = z 2
        rw [if_neg (by omega)]
      · show (if z 11 = 1 then zsix z n % 16 else z 8) = z 8
        rw [if_neg (by omega)]
      · rw [zrg_c ghi _ _ _ hk]
        unfold zgo
        rw [if_neg (by omega), if_neg (by omega), if_neg (by omega), if_neg (by omega), if_neg (by omega), if_neg (by omega), if_neg (by omega)]
        rfl
  · have c11 : ¬ v5.2.1 11 = 0 := by rw [e11, hp]; decide
    rw [if_neg c11, s_steps r5 ht5 hb5 (by omega) h2, zc_gone (z := z) (z' := va_up (va_up (va_up (va_up z 13 (zlik z)) 12 (z 12 + n)) 0 (z 0 + n * 60000)) 1 (zaft z n)) rfl rfl]
    simp only [Option.bind_some]
    rw [show v5.1 2 = zl (z 2) from r5.1.2.2, zl_sub]
    have r13 := s_L2 r5 (z 2 - zgone z n)
    have hb13 : zBs (va_up (va_up (va_up (va_up (va_up z 13 (zlik z)) 12 (z 12 + n)) 0 (z 0 + n * 60000)) 1 (zaft z n)) 2 (z 2 - zgone z n)) := ⟨b3, b4, b5, b6, b7, b8, b9, b10, Or.inr hp, zup_b (zup_b (zup_b (zup_b (zup_b bl (by decide)) (by decide)) (by decide)) (by decide)) (by decide)⟩
    have hl13 : ∀ k, k < 9 → va_up (va_up (va_up (va_up (va_up z 13 (zlik z)) 12 (z 12 + n)) 0 (z 0 + n * 60000)) 1 (zaft z n)) 2 (z 2 - zgone z n) (15 + k) = z (15 + k) := fun k hk => by rw [va_up_ne _ _ (by omega)]; exact hl5 k hk
    obtain ⟨s1, s2⟩ := zsix_bd hb' (n := n) (by omega) h2
    rw [s_six r13 hb13 (by omega) h2, zc_six (z' := va_up (va_up (va_up (va_up (va_up z 13 (zlik z)) 12 (z 12 + n)) 0 (z 0 + n * 60000)) 1 (zaft z n)) 2 (z 2 - zgone z n)) hb' rfl rfl hl13]
    simp only [Option.bind_some]
    rw [n_floorMod16 (by omega) (by omega)]
    simp only [Option.bind_some]
    rw [zl_i]
    have r16 := s_I7 r13 (zsix z n % 16)
    have hb16 : zBs (va_up (va_up (va_up (va_up (va_up (va_up z 13 (zlik z)) 12 (z 12 + n)) 0 (z 0 + n * 60000)) 1 (zaft z n)) 2 (z 2 - zgone z n)) 8 (zsix z n % 16)) := ⟨b3, b4, b5, b6, b7, ⟨show 0 ≤ zsix z n % 16 by omega, show zsix z n % 16 ≤ 15 by omega⟩, b9, b10, Or.inr hp, zup_b (zup_b (zup_b (zup_b (zup_b (zup_b bl (by decide)) (by decide)) (by decide)) (by decide)) (by decide)) (by decide)⟩
    rw [s_width r16 hb16, show zwid (va_up (va_up (va_up (va_up (va_up (va_up z 13 (zlik z)) 12 (z 12 + n)) 0 (z 0 + n * 60000)) 1 (zaft z n)) 2 (z 2 - zgone z n)) 8 (zsix z n % 16)) = zwid z from rfl]
    simp only [Option.bind_some]
    rw [hwv _ 0 (show (zc_sI (zc_sL v5 2 (zl (z 2 - zgone z n))) 7 (zi (zsix z n % 16))).2.1 9 = zi (z 3) from e9)]
    have r8 := s_I9 r16 (if 999999999 < z 3 + n * zwid z then 999999999 else z 3 + n * zwid z)
    generalize hZ : va_up (va_up (va_up (va_up (va_up (va_up (va_up z 13 (zlik z)) 12 (z 12 + n)) 0 (z 0 + n * 60000)) 1 (zaft z n)) 2 (z 2 - zgone z n)) 8 (zsix z n % 16)) 3 (if 999999999 < z 3 + n * zwid z then 999999999 else z 3 + n * zwid z) = z8 at r8
    have hq8 : zBq z8 := by rw [← hZ]; exact zup_bq (zup_bq (zup_bq (zup_bq (zup_bq (zup_bq (zup_bq hq (by decide)) (by decide)) (by decide)) (by decide)) (by decide)) (by decide)) (by decide)
    have g24 : z8 24 = z 24 := by rw [← hZ]; rfl
    have ghi : ∀ k, 25 ≤ k → z8 k = z k := fun k hk => by rw [← hZ, va_up_ne _ _ (by omega), va_up_ne _ _ (by omega), va_up_ne _ _ (by omega), va_up_ne _ _ (by omega), va_up_ne _ _ (by omega), va_up_ne _ _ (by omega), va_up_ne _ _ (by omega)]
    have em : fX1_minuteNumber (zc_sI (zc_sI (zc_sL v5 2 (zl (z 2 - zgone z n))) 7 (zi (zsix z n % 16))) 9 (zi (if 999999999 < z 3 + n * zwid z then 999999999 else z 3 + n * zwid z))) = some (zl (zaft z n / 60000)) := by
      rw [fX1_minuteNumber, show (zc_sI (zc_sI (zc_sL v5 2 (zl (z 2 - zgone z n))) 7 (zi (zsix z n % 16))) 9 (zi (if 999999999 < z 3 + n * zwid z then 999999999 else z 3 + n * zwid z))).1 1 = zl (zaft z n) from r5.1.2.1, zl_lit, zl_divp (by omega) (by omega) (by omega) (by omega)]
    obtain ⟨q', eq', rq⟩ := q_ring r8.2.2.2.1 hq8 (lo := z 1 / 60000) (hi := zaft z n / 60000) (by omega) (by omega) hlo (by omega) hN
    rw [em]
    simp only [Option.bind_some]
    rw [eq']
    simp only [Option.bind_some]
    refine ⟨_, ?_, zRs_congr ?_ (s_q r8 (fun k hk => zrg_lo _ _ _ _ (by omega)) rq)⟩
    · rw [g24, zc_bit (z := z) (fun a => zcnt_congr (ghi _ (by omega)) (ghi _ (by omega)) (ghi _ (by omega)) _ _)]
      rfl
    · rw [g24]
      subst hZ
      intro k hk0
      clear hk0
      revert k
      refine z25 rfl rfl ?_ rfl rfl rfl rfl rfl ?_ rfl rfl rfl rfl rfl rfl rfl rfl rfl rfl rfl rfl rfl rfl rfl rfl (fun k hk => ?_)
      · show (if z 11 = 1 then z 2 - zgone z n else z 2) = z 2 - zgone z n
        rw [if_pos hp]
      · show (if z 11 = 1 then zsix z n % 16 else z 8) = zsix z n % 16
        rw [if_pos hp]
      · rw [zrg_c ghi _ _ _ hk]
        unfold zgo
        rw [if_neg (by omega), if_neg (by omega), if_neg (by omega), if_neg (by omega), if_neg (by omega), if_neg (by omega), if_neg (by omega)]
        rfl
end ZPass
