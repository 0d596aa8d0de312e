/-! numbers: machine ints and longs as images of whole numbers -/
def zi (a : Int) : Int32 := Int32.ofInt a
def zl (a : Int) : Int64 := Int64.ofInt a
theorem zi_add (a b : Int) : zi a + zi b = zi (a + b) := (Int32.ofInt_add a b).symm
theorem zi_sub (a b : Int) : zi a - zi b = zi (a - b) := (Int32.ofInt_sub a b).symm
theorem zi_mul (a b : Int) : zi a * zi b = zi (a * b) := (Int32.ofInt_mul a b).symm
theorem zi_neg (a : Int) : -zi a = zi (-a) := (Int32.ofInt_neg a).symm
theorem zl_add (a b : Int) : zl a + zl b = zl (a + b) := (Int64.ofInt_add a b).symm
theorem zl_sub (a b : Int) : zl a - zl b = zl (a - b) := (Int64.ofInt_sub a b).symm
theorem zl_mul (a b : Int) : zl a * zl b = zl (a * b) := (Int64.ofInt_mul a b).symm
theorem zl_neg (a : Int) : -zl a = zl (-a) := (Int64.ofInt_neg a).symm
theorem zi_lit (n : Nat) : (no_index (OfNat.ofNat n) : Int32) = zi (no_index (OfNat.ofNat n)) := (Int32.ofInt_eq_ofNat (n := n)).symm
theorem zl_lit (n : Nat) : (no_index (OfNat.ofNat n) : Int64) = zl (no_index (OfNat.ofNat n)) := (Int64.ofInt_eq_ofNat (n := n)).symm
theorem zi_toInt {a : Int} (h1 : -2147483648 ≤ a) (h2 : a ≤ 2147483647) : (zi a).toInt = a := Int32.toInt_ofInt_of_le (by omega) (by omega)
theorem zl_toInt {a : Int} (h1 : -9223372036854775808 ≤ a) (h2 : a ≤ 9223372036854775807) : (zl a).toInt = a := Int64.toInt_ofInt_of_le (by omega) (by omega)
theorem zi_le {a b : Int} (h1 : -2147483648 ≤ a) (h2 : a ≤ 2147483647) (h3 : -2147483648 ≤ b) (h4 : b ≤ 2147483647) : (zi a ≤ zi b) = (a ≤ b) := by
  rw [Int32.le_iff_toInt_le, zi_toInt h1 h2, zi_toInt h3 h4]
theorem zi_lt {a b : Int} (h1 : -2147483648 ≤ a) (h2 : a ≤ 2147483647) (h3 : -2147483648 ≤ b) (h4 : b ≤ 2147483647) : (zi a < zi b) = (a < b) := by
  rw [Int32.lt_iff_toInt_lt, zi_toInt h1 h2, zi_toInt h3 h4]
theorem zi_eq {a b : Int} (h1 : -2147483648 ≤ a) (h2 : a ≤ 2147483647) (h3 : -2147483648 ≤ b) (h4 : b ≤ 2147483647) : (zi a = zi b) = (a = b) := by
  rw [← Int32.toInt_inj, zi_toInt h1 h2, zi_toInt h3 h4]
theorem zl_le {a b : Int} (h1 : -9223372036854775808 ≤ a) (h2 : a ≤ 9223372036854775807) (h3 : -9223372036854775808 ≤ b) (h4 : b ≤ 9223372036854775807) : (zl a ≤ zl b) = (a ≤ b) := by
  rw [Int64.le_iff_toInt_le, zl_toInt h1 h2, zl_toInt h3 h4]
theorem zl_lt {a b : Int} (h1 : -9223372036854775808 ≤ a) (h2 : a ≤ 9223372036854775807) (h3 : -9223372036854775808 ≤ b) (h4 : b ≤ 9223372036854775807) : (zl a < zl b) = (a < b) := by
  rw [Int64.lt_iff_toInt_lt, zl_toInt h1 h2, zl_toInt h3 h4]
theorem zl_eq {a b : Int} (h1 : -9223372036854775808 ≤ a) (h2 : a ≤ 9223372036854775807) (h3 : -9223372036854775808 ≤ b) (h4 : b ≤ 9223372036854775807) : (zl a = zl b) = (a = b) := by
  rw [← Int64.toInt_inj, zl_toInt h1 h2, zl_toInt h3 h4]
theorem zi_l {a : Int} (h1 : -2147483648 ≤ a) (h2 : a ≤ 2147483647) : (zi a).toInt64 = zl a := Int32.toInt64_ofInt h1 h2
theorem zl_i (a : Int) : (zl a).toInt32 = zi a := Int64.toInt32_ofInt
theorem zi_nat {a : Int} (h1 : 0 ≤ a) (h2 : a ≤ 2147483647) : (zi a).toNatClampNeg = a.toNat := Int32.toNatClampNeg_ofInt_of_le (by omega) (by omega)
theorem zi_div {a b : Int} (h1 : -2147483648 ≤ a) (h2 : a ≤ 2147483647) (h3 : -2147483648 ≤ b) (h4 : b ≤ 2147483647) : zi a / zi b = zi (a.tdiv b) := (Int32.ofInt_tdiv h1 h2 h3 h4).symm
theorem zl_div {a b : Int} (h1 : -9223372036854775808 ≤ a) (h2 : a ≤ 9223372036854775807) (h3 : -9223372036854775808 ≤ b) (h4 : b ≤ 9223372036854775807) : zl a / zl b = zl (a.tdiv b) := (Int64.ofInt_tdiv h1 h2 h3 h4).symm
theorem zi_divp {a b : Int} (h1 : 0 ≤ a) (h2 : a ≤ 2147483647) (h3 : 0 ≤ b) (h4 : b ≤ 2147483647) : zi a / zi b = zi (a / b) := by
  rw [zi_div (by omega) h2 (by omega) h4, Int.tdiv_eq_ediv_of_nonneg h1]
theorem zl_divp {a b : Int} (h1 : 0 ≤ a) (h2 : a ≤ 9223372036854775807) (h3 : 0 ≤ b) (h4 : b ≤ 9223372036854775807) : zl a / zl b = zl (a / b) := by
  rw [zl_div (by omega) h2 (by omega) h4, Int.tdiv_eq_ediv_of_nonneg h1]
theorem zg_lt {a b : Int} (h1 : -9223372036854775808 ≤ a) (h2 : a ≤ 9223372036854775807) (h3 : -9223372036854775808 ≤ b) (h4 : b ≤ 9223372036854775807) : (lg_cmp (zl a) (zl b) < 0) = (a < b) := by rw [lg_cmp_lt, zl_lt h1 h2 h3 h4]
theorem zg_le {a b : Int} (h1 : -9223372036854775808 ≤ a) (h2 : a ≤ 9223372036854775807) (h3 : -9223372036854775808 ≤ b) (h4 : b ≤ 9223372036854775807) : (lg_cmp (zl a) (zl b) ≤ 0) = (a ≤ b) := by rw [lg_cmp_le, zl_le h1 h2 h3 h4]
theorem zg_gt {a b : Int} (h1 : -9223372036854775808 ≤ a) (h2 : a ≤ 9223372036854775807) (h3 : -9223372036854775808 ≤ b) (h4 : b ≤ 9223372036854775807) : (0 < lg_cmp (zl a) (zl b)) = (b < a) := by rw [lg_cmp_gt, zl_lt h3 h4 h1 h2]
theorem zg_ge {a b : Int} (h1 : -9223372036854775808 ≤ a) (h2 : a ≤ 9223372036854775807) (h3 : -9223372036854775808 ≤ b) (h4 : b ≤ 9223372036854775807) : (0 ≤ lg_cmp (zl a) (zl b)) = (b ≤ a) := by rw [lg_cmp_ge, zl_le h3 h4 h1 h2]
theorem zg_eq {a b : Int} (h1 : -9223372036854775808 ≤ a) (h2 : a ≤ 9223372036854775807) (h3 : -9223372036854775808 ≤ b) (h4 : b ≤ 9223372036854775807) : (lg_cmp (zl a) (zl b) = 0) = (a = b) := by rw [lg_cmp_eq, zl_eq h1 h2 h3 h4]
theorem zn_in {α : Type} {a : Int} {n : Nat} {o : Option α} (h1 : 0 ≤ a) (h2 : a < n) (h3 : n ≤ 2147483647) : zc_in (zi a) n o = o := by
  have e1 : ¬ ((zi a) < 0 ∨ n ≤ (zi a).toNatClampNeg) := by
    rw [zi_nat h1 (by omega)]
    rintro (h | h)
    · rw [show (0 : Int32) = zi 0 from zi_lit 0, zi_lt (by omega) (by omega) (by omega) (by omega)] at h
      omega
    · omega
  unfold zc_in
  rw [if_neg e1]
theorem zn_nz {α : Type} {a : Int} {o : Option α} (h1 : -2147483648 ≤ a) (h2 : a ≤ 2147483647) (h : a ≠ 0) : zc_nz (zi a) o = o := by
  unfold zc_nz
  rw [if_neg]
  rw [show (0 : Int32) = zi 0 from zi_lit 0, zi_eq h1 h2 (by omega) (by omega)]
  exact h
theorem zn_nzL {α : Type} {a : Int} {o : Option α} (h1 : -9223372036854775808 ≤ a) (h2 : a ≤ 9223372036854775807) (h : a ≠ 0) : zc_nzL (zl a) o = o := by
  unfold zc_nzL
  rw [if_neg]
  rw [show (0 : Int64) = zl 0 from zl_lit 0, zl_eq h1 h2 (by omega) (by omega)]
  exact h
theorem zn_z {α : Type} {a : Int} {o : Option α} (h : a = 0 ∨ a = 1) : zc_z (zi a) o = o := by
  unfold zc_z
  rw [if_pos]
  rcases h with rfl | rfl
  · exact Or.inl (zi_lit 0).symm
  · exact Or.inr (zi_lit 1).symm
theorem zx_l (x y : Int64) : (0 ≤ x ^^^ y) ↔ ((0 ≤ x) ↔ (0 ≤ y)) := by
  have h : ∀ w : Int64, (0 ≤ w) ↔ w.toBitVec.msb = false := by
    intro w
    rw [Int64.le_iff_toInt_le, BitVec.msb_eq_toInt]
    show (0 : Int) ≤ w.toBitVec.toInt ↔ _
    by_cases c : w.toBitVec.toInt < 0
    · simp [c]
    · simp [c]
      try omega
  rw [h, h, h]
  show (x.toBitVec ^^^ y.toBitVec).msb = false ↔ _
  rw [BitVec.msb_xor]
  cases x.toBitVec.msb <;> cases y.toBitVec.msb <;> simp
theorem zx_i (x y : Int32) : (0 ≤ x ^^^ y) ↔ ((0 ≤ x) ↔ (0 ≤ y)) := by
  have h : ∀ w : Int32, (0 ≤ w) ↔ w.toBitVec.msb = false := by
    intro w
    rw [Int32.le_iff_toInt_le, BitVec.msb_eq_toInt]
    show (0 : Int) ≤ w.toBitVec.toInt ↔ _
    by_cases c : w.toBitVec.toInt < 0
    · simp [c]
    · simp [c]
      try omega
  rw [h, h, h]
  show (x.toBitVec ^^^ y.toBitVec).msb = false ↔ _
  rw [BitVec.msb_xor]
  cases x.toBitVec.msb <;> cases y.toBitVec.msb <;> simp
/-! the same, as tests -/
theorem wi_le {α : Type} {a b : Int} {x y : α} {d : Decidable (zi a ≤ zi b)} (h1 : -2147483648 ≤ a) (h2 : a ≤ 2147483647) (h3 : -2147483648 ≤ b) (h4 : b ≤ 2147483647) : @ite α (zi a ≤ zi b) d x y = if a ≤ b then x else y := by
  have e := zi_le h1 h2 h3 h4
  by_cases q : a ≤ b
  · rw [if_pos q, if_pos (by rw [e]; exact q)]
  · rw [if_neg q, if_neg (by rw [e]; exact q)]
theorem wi_lt {α : Type} {a b : Int} {x y : α} {d : Decidable (zi a < zi b)} (h1 : -2147483648 ≤ a) (h2 : a ≤ 2147483647) (h3 : -2147483648 ≤ b) (h4 : b ≤ 2147483647) : @ite α (zi a < zi b) d x y = if a < b then x else y := by
  have e := zi_lt h1 h2 h3 h4
  by_cases q : a < b
  · rw [if_pos q, if_pos (by rw [e]; exact q)]
  · rw [if_neg q, if_neg (by rw [e]; exact q)]
theorem wi_eq {α : Type} {a b : Int} {x y : α} {d : Decidable (zi a = zi b)} (h1 : -2147483648 ≤ a) (h2 : a ≤ 2147483647) (h3 : -2147483648 ≤ b) (h4 : b ≤ 2147483647) : @ite α (zi a = zi b) d x y = if a = b then x else y := by
  have e := zi_eq h1 h2 h3 h4
  by_cases q : a = b
  · rw [if_pos q, if_pos (by rw [e]; exact q)]
  · rw [if_neg q, if_neg (by rw [e]; exact q)]
theorem wl_le {α : Type} {a b : Int} {x y : α} {d : Decidable (zl a ≤ zl b)} (h1 : -9223372036854775808 ≤ a) (h2 : a ≤ 9223372036854775807) (h3 : -9223372036854775808 ≤ b) (h4 : b ≤ 9223372036854775807) : @ite α (zl a ≤ zl b) d x y = if a ≤ b then x else y := by
  have e := zl_le h1 h2 h3 h4
  by_cases q : a ≤ b
  · rw [if_pos q, if_pos (by rw [e]; exact q)]
  · rw [if_neg q, if_neg (by rw [e]; exact q)]
theorem wl_lt {α : Type} {a b : Int} {x y : α} {d : Decidable (zl a < zl b)} (h1 : -9223372036854775808 ≤ a) (h2 : a ≤ 9223372036854775807) (h3 : -9223372036854775808 ≤ b) (h4 : b ≤ 9223372036854775807) : @ite α (zl a < zl b) d x y = if a < b then x else y := by
  have e := zl_lt h1 h2 h3 h4
  by_cases q : a < b
  · rw [if_pos q, if_pos (by rw [e]; exact q)]
  · rw [if_neg q, if_neg (by rw [e]; exact q)]
theorem wl_eq {α : Type} {a b : Int} {x y : α} {d : Decidable (zl a = zl b)} (h1 : -9223372036854775808 ≤ a) (h2 : a ≤ 9223372036854775807) (h3 : -9223372036854775808 ≤ b) (h4 : b ≤ 9223372036854775807) : @ite α (zl a = zl b) d x y = if a = b then x else y := by
  have e := zl_eq h1 h2 h3 h4
  by_cases q : a = b
  · rw [if_pos q, if_pos (by rw [e]; exact q)]
  · rw [if_neg q, if_neg (by rw [e]; exact q)]
theorem wg_lt {α : Type} {a b : Int} {x y : α} {d : Decidable (lg_cmp (zl a) (zl b) < 0)} (h1 : -9223372036854775808 ≤ a) (h2 : a ≤ 9223372036854775807) (h3 : -9223372036854775808 ≤ b) (h4 : b ≤ 9223372036854775807) : @ite α (lg_cmp (zl a) (zl b) < 0) d x y = if a < b then x else y := by
  have e := zg_lt h1 h2 h3 h4
  by_cases q : a < b
  · rw [if_pos q, if_pos (by rw [e]; exact q)]
  · rw [if_neg q, if_neg (by rw [e]; exact q)]
theorem wg_le {α : Type} {a b : Int} {x y : α} {d : Decidable (lg_cmp (zl a) (zl b) ≤ 0)} (h1 : -9223372036854775808 ≤ a) (h2 : a ≤ 9223372036854775807) (h3 : -9223372036854775808 ≤ b) (h4 : b ≤ 9223372036854775807) : @ite α (lg_cmp (zl a) (zl b) ≤ 0) d x y = if a ≤ b then x else y := by
  have e := zg_le h1 h2 h3 h4
  by_cases q : a ≤ b
  · rw [if_pos q, if_pos (by rw [e]; exact q)]
  · rw [if_neg q, if_neg (by rw [e]; exact q)]
theorem wg_gt {α : Type} {a b : Int} {x y : α} {d : Decidable (0 < lg_cmp (zl a) (zl b))} (h1 : -9223372036854775808 ≤ a) (h2 : a ≤ 9223372036854775807) (h3 : -9223372036854775808 ≤ b) (h4 : b ≤ 9223372036854775807) : @ite α (0 < lg_cmp (zl a) (zl b)) d x y = if b < a then x else y := by
  have e := zg_gt h1 h2 h3 h4
  by_cases q : b < a
  · rw [if_pos q, if_pos (by rw [e]; exact q)]
  · rw [if_neg q, if_neg (by rw [e]; exact q)]
theorem wg_ge {α : Type} {a b : Int} {x y : α} {d : Decidable (0 ≤ lg_cmp (zl a) (zl b))} (h1 : -9223372036854775808 ≤ a) (h2 : a ≤ 9223372036854775807) (h3 : -9223372036854775808 ≤ b) (h4 : b ≤ 9223372036854775807) : @ite α (0 ≤ lg_cmp (zl a) (zl b)) d x y = if b ≤ a then x else y := by
  have e := zg_ge h1 h2 h3 h4
  by_cases q : b ≤ a
  · rw [if_pos q, if_pos (by rw [e]; exact q)]
  · rw [if_neg q, if_neg (by rw [e]; exact q)]
theorem wg_eq {α : Type} {a b : Int} {x y : α} {d : Decidable (lg_cmp (zl a) (zl b) = 0)} (h1 : -9223372036854775808 ≤ a) (h2 : a ≤ 9223372036854775807) (h3 : -9223372036854775808 ≤ b) (h4 : b ≤ 9223372036854775807) : @ite α (lg_cmp (zl a) (zl b) = 0) d x y = if a = b then x else y := by
  have e := zg_eq h1 h2 h3 h4
  by_cases q : a = b
  · rw [if_pos q, if_pos (by rw [e]; exact q)]
  · rw [if_neg q, if_neg (by rw [e]; exact q)]
/-! floor division and what is left -/
theorem zt_neg (a b : Int) (ha : a < 0) (hb : 0 < b) : a.tdiv b = -((-a) / b) := by
  rw [show a = -(-a) by omega, Int.neg_tdiv, Int.tdiv_eq_ediv_of_nonneg (by omega)]
  simp
theorem zx16 {a b : Int} (h1 : -9223372036854775808 ≤ a) (h2 : a ≤ 9223372036854775807) (h3 : 0 ≤ b) (h4 : b ≤ 9223372036854775807) : (0 ≤ lg_cmp (zl a ^^^ zl b) (zl 0)) ↔ 0 ≤ a := by
  rw [lg_cmp_ge, show zl 0 = (0 : Int64) from (zl_lit 0).symm, zx_l, show (0 : Int64) = zl 0 from zl_lit 0, zl_le (by omega) (by omega) h1 h2, zl_le (by omega) (by omega) (by omega) h4]
  simp [h3]
theorem zx20 {a b : Int} (h1 : -2147483648 ≤ a) (h2 : a ≤ 2147483647) (h3 : 0 ≤ b) (h4 : b ≤ 2147483647) : (zi 0 ≤ zi a ^^^ zi b) ↔ 0 ≤ a := by
  rw [show zi 0 = (0 : Int32) from (zi_lit 0).symm, zx_i, show (0 : Int32) = zi 0 from zi_lit 0, zi_le (by omega) (by omega) h1 h2, zi_le (by omega) (by omega) (by omega) h4]
  simp [h3]
theorem n_floorDiv16 {a : Int} (h1 : -9223372036854775808 ≤ a) (h2 : a ≤ 9223372036854775807) : fJ9_floorDiv_f86c9 (zl a) 16 = some (zl (a / 16)) := by
  unfold fJ9_floorDiv_f86c9 zc_let
  simp only [zl_lit]
  rw [zn_nzL (by omega) (by omega) (by omega), zl_div h1 h2 (by omega) (by omega), zl_mul, zl_sub]
  by_cases c : 0 ≤ a
  · rw [if_pos ((zx16 h1 h2 (by omega) (by omega)).mpr c), Int.tdiv_eq_ediv_of_nonneg c]
  · rw [if_neg (fun h => c ((zx16 h1 h2 (by omega) (by omega)).mp h)), zt_neg a 16 (by omega) (by omega), wg_eq (by omega) (by omega) h1 h2]
    by_cases d : -(-a / 16) * 16 = a
    · rw [if_pos d]; congr 2; omega
    · rw [if_neg d]; congr 2; omega
theorem n_floorDiv32 {a : Int} (h1 : -9223372036854775808 ≤ a) (h2 : a ≤ 9223372036854775807) : fJ9_floorDiv_f86c9 (zl a) 32 = some (zl (a / 32)) := by
  unfold fJ9_floorDiv_f86c9 zc_let
  simp only [zl_lit]
  rw [zn_nzL (by omega) (by omega) (by omega), zl_div h1 h2 (by omega) (by omega), zl_mul, zl_sub]
  by_cases c : 0 ≤ a
  · rw [if_pos ((zx16 h1 h2 (by omega) (by omega)).mpr c), Int.tdiv_eq_ediv_of_nonneg c]
  · rw [if_neg (fun h => c ((zx16 h1 h2 (by omega) (by omega)).mp h)), zt_neg a 32 (by omega) (by omega), wg_eq (by omega) (by omega) h1 h2]
    by_cases d : -(-a / 32) * 32 = a
    · rw [if_pos d]; congr 2; omega
    · rw [if_neg d]; congr 2; omega
theorem n_floorMod16 {a : Int} (h1 : -9223372036854775808 ≤ a) (h2 : a ≤ 9223372036854775807) : fJ9_floorMod_f86c9 (zl a) 16 = some (zl (a % 16)) := by
  unfold fJ9_floorMod_f86c9 zc_let
  simp only [zl_lit]
  rw [zn_nzL (by omega) (by omega) (by omega), zl_div h1 h2 (by omega) (by omega), zl_mul, zl_sub, zl_add]
  by_cases c : 0 ≤ a
  · rw [if_pos ((zx16 h1 h2 (by omega) (by omega)).mpr c), Int.tdiv_eq_ediv_of_nonneg c]; congr 2; omega
  · rw [if_neg (fun h => c ((zx16 h1 h2 (by omega) (by omega)).mp h)), zt_neg a 16 (by omega) (by omega), wg_eq (by omega) (by omega) (by omega) (by omega)]
    by_cases d : a - -(-a / 16) * 16 = 0
    · rw [if_pos d]; congr 2; omega
    · rw [if_neg d]; congr 2; omega
theorem n_floorMod20 {a : Int} (h1 : -2147483648 ≤ a) (h2 : a ≤ 2147483647) : fJ9_floorMod_7cf53 (zi a) 20 = some (zi (a % 20)) := by
  unfold fJ9_floorMod_7cf53 zc_let
  simp only [zi_lit]
  rw [zn_nz (by omega) (by omega) (by omega), zi_div h1 h2 (by omega) (by omega), zi_mul, zi_sub, zi_add]
  by_cases c : 0 ≤ a
  · rw [if_pos ((zx20 h1 h2 (by omega) (by omega)).mpr c), Int.tdiv_eq_ediv_of_nonneg c]; congr 2; omega
  · rw [if_neg (fun h => c ((zx20 h1 h2 (by omega) (by omega)).mp h)), zt_neg a 20 (by omega) (by omega), wi_eq (by omega) (by omega) (by omega) (by omega)]
    by_cases d : a - -(-a / 20) * 20 = 0
    · rw [if_pos d]; congr 2; omega
    · rw [if_neg d]; congr 2; omega
