def iI (z : Int) : Int32 := Int32.ofInt z
def iL (z : Int) : Int64 := Int64.ofInt z
abbrev inR (a : Int) : Prop := -2147483648 ≤ a ∧ a ≤ 2147483647
abbrev inL (a : Int) : Prop := -9223372036854775808 ≤ a ∧ a ≤ 9223372036854775807
theorem iI_add (a b : Int) : iI a + iI b = iI (a + b) := (Int32.ofInt_add a b).symm
theorem iI_sub (a b : Int) : iI a - iI b = iI (a - b) := (Int32.ofInt_sub a b).symm
theorem iI_mul (a b : Int) : iI a * iI b = iI (a * b) := (Int32.ofInt_mul a b).symm
theorem iI_neg (a : Int) : -iI a = iI (-a) := (Int32.ofInt_neg a).symm
theorem iL_add (a b : Int) : iL a + iL b = iL (a + b) := (Int64.ofInt_add a b).symm
theorem iL_sub (a b : Int) : iL a - iL b = iL (a - b) := (Int64.ofInt_sub a b).symm
theorem iL_mul (a b : Int) : iL a * iL b = iL (a * b) := (Int64.ofInt_mul a b).symm
theorem iI_t {a : Int} (h : inR a) : (iI a).toInt = a := Int32.toInt_ofInt_of_le (by have := h.1; omega) (by have := h.2; omega)
theorem iL_t {a : Int} (h : inL a) : (iL a).toInt = a := Int64.toInt_ofInt_of_le (by have := h.1; omega) (by have := h.2; omega)
theorem iI_of (x : Int32) : iI x.toInt = x := Int32.ofInt_toInt x
theorem iI_ofR (x : Int32) : inR x.toInt := by
  have h1 := Int32.le_toInt x
  have h2 := Int32.toInt_lt x
  constructor <;> omega
theorem iL_of (x : Int64) : iL x.toInt = x := Int64.ofInt_toInt x
theorem iI_nat (n : Nat) : Int32.ofNat n = iI (n : Int) := Int32.ofInt_eq_ofNat.symm
theorem iI_lt {a b : Int} (ha : inR a) (hb : inR b) : iI a < iI b ↔ a < b := by rw [Int32.lt_iff_toInt_lt, iI_t ha, iI_t hb]
theorem iI_le {a b : Int} (ha : inR a) (hb : inR b) : iI a ≤ iI b ↔ a ≤ b := by rw [Int32.le_iff_toInt_le, iI_t ha, iI_t hb]
theorem iI_eq {a b : Int} (ha : inR a) (hb : inR b) : iI a = iI b ↔ a = b := by rw [← Int32.toInt_inj, iI_t ha, iI_t hb]
theorem iL_lt {a b : Int} (ha : inL a) (hb : inL b) : iL a < iL b ↔ a < b := by rw [Int64.lt_iff_toInt_lt, iL_t ha, iL_t hb]
theorem iL_le {a b : Int} (ha : inL a) (hb : inL b) : iL a ≤ iL b ↔ a ≤ b := by rw [Int64.le_iff_toInt_le, iL_t ha, iL_t hb]
theorem iL_eq {a b : Int} (ha : inL a) (hb : inL b) : iL a = iL b ↔ a = b := by rw [← Int64.toInt_inj, iL_t ha, iL_t hb]
theorem iI_0 : iI 0 = 0 := rfl
theorem iI_1 : iI 1 = 1 := rfl
theorem iI_lt0 {a : Int} (ha : inR a) : iI a < 0 ↔ a < 0 := by rw [← iI_0]; exact iI_lt ha (by decide)
theorem iI_ge0 {a : Int} (ha : inR a) : 0 ≤ iI a ↔ 0 ≤ a := by rw [← iI_0]; exact iI_le (by decide) ha
theorem iI_le0 {a : Int} (ha : inR a) : iI a ≤ 0 ↔ a ≤ 0 := by rw [← iI_0]; exact iI_le ha (by decide)
theorem iI_gt0 {a : Int} (ha : inR a) : 0 < iI a ↔ 0 < a := by rw [← iI_0]; exact iI_lt (by decide) ha
theorem iI_eq0 {a : Int} (ha : inR a) : iI a = 0 ↔ a = 0 := by rw [← iI_0]; exact iI_eq ha (by decide)
theorem iI_vin {j : Int} {n : Nat} (h0 : 0 ≤ j) (h1 : j < n) (hn : n < 2147483648) : vp_in (iI j) n := by
  have e := iI_t (a := j) ⟨by omega, by omega⟩
  exact vp_in_iff.mpr ⟨by rw [e]; exact h0, by rw [e]; exact h1⟩
theorem iI_clamp {j : Int} (h0 : 0 ≤ j) (h1 : j < 2147483648) : (iI j).toNatClampNeg = j.toNat := by
  have e := iI_t (a := j) ⟨by omega, by omega⟩
  show (iI j).toInt.toNat = j.toNat
  rw [e]
theorem iI_div {a b : Int} (h0 : 0 ≤ a) (ha : a ≤ 2147483647) (hb0 : 0 < b) (hb : b ≤ 2147483647) : iI a / iI b = iI (a / b) := by
  rw [← Int.tdiv_eq_ediv_of_nonneg h0]
  refine (Int32.ofInt_tdiv ?_ ?_ ?_ ?_).symm
  · rw [show Int32.minValue.toInt = -2147483648 by decide]; omega
  · rw [show Int32.maxValue.toInt = 2147483647 by decide]; omega
  · rw [show Int32.minValue.toInt = -2147483648 by decide]; omega
  · rw [show Int32.maxValue.toInt = 2147483647 by decide]; omega
theorem iI_rem {a b : Int} (h0 : 0 ≤ a) (ha : a ≤ 2147483647) (hb0 : 0 < b) (hb : b ≤ 2147483647) : iI a - iI a / iI b * iI b = iI (a % b) := by
  rw [iI_div h0 ha hb0 hb, iI_mul, iI_sub, Int.emod_def, Int.mul_comm b]
theorem iL_div {a b : Int} (h0 : 0 ≤ a) (ha : a ≤ 9223372036854775807) (hb0 : 0 < b) (hb : b ≤ 9223372036854775807) : iL a / iL b = iL (a / b) := by
  rw [← Int.tdiv_eq_ediv_of_nonneg h0]
  refine (Int64.ofInt_tdiv ?_ ?_ ?_ ?_).symm
  · rw [show Int64.minValue.toInt = -9223372036854775808 by decide]; omega
  · rw [show Int64.maxValue.toInt = 9223372036854775807 by decide]; omega
  · rw [show Int64.minValue.toInt = -9223372036854775808 by decide]; omega
  · rw [show Int64.maxValue.toInt = 9223372036854775807 by decide]; omega
theorem iL_rem {a b : Int} (h0 : 0 ≤ a) (ha : a ≤ 9223372036854775807) (hb0 : 0 < b) (hb : b ≤ 9223372036854775807) : iL a - iL a / iL b * iL b = iL (a % b) := by
  rw [iL_div h0 ha hb0 hb, iL_mul, iL_sub, Int.emod_def, Int.mul_comm b]
theorem iL_i (a : Int) : (iL a).toInt32 = iI a := by
  show (Int64.ofInt a).toInt32 = Int32.ofInt a
  simp
theorem iI_l {a : Int} (h : inR a) : (iI a).toInt64 = iL a := by
  rw [← Int64.toInt_inj, Int32.toInt_toInt64, iI_t h, iL_t ⟨by omega, by omega⟩]
theorem iI_b (a : Int) : (iI a).toInt8.toInt32 = iI (a.bmod 256) := by
  show (Int32.ofInt a).toInt8.toInt32 = Int32.ofInt (a.bmod 256)
  rw [Int32.toInt8_ofInt, ← Int32.ofInt_int8ToInt, Int8.toInt_ofInt]
theorem iI_tn (a : Int) : (iI a).toBitVec.toNat = (a % 4294967296).toNat := by
  show (BitVec.ofInt 32 a).toNat = _
  rw [BitVec.toNat_ofInt]
  rfl
theorem iI_and255 (a : Int) : iI a &&& iI 255 = iI (a % 256) := by
  rw [pk_and (iI a) 8 (m := iI 255) (by decide), iI_tn]
  show Int32.ofNat _ = iI _
  rw [iI_nat]
  congr 1
  omega
theorem iI_and15 (a : Int) : iI a &&& iI 15 = iI (a % 16) := by
  rw [pk_and (iI a) 4 (m := iI 15) (by decide), iI_tn]
  show Int32.ofNat _ = iI _
  rw [iI_nat]
  congr 1
  omega
