/-! whole numbers as ints and longs: zi_n z, zl_n z; sums and differences without bounds, comparisons with -/
def zi_n (z : Int) : Int32 := Int32.ofInt z
def zl_n (z : Int) : Int64 := Int64.ofInt z
theorem zi_add (a b : Int) : zi_n a + zi_n b = zi_n (a + b) := (Int32.ofInt_add a b).symm
theorem zi_sub (a b : Int) : zi_n a - zi_n b = zi_n (a - b) := (Int32.ofInt_sub a b).symm
theorem zi_mul (a b : Int) : zi_n a * zi_n b = zi_n (a * b) := (Int32.ofInt_mul a b).symm
theorem zi_neg (a : Int) : - zi_n a = zi_n (-a) := (Int32.ofInt_neg a).symm
theorem zl_add (a b : Int) : zl_n a + zl_n b = zl_n (a + b) := (Int64.ofInt_add a b).symm
theorem zl_sub (a b : Int) : zl_n a - zl_n b = zl_n (a - b) := (Int64.ofInt_sub a b).symm
theorem zi_T {a : Int} (h : -2147483648 ≤ a) (h' : a < 2147483648) : (zi_n a).toInt = a := Int32.toInt_ofInt_of_le (by omega) (by omega)
theorem zl_T {a : Int} (h : -9223372036854775808 ≤ a) (h' : a < 9223372036854775808) : (zl_n a).toInt = a := Int64.toInt_ofInt_of_le (by omega) (by omega)
theorem zi_of (x : Int32) : ∃ z : Int, -2147483648 ≤ z ∧ z < 2147483648 ∧ x = zi_n z := ⟨x.toInt, by have := x.le_toInt; omega, by have := x.toInt_lt; omega, (Int32.ofInt_toInt x).symm⟩
theorem zi_lt {a b : Int} (h1 : -2147483648 ≤ a) (h2 : a < 2147483648) (h3 : -2147483648 ≤ b) (h4 : b < 2147483648) : zi_n a < zi_n b ↔ a < b := by
  rw [Int32.lt_iff_toInt_lt, zi_T h1 h2, zi_T h3 h4]
theorem zi_le {a b : Int} (h1 : -2147483648 ≤ a) (h2 : a < 2147483648) (h3 : -2147483648 ≤ b) (h4 : b < 2147483648) : zi_n a ≤ zi_n b ↔ a ≤ b := by
  rw [Int32.le_iff_toInt_le, zi_T h1 h2, zi_T h3 h4]
theorem zi_eq {a b : Int} (h1 : -2147483648 ≤ a) (h2 : a < 2147483648) (h3 : -2147483648 ≤ b) (h4 : b < 2147483648) : zi_n a = zi_n b ↔ a = b := by
  rw [← Int32.toInt_inj, zi_T h1 h2, zi_T h3 h4]
theorem zl_lt {a b : Int} (h1 : -9223372036854775808 ≤ a) (h2 : a < 9223372036854775808) (h3 : -9223372036854775808 ≤ b) (h4 : b < 9223372036854775808) : zl_n a < zl_n b ↔ a < b := by
  rw [Int64.lt_iff_toInt_lt, zl_T h1 h2, zl_T h3 h4]
theorem zl_le {a b : Int} (h1 : -9223372036854775808 ≤ a) (h2 : a < 9223372036854775808) (h3 : -9223372036854775808 ≤ b) (h4 : b < 9223372036854775808) : zl_n a ≤ zl_n b ↔ a ≤ b := by
  rw [Int64.le_iff_toInt_le, zl_T h1 h2, zl_T h3 h4]
theorem zl_eq {a b : Int} (h1 : -9223372036854775808 ≤ a) (h2 : a < 9223372036854775808) (h3 : -9223372036854775808 ≤ b) (h4 : b < 9223372036854775808) : zl_n a = zl_n b ↔ a = b := by
  rw [← Int64.toInt_inj, zl_T h1 h2, zl_T h3 h4]
theorem zi_cl {a : Int} (h : -2147483648 ≤ a) (h' : a < 2147483648) : (zi_n a).toNatClampNeg = a.toNat := Int32.toNatClampNeg_ofInt_of_le (by omega) (by omega)
theorem zi_in {a : Int} {n : Nat} (h : 0 ≤ a) (h' : a < n) (hn : n < 2147483648) : vp_in (zi_n a) n := by
  rw [vp_in_iff, zi_T (by omega) (by omega)]
  exact ⟨h, h'⟩
theorem zi_nI (n : Nat) : nI n = zi_n (n : Int) := (Int32.ofInt_eq_ofNat (n := n)).symm
theorem zl_i (a : Int) : (zl_n a).toInt32 = zi_n a := Int64.toInt32_ofInt
theorem zi_l {a : Int} (h : -2147483648 ≤ a) (h' : a < 2147483648) : (zi_n a).toInt64 = zl_n a := Int64.toInt_inj.mp (by rw [Int32.toInt_toInt64, zi_T h h', zl_T (by omega) (by omega)])
theorem zi_md (a : Int) : zi_n (a % 4294967296) = zi_n a := by
  apply Int32.toInt_inj.mp
  show (Int32.ofInt _).toInt = (Int32.ofInt _).toInt
  rw [Int32.toInt_ofInt, Int32.toInt_ofInt]
  simp only [Int.bmod_def, Int32.size]
  omega
theorem zi_and (a : Int) {m : Int32} (k : Nat) (q : Int) (hm : m.toBitVec.toNat = 2 ^ k - 1) (hq : q = (2 ^ k : Nat)) (hk : k ≤ 31) : zi_n a &&& m = zi_n (a % q) := by
  apply Int32.toBitVec_inj.mp
  apply BitVec.eq_of_toNat_eq
  rw [Int32.toBitVec_and, BitVec.toNat_and, hm, Nat.and_two_pow_sub_one_eq_mod]
  show (BitVec.ofInt 32 a).toNat % 2 ^ k = (BitVec.ofInt 32 (a % q)).toNat
  rw [BitVec.toNat_ofInt, BitVec.toNat_ofInt]
  have hd : (2 ^ k : Nat) ∣ 2 ^ 32 := Nat.pow_dvd_pow 2 (by omega)
  have hlt : (2 ^ k : Nat) ≤ 2 ^ 31 := Nat.pow_le_pow_right (by decide) hk
  have hp : 0 < (2 ^ k : Nat) := Nat.two_pow_pos k
  subst hq
  have e1 : a % ((2 ^ k : Nat) : Int) % ((2 ^ 32 : Nat) : Int) = a % ((2 ^ k : Nat) : Int) := Int.emod_eq_of_lt (Int.emod_nonneg _ (by omega)) (by have := Int.emod_lt_of_pos a (b := ((2 ^ k : Nat) : Int)) (by omega); omega)
  rw [e1]
  apply Int.ofNat.inj
  show (((a % ((2 ^ 32 : Nat) : Int)).toNat % 2 ^ k : Nat) : Int) = ((a % ((2 ^ k : Nat) : Int)).toNat : Int)
  rw [Int.natCast_emod, Int.toNat_of_nonneg (Int.emod_nonneg _ (by decide)), Int.toNat_of_nonneg (Int.emod_nonneg _ (by omega))]
  exact Int.emod_emod_of_dvd a (Int.natCast_dvd_natCast.mpr hd)
theorem zi_a16 (a : Int) : zi_n a &&& 65535 = zi_n (a % 65536) := zi_and a 16 65536 (by decide) (by decide) (by decide)
theorem zi_a5 (a : Int) : zi_n a &&& 31 = zi_n (a % 32) := zi_and a 5 32 (by decide) (by decide) (by decide)
theorem zi_a8 (a : Int) : zi_n a &&& 255 = zi_n (a % 256) := zi_and a 8 256 (by decide) (by decide) (by decide)
theorem zl_a6 (a : Int) : zl_n a &&& 63 = zl_n (a % 64) := by
  apply Int64.toBitVec_inj.mp
  apply BitVec.eq_of_toNat_eq
  rw [Int64.toBitVec_and, BitVec.toNat_and, show (63 : Int64).toBitVec.toNat = 2 ^ 6 - 1 from by decide, Nat.and_two_pow_sub_one_eq_mod]
  show (BitVec.ofInt 64 a).toNat % 2 ^ 6 = (BitVec.ofInt 64 (a % 64)).toNat
  rw [BitVec.toNat_ofInt, BitVec.toNat_ofInt]
  omega
/-- a number as a short, as a byte -/
def zi_s (z : Int) : Int := (z + 32768) % 65536 - 32768
def zi_b (z : Int) : Int := (z + 128) % 256 - 128
theorem zi_s_e (z : Int) : zi_s z = (z + 32768) % 65536 - 32768 := rfl
theorem zi_b_e (z : Int) : zi_b z = (z + 128) % 256 - 128 := rfl
theorem zi_short (a : Int) : (zi_n a).toInt16.toInt32 = zi_n (zi_s a) := by
  apply Int32.toInt_inj.mp
  rw [zi_s_e, zi_T (by omega) (by omega), Int16.toInt_toInt32]
  show (Int32.ofInt a).toInt16.toInt = _
  rw [Int32.toInt16_ofInt, Int16.toInt_ofInt]
  simp only [Int.bmod_def, Int16.size]
  omega
theorem zi_byte (a : Int) : (zi_n a).toInt8.toInt32 = zi_n (zi_b a) := by
  apply Int32.toInt_inj.mp
  rw [zi_b_e, zi_T (by omega) (by omega), Int8.toInt_toInt32]
  show (Int32.ofInt a).toInt8.toInt = _
  rw [Int32.toInt8_ofInt, Int8.toInt_ofInt]
  simp only [Int.bmod_def, Int8.size]
  omega
theorem zi_div {a b : Int} (h : 0 ≤ a) (h' : a < 2147483648) (hb : 0 < b) (hb' : b < 2147483648) : zi_n a / zi_n b = zi_n (a / b) := by
  apply Int32.toInt_inj.mp
  have h1 : a / b ≤ a := Int.ediv_le_self b h
  have h2 : 0 ≤ a / b := Int.ediv_nonneg h (by omega)
  rw [lg_idiv_nonneg (by rw [zi_T (by omega) h']; omega) (by rw [zi_T (by omega) hb']; omega), zi_T (by omega) h', zi_T (by omega) hb', zi_T (by omega) (by omega)]
/-- the offset of two numbers that lie near each other -/
theorem zi_off {i a b : Int} (h : -32768 ≤ a - b) (h' : a - b < 32768) : zi_s ((i + a) % 65536 - (i + b) % 65536) = a - b := by
  rw [zi_s_e]; omega
/-- stores -/
theorem zu_s {f : Nat → Int32} {k : Nat} {x : Int32} : upd f k x k = x := if_pos rfl
theorem zu_n {f : Nat → Int32} {k j : Nat} {x : Int32} (h : j ≠ k) : upd f k x j = f j := if_neg h
theorem zv_s {f : Nat → Int64} {k : Nat} {x : Int64} : vp_updL f k x k = x := if_pos rfl
theorem zv_n {f : Nat → Int64} {k j : Nat} {x : Int64} (h : j ≠ k) : vp_updL f k x j = f j := if_neg h
