
def uN (x : Int64) : Nat := x.toUInt64.toNat
theorem uN_lt (x : Int64) : uN x < 18446744073709551616 := x.toUInt64.toNat_lt
theorem uN_inj {x y : Int64} (h : uN x = uN y) : x = y := congrArg UInt64.toInt64 (UInt64.toNat_inj.mp h)
theorem uN_add (x y : Int64) : uN (x + y) = (uN x + uN y) % 18446744073709551616 := by
  show (x.toUInt64 + y.toUInt64).toNat = _
  exact UInt64.toNat_add _ _
theorem uN_mul (x y : Int64) : uN (x * y) = (uN x * uN y) % 18446744073709551616 := by
  show (x.toUInt64 * y.toUInt64).toNat = _
  exact UInt64.toNat_mul _ _
theorem uN_shl (x : Int64) : uN (x <<< ((1 : Int32).toInt64 &&& 63)) = (2 * uN x) % 18446744073709551616 := by
  have h : (((1 : Int32).toInt64 &&& 63).toBitVec.smod 64).toNat = 1 := by decide
  show (x.toBitVec <<< (((1 : Int32).toInt64 &&& 63).toBitVec.smod 64).toNat).toNat = _
  rw [h, BitVec.toNat_shiftLeft, Nat.shiftLeft_eq, Nat.mul_comm]
  rfl
theorem uN_shr (x : Int64) (s : UInt64) : uN (x.toUInt64 >>> s).toInt64 = uN x / 2 ^ (s.toNat % 64) := by
  show (x.toUInt64 >>> s).toNat = _
  rw [UInt64.toNat_shiftRight, Nat.shiftRight_eq_div_pow]
  rfl
theorem uN_s32 (x : Int64) : uN (x.toUInt64 >>> ((32 : Int32).toInt64.toUInt64 &&& Int64.toUInt64 63)).toInt64 = uN x / 4294967296 := by
  have h : ((32 : Int32).toInt64.toUInt64 &&& Int64.toUInt64 63).toNat % 64 = 32 := by decide
  rw [uN_shr, h]
theorem uN_s63 (x : Int64) : uN (x.toUInt64 >>> ((63 : Int32).toInt64.toUInt64 &&& Int64.toUInt64 63)).toInt64 = uN x / 9223372036854775808 := by
  have h : ((63 : Int32).toInt64.toUInt64 &&& Int64.toUInt64 63).toNat % 64 = 63 := by decide
  rw [uN_shr, h]
theorem uN_lo (x : Int64) : uN (x &&& 4294967295) = uN x % 4294967296 := by
  show (x.toUInt64 &&& Int64.toUInt64 4294967295).toNat = _
  rw [UInt64.toNat_and]
  exact Nat.and_two_pow_sub_one_eq_mod _ 32
theorem uN_bit (x : Int64) : (x &&& 1) = 0 ↔ uN x % 2 = 0 := by
  have h : uN (x &&& 1) = uN x % 2 := by
    show (x.toUInt64 &&& Int64.toUInt64 1).toNat = _
    rw [UInt64.toNat_and]
    exact Nat.and_two_pow_sub_one_eq_mod _ 1
  rw [← h]
  exact ⟨fun z => by rw [z]; rfl, fun z => uN_inj (z.trans rfl)⟩
theorem uN_or {x y : Int64} (hy : uN y < 2) : uN ((x <<< ((1 : Int32).toInt64 &&& 63)) ||| y) = (2 * uN x) % 18446744073709551616 + uN y := by
  have h1 : uN ((x <<< ((1 : Int32).toInt64 &&& 63)) ||| y) = uN (x <<< ((1 : Int32).toInt64 &&& 63)) ||| uN y := UInt64.toNat_or _ _
  have h2 : (2 * uN x) % 18446744073709551616 = 2 ^ 1 * (uN x % 9223372036854775808) := by omega
  rw [h1, uN_shl, h2]
  exact (Nat.two_pow_add_eq_or_of_lt (i := 1) hy _).symm
theorem nat_xor {a : Nat} (h : a < 18446744073709551616) : a ^^^ 2 ^ 63 = (a + 9223372036854775808) % 18446744073709551616 := by
  have h1 : (a ^^^ 2 ^ 63) % 2 ^ 63 = a % 2 ^ 63 := by rw [Nat.xor_mod_two_pow, Nat.mod_self, Nat.xor_zero]
  have h2 : (a ^^^ 2 ^ 63) / 2 ^ 63 = (a / 2 ^ 63) ^^^ 1 := by rw [Nat.xor_div_two_pow, Nat.div_self (Nat.two_pow_pos 63)]
  have h3 : a / 2 ^ 63 = 0 ∨ a / 2 ^ 63 = 1 := by omega
  generalize a ^^^ 2 ^ 63 = t at h1 h2
  rcases h3 with h3 | h3
  · rw [h3] at h2
    have h2 : t / 2 ^ 63 = 1 := h2
    omega
  · rw [h3] at h2
    have h2 : t / 2 ^ 63 = 0 := h2
    omega
theorem uN_xor (x : Int64) : uN (x ^^^ (-9223372036854775808)) = (uN x + 9223372036854775808) % 18446744073709551616 := by
  rw [← nat_xor (uN_lt x)]
  exact UInt64.toNat_xor _ _
theorem uN_int (x : Int64) : x.toInt = if 2 * uN x < 18446744073709551616 then (uN x : Int) else (uN x : Int) - 18446744073709551616 := BitVec.toInt_eq_toNat_cond _
theorem uN_le (x y : Int64) : (x ^^^ (-9223372036854775808)) ≤ (y ^^^ (-9223372036854775808)) ↔ uN x ≤ uN y := by
  have hx := uN_lt x
  have hy := uN_lt y
  rw [Int64.le_iff_toInt_le, uN_int, uN_int, uN_xor, uN_xor]
  omega
theorem uN_sk (x : Int64) {k : Nat} (hk : k < 64) : uN (x.toUInt64 >>> ((nI k).toInt64.toUInt64 &&& Int64.toUInt64 63)).toInt64 = uN x / 2 ^ k := by
  have h : ((nI k).toInt64.toUInt64 &&& Int64.toUInt64 63).toNat % 64 = k := by
    rw [nI_l (by omega), UInt64.toNat_and]
    have e : (lN k).toUInt64.toNat = k % 2 ^ 64 := rfl
    have e2 : (Int64.toUInt64 63).toNat = 2 ^ 6 - 1 := by decide
    rw [e, e2, Nat.and_two_pow_sub_one_eq_mod]
    omega
  rw [uN_shr, h]
/-! the bits of a number -/
def exB (fb eo : Nat) (B : Int64) : Int := ((uN B / 2 ^ fb % eo : Nat) : Int)
def frB (fb : Nat) (B : Int64) : Int := ((uN B % 2 ^ fb : Nat) : Int)
def cfB (fb eo : Nat) (B : Int64) : Int := if exB fb eo B = 0 then frB fb B else 2 ^ fb + frB fb B
theorem exB_r (fb eo : Nat) (h : 0 < eo ∧ eo ≤ 2048) (B : Int64) : 0 ≤ exB fb eo B ∧ exB fb eo B ≤ 2047 := by
  have := Nat.mod_lt (uN B / 2 ^ fb) h.1
  unfold exB
  omega
theorem frB_lt (fb : Nat) (B : Int64) : 0 ≤ frB fb B ∧ frB fb B < 2 ^ fb := by
  have h := Nat.mod_lt (uN B) (Nat.two_pow_pos fb)
  unfold frB
  refine ⟨Int.natCast_nonneg _, ?_⟩
  have e : ((2 : Int) ^ fb) = ((2 ^ fb : Nat) : Int) := by simp
  rw [e]
  exact Int.ofNat_lt.mpr h
theorem frB_r (fb : Nat) (B : Int64) (h : fb ≤ 52) : 0 ≤ frB fb B ∧ frB fb B ≤ 4503599627370495 := by
  have h1 := frB_lt fb B
  have h2 : (2 : Int) ^ fb ≤ 2 ^ 52 := by
    have e : (52 : Nat) = fb + (52 - fb) := by omega
    rw [e, Int.pow_add]
    exact le_mul_pow2 _ (Int.le_of_lt (pow2_pos fb))
  have h3 : (2 : Int) ^ 52 = 4503599627370496 := by decide
  omega
theorem uN_lz {n : Nat} (h : n < 18446744073709551616) : uN (lz (n : Int)) = n := by
  rw [lz_nat]
  show (BitVec.ofNat 64 n).toNat = n
  rw [BitVec.toNat_ofNat]
  omega
theorem uN_and (x y : Int64) : uN (x &&& y) = uN x &&& uN y := UInt64.toNat_and _ _
theorem uN_or2 (x y : Int64) : uN (x ||| y) = uN x ||| uN y := UInt64.toNat_or _ _
theorem l2i_nat (y : Int64) : y.toInt32.toBitVec.toNat = uN y % 2 ^ 32 := by
  show (y.toBitVec.signExtend 32).toNat = _
  rw [BitVec.signExtend_eq_setWidth_of_le _ (by decide), BitVec.toNat_setWidth]
  rfl
theorem exB_bits (B : Int64) (k j : Nat) (m : Int32) (hk : k < 64) (hj : j ≤ 30) (hm : m.toBitVec.toNat = 2 ^ j - 1) : (B.toUInt64 >>> ((iz (k : Int)).toInt64.toUInt64 &&& Int64.toUInt64 63)).toInt64.toInt32 &&& m = iz (exB k (2 ^ j) B) := by
  rw [pk_and _ j hm, l2i_nat, iz_nat k, uN_sk B hk]
  unfold exB
  rw [iz_nat, Nat.mod_mod_of_dvd _ (Nat.pow_dvd_pow 2 (by omega))]
theorem exB_eq0 (B : Int64) : (B.toUInt64 >>> ((iz (52 : Int)).toInt64.toUInt64 &&& Int64.toUInt64 63)).toInt64.toInt32 &&& iz 2047 = iz (exB 52 2048 B) := exB_bits B 52 11 (iz 2047) (by decide) (by decide) (by decide)
theorem exB_eq1 (B : Int64) : (B.toUInt64 >>> ((iz (23 : Int)).toInt64.toUInt64 &&& Int64.toUInt64 63)).toInt64.toInt32 &&& iz 255 = iz (exB 23 256 B) := exB_bits B 23 8 (iz 255) (by decide) (by decide) (by decide)
theorem frB_bits (B : Int64) (k : Nat) (hk : k < 63) : B &&& lz (2 ^ k - 1) = lz (frB k B) := by
  refine uN_inj ?_
  have h2 : 2 ^ k < 2 ^ 64 := Nat.pow_lt_pow_right (by decide) (by omega)
  have h1 := Nat.mod_lt (uN B) (Nat.two_pow_pos k)
  have e : ((2 : Int) ^ k - 1) = ((2 ^ k - 1 : Nat) : Int) := by
    rw [Int.natCast_sub (Nat.one_le_two_pow)]
    simp
  unfold frB
  rw [uN_and, e, uN_lz (by omega), uN_lz (by omega), Nat.and_two_pow_sub_one_eq_mod]
theorem frB_eq0 (B : Int64) : B &&& lz (1 * 2 ^ 52 - 1) = lz (frB 52 B) := frB_bits B 52 (by decide)
theorem frB_eq1 (B : Int64) : B &&& lz (1 * 2 ^ 23 - 1) = lz (frB 23 B) := frB_bits B 23 (by decide)
theorem cfB_or (fb eo : Nat) (h : fb ≤ 52) (B : Int64) : lz (1 * 2 ^ fb) ||| lz (frB fb B) = lz (2 ^ fb + frB fb B) := by
  have h1 := frB_lt fb B
  have h2 := frB_r fb B h
  have h3 := lz_or (a := 1) (b := frB fb B) fb (by decide) h1.1 h1.2 (by
    have h4 : (2 : Int) ^ fb ≤ 2 ^ 52 := by
      have e : (52 : Nat) = fb + (52 - fb) := by omega
      rw [e, Int.pow_add]
      exact le_mul_pow2 _ (Int.le_of_lt (pow2_pos fb))
    have h5 : (2 : Int) ^ 52 = 4503599627370496 := by decide
    omega)
  rw [h3, Int.one_mul]
theorem cfB_1 {fb eo : Nat} (h : fb ≤ 52) {B : Int64} (hx : exB fb eo B ≠ 0) : lz (1 * 2 ^ fb) ||| lz (frB fb B) = lz (cfB fb eo B) := by
  unfold cfB
  rw [if_neg hx]
  exact cfB_or fb eo h B
theorem cfB_0 {fb eo : Nat} (h : fb ≤ 52) {B : Int64} (hx : exB fb eo B = 0) : lz 0 ||| lz (frB fb B) = lz (cfB fb eo B) := by
  unfold cfB
  rw [if_pos hx]
  refine uN_inj ?_
  rw [uN_or2]
  show 0 ||| _ = _
  rw [Nat.zero_or]
