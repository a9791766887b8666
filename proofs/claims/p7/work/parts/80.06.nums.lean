/-! whole numbers for the machine's words -/
abbrev r32 (z : Int) : Prop := -2147483648 ≤ z ∧ z < 2147483648
abbrev r64 (z : Int) : Prop := -9223372036854775808 ≤ z ∧ z < 9223372036854775808
theorem w32_r (z : Int) : r32 (w32 z) := by unfold w32 r32; omega
theorem w64_r (z : Int) : r64 (w64 z) := by unfold w64 r64; omega
theorem w32_id {z : Int} (h : r32 z) : w32 z = z := by unfold w32; unfold r32 at h; omega
theorem w64_id {z : Int} (h : r64 z) : w64 z = z := by unfold w64; unfold r64 at h; omega
theorem w32_bmod (z : Int) : w32 z = z.bmod (2 ^ 32) := by
  unfold w32; rw [Int.bmod_def]; split <;> omega
theorem w64_bmod (z : Int) : w64 z = z.bmod (2 ^ 64) := by
  unfold w64; rw [Int.bmod_def]; split <;> omega
theorem t32 (z : Int) : (Int32.ofInt z).toInt = w32 z := by rw [Int32.toInt_ofInt, w32_bmod]
theorem t64 (z : Int) : (Int64.ofInt z).toInt = w64 z := by rw [Int64.toInt_ofInt, w64_bmod]
theorem t32r {z : Int} (h : r32 z) : (Int32.ofInt z).toInt = z := by rw [t32, w32_id h]
theorem t64r {z : Int} (h : r64 z) : (Int64.ofInt z).toInt = z := by rw [t64, w64_id h]
theorem i32_w (z : Int) : Int32.ofInt (w32 z) = Int32.ofInt z := Int32.toInt_inj.mp (by rw [t32, t32, w32_id (w32_r z)])
theorem i64_w (z : Int) : Int64.ofInt (w64 z) = Int64.ofInt z := Int64.toInt_inj.mp (by rw [t64, t64, w64_id (w64_r z)])
theorem e32 {x y : Int} (hx : r32 x) (hy : r32 y) : Int32.ofInt x = Int32.ofInt y ↔ x = y := by
  rw [← Int32.toInt_inj, t32r hx, t32r hy]
theorem l32 {x y : Int} (hx : r32 x) (hy : r32 y) : Int32.ofInt x < Int32.ofInt y ↔ x < y := by
  rw [Int32.lt_iff_toInt_lt, t32r hx, t32r hy]
theorem le32 {x y : Int} (hx : r32 x) (hy : r32 y) : Int32.ofInt x ≤ Int32.ofInt y ↔ x ≤ y := by
  rw [Int32.le_iff_toInt_le, t32r hx, t32r hy]
theorem e64 {x y : Int} (hx : r64 x) (hy : r64 y) : Int64.ofInt x = Int64.ofInt y ↔ x = y := by
  rw [← Int64.toInt_inj, t64r hx, t64r hy]
theorem l64 {x y : Int} (hx : r64 x) (hy : r64 y) : Int64.ofInt x < Int64.ofInt y ↔ x < y := by
  rw [Int64.lt_iff_toInt_lt, t64r hx, t64r hy]
theorem r32_0 : r32 0 := by unfold r32; omega
theorem r64_0 : r64 0 := by unfold r64; omega
theorem i32_0 : Int32.ofInt 0 = 0 := rfl
theorem i64_0 : Int64.ofInt 0 = 0 := rfl
theorem bv32 (b : BitVec 32) : r32 b.toInt := by
  have h1 := BitVec.toInt_lt (x := b)
  have h2 := BitVec.le_toInt (x := b)
  unfold r32; omega
theorem bv64 (b : BitVec 64) : r64 b.toInt := by
  have h1 := BitVec.toInt_lt (x := b)
  have h2 := BitVec.le_toInt (x := b)
  unfold r64; omega
theorem i32_and (x y : Int) : Int32.ofInt (iand x y) = Int32.ofInt x &&& Int32.ofInt y := Int32.toBitVec.inj (by rw [Int32.toBitVec_ofInt, iand, BitVec.ofInt_toInt]; rfl)
theorem i32_or (x y : Int) : Int32.ofInt (ior x y) = Int32.ofInt x ||| Int32.ofInt y := Int32.toBitVec.inj (by rw [Int32.toBitVec_ofInt, ior, BitVec.ofInt_toInt]; rfl)
theorem i32_xor (x y : Int) : Int32.ofInt (ixor x y) = Int32.ofInt x ^^^ Int32.ofInt y := Int32.toBitVec.inj (by rw [Int32.toBitVec_ofInt, ixor, BitVec.ofInt_toInt]; rfl)
theorem i64_and (x y : Int) : Int64.ofInt (land x y) = Int64.ofInt x &&& Int64.ofInt y := Int64.toBitVec.inj (by rw [Int64.toBitVec_ofInt, land, BitVec.ofInt_toInt]; rfl)
theorem i64_or (x y : Int) : Int64.ofInt (lor x y) = Int64.ofInt x ||| Int64.ofInt y := Int64.toBitVec.inj (by rw [Int64.toBitVec_ofInt, lor, BitVec.ofInt_toInt]; rfl)
theorem sh32 (y : Int32) : ((y &&& 31).toBitVec.smod 32).toNat = (y.toInt % 32).toNat := by
  have h := pk_and y (m := 31) 5 (by decide)
  rw [h]
  have h2 : (y.toInt % 32).toNat = y.toBitVec.toNat % 2 ^ 5 := by
    have h3 : y.toInt = y.toBitVec.toInt := rfl
    have h4 := y.toBitVec.isLt
    rw [h3, BitVec.toInt_eq_toNat_cond]
    split <;> omega
  rw [h2]
  have h5 : ∀ j, j < 32 → ((nI j).toBitVec.smod 32).toNat = j := by decide +kernel
  exact h5 _ (Nat.mod_lt _ (by decide))
theorem i32_shl (x y : Int) (hy : r32 y) : Int32.ofInt (ishl x y) = Int32.ofInt x <<< (Int32.ofInt y &&& 31) := by
  have h := pk_shl (Int32.ofInt x) (Int32.ofInt y &&& 31) _ (sh32 (Int32.ofInt y))
  rw [t32r hy] at h
  refine Int32.toBitVec.inj (BitVec.eq_of_toNat_eq ?_)
  rw [h, ishl, i32_w, Int32.toBitVec_ofInt, Int32.toBitVec_ofInt, BitVec.toNat_ofInt, BitVec.toNat_ofInt]
  generalize (y % 32).toNat = k
  have h1 : (0 : Int) ≤ x % (2 ^ 32 : Nat) := Int.emod_nonneg _ (by decide)
  have e1 : (((x % (2 ^ 32 : Nat)).toNat * 2 ^ k % 2 ^ 32 : Nat) : Int) = (x * 2 ^ k) % (2 ^ 32 : Nat) := by
    rw [Int.natCast_emod, Int.natCast_mul, Int.toNat_of_nonneg h1, Int.natCast_pow]
    rw [Int.mul_emod, Int.emod_emod_of_dvd _ (Int.dvd_refl _), ← Int.mul_emod]
    rfl
  rw [← e1, Int.toNat_natCast]
theorem i32_shr (x y : Int) (hx : r32 x) (hy : r32 y) : Int32.ofInt (ishr x y) = Int32.ofInt x >>> (Int32.ofInt y &&& 31) := by
  have h := pk_shr (Int32.ofInt x) (Int32.ofInt y &&& 31) _ (sh32 (Int32.ofInt y))
  rw [t32r hy, t32r hx] at h
  rw [← Int32.ofInt_toInt (Int32.ofInt x >>> (Int32.ofInt y &&& 31)), h, Int.shiftRight_eq_div_pow]
  unfold ishr
  rw [Int.natCast_pow]; rfl
theorem ishr_r {x y : Int} (hx : r32 x) : r32 (ishr x y) := by
  unfold ishr
  generalize (y % 32).toNat = k
  have h2 : (1 : Int) ≤ 2 ^ k := by
    have : (0 : Int) < 2 ^ k := Int.pow_pos (by decide)
    omega
  generalize (2 : Int) ^ k = q at h2
  unfold r32 at *
  constructor
  · rcases Int.lt_or_le x 0 with h | h
    · have := Int.ediv_le_ediv (a := -2147483648) (b := x) (c := q) (by omega) (by omega)
      have h4 : (-2147483648 : Int) ≤ -2147483648 / q := by
        rw [Int.le_ediv_iff_mul_le (by omega)]
        have : (2147483648 : Int) * 1 ≤ 2147483648 * q := Int.mul_le_mul_of_nonneg_left h2 (by omega)
        omega
      omega
    · have := Int.ediv_nonneg h (by omega : (0 : Int) ≤ q)
      omega
  · rcases Int.lt_or_le x 0 with h | h
    · have := Int.ediv_neg_of_neg_of_pos h (by omega : (0 : Int) < q)
      omega
    · have := Int.ediv_le_self q h
      omega
theorem i32_ushr (x y : Int) (hy : r32 y) : ((Int32.ofInt x).toUInt32 >>> ((Int32.ofInt y).toUInt32 &&& Int32.toUInt32 31)).toInt32 = Int32.ofInt (iushr x y) := by
  have hk : (((Int32.ofInt y).toUInt32 &&& Int32.toUInt32 31).toBitVec % 32).toNat = (y % 32).toNat := by
    have e1 : ((Int32.ofInt y).toUInt32 &&& Int32.toUInt32 31).toBitVec = BitVec.ofInt 32 y &&& 31#32 := rfl
    rw [e1, BitVec.toNat_umod, BitVec.toNat_and]
    have e2 : (31#32).toNat = 2 ^ 5 - 1 := rfl
    rw [e2, Nat.and_two_pow_sub_one_eq_mod, BitVec.toNat_ofInt]
    have e3 : (32 : BitVec 32).toNat = 32 := rfl
    rw [e3]
    omega
  have h := pk_ushr (Int32.ofInt x) (Int32.ofInt y) _ hk
  refine Int32.toBitVec.inj (BitVec.eq_of_toNat_eq ?_)
  rw [h, iushr, i32_w, Int32.toBitVec_ofInt, Int32.toBitVec_ofInt, BitVec.toNat_ofInt, BitVec.toNat_ofInt]
  generalize (y % 32).toNat = k
  have e4 : (x % (2 ^ 32 : Nat)) = x % 4294967296 := rfl
  rw [e4]
  have h1 : (0 : Int) ≤ x % 4294967296 := Int.emod_nonneg _ (by decide)
  have h2 : x % 4294967296 < 4294967296 := Int.emod_lt_of_pos _ (by decide)
  generalize x % 4294967296 = z at h1 h2
  obtain ⟨n, rfl⟩ := Int.eq_ofNat_of_zero_le h1
  have e5 : ((n : Int) / 2 ^ k) = ((n / 2 ^ k : Nat) : Int) := by rw [Int.natCast_ediv, Int.natCast_pow]; rfl
  rw [e5, Int.toNat_natCast]
  have h3 : n / 2 ^ k ≤ n := Nat.div_le_self _ _
  have e6 : (((n / 2 ^ k : Nat) : Int) % (2 ^ 32 : Nat)).toNat = (n / 2 ^ k) % 2 ^ 32 := by rw [← Int.natCast_emod, Int.toNat_natCast]
  rw [e6, Nat.mod_eq_of_lt (by omega)]
theorem sh64 (y : Int32) : ((y.toInt64 &&& 63).toBitVec.smod 64).toNat = (y.toInt % 64).toNat := by
  have h4 : (y.toInt64 &&& 63).toBitVec = BitVec.ofNat 64 ((y.toInt % 64).toNat) := by
    refine BitVec.eq_of_toNat_eq ?_
    have e1 : (y.toInt64 &&& 63).toBitVec = y.toInt64.toBitVec &&& 63#64 := rfl
    have e2 : (63#64).toNat = 2 ^ 6 - 1 := rfl
    rw [e1, BitVec.toNat_and, e2, Nat.and_two_pow_sub_one_eq_mod, BitVec.toNat_ofNat]
    have e3 : y.toInt64.toBitVec = BitVec.ofInt 64 y.toInt := by
      have : y.toInt64 = Int64.ofInt y.toInt := Int64.toInt_inj.mp (by
        rw [Int32.toInt_toInt64, t64r]
        have h1 := Int32.toInt_lt y
        have h2 := Int32.le_toInt y
        unfold r64; omega)
      rw [this]; rfl
    rw [e3, BitVec.toNat_ofInt]
    omega
  rw [h4]
  have h5 : ∀ j, j < 64 → ((BitVec.ofNat 64 j).smod 64).toNat = j := by decide +kernel
  exact h5 _ (by omega)
theorem i64_shl (x y : Int) (hy : r32 y) : Int64.ofInt x <<< ((Int32.ofInt y).toInt64 &&& 63) = Int64.ofInt (lshl x y) := by
  have hk := sh64 (Int32.ofInt y)
  rw [t32r hy] at hk
  refine Int64.toBitVec.inj ?_
  have e1 : (Int64.ofInt x <<< ((Int32.ofInt y).toInt64 &&& 63)).toBitVec = BitVec.ofInt 64 x <<< (((Int32.ofInt y).toInt64 &&& 63).toBitVec.smod 64) := rfl
  rw [e1, BitVec.shiftLeft_eq', hk, lshl, i64_w]
  refine BitVec.eq_of_toNat_eq ?_
  rw [BitVec.toNat_shiftLeft, Int64.toBitVec_ofInt, BitVec.toNat_ofInt, BitVec.toNat_ofInt, Nat.shiftLeft_eq]
  generalize (y % 64).toNat = k
  have h1 : (0 : Int) ≤ x % (2 ^ 64 : Nat) := Int.emod_nonneg _ (by decide)
  have e1 : (((x % (2 ^ 64 : Nat)).toNat * 2 ^ k % 2 ^ 64 : Nat) : Int) = (x * 2 ^ k) % (2 ^ 64 : Nat) := by
    rw [Int.natCast_emod, Int.natCast_mul, Int.toNat_of_nonneg h1, Int.natCast_pow]
    rw [Int.mul_emod, Int.emod_emod_of_dvd _ (Int.dvd_refl _), ← Int.mul_emod]
    rfl
  rw [← e1, Int.toNat_natCast]
theorem i64_shr (x y : Int) (hx : r64 x) (hy : r32 y) : Int64.ofInt x >>> ((Int32.ofInt y).toInt64 &&& 63) = Int64.ofInt (lshr x y) := by
  have hk := sh64 (Int32.ofInt y)
  rw [t32r hy] at hk
  have e1 : (Int64.ofInt x >>> ((Int32.ofInt y).toInt64 &&& 63)).toBitVec = BitVec.sshiftRight' (BitVec.ofInt 64 x) (((Int32.ofInt y).toInt64 &&& 63).toBitVec.smod 64) := rfl
  rw [BitVec.sshiftRight_eq', hk] at e1
  rw [← Int64.ofInt_toInt (Int64.ofInt x >>> ((Int32.ofInt y).toInt64 &&& 63))]
  have e2 : (Int64.ofInt x >>> ((Int32.ofInt y).toInt64 &&& 63)).toInt = (Int64.ofInt x >>> ((Int32.ofInt y).toInt64 &&& 63)).toBitVec.toInt := rfl
  rw [e2, e1, BitVec.toInt_sshiftRight]
  have e3 : (BitVec.ofInt 64 x).toInt = x := t64r hx
  rw [e3, Int.shiftRight_eq_div_pow, Int.natCast_pow]; rfl
theorem lshr_r {x y : Int} (hx : r64 x) : r64 (lshr x y) := by
  unfold lshr
  generalize (y % 64).toNat = k
  have h2 : (1 : Int) ≤ 2 ^ k := by
    have : (0 : Int) < 2 ^ k := Int.pow_pos (by decide)
    omega
  generalize (2 : Int) ^ k = q at h2
  unfold r64 at *
  constructor
  · rcases Int.lt_or_le x 0 with h | h
    · have := Int.ediv_le_ediv (a := -9223372036854775808) (b := x) (c := q) (by omega) (by omega)
      have h4 : (-9223372036854775808 : Int) ≤ -9223372036854775808 / q := by
        rw [Int.le_ediv_iff_mul_le (by omega)]
        have : (9223372036854775808 : Int) * 1 ≤ 9223372036854775808 * q := Int.mul_le_mul_of_nonneg_left h2 (by omega)
        omega
      omega
    · have := Int.ediv_nonneg h (by omega : (0 : Int) ≤ q)
      omega
  · rcases Int.lt_or_le x 0 with h | h
    · have := Int.ediv_neg_of_neg_of_pos h (by omega : (0 : Int) < q)
      omega
    · have := Int.ediv_le_self q h
      omega
theorem tmod_r32 {x y : Int} (hx : r32 x) : r32 (x.tmod y) := by
  have h1 := Int.natAbs_tmod x y
  have h2 := Nat.mod_le x.natAbs y.natAbs
  unfold r32 at *
  rcases Int.lt_or_le x 0 with h | h
  · have h3 := Int.tmod_nonneg (a := -x) y (by omega)
    rw [Int.neg_tmod] at h3
    omega
  · have := Int.tmod_nonneg y h
    omega
theorem tmod_r64 {x y : Int} (hx : r64 x) : r64 (x.tmod y) := by
  have h1 := Int.natAbs_tmod x y
  have h2 := Nat.mod_le x.natAbs y.natAbs
  unfold r64 at *
  rcases Int.lt_or_le x 0 with h | h
  · have h3 := Int.tmod_nonneg (a := -x) y (by omega)
    rw [Int.neg_tmod] at h3
    omega
  · have := Int.tmod_nonneg y h
    omega
theorem i32_div {x y : Int} (hx : r32 x) (hy : r32 y) : Int32.ofInt (w32 (x.tdiv y)) = Int32.ofInt x / Int32.ofInt y := by
  rw [i32_w]
  unfold r32 at *
  have e1 : Int32.minValue.toInt = -2147483648 := rfl
  have e2 : Int32.maxValue.toInt = 2147483647 := rfl
  exact Int32.ofInt_tdiv (by rw [e1]; omega) (by rw [e2]; omega) (by rw [e1]; omega) (by rw [e2]; omega)
theorem i64_div {x y : Int} (hx : r64 x) (hy : r64 y) : Int64.ofInt (w64 (x.tdiv y)) = Int64.ofInt x / Int64.ofInt y := by
  rw [i64_w]
  unfold r64 at *
  have e1 : Int64.minValue.toInt = -9223372036854775808 := rfl
  have e2 : Int64.maxValue.toInt = 9223372036854775807 := rfl
  exact Int64.ofInt_tdiv (by rw [e1]; omega) (by rw [e2]; omega) (by rw [e1]; omega) (by rw [e2]; omega)
theorem i32_rem {x y : Int} (hx : r32 x) (hy : r32 y) : Int32.ofInt (x.tmod y) = Int32.ofInt x - Int32.ofInt x / Int32.ofInt y * Int32.ofInt y := by
  rw [← i32_div hx hy, i32_w, ← Int32.ofInt_mul, ← Int32.ofInt_sub]
  congr 1
  have := Int.tmod_add_mul_tdiv x y
  rw [Int.mul_comm] at this
  omega
theorem i64_rem {x y : Int} (hx : r64 x) (hy : r64 y) : Int64.ofInt (x.tmod y) = Int64.ofInt x - Int64.ofInt x / Int64.ofInt y * Int64.ofInt y := by
  rw [← i64_div hx hy, i64_w, ← Int64.ofInt_mul, ← Int64.ofInt_sub]
  congr 1
  have := Int.tmod_add_mul_tdiv x y
  rw [Int.mul_comm] at this
  omega
theorem i2l32 {x : Int} (hx : r32 x) : (Int32.ofInt x).toInt64 = Int64.ofInt x := by
  unfold r32 at *
  have e1 : Int32.minValue.toInt = -2147483648 := rfl
  have e2 : Int32.maxValue.toInt = 2147483647 := rfl
  exact Int32.toInt64_ofInt (by rw [e1]; omega) (by rw [e2]; omega)
theorem cN32 {x : Int} (hx : r32 x) : (Int32.ofInt x).toNatClampNeg = x.toNat := Int32.toNatClampNeg_ofInt_of_le hx.1 hx.2
theorem vin32 {x : Int} {n : Nat} (hx : r32 x) (h : inR x n = true) : vp_in (Int32.ofInt x) n := by
  have h2 := of_decide_eq_true h
  rw [vp_in_iff, t32r hx]
  exact h2
