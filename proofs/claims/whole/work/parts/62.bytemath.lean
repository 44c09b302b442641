/-! bytes of an int; a word's letters pushed together -/
theorem iz_toNat (x : Int) : (iz x).toBitVec.toNat = (x % 4294967296).toNat := by
  unfold iz
  rw [Int32.toBitVec_ofInt, BitVec.toNat_ofInt]; rfl
theorem iz_255 (x : Int) : iz x &&& iz 255 = iz (x % 256) := by
  apply Int32.toBitVec_inj.mp
  apply BitVec.eq_of_toNat_eq
  rw [Int32.toBitVec_and, BitVec.toNat_and, iz_toNat, iz_toNat, iz_toNat]
  have := Nat.and_two_pow_sub_one_eq_mod (x % 4294967296).toNat 8
  rw [show ((255 : Int) % 4294967296).toNat = 2 ^ 8 - 1 from rfl, this]
  omega
theorem iz_us {x s : Int} (hs : s = 24 ∨ s = 16 ∨ s = 8 ∨ s = 0) : ((iz x).toUInt32 >>> ((iz s).toUInt32 &&& Int32.toUInt32 31)).toInt32 = iz (x % 4294967296 / 2 ^ s.toNat) := by
  apply Int32.toBitVec_inj.mp
  apply BitVec.eq_of_toNat_eq
  rw [iz_toNat]
  have e : ((iz x).toUInt32 >>> ((iz s).toUInt32 &&& Int32.toUInt32 31)).toInt32.toBitVec.toNat = (iz x).toBitVec.toNat / 2 ^ s.toNat := by
    show ((iz x).toUInt32 >>> ((iz s).toUInt32 &&& Int32.toUInt32 31)).toNat = _
    rw [UInt32.toNat_shiftRight, show ((iz s).toUInt32 &&& Int32.toUInt32 31).toNat % 32 = s.toNat from by rcases hs with rfl | rfl | rfl | rfl <;> decide, Nat.shiftRight_eq_div_pow]
    rfl
  rw [e, iz_toNat]
  rcases hs with rfl | rfl | rfl | rfl
  · show (x % 4294967296).toNat / 2 ^ 24 = (x % 4294967296 / 2 ^ 24 % 4294967296).toNat; omega
  · show (x % 4294967296).toNat / 2 ^ 16 = (x % 4294967296 / 2 ^ 16 % 4294967296).toNat; omega
  · show (x % 4294967296).toNat / 2 ^ 8 = (x % 4294967296 / 2 ^ 8 % 4294967296).toNat; omega
  · show (x % 4294967296).toNat / 2 ^ 0 = (x % 4294967296 / 2 ^ 0 % 4294967296).toNat; omega
/-- the byte of v that its i-th place holds, the highest first -/
def byZ (v i : Int) : Int := if i = 0 then v / 16777216 % 256 else if i = 1 then v / 65536 % 256 else if i = 2 then v / 256 % 256 else v % 256
theorem byZ_rng (v i : Int) : 0 ≤ byZ v i ∧ byZ v i ≤ 255 := by
  unfold byZ; split
  · omega
  · split
    · omega
    · split <;> omega
theorem byZ_u {v s i : Int} (hs : s = 24 - 8 * i) (hi : i = 0 ∨ i = 1 ∨ i = 2 ∨ i = 3) : v % 4294967296 / 2 ^ s.toNat % 256 = byZ v i := by
  subst hs
  rcases hi with rfl | rfl | rfl | rfl
  · show v % 4294967296 / 2 ^ 24 % 256 = v / 16777216 % 256; omega
  · show v % 4294967296 / 2 ^ 16 % 256 = v / 65536 % 256; omega
  · show v % 4294967296 / 2 ^ 8 % 256 = v / 256 % 256; omega
  · show v % 4294967296 / 2 ^ 0 % 256 = v % 256; omega
/-- a signed shift down -/
theorem iz_sr {x s : Int} (hx : -2147483648 ≤ x ∧ x ≤ 2147483647) (hs : s = 24 ∨ s = 16 ∨ s = 8 ∨ s = 0) : iz x >>> (iz s &&& 31) = iz (x / 2 ^ s.toNat) := by
  apply Int32.toInt_inj.mp
  have h31 : ((iz s &&& 31).toBitVec.smod 32).toNat = s.toNat := by rcases hs with rfl | rfl | rfl | rfl <;> decide
  have e : (iz x >>> (iz s &&& 31)).toInt = x / 2 ^ s.toNat := by
    show (BitVec.sshiftRight' (iz x).toBitVec ((iz s &&& 31).toBitVec.smod 32)).toInt = _
    rw [BitVec.sshiftRight', BitVec.toInt_sshiftRight, h31, Int.shiftRight_eq_div_pow]
    have := iz_toInt hx
    show (iz x).toInt / _ = _
    rw [this]
    rcases hs with rfl | rfl | rfl | rfl <;> rfl
  rw [e]
  refine (iz_toInt ?_).symm
  rcases hs with rfl | rfl | rfl | rfl
  · show _ ≤ x / 2 ^ 24 ∧ x / 2 ^ 24 ≤ _; omega
  · show _ ≤ x / 2 ^ 16 ∧ x / 2 ^ 16 ≤ _; omega
  · show _ ≤ x / 2 ^ 8 ∧ x / 2 ^ 8 ≤ _; omega
  · show _ ≤ x / 2 ^ 0 ∧ x / 2 ^ 0 ≤ _; omega
theorem iz_b (x : Int) : (iz x).toInt8.toInt32 = iz (x.bmod 256) := by
  apply Int32.toInt_inj.mp
  have : (iz x).toInt8 = Int8.ofInt x := by unfold iz; exact Int32.toInt8_ofInt
  rw [this, Int8.toInt_toInt32, Int8.toInt_ofInt, show Int8.size = 256 from rfl]
  refine (iz_toInt ?_).symm
  have a := Int.le_bmod (x := x) (m := 256) (by decide)
  have b := Int.bmod_lt (x := x) (m := 256) (by decide)
  omega
theorem byZ_s {v s i : Int} (hs : s = 24 - 8 * i) (hi : i = 0 ∨ i = 1 ∨ i = 2 ∨ i = 3) : (v / 2 ^ s.toNat).bmod 256 % 256 = byZ v i := by
  subst hs
  rw [show (256 : Int) = ((256 : Nat) : Int) from rfl, Int.bmod_emod]
  rcases hi with rfl | rfl | rfl | rfl
  · show v / 2 ^ 24 % 256 = v / 16777216 % 256; omega
  · show v / 2 ^ 16 % 256 = v / 65536 % 256; omega
  · show v / 2 ^ 8 % 256 = v / 256 % 256; omega
  · show v / 2 ^ 0 % 256 = v % 256; omega
theorem lz_sl8 {v : Int} (h0 : 0 ≤ v) (h1 : v < 36028797018963968) : lz v <<< ((iz 8).toInt64 &&& 63) = lz (v * 256) := by
  apply Int64.toBitVec_inj.mp
  apply BitVec.eq_of_toNat_eq
  rw [lz_toNat (by omega) (by omega)]
  have e : (lz v <<< ((iz 8).toInt64 &&& 63)).toBitVec.toNat = (lz v).toBitVec.toNat * 2 ^ 8 % 2 ^ 64 := by
    show (BitVec.shiftLeft (lz v).toBitVec (((iz 8).toInt64 &&& 63).toBitVec.smod 64).toNat).toNat = _
    rw [show (((iz 8).toInt64 &&& 63).toBitVec.smod 64).toNat = 8 from by decide]
    show ((lz v).toBitVec <<< 8).toNat = _
    rw [BitVec.toNat_shiftLeft, Nat.shiftLeft_eq]
  rw [e, lz_toNat (by omega) (by omega)]
  omega
theorem lz_or8 {v c : Int} (h0 : 0 ≤ v) (h1 : v < 36028797018963968) (hc : 0 ≤ c ∧ c < 256) : lz (v * 256) ||| lz c = lz (v * 256 + c) := by
  apply Int64.toBitVec_inj.mp
  apply BitVec.eq_of_toNat_eq
  rw [Int64.toBitVec_or, BitVec.toNat_or, lz_toNat (by omega) (by omega), lz_toNat (by omega) (by omega), lz_toNat (by omega) (by omega)]
  have := Nat.two_pow_add_eq_or_of_lt (i := 8) (b := c.toNat) (by omega) v.toNat
  rw [show (v * 256).toNat = 2 ^ 8 * v.toNat by omega, ← this]
  omega
