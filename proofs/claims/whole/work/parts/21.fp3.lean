theorem Va_1 (n : Nat) : Va n 0 = n * KK := rfl
theorem near_g {x y p : Nat} (h : x * (p * 8) ≤ y * (p * 8 + 1)) : x * p ≤ y * (p + 1) := by
  have e1 : x * (p * 8) = x * p * 8 := (Nat.mul_assoc ..).symm
  have e2 : y * (p * 8 + 1) = y * p * 8 + y := by rw [Nat.mul_add, Nat.mul_one, Nat.mul_assoc]
  rw [e1, e2] at h
  rw [Nat.mul_add, Nat.mul_one]
  omega
theorem near_i {x y : Nat} (h : x * 2 ^ 53 ≤ y * (2 ^ 53 + 1)) : x * 2 ^ 50 ≤ y * (2 ^ 50 + 1) := near_g (p := 2 ^ 50) h
theorem near_i2 {x y : Nat} (h : y * 2 ^ 53 ≤ x * 2 ^ 53 + y) : y * (2 ^ 50 - 1) ≤ x * 2 ^ 50 := by
  rw [Nat.mul_sub, Nat.mul_one]; omega
/-- a whole number as a double -/
theorem Ap.int {n : Nat} (h0 : 0 < n) (h1 : n ≤ 2147483647) : Ap (FP.i2d (iz (n : Int))) n 1 1 := by
  have e : FP.Core.val64 (FP.i2d (iz (n : Int))) = FP.Core.roundRatio FP.Core.b64 false n 1 0 := by
    show FP.Core.val64 (FP.Core.i2d (iz (n : Int))) = _
    rw [FP.Core.val64_i2d, iz_toInt (by omega)]
    show FP.Core.roundRatio FP.Core.b64 (decide ((n : Int) < 0)) (n : Int).natAbs 1 0 = _
    rw [show decide ((n : Int) < 0) = false from decide_eq_false (by omega), Int.natAbs_natCast]
  have lo : 1 * 2 ^ 1600 ≤ Va n 0 := by
    rw [Va_1]; unfold KK
    exact Nat.mul_le_mul h0 (Nat.pow_le_pow_right (by decide) (by decide))
  have hi : Va n 0 < 1 * 2 ^ 2800 := by
    rw [Va_1]; unfold KK
    rw [Nat.one_mul, show (2800 : Nat) = 600 + 2200 from rfl, p2_add 600 2200]
    exact Nat.mul_lt_mul_of_pos_right (Nat.lt_of_le_of_lt h1 (Nat.lt_of_lt_of_le (show 2147483647 < 2 ^ 31 by decide) (Nat.pow_le_pow_right (by decide) (by decide)))) (Nat.two_pow_pos _)
  obtain ⟨c, q, v, w1, w2, w3, w4, w5⟩ := rr_ok (A := n) (B := 1) (e := 0) h0 (by decide) (by decide) lo hi
  rw [Nat.mul_one, Va_1] at w4 w5
  exact ⟨c, q, ⟨e.trans v, w1, w2, w3⟩, by rw [Nat.mul_one]; exact near_i w4, by rw [Nat.mul_one]; exact near_i2 w5⟩
theorem one_val : FP.Core.val64 4607182418800017408 = .fin false 4503599627370496 (-52) := by decide +kernel
theorem one_Va : Va 4503599627370496 (-52) = KK := by decide +kernel
theorem Ap.one : Ap 4607182418800017408 1 1 0 := by
  refine ⟨_, _, ⟨one_val, by decide, by decide, by decide⟩, ?_, ?_⟩
  · rw [one_Va, Nat.mul_one, Nat.one_mul, Nat.add_zero]; exact Nat.le_refl _
  · rw [one_Va, Nat.mul_one, Nat.one_mul, Nat.sub_zero]; exact Nat.le_refl _
/-- comparing doubles -/
theorem inU_Va {c : Nat} {q e : Int} (h : e ≤ q) (h2 : -2200 ≤ e) : FP.Core.inUnits c q e * 2 ^ (e + 2200).toNat = Va c q := by
  unfold FP.Core.inUnits Va
  rw [Nat.mul_assoc, ← p2_add, show (q - e).toNat + (e + 2200).toNat = (q + 2200).toNat by omega]
theorem dcmp_Va {x y : UInt64} {c d : Nat} {q s : Int} (hx : Fi x c q) (hy : Fi y d s) : FP.dcmp x y = some (compare (Va c q : Int) (Va d s : Int)) := by
  show FP.Core.order (FP.Core.val64 x) (FP.Core.val64 y) = _
  rw [hx.1, hy.1]
  show some (compare ((FP.Core.inUnits c q (min q s) : Nat) : Int) ((FP.Core.inUnits d s (min q s) : Nat) : Int)) = _
  have a := hx.2.2; have b := hy.2.2
  have e1 := inU_Va (c := c) (q := q) (e := min q s) (by omega) (by omega)
  have e2 := inU_Va (c := d) (q := s) (e := min q s) (by omega) (by omega)
  have p := Nat.two_pow_pos (min q s + 2200).toNat
  generalize (2 : Nat) ^ (min q s + 2200).toNat = z at *
  rw [← e1, ← e2]
  congr 1
  generalize FP.Core.inUnits c q (min q s) = u
  generalize FP.Core.inUnits d s (min q s) = v
  rcases Nat.lt_trichotomy u v with h | h | h
  · have h2 : u * z < v * z := Nat.mul_lt_mul_of_pos_right h p
    rw [Int.compare_eq_lt.mpr (by omega), Int.compare_eq_lt.mpr (by omega)]
  · subst h; rw [Int.compare_eq_eq.mpr rfl, Int.compare_eq_eq.mpr rfl]
  · have h2 : v * z < u * z := Nat.mul_lt_mul_of_pos_right h p
    rw [Int.compare_eq_gt.mpr (by omega), Int.compare_eq_gt.mpr (by omega)]
