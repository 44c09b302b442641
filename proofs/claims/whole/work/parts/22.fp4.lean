/-! a little above, a little below: x and NEAR times x -/
theorem near_val : FP.Core.val64 4487126258331716666 = .fin false 6044629098073146 (-79) := by decide +kernel
theorem near_Va : Va 6044629098073146 (-79) * 2 ^ 79 = 6044629098073146 * KK := by decide +kernel
theorem lin_0 {x y z : Nat} (a : x ≤ y * 134217728) (b : y ≤ 2 * z) : x ≤ z * 268435456 := by
  refine Nat.le_trans a ?_
  rw [show (268435456 : Nat) = 2 * 134217728 from rfl, ← Nat.mul_assoc, Nat.mul_comm z 2]
  exact Nat.mul_le_mul_right _ b
theorem lin_1 {T3 V3 : Nat} (b2 : T3 * 9007199254740992 ≤ V3 * 9007199254740992 + T3) : T3 ≤ 2 * V3 := by omega
theorem lin_up0 {V2 V3 Z X Y : Nat} (h : V2 * 33554432 ≤ X) (h3 : V3 * 2 ≤ V2) (c2 : Z + X ≤ Y + (V2 + V3)) : Z + V2 * 16777216 ≤ Y := by omega
theorem lin_dn0 {V3 T5 X Y Z : Nat} (h : (T5 + V3) * 33554432 ≤ X) (c1 : Y ≤ Z + T5) : Y + (T5 + V3) * 16777216 ≤ Z + X := by omega
theorem lin_c {V2 V3 T3 : Nat} (a1 : V2 ≤ T3 * 134217728) (b2 : T3 * 9007199254740992 ≤ V3 * 9007199254740992 + T3) : V2 * 33554432 ≤ V3 * 9007199254740992 := by
  have h2 : V2 ≤ V3 * 268435456 := lin_0 a1 (lin_1 b2)
  calc V2 * 33554432 ≤ V3 * 268435456 * 33554432 := Nat.mul_le_mul_right _ h2
    _ = V3 * 9007199254740992 := by rw [Nat.mul_assoc]
theorem lin_up {V2 V3 V4 T3 : Nat} (a1 : V2 ≤ T3 * 134217728) (b2 : T3 * 9007199254740992 ≤ V3 * 9007199254740992 + T3) (h3 : V3 * 2 ≤ V2) (c2 : (V2 + V3) * 9007199254740992 ≤ V4 * 9007199254740992 + (V2 + V3)) : V2 * 536870913 ≤ V4 * 536870912 := by
  have h := lin_c a1 b2
  rw [Nat.add_mul] at c2
  apply Nat.le_of_mul_le_mul_right (c := 16777216) ?_ (by decide)
  rw [Nat.mul_assoc, Nat.mul_assoc, show 536870913 * 16777216 = 9007199254740992 + 16777216 from rfl, show 536870912 * 16777216 = 9007199254740992 from rfl, Nat.mul_add]
  exact lin_up0 h h3 c2
theorem lin_dn {V2 V3 V5 T3 T5 : Nat} (a1 : V2 ≤ T3 * 134217728) (b2 : T3 * 9007199254740992 ≤ V3 * 9007199254740992 + T3) (h : T5 + V3 = V2) (c1 : V5 * 9007199254740992 ≤ T5 * (9007199254740992 + 1)) : V5 * 536870912 + V2 ≤ V2 * 536870912 := by
  have hc := lin_c a1 b2
  subst h
  apply Nat.le_of_mul_le_mul_right (c := 16777216) ?_ (by decide)
  rw [Nat.add_mul, Nat.mul_assoc, Nat.mul_assoc, show 536870912 * 16777216 = 9007199254740992 from rfl]
  rw [Nat.mul_add, Nat.mul_one] at c1
  rw [Nat.add_mul T5 V3 9007199254740992]
  exact lin_dn0 hc c1
set_option maxRecDepth 100000 in
theorem lin_3 {V2 T3 V3 : Nat} (a2 : T3 * 67108864 ≤ V2) (b1 : V3 * 9007199254740992 ≤ T3 * (9007199254740992 + 1)) : V3 * 2 ≤ V2 := by omega
theorem T3_of {V2 T3 : Nat} (h : T3 * KK = V2 * Va 6044629098073146 (-79)) : V2 ≤ T3 * 134217728 ∧ T3 * 67108864 ≤ V2 := by
  have e : T3 * 2 ^ 79 = V2 * 6044629098073146 := by
    apply Nat.eq_of_mul_eq_mul_right KK_pos
    calc T3 * 2 ^ 79 * KK = T3 * KK * 2 ^ 79 := Nat.mul_right_comm ..
      _ = V2 * Va 6044629098073146 (-79) * 2 ^ 79 := by rw [h]
      _ = V2 * (Va 6044629098073146 (-79) * 2 ^ 79) := Nat.mul_assoc ..
      _ = V2 * (6044629098073146 * KK) := by rw [near_Va]
      _ = V2 * 6044629098073146 * KK := (Nat.mul_assoc ..).symm
  have e2 : T3 * 604462909807314587353088 = V2 * 6044629098073146 := e
  omega
theorem val_add {a b r : UInt64} {c d : Nat} {q s : Int} (ha : Fi a c q) (hb : Fi b d s) (h : r = FP.dadd a b) : ∃ (n : Nat) (e : Int), FP.Core.val64 r = FP.Core.roundRatio FP.Core.b64 false n 1 e ∧ Va n e = Va c q + Va d s ∧ -1000 ≤ e ∧ 0 < n := by
  subst h
  have a1 := ha.2.2; have b1 := hb.2.2
  have e1 := inU_Va (c := c) (q := q) (e := min q s) (by omega) (by omega)
  have e2 := inU_Va (c := d) (q := s) (e := min q s) (by omega) (by omega)
  have c0 := Va_pos (q := q) ha.2.1
  refine ⟨FP.Core.inUnits c q (min q s) + FP.Core.inUnits d s (min q s), min q s, ?_, ?_, by omega, ?_⟩
  · show FP.Core.val64 (FP.Core.dadd a b) = _
    rw [FP.Core.val64_dadd, ha.1, hb.1]
    show FP.Core.roundRatio FP.Core.b64 (FP.Core.sumSign false false ((FP.Core.inUnits c q (min q s) : Int) + (FP.Core.inUnits d s (min q s) : Int))) ((FP.Core.inUnits c q (min q s) : Int) + (FP.Core.inUnits d s (min q s) : Int)).natAbs 1 (min q s) = _
    have s0 : FP.Core.sumSign false false ((FP.Core.inUnits c q (min q s) : Int) + (FP.Core.inUnits d s (min q s) : Int)) = false := by
      unfold FP.Core.sumSign; split
      · rfl
      · exact decide_eq_false (by omega)
    rw [s0, ← Int.natCast_add, Int.natAbs_natCast]
  · show (_ + _) * 2 ^ (min q s + 2200).toNat = _
    rw [Nat.add_mul, e1, e2]
  · rcases Nat.eq_zero_or_pos (FP.Core.inUnits c q (min q s)) with z | z
    · rw [z, Nat.zero_mul] at e1; omega
    · omega
theorem val_sub {a b r : UInt64} {c d : Nat} {q s : Int} (ha : Fi a c q) (hb : Fi b d s) (hlt : Va d s < Va c q) (h : r = FP.dsub a b) : ∃ (n : Nat) (e : Int), FP.Core.val64 r = FP.Core.roundRatio FP.Core.b64 false n 1 e ∧ Va n e + Va d s = Va c q ∧ -1000 ≤ e ∧ 0 < n := by
  subst h
  have a1 := ha.2.2; have b1 := hb.2.2
  have e1 := inU_Va (c := c) (q := q) (e := min q s) (by omega) (by omega)
  have e2 := inU_Va (c := d) (q := s) (e := min q s) (by omega) (by omega)
  have hl : FP.Core.inUnits d s (min q s) < FP.Core.inUnits c q (min q s) := by
    rw [← e1, ← e2] at hlt
    exact Nat.lt_of_mul_lt_mul_right hlt
  refine ⟨FP.Core.inUnits c q (min q s) - FP.Core.inUnits d s (min q s), min q s, ?_, ?_, by omega, by omega⟩
  · show FP.Core.val64 (FP.Core.dsub a b) = _
    rw [FP.Core.val64_dsub, ha.1, hb.1]
    show FP.Core.roundRatio FP.Core.b64 (FP.Core.sumSign false true ((FP.Core.inUnits c q (min q s) : Int) + -(FP.Core.inUnits d s (min q s) : Int))) ((FP.Core.inUnits c q (min q s) : Int) + -(FP.Core.inUnits d s (min q s) : Int)).natAbs 1 (min q s) = _
    have s0 : FP.Core.sumSign false true ((FP.Core.inUnits c q (min q s) : Int) + -(FP.Core.inUnits d s (min q s) : Int)) = false := by
      unfold FP.Core.sumSign; split
      · rfl
      · exact decide_eq_false (by omega)
    rw [s0, show ((FP.Core.inUnits c q (min q s) : Int) + -(FP.Core.inUnits d s (min q s) : Int)).natAbs = FP.Core.inUnits c q (min q s) - FP.Core.inUnits d s (min q s) by omega]
  · show (_ - _) * 2 ^ (min q s + 2200).toNat + _ = _
    rw [Nat.sub_mul, e1, e2]; omega
theorem b_lo {T V : Nat} (h : V ≤ T * 134217728) (hV : 2 ^ 1630 ≤ V) : 2 ^ 1600 ≤ T := by
  have e : (2 : Nat) ^ 1630 = 2 ^ 1603 * 134217728 := by rw [show (134217728 : Nat) = 2 ^ 27 from rfl, ← p2_add]
  rw [e] at hV
  have h2 := Nat.le_of_mul_le_mul_right (Nat.le_trans hV h) (by decide)
  exact Nat.le_trans (Nat.pow_le_pow_right (by decide) (by decide)) h2
theorem b_hi {T V : Nat} (h : T ≤ V * 2) (hV : V ≤ 2 ^ 2790) : T < 2 ^ 2800 := by
  have e : (2 : Nat) ^ 2791 = 2 ^ 2790 * 2 := Nat.pow_succ ..
  have h3 : (2 : Nat) ^ 2791 < 2 ^ 2800 := Nat.pow_lt_pow_right (by decide) (by decide)
  exact Nat.lt_of_le_of_lt (Nat.le_trans h (Nat.le_trans (Nat.mul_le_mul_right 2 hV) (Nat.le_of_eq e.symm))) h3
theorem dbl_lo {T V : Nat} (h : V ≤ T * 2) (hV : 2 ^ 1630 ≤ V) : 2 ^ 1600 ≤ T := b_lo (Nat.le_trans h (Nat.mul_le_mul_left T (by decide))) hV
/-- x with NEAR of itself more, less -/
theorem near_both {x y up dn : UInt64} {c : Nat} {q : Int} (hx : Fi x c q) (h1 : 2 ^ 1630 ≤ Va c q) (h2 : Va c q ≤ 2 ^ 2790) (hy : y = FP.dmul x 4487126258331716666) :
    (up = FP.dadd x y → ∃ (d : Nat) (s : Int), Fi up d s ∧ Va c q * 536870913 ≤ Va d s * 536870912) ∧ (dn = FP.dsub x y → ∃ (d : Nat) (s : Int), Fi dn d s ∧ Va d s * 536870912 + Va c q ≤ Va c q * 536870912) := by
  obtain ⟨a1, a2⟩ := T3_of (Va_mul (c := c) (d := 6044629098073146) (q := q) (r := -79) (by have := hx.2.2; omega) (by omega) (by have := hx.2.2; omega))
  have t3 : Va (c * 6044629098073146) (q + -79) ≤ Va c q * 2 := Nat.le_trans (Nat.le_mul_of_pos_right _ (by decide)) (Nat.le_trans a2 (Nat.le_mul_of_pos_right _ (by decide)))
  obtain ⟨c3, q3, v3, w1, w2, w3, w4, w5⟩ := rr_ok (A := c * 6044629098073146) (B := 1) (e := q + -79) (Nat.mul_pos hx.2.1 (by decide)) (by decide) (by have := hx.2.2; omega) (by rw [Nat.one_mul]; exact b_lo a1 h1) (by rw [Nat.one_mul]; exact b_hi t3 h2)
  have hy3 : Fi y c3 q3 := ⟨by rw [val_mul hx.1 near_val hy]; exact v3, w1, w2, w3⟩
  rw [Nat.mul_one] at w4 w5
  have l3 := lin_3 a2 w4
  refine ⟨fun hu => ?_, fun hu => ?_⟩
  · obtain ⟨n, e, z1, z2, z3, z4⟩ := val_add hx hy3 hu
    obtain ⟨d, s, u1, u2, u3, u4, u5, u6⟩ := rr_ok (A := n) (B := 1) (e := e) z4 (by decide) (by omega) (by rw [Nat.one_mul]; exact dbl_lo (by rw [z2]; omega) h1) (by rw [Nat.one_mul]; exact b_hi (by rw [z2]; omega) h2)
    rw [Nat.mul_one, z2] at u6
    exact ⟨d, s, ⟨z1.trans u1, u2, u3, u4⟩, lin_up a1 w5 l3 u6⟩
  · have c0 := Va_pos (q := q) hx.2.1
    obtain ⟨n, e, z1, z2, z3, z4⟩ := val_sub hx hy3 (by omega) hu
    obtain ⟨d, s, u1, u2, u3, u4, u5, u6⟩ := rr_ok (A := n) (B := 1) (e := e) z4 (by decide) (by omega) (by rw [Nat.one_mul]; exact dbl_lo (by omega) h1) (by rw [Nat.one_mul]; exact b_hi (by omega) h2)
    rw [Nat.mul_one] at u5
    exact ⟨d, s, ⟨z1.trans u1, u2, u3, u4⟩, lin_dn a1 w5 z2 u5⟩
