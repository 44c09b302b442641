/-! doubles: a rounded number lies near the exact one; told in units of 2 ^ -1100 -/
def KK : Nat := 2 ^ 1100
theorem KK_pos : 0 < KK := Nat.two_pow_pos _
def Va (c : Nat) (q : Int) : Nat := c * 2 ^ (q + 1100).toNat
theorem Va_pos {c : Nat} {q : Int} (h : 0 < c) : 0 < Va c q := Nat.mul_pos h (Nat.two_pow_pos _)
theorem p2_add (a b : Nat) : (2 : Nat) ^ (a + b) = 2 ^ a * 2 ^ b := Nat.pow_add 2 a b
theorem Va_mul {c d : Nat} {q r : Int} (hq : -1100 ≤ q) (hr : -1100 ≤ r) (hs : -1100 ≤ q + r) : Va (c * d) (q + r) * KK = Va c q * Va d r := by
  unfold Va KK
  have e : (q + r + 1100).toNat + 1100 = (q + 1100).toNat + (r + 1100).toNat := by omega
  have e2 : (2 : Nat) ^ (q + r + 1100).toNat * 2 ^ 1100 = 2 ^ (q + 1100).toNat * 2 ^ (r + 1100).toNat := by rw [← p2_add, ← p2_add, e]
  calc c * d * 2 ^ (q + r + 1100).toNat * 2 ^ 1100 = c * d * (2 ^ (q + r + 1100).toNat * 2 ^ 1100) := Nat.mul_assoc ..
    _ = c * d * (2 ^ (q + 1100).toNat * 2 ^ (r + 1100).toNat) := by rw [e2]
    _ = c * 2 ^ (q + 1100).toNat * (d * 2 ^ (r + 1100).toNat) := by ac_rfl
/-- rounding: the sign stays, the error is below one part in 2 ^ 53 -/
theorem rr_ok {A B : Nat} {e : Int} (hA : 0 < A) (hB : 0 < B) (he : -1100 ≤ e) (lo : B * 2 ^ 500 ≤ Va A e) (hi : Va A e < B * 2 ^ 1700) :
    ∃ (c : Nat) (q : Int), FP.Core.roundRatio FP.Core.b64 false A B e = .fin false c q ∧ 0 < c ∧ -1000 ≤ q ∧ q ≤ 971 ∧ Va c q * B * 2 ^ 53 ≤ Va A e * (2 ^ 53 + 1) ∧ Va A e * 2 ^ 53 ≤ Va c q * B * 2 ^ 53 + Va A e := by
  have hL := FP.Core.leading_spec hA hB
  have ey : (((e + 1100).toNat : Nat) : Int) = e + 1100 := by omega
  have b1 : ¬ FP.Core.Below A B (((500 : Nat) : Int) - ((e + 1100).toNat : Nat)) := by
    rw [FP.Core.below_iff]; unfold Va at lo; omega
  have b2 : FP.Core.Below A B (((1700 : Nat) : Int) - ((e + 1100).toNat : Nat)) := by
    rw [FP.Core.below_iff]; unfold Va at hi; omega
  have l1 := FP.Core.lt_of_below b1 hL.2
  have l2 := FP.Core.lt_of_below hL.1 b2
  have hp : ((FP.Core.b64.p : Nat) : Int) = 53 := rfl
  have hqm : FP.Core.b64.qmin = -1074 := rfl
  have hqx : FP.Core.b64.qmax = 971 := rfl
  have hq0 : FP.Core.quantum FP.Core.b64 A B e = FP.Core.leading A B + e - 52 := by unfold FP.Core.quantum; rw [hp, hqm]; omega
  have hnb := FP.Core.quantum_not_below (f := FP.Core.b64) hA hB e
  have hnl := FP.Core.nearest_units_le (f := FP.Core.b64) hA hB e
  generalize hq : FP.Core.quantum FP.Core.b64 A B e = q0 at *
  have hq1 : -655 ≤ q0 ∧ q0 ≤ 600 := by omega
  have hnb : ¬ FP.Core.Below A B (q0 - e + ((52 : Nat) : Int)) := by
    rcases hnb with h | h
    · rw [hqm] at h; omega
    · rw [hp] at h; exact h
  have hu : 2 ^ 52 * FP.Core.unitsDen B e q0 ≤ FP.Core.unitsNum A e q0 := by
    rcases Nat.lt_or_ge (FP.Core.unitsNum A e q0) (2 ^ 52 * FP.Core.unitsDen B e q0) with z | z
    · exact absurd ((FP.Core.units_below A B e q0 52).mp z) hnb
    · exact z
  have hud := FP.Core.unitsDen_pos hB e q0
  have hn := FP.Core.nearest_spec (FP.Core.unitsNum A e q0) (FP.Core.unitsDen B e q0) hud
  have hge := FP.Core.nearest_ge hud hu
  obtain ⟨n0, hn0⟩ : ∃ n0, n0 = FP.Core.nearest (FP.Core.unitsNum A e q0) (FP.Core.unitsDen B e q0) := ⟨_, rfl⟩
  rw [← hn0] at hn hge hnl
  have hnl : n0 ≤ 2 ^ 53 := hnl
  -- the exact number in the same units
  have k1 : n0 * FP.Core.unitsDen B e q0 * 2 ^ 53 ≤ FP.Core.unitsNum A e q0 * (2 ^ 53 + 1) := by
    have := hn.2.1
    have e1 : 2 * n0 * FP.Core.unitsDen B e q0 = 2 * (n0 * FP.Core.unitsDen B e q0) := Nat.mul_assoc ..
    omega
  have k2 : FP.Core.unitsNum A e q0 * 2 ^ 53 ≤ n0 * FP.Core.unitsDen B e q0 * 2 ^ 53 + FP.Core.unitsNum A e q0 := by
    have := hn.1
    have e1 : (2 * n0 + 1) * FP.Core.unitsDen B e q0 = 2 * (n0 * FP.Core.unitsDen B e q0) + FP.Core.unitsDen B e q0 := by rw [Nat.add_mul, Nat.mul_assoc, Nat.one_mul]
    omega
  have sc : ∃ z : Nat, 0 < z ∧ FP.Core.unitsNum A e q0 * z = Va A e ∧ FP.Core.unitsDen B e q0 * z = B * 2 ^ (q0 + 1100).toNat := by
    by_cases c : q0 ≤ e
    · refine ⟨2 ^ (q0 + 1100).toNat, Nat.two_pow_pos _, ?_, ?_⟩
      · unfold FP.Core.unitsNum Va
        rw [Nat.mul_assoc, ← p2_add, show (e - q0).toNat + (q0 + 1100).toNat = (e + 1100).toNat by omega]
      · unfold FP.Core.unitsDen
        rw [show (q0 - e).toNat = 0 by omega, Nat.pow_zero, Nat.mul_one]
    · refine ⟨2 ^ (e + 1100).toNat, Nat.two_pow_pos _, ?_, ?_⟩
      · unfold FP.Core.unitsNum Va
        rw [show (e - q0).toNat = 0 by omega, Nat.pow_zero, Nat.mul_one]
      · unfold FP.Core.unitsDen
        rw [Nat.mul_assoc, ← p2_add, show (q0 - e).toNat + (e + 1100).toNat = (q0 + 1100).toNat by omega]
  obtain ⟨z, -, z1, z2⟩ := sc
  have v0 : Va n0 q0 * B = n0 * FP.Core.unitsDen B e q0 * z := by
    rw [Nat.mul_assoc, z2]; unfold Va; ac_rfl
  have m1 : Va n0 q0 * B * 2 ^ 53 ≤ Va A e * (2 ^ 53 + 1) := by
    have := Nat.mul_le_mul_right z k1
    rw [v0, ← z1]
    calc n0 * FP.Core.unitsDen B e q0 * z * 2 ^ 53 = n0 * FP.Core.unitsDen B e q0 * 2 ^ 53 * z := by ac_rfl
      _ ≤ FP.Core.unitsNum A e q0 * (2 ^ 53 + 1) * z := this
      _ = _ := by ac_rfl
  have m2 : Va A e * 2 ^ 53 ≤ Va n0 q0 * B * 2 ^ 53 + Va A e := by
    have := Nat.mul_le_mul_right z k2
    rw [Nat.add_mul] at this
    rw [v0, ← z1]
    calc FP.Core.unitsNum A e q0 * z * 2 ^ 53 = FP.Core.unitsNum A e q0 * 2 ^ 53 * z := by ac_rfl
      _ ≤ n0 * FP.Core.unitsDen B e q0 * 2 ^ 53 * z + FP.Core.unitsNum A e q0 * z := this
      _ = _ := by congr 1; ac_rfl
  have hR : FP.Core.roundRatio FP.Core.b64 false A B e = FP.Core.settle FP.Core.b64 false n0 q0 := by
    unfold FP.Core.roundRatio FP.Core.roundAt
    rw [if_neg (by omega), hq, ← hn0]
  rw [hR]
  unfold FP.Core.settle FP.Core.bound
  have hp2 : (2 : Nat) ^ FP.Core.b64.p = 2 ^ 53 := rfl
  have ht2 : FP.Core.b64.tails = 2 ^ 52 := rfl
  by_cases c : n0 < 2 ^ 53
  · rw [hp2, if_pos c, hqx, if_pos (by omega)]
    exact ⟨n0, q0, rfl, by omega, by omega, by omega, m1, m2⟩
  · have hn53 : n0 = 2 ^ 53 := by omega
    rw [hp2, if_neg c, hqx, if_pos (by omega), ht2]
    have ev : Va (2 ^ 52) (q0 + 1) = Va n0 q0 := by
      unfold Va; rw [hn53, show (q0 + 1 + 1100).toNat = 1 + (q0 + 1100).toNat by omega, p2_add, ← Nat.mul_assoc]
    exact ⟨2 ^ 52, q0 + 1, rfl, Nat.two_pow_pos _, by omega, by omega, by rw [ev]; exact m1, by rw [ev]; exact m2⟩
