/-! doubles: a rounded number lies near the exact one; told in units of 2 ^ -2200 -/
def KK : Nat := 2 ^ 2200
theorem KK_pos : 0 < KK := Nat.two_pow_pos _
def Va (c : Nat) (q : Int) : Nat := c * 2 ^ (q + 2200).toNat
theorem Va_pos {c : Nat} {q : Int} (h : 0 < c) : 0 < Va c q := Nat.mul_pos h (Nat.two_pow_pos _)
theorem p2_add (a b : Nat) : (2 : Nat) ^ (a + b) = 2 ^ a * 2 ^ b := Nat.pow_add 2 a b
theorem Va_mul {c d : Nat} {q r : Int} (hq : -2200 ≤ q) (hr : -2200 ≤ r) (hs : -2200 ≤ q + r) : Va (c * d) (q + r) * KK = Va c q * Va d r := by
  unfold Va KK
  have e : (q + r + 2200).toNat + 2200 = (q + 2200).toNat + (r + 2200).toNat := by omega
  have e2 : (2 : Nat) ^ (q + r + 2200).toNat * 2 ^ 2200 = 2 ^ (q + 2200).toNat * 2 ^ (r + 2200).toNat := by rw [← p2_add, ← p2_add, e]
  calc c * d * 2 ^ (q + r + 2200).toNat * 2 ^ 2200 = c * d * (2 ^ (q + r + 2200).toNat * 2 ^ 2200) := Nat.mul_assoc ..
    _ = c * d * (2 ^ (q + 2200).toNat * 2 ^ (r + 2200).toNat) := by rw [e2]
    _ = c * 2 ^ (q + 2200).toNat * (d * 2 ^ (r + 2200).toNat) := by ac_rfl
theorem near_up {x u y : Nat} (h1 : 2 * x ≤ 2 * u + y) (h2 : 2 ^ 52 * y ≤ u) : x * 2 ^ 53 ≤ u * (2 ^ 53 + 1) := by omega
theorem near_dn {x u y : Nat} (h1 : 2 * u ≤ 2 * x + y) (h2 : 2 ^ 52 * y ≤ u) : u * 2 ^ 53 ≤ x * 2 ^ 53 + u := by omega
theorem near_1 {x y : Nat} (h : x * 2 ^ 53 ≤ y * 2 ^ 53 + x) : x * (2 ^ 53 - 1) ≤ y * 2 ^ 53 := by rw [Nat.mul_sub, Nat.mul_one]; omega
set_option maxRecDepth 100000 in
/-- rounding: the sign stays, the error is below one part in 2 ^ 53 -/
theorem rr_ok {A B : Nat} {e : Int} (hA : 0 < A) (hB : 0 < B) (he : -2200 ≤ e) (lo : B * 2 ^ 1600 ≤ Va A e) (hi : Va A e < B * 2 ^ 2800) :
    ∃ (c : Nat) (q : Int), FP.Core.roundRatio FP.Core.b64 false A B e = .fin false c q ∧ 0 < c ∧ -1000 ≤ q ∧ q ≤ 971 ∧ Va c q * B * 2 ^ 53 ≤ Va A e * (2 ^ 53 + 1) ∧ Va A e * 2 ^ 53 ≤ Va c q * B * 2 ^ 53 + Va A e := by
  have hL := FP.Core.leading_spec hA hB
  have ey : (((e + 2200).toNat : Nat) : Int) = e + 2200 := by omega
  have b1 : ¬ FP.Core.Below A B (((1600 : Nat) : Int) - ((e + 2200).toNat : Nat)) := by
    rw [FP.Core.below_iff]; unfold Va at lo; omega
  have b2 : FP.Core.Below A B (((2800 : Nat) : Int) - ((e + 2200).toNat : Nat)) := by
    rw [FP.Core.below_iff]; unfold Va at hi; omega
  have l1 := FP.Core.lt_of_below b1 hL.2
  have l2 := FP.Core.lt_of_below hL.1 b2
  have hp : ((FP.Core.b64.p : Nat) : Int) = 53 := rfl
  have hqm : FP.Core.b64.qmin = -1074 := rfl
  have hqx : FP.Core.b64.qmax = 971 := rfl
  have hq0 : FP.Core.quantum FP.Core.b64 A B e = FP.Core.leading A B + e - 52 := by unfold FP.Core.quantum; rw [hp, hqm]; omega
  have hnb := FP.Core.quantum_not_below (f := FP.Core.b64) hA hB e
  have hnl := FP.Core.nearest_units_le (f := FP.Core.b64) hA hB e
  generalize hq : FP.Core.quantum FP.Core.b64 A B e = q0 at *
  have hq1 : -655 ≤ q0 ∧ q0 ≤ 600 := by omega
  have hnb : ¬ FP.Core.Below A B (q0 - e + ((52 : Nat) : Int)) := by
    rcases hnb with h | h
    · rw [hqm] at h; omega
    · rw [hp] at h; exact h
  have hu : 2 ^ 52 * FP.Core.unitsDen B e q0 ≤ FP.Core.unitsNum A e q0 := by
    rcases Nat.lt_or_ge (FP.Core.unitsNum A e q0) (2 ^ 52 * FP.Core.unitsDen B e q0) with z | z
    · exact absurd ((FP.Core.units_below A B e q0 52).mp z) hnb
    · exact z
  have hud := FP.Core.unitsDen_pos hB e q0
  have hn := FP.Core.nearest_spec (FP.Core.unitsNum A e q0) (FP.Core.unitsDen B e q0) hud
  have hge := FP.Core.nearest_ge hud hu
  obtain ⟨n0, hn0⟩ : ∃ n0, n0 = FP.Core.nearest (FP.Core.unitsNum A e q0) (FP.Core.unitsDen B e q0) := ⟨_, rfl⟩
  rw [← hn0] at hn hge hnl
  have hnl : n0 ≤ 2 ^ 53 := hnl
  -- the exact number in the same units
  have k1 : n0 * FP.Core.unitsDen B e q0 * 2 ^ 53 ≤ FP.Core.unitsNum A e q0 * (2 ^ 53 + 1) := by
    have := hn.2.1
    rw [Nat.mul_assoc] at this
    exact near_up this hu
  have k2 : FP.Core.unitsNum A e q0 * 2 ^ 53 ≤ n0 * FP.Core.unitsDen B e q0 * 2 ^ 53 + FP.Core.unitsNum A e q0 := by
    have := hn.1
    rw [Nat.add_mul, Nat.mul_assoc, Nat.one_mul] at this
    exact near_dn this hu
  have sc : ∃ z : Nat, 0 < z ∧ FP.Core.unitsNum A e q0 * z = Va A e ∧ FP.Core.unitsDen B e q0 * z = B * 2 ^ (q0 + 2200).toNat := by
    by_cases c : q0 ≤ e
    · refine ⟨2 ^ (q0 + 2200).toNat, Nat.two_pow_pos _, ?_, ?_⟩
      · unfold FP.Core.unitsNum Va
        rw [Nat.mul_assoc, ← p2_add, show (e - q0).toNat + (q0 + 2200).toNat = (e + 2200).toNat by omega]
      · unfold FP.Core.unitsDen
        rw [show (q0 - e).toNat = 0 by omega, Nat.pow_zero, Nat.mul_one]
    · refine ⟨2 ^ (e + 2200).toNat, Nat.two_pow_pos _, ?_, ?_⟩
      · unfold FP.Core.unitsNum Va
        rw [show (e - q0).toNat = 0 by omega, Nat.pow_zero, Nat.mul_one]
      · unfold FP.Core.unitsDen
        rw [Nat.mul_assoc, ← p2_add, show (q0 - e).toNat + (e + 2200).toNat = (q0 + 2200).toNat by omega]
  obtain ⟨z, -, z1, z2⟩ := sc
  have v0 : Va n0 q0 * B = n0 * FP.Core.unitsDen B e q0 * z := by
    rw [Nat.mul_assoc, z2]; unfold Va; ac_rfl
  have m1 : Va n0 q0 * B * 2 ^ 53 ≤ Va A e * (2 ^ 53 + 1) := by
    have := Nat.mul_le_mul_right z k1
    rw [v0, ← z1]
    calc n0 * FP.Core.unitsDen B e q0 * z * 2 ^ 53 = n0 * FP.Core.unitsDen B e q0 * 2 ^ 53 * z := by ac_rfl
      _ ≤ FP.Core.unitsNum A e q0 * (2 ^ 53 + 1) * z := this
      _ = _ := by ac_rfl
  have m2 : Va A e * 2 ^ 53 ≤ Va n0 q0 * B * 2 ^ 53 + Va A e := by
    have := Nat.mul_le_mul_right z k2
    rw [Nat.add_mul] at this
    rw [v0, ← z1]
    calc FP.Core.unitsNum A e q0 * z * 2 ^ 53 = FP.Core.unitsNum A e q0 * 2 ^ 53 * z := by ac_rfl
      _ ≤ n0 * FP.Core.unitsDen B e q0 * 2 ^ 53 * z + FP.Core.unitsNum A e q0 * z := this
      _ = _ := by congr 1; ac_rfl
  have hR : FP.Core.roundRatio FP.Core.b64 false A B e = FP.Core.settle FP.Core.b64 false n0 q0 := by
    unfold FP.Core.roundRatio FP.Core.roundAt
    rw [if_neg (by omega), hq, ← hn0]
  rw [hR]
  unfold FP.Core.settle FP.Core.bound
  have hp2 : (2 : Nat) ^ FP.Core.b64.p = 2 ^ 53 := rfl
  have ht2 : FP.Core.b64.tails = 2 ^ 52 := rfl
  by_cases c : n0 < 2 ^ 53
  · rw [hp2, if_pos c, hqx, if_pos (by omega)]
    exact ⟨n0, q0, rfl, by omega, by omega, by omega, m1, m2⟩
  · have hn53 : n0 = 2 ^ 53 := by omega
    rw [hp2, if_neg c, hqx, if_pos (by omega), ht2]
    have ev : Va (2 ^ 52) (q0 + 1) = Va n0 q0 := by
      unfold Va; rw [hn53, show (q0 + 1 + 2200).toNat = 1 + (q0 + 2200).toNat by omega, p2_add, ← Nat.mul_assoc]
    exact ⟨2 ^ 52, q0 + 1, rfl, Nat.two_pow_pos _, by omega, by omega, by rw [ev]; exact m1, by rw [ev]; exact m2⟩
def Fi (r : UInt64) (c : Nat) (q : Int) : Prop := FP.Core.val64 r = .fin false c q ∧ 0 < c ∧ -1000 ≤ q ∧ q ≤ 971
/-- r stands for N / D, with an error of at most k parts in 2 ^ 50 -/
def Ap (r : UInt64) (N D k : Nat) : Prop := ∃ (c : Nat) (q : Int), Fi r c q ∧ Va c q * D * 2 ^ 50 ≤ N * KK * (2 ^ 50 + k) ∧ N * KK * (2 ^ 50 - k) ≤ Va c q * D * 2 ^ 50
set_option maxRecDepth 100000 in
theorem cst_e (k j : Nat) : (2 ^ 50 + k) * (2 ^ 50 + j) = 2 ^ 100 + 2 ^ 50 * (k + j) + k * j := by
  rw [Nat.add_mul, Nat.mul_add, Nat.mul_add]
  generalize k * j = z
  omega
set_option maxRecDepth 100000 in
theorem cst_up {k j : Nat} (h : k ≤ 1000) (h2 : j ≤ 1000) : (2 ^ 50 + k) * (2 ^ 50 + j) * (2 ^ 53 + 1) ≤ (2 ^ 50 + (k + j + 2)) * (2 ^ 50 * 2 ^ 53) := by
  rw [cst_e]
  have := Nat.mul_le_mul h h2
  generalize k * j = z at *
  omega
set_option maxRecDepth 100000 in
theorem cst_dn {k j : Nat} (h : k ≤ 1000) (h2 : j ≤ 1000) : (2 ^ 50 - (k + j + 2)) * (2 ^ 50 * 2 ^ 53) ≤ (2 ^ 50 - k) * (2 ^ 50 - j) * (2 ^ 53 - 1) := by
  obtain ⟨a, ha⟩ : ∃ a, a + k = 2 ^ 50 := ⟨2 ^ 50 - k, by omega⟩
  obtain ⟨b, hb⟩ : ∃ b, b + j = 2 ^ 50 := ⟨2 ^ 50 - j, by omega⟩
  rw [show 2 ^ 50 - k = a by omega, show 2 ^ 50 - j = b by omega]
  have e : (a + k) * (b + j) = a * b + a * j + k * b + k * j := by rw [Nat.add_mul, Nat.mul_add, Nat.mul_add]; omega
  rw [ha, hb] at e
  have e1 : a * j ≤ 2 ^ 50 * j := Nat.mul_le_mul_right j (by omega)
  have e2 : k * b ≤ k * 2 ^ 50 := Nat.mul_le_mul_left k (by omega)
  have e3 := Nat.mul_le_mul h h2
  generalize a * b = z at *
  generalize a * j = z1 at *
  generalize k * b = z2 at *
  generalize k * j = z3 at *
  omega
theorem val_mul {a b r : UInt64} {c d : Nat} {q s : Int} (ha : FP.Core.val64 a = .fin false c q) (hb : FP.Core.val64 b = .fin false d s) (h : r = FP.dmul a b) : FP.Core.val64 r = FP.Core.roundRatio FP.Core.b64 false (c * d) 1 (q + s) := by
  subst h
  show FP.Core.val64 (FP.Core.dmul a b) = _
  rw [FP.Core.val64_dmul, ha, hb]; rfl
theorem val_div {a b r : UInt64} {c d : Nat} {q s : Int} (ha : FP.Core.val64 a = .fin false c q) (hb : FP.Core.val64 b = .fin false d s) (hd : 0 < d) (h : r = FP.ddiv a b) : FP.Core.val64 r = FP.Core.roundRatio FP.Core.b64 false c d (q - s) := by
  subst h
  show FP.Core.val64 (FP.Core.ddiv a b) = _
  rw [FP.Core.val64_ddiv, ha, hb]
  show (if d = 0 then _ else _) = _
  rw [if_neg (by omega)]; rfl
set_option maxRecDepth 100000 in
theorem Ap.two {N D k : Nat} {c : Nat} {q : Int} (hk : k ≤ 1000) (h1 : Va c q * D * 2 ^ 50 ≤ N * KK * (2 ^ 50 + k)) (h2 : N * KK * (2 ^ 50 - k) ≤ Va c q * D * 2 ^ 50) : Va c q * D ≤ 2 * (N * KK) ∧ N * KK ≤ 2 * (Va c q * D) := by
  have a : N * KK * (2 ^ 50 + k) ≤ N * KK * 2 ^ 51 := Nat.mul_le_mul_left _ (by omega)
  have b : N * KK * 2 ^ 49 ≤ N * KK * (2 ^ 50 - k) := Nat.mul_le_mul_left _ (by omega)
  generalize Va c q * D = x at *
  generalize N * KK = y at *
  generalize y * (2 ^ 50 + k) = z at *
  generalize y * (2 ^ 50 - k) = z2 at *
  omega
theorem mul_core {V W T D F N M K R A B E G p q : Nat} (hK : 0 < K) (hp : 0 < p) (hq : 0 < q) (hT : T * K = V * W) (hr : R * q ≤ T * E) (ha : V * D * p ≤ N * K * A) (hb : W * F * p ≤ M * K * B) (hc : A * B * E ≤ G * (p * q)) : R * (D * F) * p ≤ N * M * K * G := by
  apply Nat.le_of_mul_le_mul_right (c := p * q * K) ?_ (Nat.mul_pos (Nat.mul_pos hp hq) hK)
  calc R * (D * F) * p * (p * q * K) = R * q * (D * F * (p * p) * K) := by ac_rfl
    _ ≤ T * E * (D * F * (p * p) * K) := Nat.mul_le_mul_right _ hr
    _ = T * K * (E * (D * F) * (p * p)) := by ac_rfl
    _ = V * W * (E * (D * F) * (p * p)) := by rw [hT]
    _ = V * D * p * (W * F * p) * E := by ac_rfl
    _ ≤ N * K * A * (M * K * B) * E := Nat.mul_le_mul_right _ (Nat.mul_le_mul ha hb)
    _ = N * M * K * K * (A * B * E) := by ac_rfl
    _ ≤ N * M * K * K * (G * (p * q)) := Nat.mul_le_mul_left _ hc
    _ = N * M * K * G * (p * q * K) := by ac_rfl
theorem mul_core2 {V W T D F N M K R A B E G p q : Nat} (hK : 0 < K) (hp : 0 < p) (hq : 0 < q) (hT : T * K = V * W) (hr : T * E ≤ R * q) (ha : N * K * A ≤ V * D * p) (hb : M * K * B ≤ W * F * p) (hc : G * (p * q) ≤ A * B * E) : N * M * K * G ≤ R * (D * F) * p := by
  apply Nat.le_of_mul_le_mul_right (c := p * q * K) ?_ (Nat.mul_pos (Nat.mul_pos hp hq) hK)
  calc N * M * K * G * (p * q * K) = N * M * K * K * (G * (p * q)) := by ac_rfl
    _ ≤ N * M * K * K * (A * B * E) := Nat.mul_le_mul_left _ hc
    _ = N * K * A * (M * K * B) * E := by ac_rfl
    _ ≤ V * D * p * (W * F * p) * E := Nat.mul_le_mul_right _ (Nat.mul_le_mul ha hb)
    _ = V * W * (E * (D * F) * (p * p)) := by ac_rfl
    _ = T * K * (E * (D * F) * (p * p)) := by rw [hT]
    _ = T * E * (D * F * (p * p) * K) := by ac_rfl
    _ ≤ R * q * (D * F * (p * p) * K) := Nat.mul_le_mul_right _ hr
    _ = R * (D * F) * p * (p * q * K) := by ac_rfl
theorem rng_core {V W T D F N M K L : Nat} (hK : 0 < K) (hT : T * K = V * W) (a1 : V * D ≤ 2 * (N * K)) (a2 : N * K ≤ 2 * (V * D)) (b1 : W * F ≤ 2 * (M * K)) (b2 : M * K ≤ 2 * (W * F)) (hN : 0 < N * M) (hD : 0 < D * F) (lo : D * F ≤ L * (N * M)) (hi : N * M ≤ L * (D * F)) : K ≤ 4 * L * T ∧ T ≤ 4 * L * K := by
  have x1 : N * M * K ≤ 4 * (T * (D * F)) := by
    apply Nat.le_of_mul_le_mul_right (c := K) ?_ hK
    calc N * M * K * K = N * K * (M * K) := by ac_rfl
      _ ≤ 2 * (V * D) * (2 * (W * F)) := Nat.mul_le_mul a2 b2
      _ = 2 * 2 * (V * W) * (D * F) := by ac_rfl
      _ = 4 * (T * K) * (D * F) := by rw [hT]
      _ = 4 * (T * (D * F)) * K := by ac_rfl
  have x2 : T * (D * F) ≤ 4 * (N * M * K) := by
    apply Nat.le_of_mul_le_mul_right (c := K) ?_ hK
    calc T * (D * F) * K = T * K * (D * F) := by ac_rfl
      _ = V * W * (D * F) := by rw [hT]
      _ = V * D * (W * F) := by ac_rfl
      _ ≤ 2 * (N * K) * (2 * (M * K)) := Nat.mul_le_mul a1 b1
      _ = 2 * 2 * (N * M * K) * K := by ac_rfl
  refine ⟨?_, ?_⟩
  · apply Nat.le_of_mul_le_mul_left (c := N * M) ?_ hN
    calc N * M * K ≤ 4 * (T * (D * F)) := x1
      _ ≤ 4 * (T * (L * (N * M))) := Nat.mul_le_mul_left _ (Nat.mul_le_mul_left _ lo)
      _ = N * M * (4 * L * T) := by ac_rfl
  · apply Nat.le_of_mul_le_mul_left (c := D * F) ?_ hD
    calc D * F * T = T * (D * F) := by ac_rfl
      _ ≤ 4 * (N * M * K) := x2
      _ ≤ 4 * (L * (D * F) * K) := Nat.mul_le_mul_left _ (Nat.mul_le_mul_right _ hi)
      _ = D * F * (4 * L * K) := by ac_rfl
theorem KK_lo {T : Nat} (h : KK ≤ 4 * 2 ^ 590 * T) : 2 ^ 1600 ≤ T := by
  have e : KK = 2 ^ 592 * 2 ^ 1608 := by unfold KK; rw [← p2_add]
  have e2 : (4 : Nat) * 2 ^ 590 = 2 ^ 592 := by rw [show (592 : Nat) = 2 + 590 from rfl, p2_add]
  rw [e, e2] at h
  have h2 := Nat.le_of_mul_le_mul_left h (Nat.two_pow_pos 592)
  have h3 : (2 : Nat) ^ 1600 ≤ 2 ^ 1608 := Nat.pow_le_pow_right (by omega) (by omega)
  exact Nat.le_trans h3 h2
theorem KK_hi {T : Nat} (h : T ≤ 4 * 2 ^ 590 * KK) : T < 2 ^ 2800 := by
  have e2 : (4 : Nat) * 2 ^ 590 = 2 ^ 592 := by rw [show (592 : Nat) = 2 + 590 from rfl, p2_add]
  have e : 4 * 2 ^ 590 * KK = 2 ^ 2792 := by rw [e2]; unfold KK; rw [← p2_add]
  rw [e] at h
  have h3 : (2 : Nat) ^ 2792 < 2 ^ 2800 := Nat.pow_lt_pow_right (by omega) (by omega)
  exact Nat.lt_of_le_of_lt h h3
set_option maxRecDepth 100000 in
/-- a product -/
theorem Ap.mul {a b r : UInt64} {N D k M F j : Nat} (ha : Ap a N D k) (hb : Ap b M F j) (h : r = FP.dmul a b) (hk : k ≤ 1000) (hj : j ≤ 1000) (hN : 0 < N * M) (hD : 0 < D * F) (lo : D * F ≤ 2 ^ 590 * (N * M)) (hi : N * M ≤ 2 ^ 590 * (D * F)) : Ap r (N * M) (D * F) (k + j + 2) := by
  obtain ⟨c, q, ⟨va, hc, hq1, hq2⟩, a1, a2⟩ := ha
  obtain ⟨d, s, ⟨vb, hd, hs1, hs2⟩, b1, b2⟩ := hb
  have tv := Va_mul (c := c) (d := d) (q := q) (r := s) (by omega) (by omega) (by omega)
  obtain ⟨t1, t2⟩ := Ap.two hk a1 a2
  obtain ⟨u1, u2⟩ := Ap.two hj b1 b2
  obtain ⟨r1, r2⟩ := rng_core KK_pos tv t1 t2 u1 u2 hN hD lo hi
  obtain ⟨c2, q2, v2, w1, w2, w3, w4, w5⟩ := rr_ok (A := c * d) (B := 1) (e := q + s) (Nat.mul_pos hc hd) (by omega) (by omega) (by rw [Nat.one_mul]; exact KK_lo r1) (by rw [Nat.one_mul]; exact KK_hi r2)
  rw [Nat.mul_one] at w4 w5
  refine ⟨c2, q2, ⟨by rw [val_mul va vb h]; exact v2, w1, w2, w3⟩, ?_, ?_⟩
  · exact mul_core (q := 2 ^ 53) (E := 2 ^ 53 + 1) KK_pos (Nat.two_pow_pos _) (Nat.two_pow_pos _) tv w4 a1 b1 (cst_up hk hj)
  · refine mul_core2 (q := 2 ^ 53) (E := 2 ^ 53 - 1) KK_pos (Nat.two_pow_pos _) (Nat.two_pow_pos _) tv (near_1 w5) a2 b2 (cst_dn hk hj)
