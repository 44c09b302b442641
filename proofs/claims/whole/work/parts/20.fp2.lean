theorem div_core {V W T d N D M F K R A B E G p q : Nat} (hd : 0 < d) (hB : 0 < B) (hq : 0 < q) (hK : 0 < K) (hT : T * W = d * V * K) (hr : R * d * q ≤ T * E) (ha : V * D * p ≤ N * K * A) (hb : M * K * B ≤ W * F * p) (hc : A * E * p ≤ G * (B * q)) : R * (D * M) * p ≤ N * F * K * G := by
  have s1 : R * W * q ≤ V * K * E := by
    apply Nat.le_of_mul_le_mul_right (c := d) ?_ hd
    calc R * W * q * d = R * d * q * W := by ac_rfl
      _ ≤ T * E * W := Nat.mul_le_mul_right _ hr
      _ = T * W * E := by ac_rfl
      _ = d * V * K * E := by rw [hT]
      _ = V * K * E * d := by ac_rfl
  have s2 : R * (D * M) * (B * q) ≤ N * F * K * (A * E) := by
    apply Nat.le_of_mul_le_mul_right (c := K) ?_ hK
    calc R * (D * M) * (B * q) * K = R * D * q * (M * K * B) := by ac_rfl
      _ ≤ R * D * q * (W * F * p) := Nat.mul_le_mul_left _ hb
      _ = R * W * q * (D * F * p) := by ac_rfl
      _ ≤ V * K * E * (D * F * p) := Nat.mul_le_mul_right _ s1
      _ = V * D * p * (K * E * F) := by ac_rfl
      _ ≤ N * K * A * (K * E * F) := Nat.mul_le_mul_right _ ha
      _ = N * F * K * (A * E) * K := by ac_rfl
  apply Nat.le_of_mul_le_mul_right (c := B * q) ?_ (Nat.mul_pos hB hq)
  calc R * (D * M) * p * (B * q) = R * (D * M) * (B * q) * p := by ac_rfl
    _ ≤ N * F * K * (A * E) * p := Nat.mul_le_mul_right _ s2
    _ = N * F * K * (A * E * p) := by ac_rfl
    _ ≤ N * F * K * (G * (B * q)) := Nat.mul_le_mul_left _ hc
    _ = N * F * K * G * (B * q) := by ac_rfl
theorem div_core2 {V W T d N D M F K R A B E G p q : Nat} (hd : 0 < d) (hB : 0 < B) (hq : 0 < q) (hK : 0 < K) (hT : T * W = d * V * K) (hr : T * E ≤ R * d * q) (ha : N * K * A ≤ V * D * p) (hb : W * F * p ≤ M * K * B) (hc : G * (B * q) ≤ A * E * p) : N * F * K * G ≤ R * (D * M) * p := by
  have s1 : V * K * E ≤ R * W * q := by
    apply Nat.le_of_mul_le_mul_right (c := d) ?_ hd
    calc V * K * E * d = d * V * K * E := by ac_rfl
      _ = T * W * E := by rw [hT]
      _ = T * E * W := by ac_rfl
      _ ≤ R * d * q * W := Nat.mul_le_mul_right _ hr
      _ = R * W * q * d := by ac_rfl
  have s2 : N * F * K * (A * E) ≤ R * (D * M) * (B * q) := by
    apply Nat.le_of_mul_le_mul_right (c := K) ?_ hK
    calc N * F * K * (A * E) * K = N * K * A * (K * E * F) := by ac_rfl
      _ ≤ V * D * p * (K * E * F) := Nat.mul_le_mul_right _ ha
      _ = V * K * E * (D * F * p) := by ac_rfl
      _ ≤ R * W * q * (D * F * p) := Nat.mul_le_mul_right _ s1
      _ = R * D * q * (W * F * p) := by ac_rfl
      _ ≤ R * D * q * (M * K * B) := Nat.mul_le_mul_left _ hb
      _ = R * (D * M) * (B * q) * K := by ac_rfl
  apply Nat.le_of_mul_le_mul_right (c := B * q) ?_ (Nat.mul_pos hB hq)
  calc N * F * K * G * (B * q) = N * F * K * (G * (B * q)) := by ac_rfl
    _ ≤ N * F * K * (A * E * p) := Nat.mul_le_mul_left _ hc
    _ = N * F * K * (A * E) * p := by ac_rfl
    _ ≤ R * (D * M) * (B * q) * p := Nat.mul_le_mul_right _ s2
    _ = R * (D * M) * p * (B * q) := by ac_rfl
set_option maxRecDepth 100000 in
theorem cst_div {k j : Nat} (h : k ≤ 1000) (h2 : j ≤ 1000) : (2 ^ 50 + k) * (2 ^ 53 + 1) * 2 ^ 50 ≤ (2 ^ 50 + (k + j + 2)) * ((2 ^ 50 - j) * 2 ^ 53) := by
  obtain ⟨b, hb⟩ : ∃ b, b + j = 2 ^ 50 := ⟨2 ^ 50 - j, by omega⟩
  rw [show 2 ^ 50 - j = b by omega]
  have e : (2 ^ 50 + (k + j + 2)) * (b * 2 ^ 53) = 2 ^ 103 * b + (k + j + 2) * b * 2 ^ 53 := by rw [Nat.add_mul, ← Nat.mul_assoc (k + j + 2)]; omega
  have e1 : (k + j + 2) * b + (k + j + 2) * j = (k + j + 2) * 2 ^ 50 := by rw [← Nat.mul_add, hb]
  have e3 : (k + j + 2) * j ≤ 2002 * 1000 := Nat.mul_le_mul (by omega) h2
  rw [e]
  generalize (k + j + 2) * b = z at *
  generalize (k + j + 2) * j = z2 at *
  omega
set_option maxRecDepth 100000 in
theorem cst_div2 {k j : Nat} (h : k ≤ 1000) (h2 : j ≤ 1000) : (2 ^ 50 - (k + j + 2)) * ((2 ^ 50 + j) * 2 ^ 53) ≤ (2 ^ 50 - k) * (2 ^ 53 - 1) * 2 ^ 50 := by
  obtain ⟨a, ha⟩ : ∃ a, a + (k + j + 2) = 2 ^ 50 := ⟨2 ^ 50 - (k + j + 2), by omega⟩
  rw [show 2 ^ 50 - (k + j + 2) = a by omega, show 2 ^ 50 - k = a + (j + 2) by omega]
  have e : a * ((2 ^ 50 + j) * 2 ^ 53) = a * 2 ^ 103 + a * j * 2 ^ 53 := by rw [Nat.add_mul, Nat.mul_add, ← Nat.mul_assoc a j]
  have e1 : a * j ≤ 2 ^ 50 * j := Nat.mul_le_mul_right j (by omega)
  rw [e]
  generalize a * j = z at *
  omega
set_option maxRecDepth 100000 in
/-- a quotient -/
theorem Ap.div {a b r : UInt64} {N D k M F j : Nat} (ha : Ap a N D k) (hb : Ap b M F j) (h : r = FP.ddiv a b) (hk : k ≤ 1000) (hj : j ≤ 1000) (hN : 0 < N * F) (hD : 0 < D * M) (lo : D * M ≤ 2 ^ 590 * (N * F)) (hi : N * F ≤ 2 ^ 590 * (D * M)) : Ap r (N * F) (D * M) (k + j + 2) := by
  obtain ⟨c, q, ⟨va, hc, hq1, hq2⟩, a1, a2⟩ := ha
  obtain ⟨d, s, ⟨vb, hd, hs1, hs2⟩, b1, b2⟩ := hb
  have tv : Va c (q - s) * Va d s = d * Va c q * KK := by
    have := Va_mul (c := c) (d := d) (q := q - s) (r := s) (by omega) (by omega) (by omega)
    rw [← this, show q - s + s = q by omega]
    unfold Va; ac_rfl
  obtain ⟨t1, t2⟩ := Ap.two hk a1 a2
  obtain ⟨u1, u2⟩ := Ap.two hj b1 b2
  have x1 : N * F * (KK * d) ≤ 4 * (Va c (q - s) * (D * M)) := by
    apply Nat.le_of_mul_le_mul_right (c := KK * Va d s) ?_ (Nat.mul_pos KK_pos (Va_pos hd))
    calc N * F * (KK * d) * (KK * Va d s) = N * KK * (Va d s * F) * (d * KK) := by ac_rfl
      _ ≤ 2 * (Va c q * D) * (2 * (M * KK)) * (d * KK) := Nat.mul_le_mul_right _ (Nat.mul_le_mul t2 u1)
      _ = 2 * 2 * (d * Va c q * KK) * (D * M) * KK := by ac_rfl
      _ = 4 * (Va c (q - s) * Va d s) * (D * M) * KK := by rw [tv]
      _ = 4 * (Va c (q - s) * (D * M)) * (KK * Va d s) := by ac_rfl
  have x2 : Va c (q - s) * (D * M) ≤ 4 * (N * F * (KK * d)) := by
    apply Nat.le_of_mul_le_mul_right (c := KK * Va d s) ?_ (Nat.mul_pos KK_pos (Va_pos hd))
    calc Va c (q - s) * (D * M) * (KK * Va d s) = Va c (q - s) * Va d s * (D * M) * KK := by ac_rfl
      _ = d * Va c q * KK * (D * M) * KK := by rw [tv]
      _ = Va c q * D * (M * KK) * (d * KK) := by ac_rfl
      _ ≤ 2 * (N * KK) * (2 * (Va d s * F)) * (d * KK) := Nat.mul_le_mul_right _ (Nat.mul_le_mul t1 u2)
      _ = 2 * 2 * (N * F * (KK * d)) * (KK * Va d s) := by ac_rfl
  have r1 : KK ≤ 4 * 2 ^ 590 * (Va c (q - s) / d) ∨ d * 2 ^ 1600 ≤ Va c (q - s) := Or.inr (by
    have e : KK = 2 ^ 592 * 2 ^ 1608 := by unfold KK; rw [← p2_add]
    have e2 : (4 : Nat) * 2 ^ 590 = 2 ^ 592 := by rw [show (592 : Nat) = 2 + 590 from rfl, p2_add]
    have y1 : N * F * (KK * d) ≤ N * F * (4 * 2 ^ 590 * Va c (q - s)) := by
      calc N * F * (KK * d) ≤ 4 * (Va c (q - s) * (D * M)) := x1
        _ ≤ 4 * (Va c (q - s) * (2 ^ 590 * (N * F))) := Nat.mul_le_mul_left _ (Nat.mul_le_mul_left _ lo)
        _ = N * F * (4 * 2 ^ 590 * Va c (q - s)) := by ac_rfl
    have y2 := Nat.le_of_mul_le_mul_left y1 hN
    rw [e, e2, Nat.mul_assoc] at y2
    have y3 := Nat.le_of_mul_le_mul_left y2 (Nat.two_pow_pos 592)
    have h3 : (2 : Nat) ^ 1600 ≤ 2 ^ 1608 := Nat.pow_le_pow_right (by omega) (by omega)
    rw [Nat.mul_comm]
    exact Nat.le_trans (Nat.mul_le_mul_right d h3) y3)
  have r2 : Va c (q - s) < d * 2 ^ 2800 := by
    have e2 : (4 : Nat) * 2 ^ 590 = 2 ^ 592 := by rw [show (592 : Nat) = 2 + 590 from rfl, p2_add]
    have y1 : D * M * Va c (q - s) ≤ D * M * (4 * 2 ^ 590 * KK * d) := by
      calc D * M * Va c (q - s) = Va c (q - s) * (D * M) := by ac_rfl
        _ ≤ 4 * (N * F * (KK * d)) := x2
        _ ≤ 4 * (2 ^ 590 * (D * M) * (KK * d)) := Nat.mul_le_mul_left _ (Nat.mul_le_mul_right _ hi)
        _ = D * M * (4 * 2 ^ 590 * KK * d) := by ac_rfl
    have y2 := Nat.le_of_mul_le_mul_left y1 hD
    have e : 4 * 2 ^ 590 * KK = 2 ^ 2792 := by rw [e2]; unfold KK; rw [← p2_add]
    rw [e, Nat.mul_comm] at y2
    have h3 : (2 : Nat) ^ 2792 < 2 ^ 2800 := Nat.pow_lt_pow_right (by omega) (by omega)
    exact Nat.lt_of_le_of_lt y2 (Nat.mul_lt_mul_of_pos_left h3 hd)
  have r1 : d * 2 ^ 1600 ≤ Va c (q - s) := by
    rcases r1 with z | z
    · have := KK_lo z
      calc d * 2 ^ 1600 ≤ d * (Va c (q - s) / d) := Nat.mul_le_mul_left _ this
        _ ≤ _ := Nat.mul_div_le _ _
    · exact z
  obtain ⟨c2, q2, v2, w1, w2, w3, w4, w5⟩ := rr_ok (A := c) (B := d) (e := q - s) hc hd (by omega) r1 r2
  refine ⟨c2, q2, ⟨by rw [val_div va vb hd h]; exact v2, w1, w2, w3⟩, ?_, ?_⟩
  · exact div_core (q := 2 ^ 53) (E := 2 ^ 53 + 1) (B := 2 ^ 50 - j) hd (by omega) (Nat.two_pow_pos _) KK_pos tv w4 a1 b2 (cst_div hk hj)
  · refine div_core2 (q := 2 ^ 53) (E := 2 ^ 53 - 1) (B := 2 ^ 50 + j) hd (by omega) (Nat.two_pow_pos _) KK_pos tv (near_1 w5) a2 b1 (cst_div2 hk hj)
