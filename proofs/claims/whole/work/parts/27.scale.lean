theorem up_core {V1 V2 V4 N1 D1 N2 D2 K p A B E G : Nat} (hK : 0 < K) (hp : 0 < p) (h1 : V1 * D1 * p ≤ N1 * K * A) (h2 : N2 * K * B ≤ V2 * D2 * p) (h3 : V2 * E ≤ V4 * G) (h4 : V4 ≤ V1) (hAB : A * G < B * E) (hN : 0 < N2 * D1) : N2 * D1 < N1 * D2 := by
  have k1 : N2 * D1 * (B * E) ≤ N1 * D2 * (A * G) := by
    apply Nat.le_of_mul_le_mul_right (c := K) ?_ hK
    calc N2 * D1 * (B * E) * K = N2 * K * B * (E * D1) := by ac_rfl
      _ ≤ V2 * D2 * p * (E * D1) := Nat.mul_le_mul_right _ h2
      _ = V2 * E * (D2 * p * D1) := by ac_rfl
      _ ≤ V1 * G * (D2 * p * D1) := Nat.mul_le_mul_right _ (Nat.le_trans h3 (Nat.mul_le_mul_right _ h4))
      _ = V1 * D1 * p * (G * D2) := by ac_rfl
      _ ≤ N1 * K * A * (G * D2) := Nat.mul_le_mul_right _ h1
      _ = N1 * D2 * (A * G) * K := by ac_rfl
  rcases Nat.lt_or_ge (N2 * D1) (N1 * D2) with h | h
  · exact h
  · have a := Nat.mul_le_mul_right (A * G) h
    have b := Nat.mul_lt_mul_of_pos_left hAB hN
    omega
theorem cst_cmp : (2 ^ 50 + 800) * 536870912 < (2 ^ 50 - 800) * 536870913 := by decide
theorem cst_cmp2 : (2 ^ 50 + 800) * 536870911 < (2 ^ 50 - 800) * 536870912 := by decide
theorem dn_1 {V5 V2 : Nat} (h : V5 * 536870912 + V2 ≤ V2 * 536870912) : V5 * 536870912 ≤ V2 * 536870911 := by
  rw [show (536870911 : Nat) = 536870912 - 1 from rfl, Nat.mul_sub, Nat.mul_one]
  exact Nat.le_sub_of_add_le h
/-- the double of a product of that size lies well inside the range -/
theorem Ap.rng {r : UInt64} {N D k c : Nat} {q : Int} (h1 : Va c q * D * 2 ^ 50 ≤ N * KK * (2 ^ 50 + k)) (h2 : N * KK * (2 ^ 50 - k) ≤ Va c q * D * 2 ^ 50) (hk : k ≤ 1000) (hN : 0 < N) (hD : 0 < D) (hn : N ≤ 2 ^ 560) (hd : D ≤ 2 ^ 560) : 2 ^ 1630 ≤ Va c q ∧ Va c q ≤ 2 ^ 2790 := by
  obtain ⟨t1, t2⟩ := Ap.two hk h1 h2
  have e2 : 2 * 2 ^ 560 = 2 ^ 561 := by rw [Nat.mul_comm]; exact (Nat.pow_succ ..).symm
  constructor
  · have y : KK ≤ 2 ^ 561 * Va c q := by
      calc KK ≤ N * KK := Nat.le_mul_of_pos_left _ hN
        _ ≤ 2 * (Va c q * D) := t2
        _ ≤ 2 * (Va c q * 2 ^ 560) := Nat.mul_le_mul_left _ (Nat.mul_le_mul_left _ hd)
        _ = 2 * 2 ^ 560 * Va c q := by rw [Nat.mul_comm (Va c q), Nat.mul_assoc]
        _ = 2 ^ 561 * Va c q := by rw [e2]
    have e : KK = 2 ^ 561 * 2 ^ 1639 := by unfold KK; rw [← p2_add]
    rw [e] at y
    exact Nat.le_trans (Nat.pow_le_pow_right (by decide) (by decide)) (Nat.le_of_mul_le_mul_left y (Nat.two_pow_pos 561))
  · have y : Va c q ≤ 2 ^ 561 * KK := by
      calc Va c q ≤ Va c q * D := Nat.le_mul_of_pos_right _ hD
        _ ≤ 2 * (N * KK) := t1
        _ ≤ 2 * (2 ^ 560 * KK) := Nat.mul_le_mul_left _ (Nat.mul_le_mul_right _ hn)
        _ = 2 ^ 561 * KK := by rw [← Nat.mul_assoc, e2]
    have e : 2 ^ 561 * KK = 2 ^ 2761 := by unfold KK; rw [← p2_add]
    rw [e] at y
    exact Nat.le_trans y (Nat.pow_le_pow_right (by decide) (by decide))
/-- what a rough number says: its cells, and what lies a little above and below it -/
theorem RoL.parts {x : UInt64} {N D : Int} (h : RoL x N D 800) (hN : 1 ≤ N) (hD : 1 ≤ D) (hn : N ≤ 2 ^ 560) (hd : D ≤ 2 ^ 560) : ∃ (c : Nat) (q : Int), Fi x c q ∧
    (∀ y up, alike64 y (FP.dmul x 4487126258331716666) = true → alike64 up (FP.dadd x y) = true → ∃ (d : Nat) (s : Int), Fi up d s ∧ Va c q * 536870913 ≤ Va d s * 536870912) ∧
    (∀ y dn, alike64 y (FP.dmul x 4487126258331716666) = true → alike64 dn (FP.dsub x y) = true → ∃ (d : Nat) (s : Int), Fi dn d s ∧ Va d s * 536870912 ≤ Va c q * 536870911) ∧
    ∃ a b : Nat, (a : Int) = N ∧ (b : Int) = D ∧ Va c q * b * 2 ^ 50 ≤ a * KK * (2 ^ 50 + 800) ∧ a * KK * (2 ^ 50 - 800) ≤ Va c q * b * 2 ^ 50 := by
  obtain ⟨a, b, e1, e2, c, q, hf, h1, h2⟩ := h
  obtain ⟨r1, r2⟩ := Ap.rng (r := x) h1 h2 (by decide) (by omega) (by omega) (i560 e1 hn) (i560 e2 hd)
  have key := fun (y up dn : UInt64) (hy : y = FP.dmul x 4487126258331716666) => near_both (up := up) (dn := dn) hf r1 r2 hy
  have hm : ∃ (c3 : Nat) (q3 : Int), FP.Core.val64 (FP.dmul x 4487126258331716666) = .fin false c3 q3 := by
    obtain ⟨a1, a2⟩ := T3_of (Va_mul (c := c) (d := 6044629098073146) (q := q) (r := -79) (by have := hf.2.2; omega) (by omega) (by have := hf.2.2; omega))
    have t3 : Va (c * 6044629098073146) (q + -79) ≤ Va c q * 2 := Nat.le_trans (Nat.le_mul_of_pos_right _ (by decide)) (Nat.le_trans a2 (Nat.le_mul_of_pos_right _ (by decide)))
    obtain ⟨c3, q3, v3, -⟩ := rr_ok (A := c * 6044629098073146) (B := 1) (e := q + -79) (Nat.mul_pos hf.2.1 (by decide)) (by decide) (by have := hf.2.2; omega) (by rw [Nat.one_mul]; exact b_lo a1 r1) (by rw [Nat.one_mul]; exact b_hi t3 r2)
    exact ⟨c3, q3, by rw [val_mul hf.1 near_val rfl]; exact v3⟩
  obtain ⟨c3, q3, hv3⟩ := hm
  refine ⟨c, q, hf, fun y up hy hu => ?_, fun y dn hy hu => ?_, a, b, e1, e2, h1, h2⟩
  · have ey := alike_fin hy hv3
    obtain ⟨d, s, z1, z2⟩ := (key y (FP.dadd x y) (FP.dsub x y) ey).1 rfl
    have eu := alike_fin hu z1.1
    exact ⟨d, s, by rw [eu]; exact z1, z2⟩
  · have ey := alike_fin hy hv3
    obtain ⟨d, s, z1, z2⟩ := (key y (FP.dadd x y) (FP.dsub x y) ey).2 rfl
    have eu := alike_fin hu z1.1
    exact ⟨d, s, by rw [eu]; exact z1, dn_1 z2⟩
theorem c_lt {a b c d : Nat} {N1 D1 N2 D2 : Int} (e1 : (a : Int) = N1) (e2 : (b : Int) = D1) (e3 : (c : Int) = N2) (e4 : (d : Int) = D2) (h : c * b < a * d) : N2 * D1 < N1 * D2 := by
  rw [← e1, ← e2, ← e3, ← e4, ← Int.natCast_mul, ← Int.natCast_mul]; exact Int.ofNat_lt.mpr h
set_option maxHeartbeats 4000000 in
set_option maxRecDepth 100000 in
theorem ct_Scale_compare {lau : Launch} {D : va_G} {cy : Nat → ClassId} {aa ad : Nat → Nat} (hI : wI (wC D cy aa ad)) (m : Mem) (ro rb rp rr : Nat) (so sb sp sr : Nat) (l l2 : List (Int × Int)) (hr : RatioAt ro rb rp rr) (hs : RatioAt so sb sp sr) (hl : RatL m ro rb rp l) (hl2 : RatL m so sb sp l2) (hok : RatOk l) (hok2 : RatOk l2) (hwt : wtL l ≤ 200) (hn : numL l ≤ 2 ^ 560) (hd : denL l ≤ 2 ^ 560) (hwt2 : wtL l2 ≤ 200) (hn2 : numL l2 ≤ 2 ^ 560) (hd2 : denL l2 ≤ 2 ^ 560) (hb1 : numL l * denL l2 < 281474976710656 ^ 16) (hb2 : denL l * numL l2 < 281474976710656 ^ 16) : MT lau (wC D cy aa ad) yX7_compare cX7_compare 7 (some .int) ({ frames := 2, cells := 0, slots := 0, locals := 67 } : Room) m [.ref (aa 7), .ref (aa ro), .ref (aa so)] (Pi (fun z m' => (if numL l2 * denL l < numL l * denL l2 then 1 else if numL l * denL l2 < numL l2 * denL l then -1 else 0) = z ∧ (∀ q, q ≠ 15 → q ≠ 16 → q ≠ 17 → q ≠ 18 → m' q = m q))) := by
  refine v_entry hI RX7 (by decide) rfl (Nat.le_of_ble_eq_true rfl) (fun E hE C X => ?_)
  subst hE
  show V E (wC D cy aa ad) 7 m 0 [(0, .ref (aa 7)), (1, .ref (aa ro)), (2, .ref (aa so))] []
  have hout : Ne7 ro 15 16 17 18 15 15 15 ∧ Ne7 rb 15 16 17 18 15 15 15 ∧ Ne7 rp 15 16 17 18 15 15 15 ∧ Ne7 so 15 16 17 18 15 15 15 ∧ Ne7 sb 15 16 17 18 15 15 15 ∧ Ne7 sp 15 16 17 18 15 15 15 := by unfold Ne7; unfold RatioAt at hr hs; omega
  have p1 : 1 ≤ numL l := numL_pos fun q h => (hok.2 q h).1
  have p2 : 1 ≤ denL l := denL_pos fun q h => (hok.2 q h).1
  have p3 : 1 ≤ numL l2 := numL_pos fun q h => (hok2.2 q h).1
  have p4 : 1 ≤ denL l2 := denL_pos fun q h => (hok2.2 q h).1
  have g1 : numL l ≤ numL l * denL l2 := mul_up (by omega) p4
  have g2 : denL l ≤ denL l * numL l2 := mul_up (by omega) p3
  refine v_aload_n C 1 dX7_compare_0 rfl ?_
  refine v_callV (st := []) (n := 0) (q := ro) C [] (ct_Ratio_roughly C.2.2.2.2.2.2.1 m (ro) (rb) (rp) (rr) (l) hr (by exact hl) (by first | assumption | omega) (by first | assumption | omega) (by first | assumption | omega) (by first | assumption | omega)) (RatioAt.l0 hr) (RatioAt.e0 hr _) rfl qw742 qw9 qw739 rfl rfl ⟨Nat.le_of_ble_eq_true rfl, Nat.le_of_ble_eq_true rfl⟩ (by decide +kernel) qw740 qw741 rfl rfl (Nat.le_of_ble_eq_true rfl) dX7_compare_1 (fun r m1 hq1 => ?_)
  obtain ⟨z1, rfl, hq1, rfl⟩ := hq1
  show V E (wC D cy aa ad) 7 m 4 [(0, .ref (aa 7)), (1, .ref (aa ro)), (2, .ref (aa so))] [.double (z1)]
  refine v_dstore_n (L1 := [(3, .double (z1)), (0, .ref (aa 7)), (1, .ref (aa ro)), (2, .ref (aa so))]) C dX7_compare_4 (by decide) rfl ?_
  refine v_aload_n C 3 dX7_compare_5 rfl ?_
  refine v_callV (st := []) (n := 0) (q := so) C [] (ct_Ratio_roughly C.2.2.2.2.2.2.1 m (so) (sb) (sp) (sr) (l2) hs (by exact hl2) (by exact hok2) (by exact hwt2) (by exact hn2) (by exact hd2)) (RatioAt.l0 hs) (RatioAt.e0 hs _) rfl qw742 qw9 qw739 rfl rfl ⟨Nat.le_of_ble_eq_true rfl, Nat.le_of_ble_eq_true rfl⟩ (by decide +kernel) qw740 qw741 rfl rfl (Nat.le_of_ble_eq_true rfl) dX7_compare_6 (fun r m2 hq2 => ?_)
  obtain ⟨z2, rfl, hq2, rfl⟩ := hq2
  show V E (wC D cy aa ad) 7 m 9 [(3, .double (z1)), (0, .ref (aa 7)), (1, .ref (aa ro)), (2, .ref (aa so))] [.double (z2)]
  obtain ⟨c1, q1, f1, -, -, a1, b1, i1, i2, i3, i4⟩ := hq1.parts p1 p2 hn hd
  obtain ⟨c2, q2, f2, u2, v2, a2, b2, j1, j2, j3, j4⟩ := hq2.parts p3 p4 hn2 hd2
  refine v_dstore (L1 := [(5, .double (z2)), (3, .double (z1)), (0, .ref (aa 7)), (1, .ref (aa ro)), (2, .ref (aa so))]) C dX7_compare_9 (by decide) rfl ?_
  refine v_dload_n C 1 dX7_compare_11 rfl ?_
  refine v_dload C 0 dX7_compare_12 rfl ?_
  refine v_dload C 0 dX7_compare_14 rfl ?_
  refine v_ldc2d (v := 4487126258331716666) C qw747 dX7_compare_16 ?_
  refine v_dmul C dX7_compare_19 (fun r3 hr4 => ?_)
  refine v_dadd C dX7_compare_20 (fun r5 hr6 => ?_)
  obtain ⟨d4, s4, f4, x4⟩ := u2 _ _ hr4 hr6
  refine v_dc_le (tgt := 27) C f1 f4 dX7_compare_21 dX7_compare_22 (by decide) (fun c7 => ?_) (fun c7 => ?_)
  · refine v_dload_n C 1 dX7_compare_27 rfl ?_
    refine v_dload C 0 dX7_compare_28 rfl ?_
    refine v_dload C 0 dX7_compare_30 rfl ?_
    refine v_ldc2d (v := 4487126258331716666) C qw747 dX7_compare_32 ?_
    refine v_dmul C dX7_compare_35 (fun r8 hr9 => ?_)
    refine v_dsub C dX7_compare_36 (fun r10 hr11 => ?_)
    obtain ⟨d5, s5, f5, x5⟩ := v2 _ _ hr9 hr11
    refine v_dc_ge (tgt := 43) C f1 f5 dX7_compare_37 dX7_compare_38 (by decide) (fun c12 => ?_) (fun c12 => ?_)
    · refine v_aload_n C 2 dX7_compare_43 rfl ?_
      refine v_get C 7 0 lC7 (eC7 _) rfl inX7 (by decide) rfl qw236 dX7_compare_44 ?_
      refine v_callV (st := []) (n := 0) (q := 15) C [] (ct_Big_setOne C.2.2.2.2.2.2.1 m (15) (16) (by unfold BigAt; decide)) lC15 (eC15 _) rfl qw755 qw11 qw752 rfl rfl ⟨Nat.le_of_ble_eq_true rfl, Nat.le_of_ble_eq_true rfl⟩ (by decide +kernel) qw753 qw754 rfl rfl (Nat.le_of_ble_eq_true rfl) dX7_compare_47 (fun r m13 hq13 => ?_)
      obtain ⟨rfl, hq13⟩ := hq13
      show V E (wC D cy aa ad) 7 m13 50 [(5, .double (z2)), (3, .double (z1)), (0, .ref (aa 7)), (1, .ref (aa ro)), (2, .ref (aa so))] []
      refine v_aload_n C 2 dX7_compare_50 rfl ?_
      refine v_get C 7 1 lC7 (eC7 _) rfl inX7 (by decide) rfl qw237 dX7_compare_51 ?_
      refine v_callV (st := []) (n := 0) (q := 17) C [] (ct_Big_setOne C.2.2.2.2.2.2.1 m13 (17) (18) (by unfold BigAt; decide)) lC17 (eC17 _) rfl qw755 qw11 qw752 rfl rfl ⟨Nat.le_of_ble_eq_true rfl, Nat.le_of_ble_eq_true rfl⟩ (by decide +kernel) qw753 qw754 rfl rfl (Nat.le_of_ble_eq_true rfl) dX7_compare_54 (fun r m14 hq14 => ?_)
      obtain ⟨rfl, hq14⟩ := hq14
      show V E (wC D cy aa ad) 7 m14 57 [(5, .double (z2)), (3, .double (z1)), (0, .ref (aa 7)), (1, .ref (aa ro)), (2, .ref (aa so))] []
      refine v_aload_n C 3 dX7_compare_57 rfl ?_
      refine v_aload_n C 2 dX7_compare_58 rfl ?_
      refine v_get C 7 0 lC7 (eC7 _) rfl inX7 (by decide) rfl qw236 dX7_compare_59 ?_
      refine v_aload_n C 2 dX7_compare_62 rfl ?_
      refine v_get C 7 1 lC7 (eC7 _) rfl inX7 (by decide) rfl qw237 dX7_compare_63 ?_
      refine v_callV (st := []) (n := 2) (q := ro) C [.ref (aa 15), .ref (aa 17)] (ct_Ratio_multiplyInto C.2.2.2.2.2.2.1 m14 (ro) (rb) (rp) (rr) (15) (16) (17) (18) (l) (1) (1) hr (by unfold BigAt; decide) (by unfold BigAt; decide) (by decide) (by exact (hl.fr (hq13.2 _ hout.1.1 hout.1.2.1) (hq13.2 _ hout.2.1.1 hout.2.1.2.1) (hq13.2 _ hout.2.2.1.1 hout.2.2.1.2.1)).fr (hq14.2 _ hout.1.2.2.1 hout.1.2.2.2.1) (hq14.2 _ hout.2.1.2.2.1 hout.2.1.2.2.2.1) (hq14.2 _ hout.2.2.1.2.2.1 hout.2.2.1.2.2.2.1)) (by exact hok) (by exact hq13.1.fr (hq14.2 _ (by decide) (by decide)) (hq14.2 _ (by decide) (by decide))) (by exact hq14.1) (by first | assumption | omega) (by first | assumption | omega) (by rw [Int.one_mul]; omega) (by rw [Int.one_mul]; omega)) (RatioAt.l0 hr) (RatioAt.e0 hr _) rfl qw759 qw9 qw756 rfl rfl ⟨Nat.le_of_ble_eq_true rfl, Nat.le_of_ble_eq_true rfl⟩ (by decide +kernel) qw757 qw758 rfl rfl (Nat.le_of_ble_eq_true rfl) dX7_compare_66 (fun r m15 hq15 => ?_)
      obtain ⟨rfl, hq15⟩ := hq15
      show V E (wC D cy aa ad) 7 m15 69 [(5, .double (z2)), (3, .double (z1)), (0, .ref (aa 7)), (1, .ref (aa ro)), (2, .ref (aa so))] []
      refine v_aload_n C 4 dX7_compare_69 rfl ?_
      refine v_aload_n C 2 dX7_compare_70 rfl ?_
      refine v_get C 7 1 lC7 (eC7 _) rfl inX7 (by decide) rfl qw237 dX7_compare_71 ?_
      refine v_aload_n C 2 dX7_compare_74 rfl ?_
      refine v_get C 7 0 lC7 (eC7 _) rfl inX7 (by decide) rfl qw236 dX7_compare_75 ?_
      have z78 : ∀ q, Ne7 q 15 16 17 18 15 15 15 → m15 q = m q := fun q h => by rw [hq15.2.2 q h.1 h.2.1 h.2.2.1 h.2.2.2.1, hq14.2 q h.2.2.1 h.2.2.2.1, hq13.2 q h.1 h.2.1]
      refine v_callV (st := []) (n := 2) (q := so) C [.ref (aa 17), .ref (aa 15)] (ct_Ratio_multiplyInto C.2.2.2.2.2.2.1 m15 (so) (sb) (sp) (sr) (17) (18) (15) (16) (l2) (1 * denL l) (1 * numL l) hs (by unfold BigAt; decide) (by unfold BigAt; decide) (by decide) (by exact hl2.fr (z78 so hout.2.2.2.1) (z78 sb hout.2.2.2.2.1) (z78 sp hout.2.2.2.2.2)) (by exact hok2) (by exact hq15.2.1) (by exact hq15.1) (by rw [Int.one_mul]; omega) (by rw [Int.one_mul]; omega) (by rw [Int.one_mul]; exact hb2) (by rw [Int.one_mul]; exact hb1)) (RatioAt.l0 hs) (RatioAt.e0 hs _) rfl qw759 qw9 qw756 rfl rfl ⟨Nat.le_of_ble_eq_true rfl, Nat.le_of_ble_eq_true rfl⟩ (by decide +kernel) qw757 qw758 rfl rfl (Nat.le_of_ble_eq_true rfl) dX7_compare_78 (fun r m16 hq16 => ?_)
      obtain ⟨rfl, hq16⟩ := hq16
      show V E (wC D cy aa ad) 7 m16 81 [(5, .double (z2)), (3, .double (z1)), (0, .ref (aa 7)), (1, .ref (aa ro)), (2, .ref (aa so))] []
      refine v_aload_n C 2 dX7_compare_81 rfl ?_
      refine v_get C 7 0 lC7 (eC7 _) rfl inX7 (by decide) rfl qw236 dX7_compare_82 ?_
      refine v_aload_n C 2 dX7_compare_85 rfl ?_
      refine v_get C 7 1 lC7 (eC7 _) rfl inX7 (by decide) rfl qw237 dX7_compare_86 ?_
      refine v_callV (st := []) (n := 1) (q := 15) C [.ref (aa 17)] (ct_Big_compare C.2.2.2.2.2.2.1 m16 (15) (16) (17) (18) (1 * numL l * denL l2) (1 * denL l * numL l2) (by unfold BigAt; decide) (by unfold BigAt; decide) (by exact hq16.2.1) (by exact hq16.1)) lC15 (eC15 _) rfl qw769 qw11 qw766 rfl rfl ⟨Nat.le_of_ble_eq_true rfl, Nat.le_of_ble_eq_true rfl⟩ (by decide +kernel) qw767 qw768 rfl rfl (Nat.le_of_ble_eq_true rfl) dX7_compare_89 (fun r m17 hq17 => ?_)
      obtain ⟨z17, rfl, rfl, rfl⟩ := hq17
      show V E (wC D cy aa ad) 7 m16 92 [(5, .double (z2)), (3, .double (z1)), (0, .ref (aa 7)), (1, .ref (aa ro)), (2, .ref (aa so))] [.int (iz ((if (1 * denL l * numL l2) < (1 * numL l * denL l2) then 1 else if (1 * numL l * denL l2) < (1 * denL l * numL l2) then -1 else 0)))]
      refine v_iret C X rfl dX7_compare_92 ⟨_, rfl, ?_, ?_⟩
      · rw [Int.one_mul, Int.one_mul, Int.mul_comm (denL l)]
      · exact fun q h1 h2 h3 h4 => by rw [hq16.2.2 q h3 h4 h1 h2, hq15.2.2 q h1 h2 h3 h4, hq14.2 q h3 h4, hq13.2 q h1 h2]
    · refine v_iconst (z := -1) C dX7_compare_41 rfl ?_
      refine v_iret C X rfl dX7_compare_42 ⟨_, rfl, ?_, ?_⟩
      · have z := c_lt j1 j2 i1 i2 (up_core (V4 := Va c2 q2) KK_pos (Nat.two_pow_pos 50) j3 i4 (Nat.le_trans (Nat.mul_le_mul_right _ (by omega)) x5) (Nat.le_refl _) cst_cmp2 (Nat.mul_pos (by omega) (by omega)))
        rw [if_neg (by omega), if_pos z]
      · exact fun _ _ _ _ _ => rfl
  · refine v_iconst (z := 1) C dX7_compare_25 rfl ?_
    refine v_iret C X rfl dX7_compare_26 ⟨_, rfl, ?_, ?_⟩
    · have z := c_lt i1 i2 j1 j2 (up_core KK_pos (Nat.two_pow_pos 50) i3 j4 x4 (by omega) cst_cmp (Nat.mul_pos (by omega) (by omega)))
      rw [if_pos z]
    · exact fun _ _ _ _ _ => rfl
