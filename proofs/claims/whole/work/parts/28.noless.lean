/-- N / D is no less than (U / L) ^ k -/
def rch (N D U L : Int) (k : Nat) : Prop := D * U ^ k ≤ N * L ^ k
/-- z is the greatest power, 40 at most, that is reached; -2 if not 0's -/
def PwIs (N D U L z : Int) : Prop := (z = -2 ∧ ¬ rch N D U L 0) ∨ (0 ≤ z ∧ z ≤ 40 ∧ (∀ j : Nat, (j : Int) ≤ z → rch N D U L j) ∧ (z = 40 ∨ ¬ rch N D U L (z.toNat + 1)))
theorem RoL.step {r : UInt64} {U L : Int} (hU : 2 ≤ U ∧ U ≤ 99) (hL : 1 ≤ L ∧ L < U) (hr : alike64 r (FP.ddiv (FP.i2d (iz U)) (FP.i2d (iz L))) = true) : RoL r U L 4 := by
  obtain ⟨a, ha⟩ : ∃ a : Nat, (a : Int) = U := ⟨U.toNat, by omega⟩
  obtain ⟨b, hb⟩ : ∃ b : Nat, (b : Int) = L := ⟨L.toNat, by omega⟩
  have i1 := Ap.int (n := a) (by omega) (by omega)
  have i2 := Ap.int (n := b) (by omega) (by omega)
  rw [ha] at i1; rw [hb] at i2
  have q1 : a * 1 ≤ 2 ^ 560 := Nat.le_trans (show a * 1 ≤ 2 ^ 7 by omega) (Nat.pow_le_pow_right (by decide) (by decide))
  have q2 : 1 * b ≤ 2 ^ 560 := Nat.le_trans (show 1 * b ≤ 2 ^ 7 by omega) (Nat.pow_le_pow_right (by decide) (by decide))
  have h0 := Ap.div i1 i2 rfl (by decide) (by decide) (by omega) (by omega) (p560 q2 (by omega)) (p560 q1 (by omega))
  rw [Nat.mul_one, Nat.one_mul] at h0
  obtain ⟨c, q, hf, -⟩ := id h0
  exact ⟨a, b, ha, hb, by rw [alike_fin hr hf.1]; exact h0⟩
theorem RoL.mul2 {x s r : UInt64} {N D U L : Int} {k : Nat} (h : RoL x N D k) (hs : RoL s U L 4) (hr : alike64 r (FP.dmul x s) = true) (hk : k ≤ 1000) (hN : 1 ≤ N) (hD : 1 ≤ D) (hU : 1 ≤ U) (hL : 1 ≤ L) (h1 : N * U ≤ 2 ^ 560) (h2 : D * L ≤ 2 ^ 560) : RoL r (N * U) (D * L) (k + 6) := by
  obtain ⟨a, d, e1, e2, hap⟩ := h
  obtain ⟨u, v, e3, e4, hsp⟩ := hs
  have ea : ((a * u : Nat) : Int) = N * U := by rw [Int.natCast_mul, e1, e3]
  have ed : ((d * v : Nat) : Int) = D * L := by rw [Int.natCast_mul, e2, e4]
  have p1 : 0 < a * u := Nat.mul_pos (by omega) (by omega)
  have p2 : 0 < d * v := Nat.mul_pos (by omega) (by omega)
  have h0 := Ap.mul hap hsp rfl hk (by decide) p1 p2 (p560 (i560 ed h2) p1) (p560 (i560 ea h1) p2)
  obtain ⟨c, q, hf, -⟩ := id h0
  exact ⟨a * u, d * v, ea, ed, by rw [alike_fin hr hf.1]; exact h0⟩
theorem RoL.mono {x : UInt64} {N D : Int} {k j : Nat} (h : RoL x N D k) (hk : k ≤ j) : RoL x N D j := by
  obtain ⟨a, d, e1, e2, hap⟩ := h; exact ⟨a, d, e1, e2, hap.mono hk⟩
theorem pw_up {x y : Int} (h0 : 0 ≤ x) (h : x ≤ y) (n : Nat) : x ^ n ≤ y ^ n := by
  induction n with
  | zero => rw [Int.pow_zero, Int.pow_zero]; exact Int.le_refl _
  | succ n ih =>
    rw [pw_s, pw_s]
    exact Int.mul_le_mul ih h h0 (Int.le_trans (Int.pow_nonneg h0) ih)
theorem pw_560 {x : Int} (h : 1 ≤ x) (h2 : x ≤ 99) {n : Nat} (hn : n ≤ 41) : x ^ n ≤ 2 ^ 560 := by
  have a := pw_up (x := x) (y := 128) (by omega) (by omega) n
  have b := pw_le (x := 128) (by omega) hn
  have c : (128 : Int) ^ 41 ≤ 2 ^ 560 := by decide +kernel
  omega
set_option maxHeartbeats 4000000 in
set_option maxRecDepth 100000 in
theorem ct_Scale_isNoLess {lau : Launch} {D : va_G} {cy : Nat → ClassId} {aa ad : Nat → Nat} (hI : wI (wC D cy aa ad)) (m : Mem) (ro rb rp rr : Nat) (l : List (Int × Int)) (U L k : Int) (hr : RatioAt ro rb rp rr) (hl : RatL m ro rb rp l) (hok : RatOk l) (hU : 2 ≤ U ∧ U ≤ 99) (hL : 1 ≤ L ∧ L < U) (hNB : numL l * L ^ 40 < 281474976710656 ^ 16) (hDB : denL l * U ^ 40 < 281474976710656 ^ 16) (hk : 0 ≤ k ∧ k ≤ 40) : MT lau (wC D cy aa ad) yX7_isNoLess cX7_isNoLess 6 (some .boolean) ({ frames := 2, cells := 0, slots := 0, locals := 67 } : Room) m [.ref (aa 7), .ref (aa ro), .int (iz (U)), .int (iz (L)), .int (iz (k))] (Pi (fun z m' => (1 = z ∧ (rch (numL l) (denL l) U L k.toNat) ∧ (∀ q, q ≠ 15 → q ≠ 16 → q ≠ 17 → q ≠ 18 → m' q = m q)) ∨ (0 = z ∧ ¬ (rch (numL l) (denL l) U L k.toNat) ∧ (∀ q, q ≠ 15 → q ≠ 16 → q ≠ 17 → q ≠ 18 → m' q = m q)))) := by
  refine v_entry hI RX7 (by decide) rfl (Nat.le_of_ble_eq_true rfl) (fun E hE C X => ?_)
  subst hE
  show V E (wC D cy aa ad) 6 m 0 [(0, .ref (aa 7)), (1, .ref (aa ro)), (2, .int (iz (U))), (3, .int (iz (L))), (4, .int (iz (k)))] []
  have hout : Ne7 ro 15 16 17 18 15 15 15 ∧ Ne7 rb 15 16 17 18 15 15 15 ∧ Ne7 rp 15 16 17 18 15 15 15 := by unfold Ne7; unfold RatioAt at hr; omega
  have p1 : 1 ≤ numL l := numL_pos fun q h => (hok.2 q h).1
  have p2 : 1 ≤ denL l := denL_pos fun q h => (hok.2 q h).1
  have q1 : ∀ j : Nat, j ≤ 40 → numL l * L ^ j < 281474976710656 ^ 16 := fun j hj => Int.lt_of_le_of_lt (Int.mul_le_mul_of_nonneg_left (pw_le hL.1 hj) (by omega)) hNB
  have q2 : ∀ j : Nat, j ≤ 40 → denL l * U ^ j < 281474976710656 ^ 16 := fun j hj => Int.lt_of_le_of_lt (Int.mul_le_mul_of_nonneg_left (pw_le (by omega) hj) (by omega)) hDB
  have g1 := q1 0 (by omega)
  have g2 := q2 0 (by omega)
  rw [Int.pow_zero, Int.mul_one] at g1 g2
  refine v_aload_n C 0 dX7_isNoLess_0 rfl ?_
  refine v_get C 7 0 lC7 (eC7 _) rfl inX7 (by decide) rfl qw236 dX7_isNoLess_1 ?_
  refine v_callV (st := []) (n := 0) (q := 15) C [] (ct_Big_setOne C.2.2.2.2.2.2.1 m (15) (16) (by unfold BigAt; decide)) lC15 (eC15 _) rfl qw755 qw11 qw752 rfl rfl ⟨Nat.le_of_ble_eq_true rfl, Nat.le_of_ble_eq_true rfl⟩ (by decide +kernel) qw753 qw754 rfl rfl (Nat.le_of_ble_eq_true rfl) dX7_isNoLess_4 (fun r m1 hq1 => ?_)
  obtain ⟨rfl, hq1⟩ := hq1
  show V E (wC D cy aa ad) 6 m1 7 [(0, .ref (aa 7)), (1, .ref (aa ro)), (2, .int (iz (U))), (3, .int (iz (L))), (4, .int (iz (k)))] []
  refine v_aload_n C 0 dX7_isNoLess_7 rfl ?_
  refine v_get C 7 1 lC7 (eC7 _) rfl inX7 (by decide) rfl qw237 dX7_isNoLess_8 ?_
  refine v_callV (st := []) (n := 0) (q := 17) C [] (ct_Big_setOne C.2.2.2.2.2.2.1 m1 (17) (18) (by unfold BigAt; decide)) lC17 (eC17 _) rfl qw755 qw11 qw752 rfl rfl ⟨Nat.le_of_ble_eq_true rfl, Nat.le_of_ble_eq_true rfl⟩ (by decide +kernel) qw753 qw754 rfl rfl (Nat.le_of_ble_eq_true rfl) dX7_isNoLess_11 (fun r m2 hq2 => ?_)
  obtain ⟨rfl, hq2⟩ := hq2
  show V E (wC D cy aa ad) 6 m2 14 [(0, .ref (aa 7)), (1, .ref (aa ro)), (2, .int (iz (U))), (3, .int (iz (L))), (4, .int (iz (k)))] []
  refine v_aload_n C 1 dX7_isNoLess_14 rfl ?_
  refine v_aload_n C 0 dX7_isNoLess_15 rfl ?_
  refine v_get C 7 0 lC7 (eC7 _) rfl inX7 (by decide) rfl qw236 dX7_isNoLess_16 ?_
  refine v_aload_n C 0 dX7_isNoLess_19 rfl ?_
  refine v_get C 7 1 lC7 (eC7 _) rfl inX7 (by decide) rfl qw237 dX7_isNoLess_20 ?_
  refine v_callV (st := []) (n := 2) (q := ro) C [.ref (aa 15), .ref (aa 17)] (ct_Ratio_multiplyInto C.2.2.2.2.2.2.1 m2 (ro) (rb) (rp) (rr) (15) (16) (17) (18) (l) (1) (1) hr (by unfold BigAt; decide) (by unfold BigAt; decide) (by decide) (by exact (hl.fr (hq1.2 _ hout.1.1 hout.1.2.1) (hq1.2 _ hout.2.1.1 hout.2.1.2.1) (hq1.2 _ hout.2.2.1 hout.2.2.2.1)).fr (hq2.2 _ hout.1.2.2.1 hout.1.2.2.2.1) (hq2.2 _ hout.2.1.2.2.1 hout.2.1.2.2.2.1) (hq2.2 _ hout.2.2.2.2.1 hout.2.2.2.2.2.1)) (by exact hok) (by exact hq1.1.fr (hq2.2 _ (by decide) (by decide)) (hq2.2 _ (by decide) (by decide))) (by exact hq2.1) (by first | assumption | omega) (by first | assumption | omega) (by rw [Int.one_mul]; exact g1) (by rw [Int.one_mul]; exact g2)) (RatioAt.l0 hr) (RatioAt.e0 hr _) rfl qw759 qw9 qw756 rfl rfl ⟨Nat.le_of_ble_eq_true rfl, Nat.le_of_ble_eq_true rfl⟩ (by decide +kernel) qw757 qw758 rfl rfl (Nat.le_of_ble_eq_true rfl) dX7_isNoLess_23 (fun r m3 hq3 => ?_)
  obtain ⟨rfl, hq3⟩ := hq3
  show V E (wC D cy aa ad) 6 m3 26 [(0, .ref (aa 7)), (1, .ref (aa ro)), (2, .int (iz (U))), (3, .int (iz (L))), (4, .int (iz (k)))] []
  refine v_iconst (z := 0) C dX7_isNoLess_26 rfl ?_
  refine v_istore (L1 := [(5, .int (iz (0))), (0, .ref (aa 7)), (1, .ref (aa ro)), (2, .int (iz (U))), (3, .int (iz (L))), (4, .int (iz (k)))]) C dX7_isNoLess_27 (by decide) rfl ?_
  have K29 : ∀ (nK : Nat) (i : Int) (mL : Mem) (hi : 0 ≤ i ∧ i ≤ k) (hG : BigIs mL 15 16 (numL l * L ^ i.toNat)) (hH : BigIs mL 17 18 (denL l * U ^ i.toNat)) (hf : ∀ q, q ≠ 15 → q ≠ 16 → q ≠ 17 → q ≠ 18 → mL q = m q), (k - i).toNat < nK → V E (wC D cy aa ad) 6 mL 29 [(0, .ref (aa 7)), (1, .ref (aa ro)), (2, .int (iz (U))), (3, .int (iz (L))), (4, .int (iz (k))), (5, .int (iz (i)))] [] := by
    intro nK
    induction nK with
    | zero => intro i mL hi hG hH hf hn; exact absurd hn (Nat.not_lt_zero _)
    | succ nK ih29 =>
      intro i mL hi hG hH hf hn29
      refine v_iload C 5 dX7_isNoLess_29 rfl ?_
      refine v_iload C 4 dX7_isNoLess_31 rfl ?_
      refine v_icmp_ge (tgt := 58) C dX7_isNoLess_33 (by decide) (by omega) (by omega) (fun c4 => ?_) (fun c4 => ?_)
      · refine v_aload_n C 0 dX7_isNoLess_58 rfl ?_
        refine v_get C 7 0 lC7 (eC7 _) rfl inX7 (by decide) rfl qw236 dX7_isNoLess_59 ?_
        refine v_aload_n C 0 dX7_isNoLess_62 rfl ?_
        refine v_get C 7 1 lC7 (eC7 _) rfl inX7 (by decide) rfl qw237 dX7_isNoLess_63 ?_
        refine v_callV (st := []) (n := 1) (q := 15) C [.ref (aa 17)] (ct_Big_compare C.2.2.2.2.2.2.1 mL (15) (16) (17) (18) (numL l * L ^ i.toNat) (denL l * U ^ i.toNat) (by unfold BigAt; decide) (by unfold BigAt; decide) (by exact hG) (by exact hH)) lC15 (eC15 _) rfl qw769 qw11 qw766 rfl rfl ⟨Nat.le_of_ble_eq_true rfl, Nat.le_of_ble_eq_true rfl⟩ (by decide +kernel) qw767 qw768 rfl rfl (Nat.le_of_ble_eq_true rfl) dX7_isNoLess_66 (fun r m5 hq5 => ?_)
        obtain ⟨z5, rfl, rfl, rfl⟩ := hq5
        show V E (wC D cy aa ad) 6 mL 69 [(0, .ref (aa 7)), (1, .ref (aa ro)), (2, .int (iz (U))), (3, .int (iz (L))), (4, .int (iz (k))), (5, .int (iz (i)))] [.int (iz ((if (denL l * U ^ i.toNat) < (numL l * L ^ i.toNat) then 1 else if (numL l * L ^ i.toNat) < (denL l * U ^ i.toNat) then -1 else 0)))]
        refine v_if_lt (tgt := 76) C dX7_isNoLess_69 (by decide) (by split <;> (try split) <;> omega) (fun c6 => ?_) (fun c6 => ?_)
        · have hcv : ¬ rch (numL l) (denL l) U L k.toNat := by
            unfold rch; rw [show k.toNat = i.toNat by omega]
            split at c6
            · omega
            · split at c6
              · omega
              · omega
          refine v_iconst (z := 0) C dX7_isNoLess_76 rfl ?_
          refine v_iret C X (by decide) dX7_isNoLess_77 ⟨_, rfl, Or.inr ⟨rfl, ?_, ?_⟩⟩
          · exact hcv
          · exact hf
        · have hcv : rch (numL l) (denL l) U L k.toNat := by
            unfold rch; rw [show k.toNat = i.toNat by omega]
            split at c6
            · omega
            · split at c6
              · omega
              · omega
          refine v_iconst (z := 1) C dX7_isNoLess_72 rfl ?_
          refine v_goto (tgt := 77) C dX7_isNoLess_73 (by decide) ?_
          refine v_iret C X (by decide) dX7_isNoLess_77 ⟨_, rfl, Or.inl ⟨rfl, ?_, ?_⟩⟩
          · exact hcv
          · exact hf
      · refine v_aload_n C 0 dX7_isNoLess_36 rfl ?_
        refine v_get C 7 0 lC7 (eC7 _) rfl inX7 (by decide) rfl qw236 dX7_isNoLess_37 ?_
        refine v_iload_n C 3 dX7_isNoLess_40 rfl ?_
        refine v_callV (st := []) (n := 1) (q := 15) C [.int (iz (L))] (ct_Big_multiply C.2.2.2.2.2.2.1 mL (15) (16) (L) (numL l * L ^ i.toNat) (by unfold BigAt; decide) (by exact hG) (by first | assumption | omega) (by rw [Int.mul_assoc, ← pw_s]; exact q1 _ (by omega))) lC15 (eC15 _) rfl qw763 qw11 qw765 rfl rfl ⟨Nat.le_of_ble_eq_true rfl, Nat.le_of_ble_eq_true rfl⟩ (by decide +kernel) qw761 qw762 rfl rfl (Nat.le_of_ble_eq_true rfl) dX7_isNoLess_41 (fun r m7 hq7 => ?_)
        obtain ⟨rfl, hq7⟩ := hq7
        show V E (wC D cy aa ad) 6 m7 44 [(0, .ref (aa 7)), (1, .ref (aa ro)), (2, .int (iz (U))), (3, .int (iz (L))), (4, .int (iz (k))), (5, .int (iz (i)))] []
        refine v_aload_n C 0 dX7_isNoLess_44 rfl ?_
        refine v_get C 7 1 lC7 (eC7 _) rfl inX7 (by decide) rfl qw237 dX7_isNoLess_45 ?_
        refine v_iload_n C 2 dX7_isNoLess_48 rfl ?_
        refine v_callV (st := []) (n := 1) (q := 17) C [.int (iz (U))] (ct_Big_multiply C.2.2.2.2.2.2.1 m7 (17) (18) (U) (denL l * U ^ i.toNat) (by unfold BigAt; decide) (by exact hH.fr (hq7.2 _ (by decide) (by decide)) (hq7.2 _ (by decide) (by decide))) (by first | assumption | omega) (by rw [Int.mul_assoc, ← pw_s]; exact q2 _ (by omega))) lC17 (eC17 _) rfl qw763 qw11 qw765 rfl rfl ⟨Nat.le_of_ble_eq_true rfl, Nat.le_of_ble_eq_true rfl⟩ (by decide +kernel) qw761 qw762 rfl rfl (Nat.le_of_ble_eq_true rfl) dX7_isNoLess_49 (fun r m8 hq8 => ?_)
        obtain ⟨rfl, hq8⟩ := hq8
        show V E (wC D cy aa ad) 6 m8 52 [(0, .ref (aa 7)), (1, .ref (aa ro)), (2, .int (iz (U))), (3, .int (iz (L))), (4, .int (iz (k))), (5, .int (iz (i)))] []
        refine v_iinc (L1 := [(5, .int (iz (i + 1))), (0, .ref (aa 7)), (1, .ref (aa ro)), (2, .int (iz (U))), (3, .int (iz (L))), (4, .int (iz (k)))]) C 5 dX7_isNoLess_52 rfl (by decide) rfl ?_
        refine v_goto (tgt := 29) C dX7_isNoLess_55 (by decide) ?_
        refine v_sub [1, 2, 3, 4, 5, 0] rfl ?_
        exact ih29 (i + 1) m8 (by first | assumption | omega) (by rw [show (i + 1).toNat = i.toNat + 1 by omega, pw_s, ← Int.mul_assoc]; exact hq7.1.fr (hq8.2 _ (by decide) (by decide)) (hq8.2 _ (by decide) (by decide))) (by rw [show (i + 1).toNat = i.toNat + 1 by omega, pw_s, ← Int.mul_assoc]; exact hq8.1) (by intro q h1 h2 h3 h4; rw [hq8.2 q h3 h4, hq7.2 q h1 h2]; exact hf q h1 h2 h3 h4) (by omega)
  refine v_sub [1, 2, 3, 4, 5, 0] rfl ?_
  exact K29 _ (0) m3 (by first | assumption | omega) (by have z := hq3.1; rw [Int.one_mul] at z; show BigIs _ 15 16 (numL l * L ^ 0); rw [Int.pow_zero, Int.mul_one]; exact z) (by have z := hq3.2.1; rw [Int.one_mul] at z; show BigIs _ 17 18 (denL l * U ^ 0); rw [Int.pow_zero, Int.mul_one]; exact z) (by intro q h1 h2 h3 h4; rw [hq3.2.2 q h1 h2 h3 h4, hq2.2 q h3 h4, hq1.2 q h1 h2]) (Nat.lt_succ_self _)
