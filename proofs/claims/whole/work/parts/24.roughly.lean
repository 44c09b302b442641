def wtL : List (Int × Int) → Nat
  | [] => 0
  | q :: l => q.2.natAbs + wtL l
theorem wtL_app (a b : List (Int × Int)) : wtL (a ++ b) = wtL a + wtL b := by
  induction a with
  | nil => show wtL b = 0 + _; omega
  | cons q a ih => show q.2.natAbs + wtL (a ++ b) = q.2.natAbs + wtL a + wtL b; rw [ih]; omega
theorem wtL_s {l : List (Int × Int)} {i : Nat} {q : Int × Int} (h : l[i]? = some q) : wtL (l.take (i + 1)) = wtL (l.take i) + q.2.natAbs := by
  rw [take_l h, wtL_app]; rfl
theorem wtL_le {l : List (Int × Int)} {i : Nat} {q : Int × Int} (h : l[i]? = some q) : wtL (l.take i) + q.2.natAbs ≤ wtL l := by
  have e : wtL l = wtL (l.take i) + (q.2.natAbs + wtL (l.drop (i + 1))) := by
    conv => lhs; rw [cut_l h]
    rw [wtL_app]; rfl
  omega
theorem Ap.mono {r : UInt64} {N D k j : Nat} (h : Ap r N D k) (hk : k ≤ j) : Ap r N D j := by
  obtain ⟨c, q, h0, h1, h2⟩ := h
  refine ⟨c, q, h0, Nat.le_trans h1 (Nat.mul_le_mul_left _ (Nat.add_le_add_left hk _)), Nat.le_trans (Nat.mul_le_mul_left _ ?_) h2⟩
  exact Nat.sub_le_sub_left hk _
theorem p560 {a b : Nat} (h : a ≤ 2 ^ 560) (hb : 0 < b) : a ≤ 2 ^ 590 * b := by
  have e : (2 : Nat) ^ 560 ≤ 2 ^ 590 := Nat.pow_le_pow_right (by decide) (by decide)
  exact Nat.le_trans h (Nat.le_trans e (Nat.le_mul_of_pos_right _ hb))
theorem rough_mul {x b r : UInt64} {N D n k : Nat} (hap : Ap x N D k) (hn : Ap b n 1 1) (hr : alike64 r (FP.dmul x b) = true) (hk : k ≤ 1000) (hN : 0 < N * n) (hD : 0 < D) (h1 : N * n ≤ 2 ^ 560) (h2 : D ≤ 2 ^ 560) : Ap r (N * n) D (k + 3) := by
  have h0 := Ap.mul hap hn rfl hk (by decide) hN (by rw [Nat.mul_one]; exact hD) (by rw [Nat.mul_one]; exact p560 h2 hN) (by rw [Nat.mul_one]; exact p560 h1 hD)
  rw [Nat.mul_one] at h0
  obtain ⟨c, q, hf, -⟩ := id h0
  rw [alike_fin hr hf.1]
  exact h0
theorem rough_div {x b r : UInt64} {N D n k : Nat} (hap : Ap x N D k) (hn : Ap b n 1 1) (hr : alike64 r (FP.ddiv x b) = true) (hk : k ≤ 1000) (hN : 0 < N) (hD : 0 < D * n) (h1 : N ≤ 2 ^ 560) (h2 : D * n ≤ 2 ^ 560) : Ap r N (D * n) (k + 3) := by
  have h0 := Ap.div hap hn rfl hk (by decide) (by rw [Nat.mul_one]; exact hN) hD (by rw [Nat.mul_one]; exact p560 h2 hN) (by rw [Nat.mul_one]; exact p560 h1 hD)
  rw [Nat.mul_one] at h0
  obtain ⟨c, q, hf, -⟩ := id h0
  rw [alike_fin hr hf.1]
  exact h0
/-- what the rough product of a list is near to -/
def RoL (x : UInt64) (N D : Int) (k : Nat) : Prop := ∃ a b : Nat, (a : Int) = N ∧ (b : Int) = D ∧ Ap x a b k
theorem i560 {a : Nat} {N : Int} (h : (a : Int) = N) (hN : N ≤ 2 ^ 560) : a ≤ 2 ^ 560 := by
  have : ((2 ^ 560 : Nat) : Int) = (2 : Int) ^ 560 := by rw [Int.natCast_pow]; rfl
  rw [← h, ← this] at hN
  exact Int.ofNat_le.mp hN
theorem RoL.mul {x b r : UInt64} {N D z : Int} {k : Nat} (h : RoL x N D k) (hb : b = FP.i2d (iz z)) (hz : 1 ≤ z ∧ z ≤ 400) (hr : alike64 r (FP.dmul x b) = true) (hk : k ≤ 1000) (hN : 1 ≤ N) (hD : 1 ≤ D) (h1 : N * z ≤ 2 ^ 560) (h2 : D ≤ 2 ^ 560) : RoL r (N * z) D (k + 3) := by
  obtain ⟨a, d, e1, e2, hap⟩ := h
  obtain ⟨n, hn⟩ : ∃ n : Nat, (n : Int) = z := ⟨z.toNat, by omega⟩
  have ea : ((a * n : Nat) : Int) = N * z := by rw [Int.natCast_mul, e1, hn]
  have i1 := Ap.int (n := n) (by omega) (by omega)
  rw [hn, ← hb] at i1
  exact ⟨a * n, d, ea, e2, rough_mul hap i1 hr hk (Nat.mul_pos (by omega) (by omega)) (by omega) (i560 ea h1) (i560 e2 h2)⟩
theorem RoL.div {x b r : UInt64} {N D z : Int} {k : Nat} (h : RoL x N D k) (hb : b = FP.i2d (iz z)) (hz : 1 ≤ z ∧ z ≤ 400) (hr : alike64 r (FP.ddiv x b) = true) (hk : k ≤ 1000) (hN : 1 ≤ N) (hD : 1 ≤ D) (h1 : N ≤ 2 ^ 560) (h2 : D * z ≤ 2 ^ 560) : RoL r N (D * z) (k + 3) := by
  obtain ⟨a, d, e1, e2, hap⟩ := h
  obtain ⟨n, hn⟩ : ∃ n : Nat, (n : Int) = z := ⟨z.toNat, by omega⟩
  have ea : ((d * n : Nat) : Int) = D * z := by rw [Int.natCast_mul, e2, hn]
  have i1 := Ap.int (n := n) (by omega) (by omega)
  rw [hn, ← hb] at i1
  exact ⟨a, d * n, e1, ea, rough_div hap i1 hr hk (by omega) (Nat.mul_pos (by omega) (by omega)) (i560 e1 h1) (i560 ea h2)⟩
set_option maxHeartbeats 4000000 in
set_option maxRecDepth 100000 in
theorem ct_Ratio_roughly {lau : Launch} {D : va_G} {cy : Nat → ClassId} {aa ad : Nat → Nat} (hI : wI (wC D cy aa ad)) (m : Mem) (ro rb rp rr : Nat) (l : List (Int × Int)) (hr : RatioAt ro rb rp rr) (hl1 : RatL m ro rb rp l) (hok : RatOk l) (hwt : wtL l ≤ 200) (hn : numL l ≤ 2 ^ 560) (hd : denL l ≤ 2 ^ 560) : MT lau (wC D cy aa ad) yX4_roughly cX4_roughly 8 (some .double) ({ frames := 1, cells := 0, slots := 0, locals := 40 } : Room) m [.ref (aa ro)] (Pd (fun z m' => (RoL z (numL l) (denL l) 800) ∧ m = m')) := by
  refine v_entry hI RX4 (by decide) rfl (Nat.le_of_ble_eq_true rfl) (fun E hE C X => ?_)
  subst hE
  show V E (wC D cy aa ad) 8 m 0 [(0, .ref (aa ro))] []
  have hpos : ∀ q ∈ l, 1 ≤ q.1 := fun q hq => (hok.2 q hq).1
  have hlen := hok.1
  have hc := hl1.1
  refine v_dconst1 C dX4_roughly_0 ?_
  refine v_dstore_n (L1 := [(1, .double (4607182418800017408)), (0, .ref (aa ro))]) C dX4_roughly_1 (by decide) rfl ?_
  refine v_iconst (z := 0) C dX4_roughly_2 rfl ?_
  refine v_istore_n (L1 := [(3, .int (iz (0))), (1, .double (4607182418800017408)), (0, .ref (aa ro))]) C dX4_roughly_3 (by decide) rfl ?_
  have K4 : ∀ (nK : Nat) (i : Int) (x : UInt64) (k : Nat) (hi : 0 ≤ i ∧ i ≤ l.length) (hx : RoL x (numL (l.take i.toNat)) (denL (l.take i.toNat)) k) (hk : k ≤ 4 * wtL (l.take i.toNat)), (l.length - i).toNat < nK → V E (wC D cy aa ad) 8 m 4 [(0, .ref (aa ro)), (1, .double (x)), (3, .int (iz (i)))] [] := by
    intro nK
    induction nK with
    | zero => intro i x k  hi hx hk hn; exact absurd hn (Nat.not_lt_zero _)
    | succ nK ih4 =>
      intro i x k  hi hx hk hn4
      refine v_iload_n C 2 dX4_roughly_4 rfl ?_
      refine v_aload_n C 0 dX4_roughly_5 rfl ?_
      refine v_get C ro 3 (RatioAt.l0 hr) (RatioAt.e0 hr _) rfl inX4 (by decide) rfl qw207 dX4_roughly_6 ?_
      refine v_icmp_ge (tgt := 81) C dX4_roughly_9 (by decide) (by omega) (by omega) (fun c1 => ?_) (fun c1 => ?_)
      · refine v_dload_n C 1 dX4_roughly_81 rfl ?_
        refine v_dret C X dX4_roughly_82 ⟨_, rfl, ?_, ?_⟩
        · have ei : i.toNat = l.length := by omega
          rw [ei, List.take_length] at hx hk
          obtain ⟨a, b, e1, e2, hap⟩ := hx
          exact ⟨a, b, e1, e2, hap.mono (by omega)⟩
        · rfl
      · refine v_aload_n C 0 dX4_roughly_12 rfl ?_
        refine v_get C ro 0 (RatioAt.l0 hr) (RatioAt.e0 hr _) rfl inX4 (by decide) rfl qw204 dX4_roughly_13 ?_
        refine v_iload_n C 2 dX4_roughly_16 rfl ?_
        refine v_callSN (st := []) (n := 2) C [.ref (aa rb), .int (iz (i))] (ct_StageRatios_at C.2.2.2.2.2.2.1 m (rb) (8) (i) ⟨(RatioAt.l1 hr), by decide, (RatioAt.e1 hr)⟩ (by first | assumption | omega)) qw618 qw1 "StageRatios" (by decide +kernel) rfl rfl ⟨Nat.le_of_ble_eq_true rfl, Nat.le_of_ble_eq_true rfl⟩ (by decide +kernel) qw617 rfl rfl (Nat.le_of_ble_eq_true rfl) dX4_roughly_17 (fun r m2 hq2 => ?_)
        obtain ⟨z2, rfl, rfl, rfl⟩ := hq2
        show V E (wC D cy aa ad) 8 m 20 [(0, .ref (aa ro)), (1, .double (x)), (3, .int (iz (i)))] [.int (iz (m rb i))]
        refine v_i2d C dX4_roughly_20 ?_
        refine v_dstore (L1 := [(4, .double (FP.i2d (iz (m rb i)))), (0, .ref (aa ro)), (1, .double (x)), (3, .int (iz (i)))]) C dX4_roughly_21 (by decide) rfl ?_
        refine v_aload_n C 1 dX4_roughly_23 rfl ?_
        refine v_get C ro 1 (RatioAt.l0 hr) (RatioAt.e0 hr _) rfl inX4 (by decide) rfl qw205 dX4_roughly_24 ?_
        refine v_iload_n C 3 dX4_roughly_27 rfl ?_
        refine v_callSN (st := []) (n := 2) C [.ref (aa rp), .int (iz (i))] (ct_StageRatios_at C.2.2.2.2.2.2.1 m (rp) (8) (i) ⟨(RatioAt.l2 hr), by decide, (RatioAt.e2 hr)⟩ (by first | assumption | omega)) qw618 qw1 "StageRatios" (by decide +kernel) rfl rfl ⟨Nat.le_of_ble_eq_true rfl, Nat.le_of_ble_eq_true rfl⟩ (by decide +kernel) qw617 rfl rfl (Nat.le_of_ble_eq_true rfl) dX4_roughly_28 (fun r m3 hq3 => ?_)
        obtain ⟨z3, rfl, rfl, rfl⟩ := hq3
        show V E (wC D cy aa ad) 8 m 31 [(4, .double (FP.i2d (iz (m rb i)))), (0, .ref (aa ro)), (1, .double (x)), (3, .int (iz (i)))] [.int (iz (m rp i))]
        refine v_istore (L1 := [(6, .int (iz (m rp i))), (4, .double (FP.i2d (iz (m rb i)))), (0, .ref (aa ro)), (1, .double (x)), (3, .int (iz (i)))]) C dX4_roughly_31 (by decide) rfl ?_
        obtain ⟨q, hq⟩ : ∃ q, l[i.toNat]? = some q := ⟨_, List.getElem?_eq_getElem (by omega)⟩
        have hqb : m rb i = q.1 := by have := (hl1.2 _ q hq).1; rwa [show ((i.toNat : Nat) : Int) = i by omega] at this
        have hqp : m rp i = q.2 := by have := (hl1.2 _ q hq).2; rwa [show ((i.toNat : Nat) : Int) = i by omega] at this
        have hqr := hok.2 q (List.mem_of_getElem? hq)
        refine v_iload C 0 dX4_roughly_33 rfl ?_
        refine v_mabs (st := []) C qw746 qw17 qw744 qw745 ⟨Nat.le_of_ble_eq_true rfl, Nat.le_of_ble_eq_true rfl⟩ (by omega) (by decide) dX4_roughly_35 ?_
        refine v_istore (L1 := [(7, .int (iz (if 0 ≤ m rp i then m rp i else 0 - m rp i))), (6, .int (iz (m rp i))), (4, .double (FP.i2d (iz (m rb i)))), (0, .ref (aa ro)), (1, .double (x)), (3, .int (iz (i)))]) C dX4_roughly_38 (by decide) rfl ?_
        have K40 : ∀ (nK : Nat) (j : Int) (y : UInt64) (k2 : Nat) (hj : 0 ≤ j ∧ j ≤ q.2.natAbs) (hx2 : RoL y (numL (l.take i.toNat) * q.1 ^ (q.2.toNat - j.toNat)) (denL (l.take i.toNat) * q.1 ^ ((-q.2).toNat - j.toNat)) k2) (hk2 : k2 + 4 * j.toNat ≤ 4 * (wtL (l.take i.toNat) + q.2.natAbs)), j.toNat < nK → V E (wC D cy aa ad) 8 m 40 [(0, .ref (aa ro)), (1, .double (y)), (3, .int (iz (i))), (4, .double (FP.i2d (iz (m rb i)))), (6, .int (iz (m rp i))), (7, .int (iz (j)))] [] := by
          intro nK
          induction nK with
          | zero => intro j y k2  hj hx2 hk2 hn; exact absurd hn (Nat.not_lt_zero _)
          | succ nK ih40 =>
            intro j y k2  hj hx2 hk2 hn40
            refine v_iload C 5 dX4_roughly_40 rfl ?_
            refine v_if_le (tgt := 75) C dX4_roughly_42 (by decide) (by omega) (fun c4 => ?_) (fun c4 => ?_)
            · refine v_iinc (L1 := [(3, .int (iz (i + 1))), (0, .ref (aa ro)), (1, .double (y)), (4, .double (FP.i2d (iz (m rb i)))), (6, .int (iz (m rp i))), (7, .int (iz (j)))]) C 2 dX4_roughly_75 rfl (by decide) rfl ?_
              refine v_goto (tgt := 4) C dX4_roughly_78 (by decide) ?_
              have ej : j = 0 := by omega
              subst ej
              have ei : (i + 1).toNat = i.toNat + 1 := by omega
              refine v_sub [1, 2, 0] rfl ?_
              exact ih4 (i + 1) (y) (k2)  (by first | assumption | omega) (by rw [ei, numL_s hq, denL_s hq]; exact hx2) (by rw [ei, wtL_s hq]; omega) (by omega)
            · refine v_dload C 3 dX4_roughly_45 rfl ?_
              refine v_dconst0 C dX4_roughly_47 ?_
              refine v_dcmp (z := 1) C (by 
                  rw [hqb]
                  obtain ⟨n, hnn⟩ : ∃ n : Nat, (n : Int) = q.1 := ⟨q.1.toNat, by omega⟩
                  have i1 := Ap.int (n := n) (by omega) (by omega)
                  rw [hnn] at i1
                  obtain ⟨c, s, hf, -⟩ := i1
                  rw [dcmp_0 hf]; rfl
                ) dX4_roughly_48 ?_
              refine v_if_le (tgt := 75) C dX4_roughly_49 (by decide) (by omega) (fun c5 => by exact absurd c5 (by decide)) (fun c5 => ?_)
              refine v_iload C 4 dX4_roughly_52 rfl ?_
              refine v_if_le (tgt := 64) C dX4_roughly_54 (by decide) (by omega) (fun c6 => ?_) (fun c6 => ?_)
              · refine v_dload_n C 1 dX4_roughly_64 rfl ?_
                refine v_dload C 3 dX4_roughly_65 rfl ?_
                refine v_ddiv C dX4_roughly_67 (fun r7 hr8 => ?_)
                refine v_dstore_n (L1 := [(1, .double (r7)), (0, .ref (aa ro)), (3, .int (iz (i))), (4, .double (FP.i2d (iz (m rb i)))), (6, .int (iz (m rp i))), (7, .int (iz (j)))]) C dX4_roughly_68 (by decide) rfl ?_
                refine v_iinc (L1 := [(7, .int (iz (j + (-1)))), (1, .double (r7)), (0, .ref (aa ro)), (3, .int (iz (i))), (4, .double (FP.i2d (iz (m rb i)))), (6, .int (iz (m rp i)))]) C 5 dX4_roughly_69 rfl (by decide) rfl ?_
                refine v_goto (tgt := 40) C dX4_roughly_72 (by decide) ?_
                have t1 : 1 ≤ numL (l.take i.toNat) := numL_pos fun r hr => hpos r (List.mem_of_mem_take hr)
                have t2 : 1 ≤ denL (l.take i.toNat) := denL_pos fun r hr => hpos r (List.mem_of_mem_take hr)
                have t3 := mul_1 t1 (pw_pos hqr.1 (q.2.toNat - j.toNat))
                have t4 := mul_1 t2 (pw_pos hqr.1 ((-q.2).toNat - j.toNat))
                have t5 := wtL_le hq
                refine v_sub [2, 1, 3, 4, 5, 0] rfl ?_
                exact ih40 (j + (-1)) (r7) ((k2 + 3))  (by first | assumption | omega) (by 
                                    first
                                      | (have e1 : q.2.toNat - (j + (-1)).toNat = q.2.toNat - j.toNat + 1 := by omega
                                         have e2 : (-q.2).toNat - (j + (-1)).toNat = (-q.2).toNat - j.toNat := by omega
                                         have b1 := Int.le_trans (numL_le (e := q.2.toNat - j.toNat + 1) hpos hq (by omega)) hn
                                         have b2 := Int.le_trans (denL_le (e := (-q.2).toNat - j.toNat) hpos hq (by omega)) hd
                                         rw [e1, e2]
                                         rw [pw_s, ← Int.mul_assoc] at b1 ⊢
                                         exact hx2.mul (by rw [hqb]) ⟨hqr.1, hqr.2.1⟩ NO_h60 (by omega) t3 t4 b1 b2)
                                      | (have e1 : q.2.toNat - (j + (-1)).toNat = q.2.toNat - j.toNat := by omega
                                         have e2 : (-q.2).toNat - (j + (-1)).toNat = (-q.2).toNat - j.toNat + 1 := by omega
                                         have b1 := Int.le_trans (numL_le (e := q.2.toNat - j.toNat) hpos hq (by omega)) hn
                                         have b2 := Int.le_trans (denL_le (e := (-q.2).toNat - j.toNat + 1) hpos hq (by omega)) hd
                                         rw [e1, e2]
                                         rw [pw_s, ← Int.mul_assoc] at b2 ⊢
                                         exact hx2.div (by rw [hqb]) ⟨hqr.1, hqr.2.1⟩ hr8 (by omega) t3 t4 b1 b2)
                                  ) (by first | assumption | omega) (by omega)
              · refine v_dload_n C 1 dX4_roughly_57 rfl ?_
                refine v_dload C 3 dX4_roughly_58 rfl ?_
                refine v_dmul C dX4_roughly_60 (fun r9 hr10 => ?_)
                refine v_goto (tgt := 68) C dX4_roughly_61 (by decide) ?_
                refine v_dstore_n (L1 := [(1, .double (r9)), (0, .ref (aa ro)), (3, .int (iz (i))), (4, .double (FP.i2d (iz (m rb i)))), (6, .int (iz (m rp i))), (7, .int (iz (j)))]) C dX4_roughly_68 (by decide) rfl ?_
                refine v_iinc (L1 := [(7, .int (iz (j + (-1)))), (1, .double (r9)), (0, .ref (aa ro)), (3, .int (iz (i))), (4, .double (FP.i2d (iz (m rb i)))), (6, .int (iz (m rp i)))]) C 5 dX4_roughly_69 rfl (by decide) rfl ?_
                refine v_goto (tgt := 40) C dX4_roughly_72 (by decide) ?_
                have t1 : 1 ≤ numL (l.take i.toNat) := numL_pos fun r hr => hpos r (List.mem_of_mem_take hr)
                have t2 : 1 ≤ denL (l.take i.toNat) := denL_pos fun r hr => hpos r (List.mem_of_mem_take hr)
                have t3 := mul_1 t1 (pw_pos hqr.1 (q.2.toNat - j.toNat))
                have t4 := mul_1 t2 (pw_pos hqr.1 ((-q.2).toNat - j.toNat))
                have t5 := wtL_le hq
                refine v_sub [2, 1, 3, 4, 5, 0] rfl ?_
                exact ih40 (j + (-1)) (r9) ((k2 + 3))  (by first | assumption | omega) (by 
                                    first
                                      | (have e1 : q.2.toNat - (j + (-1)).toNat = q.2.toNat - j.toNat + 1 := by omega
                                         have e2 : (-q.2).toNat - (j + (-1)).toNat = (-q.2).toNat - j.toNat := by omega
                                         have b1 := Int.le_trans (numL_le (e := q.2.toNat - j.toNat + 1) hpos hq (by omega)) hn
                                         have b2 := Int.le_trans (denL_le (e := (-q.2).toNat - j.toNat) hpos hq (by omega)) hd
                                         rw [e1, e2]
                                         rw [pw_s, ← Int.mul_assoc] at b1 ⊢
                                         exact hx2.mul (by rw [hqb]) ⟨hqr.1, hqr.2.1⟩ hr10 (by omega) t3 t4 b1 b2)
                                      | (have e1 : q.2.toNat - (j + (-1)).toNat = q.2.toNat - j.toNat := by omega
                                         have e2 : (-q.2).toNat - (j + (-1)).toNat = (-q.2).toNat - j.toNat + 1 := by omega
                                         have b1 := Int.le_trans (numL_le (e := q.2.toNat - j.toNat) hpos hq (by omega)) hn
                                         have b2 := Int.le_trans (denL_le (e := (-q.2).toNat - j.toNat + 1) hpos hq (by omega)) hd
                                         rw [e1, e2]
                                         rw [pw_s, ← Int.mul_assoc] at b2 ⊢
                                         exact hx2.div (by rw [hqb]) ⟨hqr.1, hqr.2.1⟩ NO_h67 (by omega) t3 t4 b1 b2)
                                  ) (by first | assumption | omega) (by omega)
        refine v_sub [3, 4, 5, 2, 1, 0] rfl ?_
        exact K40 _ (if 0 ≤ m rp i then m rp i else 0 - m rp i) (x) (k)  (by rw [hqp]; split <;> omega) (by 
                    have e1 : q.2.toNat - (if 0 ≤ m rp i then m rp i else 0 - m rp i).toNat = 0 := by rw [hqp]; split <;> omega
                    have e2 : (-q.2).toNat - (if 0 ≤ m rp i then m rp i else 0 - m rp i).toNat = 0 := by rw [hqp]; split <;> omega
                    rw [e1, e2, Int.pow_zero, Int.mul_one, Int.mul_one]
                    exact hx
                  ) (by rw [hqp]; split <;> omega) (Nat.lt_succ_self _)
  refine v_sub [2, 1, 0] rfl ?_
  exact K4 _ (0) (4607182418800017408) (0)  (by first | assumption | omega) (by exact ⟨1, 1, rfl, rfl, Ap.one⟩) (by first | assumption | omega) (Nat.lt_succ_self _)
