set_option maxHeartbeats 4000000 in
set_option maxRecDepth 100000 in
theorem ct_Ratio_multiplyInto {lau : Launch} {D : va_G} {cy : Nat → ClassId} {aa ad : Nat → Nat} (hI : wI (wC D cy aa ad)) (m : Mem) (ro rb rp rr : Nat) (g gl h hl : Nat) (l : List (Int × Int)) (v w : Int) (hr : RatioAt ro rb rp rr) (hg : BigAt g gl) (hh : BigAt h hl) (hgh : g ≠ h) (hl1 : RatL m ro rb rp l) (hok : RatOk l) (hv : BigIs m g gl v) (hw : BigIs m h hl w) (hv0 : 0 ≤ v) (hw0 : 0 ≤ w) (hvl : v * numL l < 281474976710656 ^ 16) (hwl : w * denL l < 281474976710656 ^ 16) : MT lau (wC D cy aa ad) yX4_multiplyInto cX4_multiplyInto 8 (none) ({ frames := 1, cells := 0, slots := 0, locals := 40 } : Room) m [.ref (aa ro), .ref (aa g), .ref (aa h)] (Pv (fun m' => BigIs m' g gl (v * numL l) ∧ BigIs m' h hl (w * denL l) ∧ (∀ q, q ≠ g → q ≠ gl → q ≠ h → q ≠ hl → m' q = m q))) := by
  refine v_entry hI RX4 (by decide) rfl (Nat.le_of_ble_eq_true rfl) (fun E hE C X => ?_)
  subst hE
  show V E (wC D cy aa ad) 8 m 0 [(0, .ref (aa ro)), (1, .ref (aa g)), (2, .ref (aa h))] []
  have hd : g ≠ gl ∧ g ≠ h ∧ g ≠ hl ∧ gl ≠ h ∧ gl ≠ hl ∧ h ≠ hl ∧ ro ≠ g ∧ ro ≠ gl ∧ ro ≠ h ∧ ro ≠ hl ∧ rb ≠ g ∧ rb ≠ gl ∧ rb ≠ h ∧ rb ≠ hl ∧ rp ≠ g ∧ rp ≠ gl ∧ rp ≠ h ∧ rp ≠ hl := by unfold RatioAt at hr; unfold BigAt at hg hh; omega
  have hpos : ∀ q ∈ l, 1 ≤ q.1 := fun q hq => (hok.2 q hq).1
  have hlen := hok.1
  refine v_iconst (z := 0) C dX4_multiplyInto_0 rfl ?_
  refine v_istore_n (L1 := [(3, .int (iz (0))), (0, .ref (aa ro)), (1, .ref (aa g)), (2, .ref (aa h))]) C dX4_multiplyInto_1 (by decide) rfl ?_
  have K2 : ∀ (nK : Nat) (i : Int) (mL : Mem) (hi : 0 ≤ i ∧ i ≤ l.length) (hG : BigIs mL g gl (v * numL (l.take i.toNat))) (hH : BigIs mL h hl (w * denL (l.take i.toNat))) (hf : ∀ q, q ≠ g → q ≠ gl → q ≠ h → q ≠ hl → mL q = m q), (l.length - i).toNat < nK → V E (wC D cy aa ad) 8 mL 2 [(0, .ref (aa ro)), (1, .ref (aa g)), (2, .ref (aa h)), (3, .int (iz (i)))] [] := by
    intro nK
    induction nK with
    | zero => intro i mL hi hG hH hf hn; exact absurd hn (Nat.not_lt_zero _)
    | succ nK ih2 =>
      intro i mL hi hG hH hf hn2
      have hLR : RatL mL ro rb rp l := hl1.fr (hf _ hd.2.2.2.2.2.2.1 hd.2.2.2.2.2.2.2.1 hd.2.2.2.2.2.2.2.2.1 hd.2.2.2.2.2.2.2.2.2.1) (hf _ hd.2.2.2.2.2.2.2.2.2.2.1 hd.2.2.2.2.2.2.2.2.2.2.2.1 hd.2.2.2.2.2.2.2.2.2.2.2.2.1 hd.2.2.2.2.2.2.2.2.2.2.2.2.2.1) (hf _ hd.2.2.2.2.2.2.2.2.2.2.2.2.2.2.1 hd.2.2.2.2.2.2.2.2.2.2.2.2.2.2.2.1 hd.2.2.2.2.2.2.2.2.2.2.2.2.2.2.2.2.1 hd.2.2.2.2.2.2.2.2.2.2.2.2.2.2.2.2.2)
      have hc3 := hLR.1
      refine v_iload_n C 3 dX4_multiplyInto_2 rfl ?_
      refine v_aload_n C 0 dX4_multiplyInto_3 rfl ?_
      refine v_get C ro 3 (RatioAt.l0 hr) (RatioAt.e0 hr _) rfl inX4 (by decide) rfl qw207 dX4_multiplyInto_4 ?_
      refine v_icmp_ge (tgt := 73) C dX4_multiplyInto_7 (by decide) (by omega) (by omega) (fun c1 => ?_) (fun c1 => ?_)
      · refine v_vret C X dX4_multiplyInto_73 ⟨rfl, ?_⟩
        have ei : i.toNat = l.length := by omega
        rw [ei, List.take_length] at hG hH
        exact ⟨hG, hH, hf⟩
      · refine v_aload_n C 0 dX4_multiplyInto_10 rfl ?_
        refine v_get C ro 0 (RatioAt.l0 hr) (RatioAt.e0 hr _) rfl inX4 (by decide) rfl qw204 dX4_multiplyInto_11 ?_
        refine v_iload_n C 3 dX4_multiplyInto_14 rfl ?_
        refine v_callSN (st := []) (n := 2) C [.ref (aa rb), .int (iz (i))] (ct_StageRatios_at C.2.2.2.2.2.2.1 mL (rb) (8) (i) ⟨(RatioAt.l1 hr), by decide, (RatioAt.e1 hr)⟩ (by first | assumption | omega)) qw618 qw1 "StageRatios" (by decide +kernel) rfl rfl ⟨Nat.le_of_ble_eq_true rfl, Nat.le_of_ble_eq_true rfl⟩ (by decide +kernel) qw617 rfl rfl (Nat.le_of_ble_eq_true rfl) dX4_multiplyInto_15 (fun r m2 hq2 => ?_)
        obtain ⟨z2, rfl, rfl, rfl⟩ := hq2
        show V E (wC D cy aa ad) 8 mL 18 [(0, .ref (aa ro)), (1, .ref (aa g)), (2, .ref (aa h)), (3, .int (iz (i)))] [.int (iz (mL rb i))]
        refine v_istore (L1 := [(4, .int (iz (mL rb i))), (0, .ref (aa ro)), (1, .ref (aa g)), (2, .ref (aa h)), (3, .int (iz (i)))]) C dX4_multiplyInto_18 (by decide) rfl ?_
        refine v_aload_n C 1 dX4_multiplyInto_20 rfl ?_
        refine v_get C ro 1 (RatioAt.l0 hr) (RatioAt.e0 hr _) rfl inX4 (by decide) rfl qw205 dX4_multiplyInto_21 ?_
        refine v_iload_n C 4 dX4_multiplyInto_24 rfl ?_
        refine v_callSN (st := []) (n := 2) C [.ref (aa rp), .int (iz (i))] (ct_StageRatios_at C.2.2.2.2.2.2.1 mL (rp) (8) (i) ⟨(RatioAt.l2 hr), by decide, (RatioAt.e2 hr)⟩ (by first | assumption | omega)) qw618 qw1 "StageRatios" (by decide +kernel) rfl rfl ⟨Nat.le_of_ble_eq_true rfl, Nat.le_of_ble_eq_true rfl⟩ (by decide +kernel) qw617 rfl rfl (Nat.le_of_ble_eq_true rfl) dX4_multiplyInto_25 (fun r m3 hq3 => ?_)
        obtain ⟨z3, rfl, rfl, rfl⟩ := hq3
        show V E (wC D cy aa ad) 8 mL 28 [(4, .int (iz (mL rb i))), (0, .ref (aa ro)), (1, .ref (aa g)), (2, .ref (aa h)), (3, .int (iz (i)))] [.int (iz (mL rp i))]
        refine v_istore (L1 := [(5, .int (iz (mL rp i))), (4, .int (iz (mL rb i))), (0, .ref (aa ro)), (1, .ref (aa g)), (2, .ref (aa h)), (3, .int (iz (i)))]) C dX4_multiplyInto_28 (by decide) rfl ?_
        obtain ⟨q, hq⟩ : ∃ q, l[i.toNat]? = some q := ⟨_, List.getElem?_eq_getElem (by omega)⟩
        have hqb : mL rb i = q.1 := by have := (hLR.2 _ q hq).1; rwa [show ((i.toNat : Nat) : Int) = i by omega] at this
        have hqp : mL rp i = q.2 := by have := (hLR.2 _ q hq).2; rwa [show ((i.toNat : Nat) : Int) = i by omega] at this
        have hqr := hok.2 q (List.mem_of_getElem? hq)
        refine v_iload C 0 dX4_multiplyInto_30 rfl ?_
        refine v_if_le (tgt := 39) C dX4_multiplyInto_32 (by decide) (by omega) (fun c4 => ?_) (fun c4 => ?_)
        · refine v_aload_n C 4 dX4_multiplyInto_39 rfl ?_
          refine v_astore (L1 := [(6, .ref (aa h)), (5, .int (iz (mL rp i))), (4, .int (iz (mL rb i))), (0, .ref (aa ro)), (1, .ref (aa g)), (2, .ref (aa h)), (3, .int (iz (i)))]) C dX4_multiplyInto_40 (by decide) rfl ?_
          refine v_iload C 1 dX4_multiplyInto_42 rfl ?_
          refine v_mabs (st := []) C qw746 qw17 qw744 qw745 ⟨Nat.le_of_ble_eq_true rfl, Nat.le_of_ble_eq_true rfl⟩ (by omega) (by decide) dX4_multiplyInto_44 ?_
          refine v_istore (L1 := [(7, .int (iz (if 0 ≤ mL rp i then mL rp i else 0 - mL rp i))), (6, .ref (aa h)), (5, .int (iz (mL rp i))), (4, .int (iz (mL rb i))), (0, .ref (aa ro)), (1, .ref (aa g)), (2, .ref (aa h)), (3, .int (iz (i)))]) C dX4_multiplyInto_47 (by decide) rfl ?_
          have K49 : ∀ (nK : Nat) (j : Int) (mI : Mem) (hj : 0 ≤ j ∧ j ≤ q.2.toNat + (-q.2).toNat) (hJ : BigIs mI g gl (v * numL (l.take i.toNat) * q.1 ^ (q.2.toNat - j.toNat)) ∧ BigIs mI h hl (w * denL (l.take i.toNat) * q.1 ^ ((-q.2).toNat - j.toNat)) ∧ (∀ q, q ≠ g → q ≠ gl → q ≠ h → q ≠ hl → mI q = m q)), j.toNat < nK → V E (wC D cy aa ad) 8 mI 49 [(0, .ref (aa ro)), (1, .ref (aa g)), (2, .ref (aa h)), (3, .int (iz (i))), (4, .int (iz (mL rb i))), (6, .ref (aa h)), (7, .int (iz (j)))] [] := by
            intro nK
            induction nK with
            | zero => intro j mI hj hJ hn; exact absurd hn (Nat.not_lt_zero _)
            | succ nK ih49 =>
              intro j mI hj hJ hn49
              refine v_iload C 6 dX4_multiplyInto_49 rfl ?_
              refine v_if_le (tgt := 67) C dX4_multiplyInto_51 (by decide) (by omega) (fun c5 => ?_) (fun c5 => ?_)
              · refine v_iinc (L1 := [(3, .int (iz (i + 1))), (0, .ref (aa ro)), (1, .ref (aa g)), (2, .ref (aa h)), (4, .int (iz (mL rb i))), (6, .ref (aa h)), (7, .int (iz (j)))]) C 3 dX4_multiplyInto_67 rfl (by decide) rfl ?_
                refine v_goto (tgt := 2) C dX4_multiplyInto_70 (by decide) ?_
                have ej : j = 0 := by omega
                subst ej
                have ei : (i + 1).toNat = i.toNat + 1 := by omega
                refine v_sub [1, 2, 3, 0] rfl ?_
                exact ih2 (i + 1) mI (by first | assumption | omega) (by rw [ei, numL_s hq, ← Int.mul_assoc]; exact hJ.1) (by rw [ei, denL_s hq, ← Int.mul_assoc]; exact hJ.2.1) (by exact hJ.2.2) (by omega)
              · refine v_aload C 5 dX4_multiplyInto_54 rfl ?_
                refine v_iload C 4 dX4_multiplyInto_56 rfl ?_
                refine v_callV (st := []) (n := 1) (q := h) C [.int (iz (mL rb i))] (ct_Big_multiply C.2.2.2.2.2.2.1 mI (h) (hl) (mL rb i) (w * denL (l.take i.toNat) * q.1 ^ ((-q.2).toNat - j.toNat)) hh (by first | exact hJ.1 | exact hJ.2.1) (by first | assumption | omega) (by 
                                      rw [hqb, mulpw]
                                      first
                                        | exact Int.lt_of_le_of_lt (Int.mul_le_mul_of_nonneg_left (numL_le hpos hq (by omega)) hv0) hvl
                                        | exact Int.lt_of_le_of_lt (Int.mul_le_mul_of_nonneg_left (denL_le hpos hq (by omega)) hw0) hwl
                                  )) (BigAt.l0 hh) (BigAt.e0 hh _) rfl qw763 qw11 qw760 rfl rfl ⟨Nat.le_of_ble_eq_true rfl, Nat.le_of_ble_eq_true rfl⟩ (by decide +kernel) qw761 qw762 rfl rfl (Nat.le_of_ble_eq_true rfl) dX4_multiplyInto_58 (fun r m6 hq6 => ?_)
                obtain ⟨rfl, hq6⟩ := hq6
                show V E (wC D cy aa ad) 8 m6 61 [(0, .ref (aa ro)), (1, .ref (aa g)), (2, .ref (aa h)), (3, .int (iz (i))), (4, .int (iz (mL rb i))), (6, .ref (aa h)), (7, .int (iz (j)))] []
                refine v_iinc (L1 := [(7, .int (iz (j + (-1)))), (0, .ref (aa ro)), (1, .ref (aa g)), (2, .ref (aa h)), (3, .int (iz (i))), (4, .int (iz (mL rb i))), (6, .ref (aa h))]) C 6 dX4_multiplyInto_61 rfl (by decide) rfl ?_
                refine v_goto (tgt := 49) C dX4_multiplyInto_64 (by decide) ?_
                refine v_sub [1, 2, 3, 4, 5, 6, 0] rfl ?_
                exact ih49 (j + (-1)) m6 (by first | assumption | omega) (by 
                                    rw [hqb] at hq6
                                    first
                                      | (refine ⟨?_, hJ.2.1.fr (hq6.2 _ (by omega) (by omega)) (hq6.2 _ (by omega) (by omega)) |> fun z => ?_, fun k h1 h2 h3 h4 => ?_⟩
                                         · have e : q.2.toNat - (j + (-1)).toNat = q.2.toNat - j.toNat + 1 := by omega
                                           rw [e, pw_s, ← Int.mul_assoc]; exact hq6.1
                                         · rw [show (-q.2).toNat - (j + (-1)).toNat = (-q.2).toNat - j.toNat by omega]; exact z
                                         · rw [hq6.2 k h1 h2]; exact hJ.2.2 k h1 h2 h3 h4)
                                      | (refine ⟨hJ.1.fr (hq6.2 _ (by omega) (by omega)) (hq6.2 _ (by omega) (by omega)) |> fun z => ?_, ?_, fun k h1 h2 h3 h4 => ?_⟩
                                         · rw [show q.2.toNat - (j + (-1)).toNat = q.2.toNat - j.toNat by omega]; exact z
                                         · have e : (-q.2).toNat - (j + (-1)).toNat = (-q.2).toNat - j.toNat + 1 := by omega
                                           rw [e, pw_s, ← Int.mul_assoc]; exact hq6.1
                                         · rw [hq6.2 k h3 h4]; exact hJ.2.2 k h1 h2 h3 h4)
                                  ) (by omega)
          refine v_sub [4, 5, 6, 7, 3, 1, 0] rfl ?_
          exact K49 _ (if 0 ≤ mL rp i then mL rp i else 0 - mL rp i) mL (by rw [hqp]; split <;> omega) (by 
                        have e1 : q.2.toNat - (if 0 ≤ mL rp i then mL rp i else 0 - mL rp i).toNat = 0 := by rw [hqp]; split <;> omega
                        have e2 : (-q.2).toNat - (if 0 ≤ mL rp i then mL rp i else 0 - mL rp i).toNat = 0 := by rw [hqp]; split <;> omega
                        rw [e1, e2]
                        exact ⟨by rw [Int.pow_zero, Int.mul_one]; exact hG, by rw [Int.pow_zero, Int.mul_one]; exact hH, hf⟩
                      ) (Nat.lt_succ_self _)
        · refine v_aload_n C 3 dX4_multiplyInto_35 rfl ?_
          refine v_goto (tgt := 40) C dX4_multiplyInto_36 (by decide) ?_
          refine v_astore (L1 := [(6, .ref (aa g)), (5, .int (iz (mL rp i))), (4, .int (iz (mL rb i))), (0, .ref (aa ro)), (1, .ref (aa g)), (2, .ref (aa h)), (3, .int (iz (i)))]) C dX4_multiplyInto_40 (by decide) rfl ?_
          refine v_iload C 1 dX4_multiplyInto_42 rfl ?_
          refine v_mabs (st := []) C qw746 qw17 qw744 qw745 ⟨Nat.le_of_ble_eq_true rfl, Nat.le_of_ble_eq_true rfl⟩ (by omega) (by decide) dX4_multiplyInto_44 ?_
          refine v_istore (L1 := [(7, .int (iz (if 0 ≤ mL rp i then mL rp i else 0 - mL rp i))), (6, .ref (aa g)), (5, .int (iz (mL rp i))), (4, .int (iz (mL rb i))), (0, .ref (aa ro)), (1, .ref (aa g)), (2, .ref (aa h)), (3, .int (iz (i)))]) C dX4_multiplyInto_47 (by decide) rfl ?_
          have K49 : ∀ (nK : Nat) (j : Int) (mI : Mem) (hj : 0 ≤ j ∧ j ≤ q.2.toNat + (-q.2).toNat) (hJ : BigIs mI g gl (v * numL (l.take i.toNat) * q.1 ^ (q.2.toNat - j.toNat)) ∧ BigIs mI h hl (w * denL (l.take i.toNat) * q.1 ^ ((-q.2).toNat - j.toNat)) ∧ (∀ q, q ≠ g → q ≠ gl → q ≠ h → q ≠ hl → mI q = m q)), j.toNat < nK → V E (wC D cy aa ad) 8 mI 49 [(0, .ref (aa ro)), (1, .ref (aa g)), (2, .ref (aa h)), (3, .int (iz (i))), (4, .int (iz (mL rb i))), (6, .ref (aa g)), (7, .int (iz (j)))] [] := by
            intro nK
            induction nK with
            | zero => intro j mI hj hJ hn; exact absurd hn (Nat.not_lt_zero _)
            | succ nK ih49 =>
              intro j mI hj hJ hn49
              refine v_iload C 6 dX4_multiplyInto_49 rfl ?_
              refine v_if_le (tgt := 67) C dX4_multiplyInto_51 (by decide) (by omega) (fun c7 => ?_) (fun c7 => ?_)
              · refine v_iinc (L1 := [(3, .int (iz (i + 1))), (0, .ref (aa ro)), (1, .ref (aa g)), (2, .ref (aa h)), (4, .int (iz (mL rb i))), (6, .ref (aa g)), (7, .int (iz (j)))]) C 3 dX4_multiplyInto_67 rfl (by decide) rfl ?_
                refine v_goto (tgt := 2) C dX4_multiplyInto_70 (by decide) ?_
                have ej : j = 0 := by omega
                subst ej
                have ei : (i + 1).toNat = i.toNat + 1 := by omega
                refine v_sub [1, 2, 3, 0] rfl ?_
                exact ih2 (i + 1) mI (by first | assumption | omega) (by rw [ei, numL_s hq, ← Int.mul_assoc]; exact hJ.1) (by rw [ei, denL_s hq, ← Int.mul_assoc]; exact hJ.2.1) (by exact hJ.2.2) (by omega)
              · refine v_aload C 5 dX4_multiplyInto_54 rfl ?_
                refine v_iload C 4 dX4_multiplyInto_56 rfl ?_
                refine v_callV (st := []) (n := 1) (q := g) C [.int (iz (mL rb i))] (ct_Big_multiply C.2.2.2.2.2.2.1 mI (g) (gl) (mL rb i) (v * numL (l.take i.toNat) * q.1 ^ (q.2.toNat - j.toNat)) hg (by first | exact hJ.1 | exact hJ.2.1) (by first | assumption | omega) (by 
                                      rw [hqb, mulpw]
                                      first
                                        | exact Int.lt_of_le_of_lt (Int.mul_le_mul_of_nonneg_left (numL_le hpos hq (by omega)) hv0) hvl
                                        | exact Int.lt_of_le_of_lt (Int.mul_le_mul_of_nonneg_left (denL_le hpos hq (by omega)) hw0) hwl
                                  )) (BigAt.l0 hg) (BigAt.e0 hg _) rfl qw763 qw11 qw760 rfl rfl ⟨Nat.le_of_ble_eq_true rfl, Nat.le_of_ble_eq_true rfl⟩ (by decide +kernel) qw761 qw762 rfl rfl (Nat.le_of_ble_eq_true rfl) dX4_multiplyInto_58 (fun r m8 hq8 => ?_)
                obtain ⟨rfl, hq8⟩ := hq8
                show V E (wC D cy aa ad) 8 m8 61 [(0, .ref (aa ro)), (1, .ref (aa g)), (2, .ref (aa h)), (3, .int (iz (i))), (4, .int (iz (mL rb i))), (6, .ref (aa g)), (7, .int (iz (j)))] []
                refine v_iinc (L1 := [(7, .int (iz (j + (-1)))), (0, .ref (aa ro)), (1, .ref (aa g)), (2, .ref (aa h)), (3, .int (iz (i))), (4, .int (iz (mL rb i))), (6, .ref (aa g))]) C 6 dX4_multiplyInto_61 rfl (by decide) rfl ?_
                refine v_goto (tgt := 49) C dX4_multiplyInto_64 (by decide) ?_
                refine v_sub [1, 2, 3, 4, 5, 6, 0] rfl ?_
                exact ih49 (j + (-1)) m8 (by first | assumption | omega) (by 
                                    rw [hqb] at hq8
                                    first
                                      | (refine ⟨?_, hJ.2.1.fr (hq8.2 _ (by omega) (by omega)) (hq8.2 _ (by omega) (by omega)) |> fun z => ?_, fun k h1 h2 h3 h4 => ?_⟩
                                         · have e : q.2.toNat - (j + (-1)).toNat = q.2.toNat - j.toNat + 1 := by omega
                                           rw [e, pw_s, ← Int.mul_assoc]; exact hq8.1
                                         · rw [show (-q.2).toNat - (j + (-1)).toNat = (-q.2).toNat - j.toNat by omega]; exact z
                                         · rw [hq8.2 k h1 h2]; exact hJ.2.2 k h1 h2 h3 h4)
                                      | (refine ⟨hJ.1.fr (hq8.2 _ (by omega) (by omega)) (hq8.2 _ (by omega) (by omega)) |> fun z => ?_, ?_, fun k h1 h2 h3 h4 => ?_⟩
                                         · rw [show q.2.toNat - (j + (-1)).toNat = q.2.toNat - j.toNat by omega]; exact z
                                         · have e : (-q.2).toNat - (j + (-1)).toNat = (-q.2).toNat - j.toNat + 1 := by omega
                                           rw [e, pw_s, ← Int.mul_assoc]; exact hq8.1
                                         · rw [hq8.2 k h3 h4]; exact hJ.2.2 k h1 h2 h3 h4)
                                  ) (by omega)
          refine v_sub [4, 5, 6, 7, 3, 1, 0] rfl ?_
          exact K49 _ (if 0 ≤ mL rp i then mL rp i else 0 - mL rp i) mL (by rw [hqp]; split <;> omega) (by 
                        have e1 : q.2.toNat - (if 0 ≤ mL rp i then mL rp i else 0 - mL rp i).toNat = 0 := by rw [hqp]; split <;> omega
                        have e2 : (-q.2).toNat - (if 0 ≤ mL rp i then mL rp i else 0 - mL rp i).toNat = 0 := by rw [hqp]; split <;> omega
                        rw [e1, e2]
                        exact ⟨by rw [Int.pow_zero, Int.mul_one]; exact hG, by rw [Int.pow_zero, Int.mul_one]; exact hH, hf⟩
                      ) (Nat.lt_succ_self _)
  refine v_sub [1, 2, 3, 0] rfl ?_
  exact K2 _ (0) m (by first | assumption | omega) (by show BigIs m g gl (v * 1); rw [Int.mul_one]; exact hv) (by show BigIs m h hl (w * 1); rw [Int.mul_one]; exact hw) (by intro q h1 h2 h3 h4; rfl) (Nat.lt_succ_self _)

set_option maxHeartbeats 4000000 in
set_option maxRecDepth 100000 in
theorem ct_Ratio_takeOut {lau : Launch} {D : va_G} {cy : Nat → ClassId} {aa ad : Nat → Nat} (hI : wI (wC D cy aa ad)) (m : Mem) (ro rb rp rr : Nat) (l : List (Int × Int)) (k : Nat) (p : Int) (hr : RatioAt ro rb rp rr) (hl1 : RatL m ro rb rp l) (hok : RatOk l) (hk : k ≤ 398) (hp : p = (k : Int) + 2) (hrs : ∀ (i : Nat) (q : Int × Int), l[i]? = some q → m rr i = rsA q.1 k) : MT lau (wC D cy aa ad) yX4_takeOut cX4_takeOut 5 (some .int) ({ frames := 1, cells := 0, slots := 0, locals := 22 } : Room) m [.ref (aa ro), .int (iz (p))] (Pi (fun z m' => exL k l = z ∧ (∀ (i : Nat) (q : Int × Int), l[i]? = some q → m' rr i = rsA q.1 (k + 1)) ∧ (∀ q, q ≠ rr → m' q = m q))) := by
  refine v_entry hI RX4 (by decide) rfl (Nat.le_of_ble_eq_true rfl) (fun E hE C X => ?_)
  subst hE
  show V E (wC D cy aa ad) 5 m 0 [(0, .ref (aa ro)), (1, .int (iz (p)))] []
  have hne : ro ≠ rr ∧ rb ≠ rr ∧ rp ≠ rr := by unfold RatioAt at hr; omega
  have hlen := hok.1
  refine v_iconst (z := 0) C dX4_takeOut_0 rfl ?_
  refine v_istore_n (L1 := [(2, .int (iz (0))), (0, .ref (aa ro)), (1, .int (iz (p)))]) C dX4_takeOut_1 (by decide) rfl ?_
  refine v_iconst (z := 0) C dX4_takeOut_2 rfl ?_
  refine v_istore_n (L1 := [(3, .int (iz (0))), (2, .int (iz (0))), (0, .ref (aa ro)), (1, .int (iz (p)))]) C dX4_takeOut_3 (by decide) rfl ?_
  have K4 : ∀ (nK : Nat) (i : Int) (s : Int) (mL : Mem) (hi : 0 ≤ i ∧ i ≤ l.length) (hs : s = exL k (l.take i.toNat)) (hlo : ∀ (j : Nat) (q : Int × Int), (j : Int) < i → l[j]? = some q → mL rr j = rsA q.1 (k + 1)) (hhi : ∀ (j : Int), i ≤ j → mL rr j = m rr j) (hf : ∀ q, q ≠ rr → mL q = m q), (l.length - i).toNat < nK → V E (wC D cy aa ad) 5 mL 4 [(0, .ref (aa ro)), (1, .int (iz (p))), (2, .int (iz (s))), (3, .int (iz (i)))] [] := by
    intro nK
    induction nK with
    | zero => intro i s mL hi hs hlo hhi hf hn; exact absurd hn (Nat.not_lt_zero _)
    | succ nK ih4 =>
      intro i s mL hi hs hlo hhi hf hn4
      have hLR : RatL mL ro rb rp l := hl1.fr (hf _ hne.1) (hf _ hne.2.1) (hf _ hne.2.2)
      have hc3 := hLR.1
      refine v_iload_n C 3 dX4_takeOut_4 rfl ?_
      refine v_aload_n C 0 dX4_takeOut_5 rfl ?_
      refine v_get C ro 3 (RatioAt.l0 hr) (RatioAt.e0 hr _) rfl inX4 (by decide) rfl qw207 dX4_takeOut_6 ?_
      refine v_icmp_ge (tgt := 76) C dX4_takeOut_9 (by decide) (by omega) (by omega) (fun c1 => ?_) (fun c1 => ?_)
      · refine v_iload_n C 2 dX4_takeOut_76 rfl ?_
        refine v_iret C X rfl dX4_takeOut_77 ⟨_, rfl, ?_, ?_⟩
        · rw [hs, show i.toNat = l.length by omega, List.take_length]
        · exact ⟨fun j q h => hlo j q (by have := (List.getElem?_eq_some_iff.mp h).1; omega) h, hf⟩
      · refine v_aload_n C 0 dX4_takeOut_12 rfl ?_
        refine v_get C ro 2 (RatioAt.l0 hr) (RatioAt.e0 hr _) rfl inX4 (by decide) rfl qw206 dX4_takeOut_13 ?_
        refine v_iload_n C 3 dX4_takeOut_16 rfl ?_
        refine v_callSN (st := []) (n := 2) C [.ref (aa rr), .int (iz (i))] (ct_StageRatios_at C.2.2.2.2.2.2.1 mL (rr) (8) (i) ⟨(RatioAt.l3 hr), by decide, (RatioAt.e3 hr)⟩ (by first | assumption | omega)) qw618 qw1 "StageRatios" (by decide +kernel) rfl rfl ⟨Nat.le_of_ble_eq_true rfl, Nat.le_of_ble_eq_true rfl⟩ (by decide +kernel) qw617 rfl rfl (Nat.le_of_ble_eq_true rfl) dX4_takeOut_17 (fun r m2 hq2 => ?_)
        obtain ⟨z2, rfl, rfl, rfl⟩ := hq2
        show V E (wC D cy aa ad) 5 mL 20 [(0, .ref (aa ro)), (1, .int (iz (p))), (2, .int (iz (s))), (3, .int (iz (i)))] [.int (iz (mL rr i))]
        obtain ⟨q, hq⟩ : ∃ q, l[i.toNat]? = some q := ⟨_, List.getElem?_eq_getElem (by omega)⟩
        have hqp : mL rp i = q.2 := by have := (hLR.2 _ q hq).2; rwa [show ((i.toNat : Nat) : Int) = i by omega] at this
        have hqr := hok.2 q (List.mem_of_getElem? hq)
        have hr0 : mL rr i = rsA q.1 k := by rw [hhi i (by omega)]; have := hrs _ q hq; rwa [show ((i.toNat : Nat) : Int) = i by omega] at this
        have hrr := rsA_rng hqr.1 k
        refine v_istore (L1 := [(4, .int (iz (mL rr i))), (0, .ref (aa ro)), (1, .int (iz (p))), (2, .int (iz (s))), (3, .int (iz (i)))]) C dX4_takeOut_20 (by decide) rfl ?_
        have K22 : ∀ (nK : Nat) (x : Int) (s2 : Int) (f : Nat) (hx : (1 ≤ x ∧ x ≤ 400) ∧ x ≤ f ∧ rmv p f x = rmv p 400 (rsA q.1 k) ∧ s2 + q.2 * cntv p f x = s + q.2 * cntv p 400 (rsA q.1 k)), x.toNat < nK → V E (wC D cy aa ad) 5 mL 22 [(0, .ref (aa ro)), (1, .int (iz (p))), (2, .int (iz (s2))), (3, .int (iz (i))), (4, .int (iz (x)))] [] := by
          intro nK
          induction nK with
          | zero => intro x s2 f  hx hn; exact absurd hn (Nat.not_lt_zero _)
          | succ nK ih22 =>
            intro x s2 f  hx hn22
            refine v_iload C 4 dX4_takeOut_22 rfl ?_
            refine v_iconst (z := 1) C dX4_takeOut_24 rfl ?_
            refine v_icmp_le (tgt := 60) C dX4_takeOut_25 (by decide) (by omega) (by omega) (fun c3 => ?_) (fun c3 => ?_)
            · refine v_aload_n C 0 dX4_takeOut_60 rfl ?_
              refine v_get C ro 2 (RatioAt.l0 hr) (RatioAt.e0 hr _) rfl inX4 (by decide) rfl qw206 dX4_takeOut_61 ?_
              refine v_iload_n C 3 dX4_takeOut_64 rfl ?_
              refine v_iload C 4 dX4_takeOut_65 rfl ?_
              refine v_callSN (st := []) (n := 3) C [.ref (aa rr), .int (iz (i)), .int (iz (x))] (ct_StageRatios_put C.2.2.2.2.2.2.1 mL (rr) (8) (i) (x) ⟨(RatioAt.l3 hr), by decide, (RatioAt.e3 hr)⟩ (by first | assumption | omega)) qw494 qw1 "StageRatios" (by decide +kernel) rfl rfl ⟨Nat.le_of_ble_eq_true rfl, Nat.le_of_ble_eq_true rfl⟩ (by decide +kernel) qw493 rfl rfl (Nat.le_of_ble_eq_true rfl) dX4_takeOut_67 (fun r m4 hq4 => ?_)
              obtain ⟨rfl, hq4⟩ := hq4
              show V E (wC D cy aa ad) 5 m4 70 [(0, .ref (aa ro)), (1, .int (iz (p))), (2, .int (iz (s2))), (3, .int (iz (i))), (4, .int (iz (x)))] []
              refine v_iinc (L1 := [(3, .int (iz (i + 1))), (0, .ref (aa ro)), (1, .int (iz (p))), (2, .int (iz (s2))), (4, .int (iz (x)))]) C 3 dX4_takeOut_70 rfl (by decide) rfl ?_
              refine v_goto (tgt := 4) C dX4_takeOut_73 (by decide) ?_
              have ei : (i + 1).toNat = i.toNat + 1 := by omega
              have e0 : ¬ (1 < x ∧ 1 < p ∧ x % p = 0) := by omega
              have ex : rmv p f x = x ∧ cntv p f x = 0 := by
                cases f with
                | zero => exact ⟨rfl, rfl⟩
                | succ f => exact ⟨if_neg e0, if_neg e0⟩
              refine v_sub [1, 2, 3, 0] rfl ?_
              exact ih4 (i + 1) (s2) m4 (by first | assumption | omega) (by 
                                rw [ei, exL_s hq, ← hs]
                                have := hx.2.2.2
                                rw [ex.2, Int.mul_zero] at this
                                show s2 = s + q.2 * cntv ((k : Int) + 2) 400 (rsA q.1 k)
                                rw [← hp]
                                omega
                              ) (by 
                                intro j r h0 h1
                                rw [← hq4]
                                by_cases c : (j : Int) = i
                                · rw [c, mup_s]
                                  have : r = q := by rw [show j = i.toNat by omega, hq] at h1; exact (Option.some.inj h1).symm
                                  subst this
                                  have := hx.2.2.1
                                  rw [ex.1] at this
                                  rw [this]
                                  show rmv p 400 _ = rmv ((k : Int) + 2) 400 _
                                  rw [hp]
                                · rw [mup_j _ _ c]; exact hlo j r (by omega) h1
                              ) (by intro j h; rw [← hq4, mup_j _ _ (by omega)]; exact hhi j (by omega)) (by intro q h; rw [← hq4, mup_k _ _ _ h]; exact hf q h) (by omega)
            · refine v_iload_n C 1 dX4_takeOut_28 rfl ?_
              refine v_iconst (z := 1) C dX4_takeOut_29 rfl ?_
              refine v_icmp_le (tgt := 60) C dX4_takeOut_30 (by decide) (by omega) (by omega) (fun c5 => ?_) (fun c5 => ?_)
              · exfalso; omega
              · refine v_iload C 4 dX4_takeOut_33 rfl ?_
                refine v_iload_n C 1 dX4_takeOut_35 rfl ?_
                refine v_irem C (by omega) (by omega) dX4_takeOut_36 ?_
                have hm0r : 0 ≤ x % p ∧ x % p < p := ⟨Int.emod_nonneg _ (by omega), Int.emod_lt_of_pos _ (by omega)⟩
                refine v_if_ne (tgt := 60) C dX4_takeOut_37 (by decide) (by omega) (fun c6 => ?_) (fun c6 => ?_)
                · refine v_aload_n C 0 dX4_takeOut_60 rfl ?_
                  refine v_get C ro 2 (RatioAt.l0 hr) (RatioAt.e0 hr _) rfl inX4 (by decide) rfl qw206 dX4_takeOut_61 ?_
                  refine v_iload_n C 3 dX4_takeOut_64 rfl ?_
                  refine v_iload C 4 dX4_takeOut_65 rfl ?_
                  refine v_callSN (st := []) (n := 3) C [.ref (aa rr), .int (iz (i)), .int (iz (x))] (ct_StageRatios_put C.2.2.2.2.2.2.1 mL (rr) (8) (i) (x) ⟨(RatioAt.l3 hr), by decide, (RatioAt.e3 hr)⟩ (by first | assumption | omega)) qw494 qw1 "StageRatios" (by decide +kernel) rfl rfl ⟨Nat.le_of_ble_eq_true rfl, Nat.le_of_ble_eq_true rfl⟩ (by decide +kernel) qw493 rfl rfl (Nat.le_of_ble_eq_true rfl) dX4_takeOut_67 (fun r m7 hq7 => ?_)
                  obtain ⟨rfl, hq7⟩ := hq7
                  show V E (wC D cy aa ad) 5 m7 70 [(0, .ref (aa ro)), (1, .int (iz (p))), (2, .int (iz (s2))), (3, .int (iz (i))), (4, .int (iz (x)))] []
                  refine v_iinc (L1 := [(3, .int (iz (i + 1))), (0, .ref (aa ro)), (1, .int (iz (p))), (2, .int (iz (s2))), (4, .int (iz (x)))]) C 3 dX4_takeOut_70 rfl (by decide) rfl ?_
                  refine v_goto (tgt := 4) C dX4_takeOut_73 (by decide) ?_
                  have ei : (i + 1).toNat = i.toNat + 1 := by omega
                  have e0 : ¬ (1 < x ∧ 1 < p ∧ x % p = 0) := by omega
                  have ex : rmv p f x = x ∧ cntv p f x = 0 := by
                    cases f with
                    | zero => exact ⟨rfl, rfl⟩
                    | succ f => exact ⟨if_neg e0, if_neg e0⟩
                  refine v_sub [1, 2, 3, 0] rfl ?_
                  exact ih4 (i + 1) (s2) m7 (by first | assumption | omega) (by 
                                        rw [ei, exL_s hq, ← hs]
                                        have := hx.2.2.2
                                        rw [ex.2, Int.mul_zero] at this
                                        show s2 = s + q.2 * cntv ((k : Int) + 2) 400 (rsA q.1 k)
                                        rw [← hp]
                                        omega
                                      ) (by 
                                        intro j r h0 h1
                                        rw [← hq7]
                                        by_cases c : (j : Int) = i
                                        · rw [c, mup_s]
                                          have : r = q := by rw [show j = i.toNat by omega, hq] at h1; exact (Option.some.inj h1).symm
                                          subst this
                                          have := hx.2.2.1
                                          rw [ex.1] at this
                                          rw [this]
                                          show rmv p 400 _ = rmv ((k : Int) + 2) 400 _
                                          rw [hp]
                                        · rw [mup_j _ _ c]; exact hlo j r (by omega) h1
                                      ) (by intro j h; rw [← hq7, mup_j _ _ (by omega)]; exact hhi j (by omega)) (by intro q h; rw [← hq7, mup_k _ _ _ h]; exact hf q h) (by omega)
                · refine v_iload C 4 dX4_takeOut_40 rfl ?_
                  refine v_iload_n C 1 dX4_takeOut_42 rfl ?_
                  refine v_idiv C (by omega) (by omega) dX4_takeOut_43 ?_
                  refine v_istore (L1 := [(4, .int (iz (x / p))), (0, .ref (aa ro)), (1, .int (iz (p))), (2, .int (iz (s2))), (3, .int (iz (i)))]) C dX4_takeOut_44 (by decide) rfl ?_
                  refine v_iload_n C 3 dX4_takeOut_46 rfl ?_
                  refine v_aload_n C 1 dX4_takeOut_47 rfl ?_
                  refine v_get C ro 1 (RatioAt.l0 hr) (RatioAt.e0 hr _) rfl inX4 (by decide) rfl qw205 dX4_takeOut_48 ?_
                  refine v_iload_n C 4 dX4_takeOut_51 rfl ?_
                  refine v_callSN (st := [.int (iz (s2))]) (n := 2) C [.ref (aa rp), .int (iz (i))] (ct_StageRatios_at C.2.2.2.2.2.2.1 mL (rp) (8) (i) ⟨(RatioAt.l2 hr), by decide, (RatioAt.e2 hr)⟩ (by first | assumption | omega)) qw618 qw1 "StageRatios" (by decide +kernel) rfl rfl ⟨Nat.le_of_ble_eq_true rfl, Nat.le_of_ble_eq_true rfl⟩ (by decide +kernel) qw617 rfl rfl (Nat.le_of_ble_eq_true rfl) dX4_takeOut_52 (fun r m8 hq8 => ?_)
                  obtain ⟨z8, rfl, rfl, rfl⟩ := hq8
                  show V E (wC D cy aa ad) 5 mL 55 [(4, .int (iz (x / p))), (0, .ref (aa ro)), (1, .int (iz (p))), (2, .int (iz (s2))), (3, .int (iz (i)))] [.int (iz (mL rp i)), .int (iz (s2))]
                  refine v_iadd C dX4_takeOut_55 ?_
                  refine v_istore_n (L1 := [(2, .int (iz (s2 + (mL rp i)))), (4, .int (iz (x / p))), (0, .ref (aa ro)), (1, .int (iz (p))), (3, .int (iz (i)))]) C dX4_takeOut_56 (by decide) rfl ?_
                  refine v_goto (tgt := 22) C dX4_takeOut_57 (by decide) ?_
                  have hm0 : x % p = 0 := by omega
                  have hdl := div_lt (r := x) (p := p) (by omega) (by omega)
                  have hd1 := div_1 (r := x) (p := p) (by omega) (by omega) hm0
                  obtain ⟨f, rfl⟩ : ∃ g, f = g + 1 := ⟨f - 1, by omega⟩
                  have e1 : 1 < x ∧ 1 < p ∧ x % p = 0 := by omega
                  have e3 : rmv p (f + 1) x = rmv p f (x / p) := if_pos e1
                  have e4 : cntv p (f + 1) x = 1 + cntv p f (x / p) := if_pos e1
                  refine v_sub [2, 3, 0, 4, 1] rfl ?_
                  exact ih22 (x / p) (s2 + (mL rp i)) (f)  (by 
                                        rw [← e3]
                                        refine ⟨⟨by omega, by omega⟩, by omega, hx.2.2.1, ?_⟩
                                        have := hx.2.2.2
                                        rw [e4, Int.mul_add, Int.mul_one] at this
                                        rw [hqp]; omega
                                      ) (by omega)
        refine v_sub [1, 2, 3, 4, 0] rfl ?_
        exact K22 _ (mL rr i) (s) (400)  (by rw [hr0]; exact ⟨⟨by omega, by omega⟩, by omega, rfl, rfl⟩) (Nat.lt_succ_self _)
  refine v_sub [2, 3, 1, 0] rfl ?_
  exact K4 _ (0) (0) m (by first | assumption | omega) (by rfl) (by intro j q h0 h1; omega) (by intro j h; rfl) (by intro q h; rfl) (Nat.lt_succ_self _)

set_option maxHeartbeats 4000000 in
set_option maxRecDepth 100000 in
theorem ct_Ratio_lowest {lau : Launch} {D : va_G} {cy : Nat → ClassId} {aa ad : Nat → Nat} (hI : wI (wC D cy aa ad)) (m : Mem) (ro rb rp rr : Nat) (l : List (Int × Int)) (up : Int) (hr : RatioAt ro rb rp rr) (hl1 : RatL m ro rb rp l) (hok : RatOk l) (hup : up = 0 ∨ up = 1) : MT lau (wC D cy aa ad) yX4_lowest cX4_lowest 8 (some .int) ({ frames := 2, cells := 0, slots := 0, locals := 46 } : Room) m [.ref (aa ro), .int (iz (up))] (Pi (fun z m' => lowA (fun k => if up = 1 then exL k l else -exL k l) 399 = z ∧ ∀ q, q ≠ rr → m' q = m q)) := by
  refine v_entry hI RX4 (by decide) rfl (Nat.le_of_ble_eq_true rfl) (fun E hE C X => ?_)
  subst hE
  show V E (wC D cy aa ad) 8 m 0 [(0, .ref (aa ro)), (1, .int (iz (up)))] []
  have hne : ro ≠ rr ∧ rb ≠ rr ∧ rp ≠ rr := by unfold RatioAt at hr; omega
  have hlen := hok.1
  refine v_iconst (z := 0) C dX4_lowest_0 rfl ?_
  refine v_istore_n (L1 := [(2, .int (iz (0))), (0, .ref (aa ro)), (1, .int (iz (up)))]) C dX4_lowest_1 (by decide) rfl ?_
  have K2 : ∀ (nK : Nat) (i : Int) (mL : Mem) (hi : 0 ≤ i ∧ i ≤ l.length) (hlo : ∀ (j : Nat) (q : Int × Int), (j : Int) < i → l[j]? = some q → mL rr j = q.1) (hf : ∀ q, q ≠ rr → mL q = m q), (l.length - i).toNat < nK → V E (wC D cy aa ad) 8 mL 2 [(0, .ref (aa ro)), (1, .int (iz (up))), (2, .int (iz (i)))] [] := by
    intro nK
    induction nK with
    | zero => intro i mL hi hlo hf hn; exact absurd hn (Nat.not_lt_zero _)
    | succ nK ih2 =>
      intro i mL hi hlo hf hn2
      have hLR : RatL mL ro rb rp l := hl1.fr (hf _ hne.1) (hf _ hne.2.1) (hf _ hne.2.2)
      have hc3 := hLR.1
      refine v_iload_n C 2 dX4_lowest_2 rfl ?_
      refine v_aload_n C 0 dX4_lowest_3 rfl ?_
      refine v_get C ro 3 (RatioAt.l0 hr) (RatioAt.e0 hr _) rfl inX4 (by decide) rfl qw207 dX4_lowest_4 ?_
      refine v_icmp_ge (tgt := 32) C dX4_lowest_7 (by decide) (by omega) (by omega) (fun c1 => ?_) (fun c1 => ?_)
      · refine v_lconst (z := 1) C dX4_lowest_32 rfl ?_
        refine v_lstore_n (L1 := [(2, .long (lz (1))), (0, .ref (aa ro)), (1, .int (iz (up)))]) C dX4_lowest_33 (by decide) rfl ?_
        refine v_iconst (z := 2) C dX4_lowest_34 rfl ?_
        refine v_istore (L1 := [(4, .int (iz (2))), (2, .long (lz (1))), (0, .ref (aa ro)), (1, .int (iz (up)))]) C dX4_lowest_35 (by decide) rfl ?_
        have K37 : ∀ (nK : Nat) (k : Nat) (p : Int) (v : Int) (mK : Mem) (hp : p = (k : Int) + 2 ∧ k ≤ 399) (hv : v = lowA (fun k => if up = 1 then exL k l else -exL k l) k) (hrs : ∀ (i : Nat) (q : Int × Int), l[i]? = some q → mK rr i = rsA q.1 k) (hfk : ∀ q, q ≠ rr → mK q = m q), 399 - k < nK → V E (wC D cy aa ad) 8 mK 37 [(0, .ref (aa ro)), (1, .int (iz (up))), (2, .long (lz (v))), (4, .int (iz (p)))] [] := by
          intro nK
          induction nK with
          | zero => intro k p v mK hp hv hrs hfk hn; exact absurd hn (Nat.not_lt_zero _)
          | succ nK ih37 =>
            intro k p v mK hp hv hrs hfk hn37
            have hKR : RatL mK ro rb rp l := hl1.fr (hfk _ hne.1) (hfk _ hne.2.1) (hfk _ hne.2.2)
            have hvr := lowA_rng (fun k => if up = 1 then exL k l else -exL k l) k
            refine v_iload C 3 dX4_lowest_37 rfl ?_
            refine v_sipush (z := 400) C dX4_lowest_39 (by decide) ?_
            refine v_icmp_gt (tgt := 99) C dX4_lowest_42 (by decide) (by omega) (by omega) (fun c2 => ?_) (fun c2 => ?_)
            · refine v_lload_n C 2 dX4_lowest_99 rfl ?_
              refine v_l2i C dX4_lowest_100 ?_
              refine v_iret C X rfl dX4_lowest_101 ⟨_, rfl, ?_, ?_⟩
              · rw [hv, show k = 399 by omega]
              · exact hfk
            · refine v_aload_n C 0 dX4_lowest_45 rfl ?_
              refine v_iload C 3 dX4_lowest_46 rfl ?_
              refine v_callV (st := []) (n := 1) (q := ro) C [.int (iz (p))] (ct_Ratio_takeOut C.2.2.2.2.2.2.1 mK (ro) (rb) (rp) (rr) (l) (k) (p) hr (by exact hKR) (by first | assumption | omega) (by first | assumption | omega) (by exact hp.1) (by exact hrs)) (RatioAt.l0 hr) (RatioAt.e0 hr _) rfl qw785 qw9 qw782 rfl rfl ⟨Nat.le_of_ble_eq_true rfl, Nat.le_of_ble_eq_true rfl⟩ (by decide +kernel) qw784 qp22 rfl rfl (Nat.le_of_ble_eq_true rfl) dX4_lowest_48 (fun r m3 hq3 => ?_)
              obtain ⟨z3, rfl, rfl, hq3⟩ := hq3
              show V E (wC D cy aa ad) 8 m3 51 [(0, .ref (aa ro)), (1, .int (iz (up))), (2, .long (lz (v))), (4, .int (iz (p)))] [.int (iz (exL k l))]
              have her := exL_rng (k := k) hok.2
              refine v_istore (L1 := [(5, .int (iz (exL k l))), (0, .ref (aa ro)), (1, .int (iz (up))), (2, .long (lz (v))), (4, .int (iz (p)))]) C dX4_lowest_51 (by decide) rfl ?_
              have hmul0 : ∀ u : Int, 0 ≤ u → 0 ≤ u * p := fun u h => Int.mul_nonneg h (by omega)
              have hmul1 : ∀ u : Int, 0 ≤ u → u * p ≤ u * 400 := fun u h => Int.mul_le_mul_of_nonneg_left (by omega) h
              refine v_iload_n C 2 dX4_lowest_53 rfl ?_
              refine v_if_eq (tgt := 62) C dX4_lowest_54 (by decide) (by omega) (fun c4 => ?_) (fun c4 => ?_)
              · refine v_iload C 0 dX4_lowest_62 rfl ?_
                refine v_ineg C dX4_lowest_64 ?_
                refine v_istore (L1 := [(6, .int (iz (-(exL k l)))), (5, .int (iz (exL k l))), (0, .ref (aa ro)), (1, .int (iz (up))), (2, .long (lz (v))), (4, .int (iz (p)))]) C dX4_lowest_65 (by decide) rfl ?_
                refine v_iconst (z := 0) C dX4_lowest_67 rfl ?_
                refine v_istore (L1 := [(7, .int (iz (0))), (6, .int (iz (-(exL k l)))), (5, .int (iz (exL k l))), (0, .ref (aa ro)), (1, .int (iz (up))), (2, .long (lz (v))), (4, .int (iz (p)))]) C dX4_lowest_68 (by decide) rfl ?_
                have K70 : ∀ (nK : Nat) (c : Int) (u : Int) (hc : 0 ≤ c) (hu : u = pwM v ((k : Int) + 2) c.toNat) (hc2 : c ≤ 0 ∨ c ≤ (-(exL k l))), ((-(exL k l)) - c).toNat < nK → V E (wC D cy aa ad) 8 m3 70 [(0, .ref (aa ro)), (1, .int (iz (up))), (2, .long (lz (u))), (4, .int (iz (p))), (6, .int (iz (-(exL k l)))), (7, .int (iz (c)))] [] := by
                  intro nK
                  induction nK with
                  | zero => intro c u  hc hu hc2 hn; exact absurd hn (Nat.not_lt_zero _)
                  | succ nK ih70 =>
                    intro c u  hc hu hc2 hn70
                    have hur := pwM_rng (v := v) (p := (k : Int) + 2) (by omega) c.toNat
                    refine v_iload C 5 dX4_lowest_70 rfl ?_
                    refine v_iload C 4 dX4_lowest_72 rfl ?_
                    refine v_icmp_ge (tgt := 93) C dX4_lowest_74 (by decide) (by omega) (by omega) (fun c5 => ?_) (fun c5 => ?_)
                    · refine v_iinc (L1 := [(4, .int (iz (p + 1))), (0, .ref (aa ro)), (1, .int (iz (up))), (2, .long (lz (u))), (6, .int (iz (-(exL k l)))), (7, .int (iz (c)))]) C 3 dX4_lowest_93 rfl (by decide) rfl ?_
                      refine v_goto (tgt := 37) C dX4_lowest_96 (by decide) ?_
                      refine v_sub [1, 2, 3, 0] rfl ?_
                      exact ih37 ((k + 1)) (p + 1) (u) m3 (by first | assumption | omega) (by 
                                                rw [hu, show lowA (fun k => if up = 1 then exL k l else -exL k l) (k + 1) = pwM (lowA (fun k => if up = 1 then exL k l else -exL k l) k) ((k : Int) + 2) (if up = 1 then exL k l else -exL k l).toNat from rfl, ← hv]
                                                first
                                                  | (rw [if_pos (by omega)]; congr 1; omega)
                                                  | (rw [if_neg (by omega)]; congr 1; omega)
                                              ) (by exact hq3.1) (by intro q h; rw [hq3.2 q h]; exact hfk q h) (by omega)
                    · have hm0 := hmul0 u (by omega)
                      have hm1 := hmul1 u (by omega)
                      refine v_lload_n C 2 dX4_lowest_77 rfl ?_
                      refine v_iload C 3 dX4_lowest_78 rfl ?_
                      refine v_i2l C (by omega) dX4_lowest_80 ?_
                      refine v_lmul C dX4_lowest_81 ?_
                      refine v_ldc2 (z := 1000003) C qw786 dX4_lowest_82 rfl ?_
                      refine v_lrem C (by omega) (by omega) dX4_lowest_85 ?_
                      refine v_lstore_n (L1 := [(2, .long (lz ((u * p) % 1000003))), (0, .ref (aa ro)), (1, .int (iz (up))), (4, .int (iz (p))), (6, .int (iz (-(exL k l)))), (7, .int (iz (c)))]) C dX4_lowest_86 (by decide) rfl ?_
                      refine v_iinc (L1 := [(7, .int (iz (c + 1))), (2, .long (lz ((u * p) % 1000003))), (0, .ref (aa ro)), (1, .int (iz (up))), (4, .int (iz (p))), (6, .int (iz (-(exL k l))))]) C 5 dX4_lowest_87 rfl (by decide) rfl ?_
                      refine v_goto (tgt := 70) C dX4_lowest_90 (by decide) ?_
                      refine v_sub [2, 3, 1, 4, 5, 0] rfl ?_
                      exact ih70 (c + 1) ((u * p) % 1000003)  (by first | assumption | omega) (by rw [show (c + 1).toNat = c.toNat + 1 by omega]; show _ = pwM v ((k : Int) + 2) c.toNat * _ % _; rw [hu, hp.1]) (by first | assumption | omega) (by omega)
                refine v_sub [3, 4, 5, 6, 1, 0] rfl ?_
                exact K70 _ (0) (v)  (by first | assumption | omega) (by rfl) (by omega) (Nat.lt_succ_self _)
              · refine v_iload C 0 dX4_lowest_57 rfl ?_
                refine v_goto (tgt := 65) C dX4_lowest_59 (by decide) ?_
                refine v_istore (L1 := [(6, .int (iz (exL k l))), (5, .int (iz (exL k l))), (0, .ref (aa ro)), (1, .int (iz (up))), (2, .long (lz (v))), (4, .int (iz (p)))]) C dX4_lowest_65 (by decide) rfl ?_
                refine v_iconst (z := 0) C dX4_lowest_67 rfl ?_
                refine v_istore (L1 := [(7, .int (iz (0))), (6, .int (iz (exL k l))), (5, .int (iz (exL k l))), (0, .ref (aa ro)), (1, .int (iz (up))), (2, .long (lz (v))), (4, .int (iz (p)))]) C dX4_lowest_68 (by decide) rfl ?_
                have K70 : ∀ (nK : Nat) (c : Int) (u : Int) (hc : 0 ≤ c) (hu : u = pwM v ((k : Int) + 2) c.toNat) (hc2 : c ≤ 0 ∨ c ≤ (exL k l)), ((exL k l) - c).toNat < nK → V E (wC D cy aa ad) 8 m3 70 [(0, .ref (aa ro)), (1, .int (iz (up))), (2, .long (lz (u))), (4, .int (iz (p))), (6, .int (iz (exL k l))), (7, .int (iz (c)))] [] := by
                  intro nK
                  induction nK with
                  | zero => intro c u  hc hu hc2 hn; exact absurd hn (Nat.not_lt_zero _)
                  | succ nK ih70 =>
                    intro c u  hc hu hc2 hn70
                    have hur := pwM_rng (v := v) (p := (k : Int) + 2) (by omega) c.toNat
                    refine v_iload C 5 dX4_lowest_70 rfl ?_
                    refine v_iload C 4 dX4_lowest_72 rfl ?_
                    refine v_icmp_ge (tgt := 93) C dX4_lowest_74 (by decide) (by omega) (by omega) (fun c6 => ?_) (fun c6 => ?_)
                    · refine v_iinc (L1 := [(4, .int (iz (p + 1))), (0, .ref (aa ro)), (1, .int (iz (up))), (2, .long (lz (u))), (6, .int (iz (exL k l))), (7, .int (iz (c)))]) C 3 dX4_lowest_93 rfl (by decide) rfl ?_
                      refine v_goto (tgt := 37) C dX4_lowest_96 (by decide) ?_
                      refine v_sub [1, 2, 3, 0] rfl ?_
                      exact ih37 ((k + 1)) (p + 1) (u) m3 (by first | assumption | omega) (by 
                                                rw [hu, show lowA (fun k => if up = 1 then exL k l else -exL k l) (k + 1) = pwM (lowA (fun k => if up = 1 then exL k l else -exL k l) k) ((k : Int) + 2) (if up = 1 then exL k l else -exL k l).toNat from rfl, ← hv]
                                                first
                                                  | (rw [if_pos (by omega)]; congr 1; omega)
                                                  | (rw [if_neg (by omega)]; congr 1; omega)
                                              ) (by exact hq3.1) (by intro q h; rw [hq3.2 q h]; exact hfk q h) (by omega)
                    · have hm0 := hmul0 u (by omega)
                      have hm1 := hmul1 u (by omega)
                      refine v_lload_n C 2 dX4_lowest_77 rfl ?_
                      refine v_iload C 3 dX4_lowest_78 rfl ?_
                      refine v_i2l C (by omega) dX4_lowest_80 ?_
                      refine v_lmul C dX4_lowest_81 ?_
                      refine v_ldc2 (z := 1000003) C qw786 dX4_lowest_82 rfl ?_
                      refine v_lrem C (by omega) (by omega) dX4_lowest_85 ?_
                      refine v_lstore_n (L1 := [(2, .long (lz ((u * p) % 1000003))), (0, .ref (aa ro)), (1, .int (iz (up))), (4, .int (iz (p))), (6, .int (iz (exL k l))), (7, .int (iz (c)))]) C dX4_lowest_86 (by decide) rfl ?_
                      refine v_iinc (L1 := [(7, .int (iz (c + 1))), (2, .long (lz ((u * p) % 1000003))), (0, .ref (aa ro)), (1, .int (iz (up))), (4, .int (iz (p))), (6, .int (iz (exL k l)))]) C 5 dX4_lowest_87 rfl (by decide) rfl ?_
                      refine v_goto (tgt := 70) C dX4_lowest_90 (by decide) ?_
                      refine v_sub [2, 3, 1, 4, 5, 0] rfl ?_
                      exact ih70 (c + 1) ((u * p) % 1000003)  (by first | assumption | omega) (by rw [show (c + 1).toNat = c.toNat + 1 by omega]; show _ = pwM v ((k : Int) + 2) c.toNat * _ % _; rw [hu, hp.1]) (by first | assumption | omega) (by omega)
                refine v_sub [3, 4, 5, 6, 1, 0] rfl ?_
                exact K70 _ (0) (v)  (by first | assumption | omega) (by rfl) (by omega) (Nat.lt_succ_self _)
        refine v_sub [2, 3, 1, 0] rfl ?_
        exact K37 _ (0) (2) (1) mL (by omega) (by rfl) (by intro j q h; exact hlo j q (by have := (List.getElem?_eq_some_iff.mp h).1; omega) h) (by exact hf) (Nat.lt_succ_self _)
      · refine v_aload_n C 0 dX4_lowest_10 rfl ?_
        refine v_get C ro 2 (RatioAt.l0 hr) (RatioAt.e0 hr _) rfl inX4 (by decide) rfl qw206 dX4_lowest_11 ?_
        refine v_iload_n C 2 dX4_lowest_14 rfl ?_
        refine v_aload_n C 0 dX4_lowest_15 rfl ?_
        refine v_get C ro 0 (RatioAt.l0 hr) (RatioAt.e0 hr _) rfl inX4 (by decide) rfl qw204 dX4_lowest_16 ?_
        refine v_iload_n C 2 dX4_lowest_19 rfl ?_
        refine v_callSN (st := [.int (iz (i)), .ref (aa rr)]) (n := 2) C [.ref (aa rb), .int (iz (i))] (ct_StageRatios_at C.2.2.2.2.2.2.1 mL (rb) (8) (i) ⟨(RatioAt.l1 hr), by decide, (RatioAt.e1 hr)⟩ (by first | assumption | omega)) qw618 qw1 "StageRatios" (by decide +kernel) rfl rfl ⟨Nat.le_of_ble_eq_true rfl, Nat.le_of_ble_eq_true rfl⟩ (by decide +kernel) qw617 rfl rfl (Nat.le_of_ble_eq_true rfl) dX4_lowest_20 (fun r m7 hq7 => ?_)
        obtain ⟨z7, rfl, rfl, rfl⟩ := hq7
        show V E (wC D cy aa ad) 8 mL 23 [(0, .ref (aa ro)), (1, .int (iz (up))), (2, .int (iz (i)))] [.int (iz (mL rb i)), .int (iz (i)), .ref (aa rr)]
        refine v_callSN (st := []) (n := 3) C [.ref (aa rr), .int (iz (i)), .int (iz (mL rb i))] (ct_StageRatios_put C.2.2.2.2.2.2.1 mL (rr) (8) (i) (mL rb i) ⟨(RatioAt.l3 hr), by decide, (RatioAt.e3 hr)⟩ (by first | assumption | omega)) qw494 qw1 "StageRatios" (by decide +kernel) rfl rfl ⟨Nat.le_of_ble_eq_true rfl, Nat.le_of_ble_eq_true rfl⟩ (by decide +kernel) qw493 rfl rfl (Nat.le_of_ble_eq_true rfl) dX4_lowest_23 (fun r m8 hq8 => ?_)
        obtain ⟨rfl, hq8⟩ := hq8
        show V E (wC D cy aa ad) 8 m8 26 [(0, .ref (aa ro)), (1, .int (iz (up))), (2, .int (iz (i)))] []
        refine v_iinc (L1 := [(2, .int (iz (i + 1))), (0, .ref (aa ro)), (1, .int (iz (up)))]) C 2 dX4_lowest_26 rfl (by decide) rfl ?_
        refine v_goto (tgt := 2) C dX4_lowest_29 (by decide) ?_
        refine v_sub [1, 2, 0] rfl ?_
        exact ih2 (i + 1) m8 (by first | assumption | omega) (by 
                    intro j r h0 h1
                    rw [← hq8]
                    by_cases c : (j : Int) = i
                    · rw [c, mup_s, ← c]; exact (hLR.2 j r h1).1
                    · rw [mup_j _ _ c]; exact hlo j r (by omega) h1
                  ) (by intro q h; rw [← hq8, mup_k _ _ _ h]; exact hf q h) (by omega)
  refine v_sub [1, 2, 0] rfl ?_
  exact K2 _ (0) m (by first | assumption | omega) (by intro j q h0 h1; omega) (by intro q h; rfl) (Nat.lt_succ_self _)

set_option maxHeartbeats 4000000 in
set_option maxRecDepth 100000 in
theorem ct_Rocket_failing {lau : Launch} {D : va_G} {cy : Nat → ClassId} {aa ad : Nat → Nat} (hI : wI (wC D cy aa ad)) (m : Mem) (k kf ks kt kc : Nat) (s x : Int) (hk : RocketAt k kf ks kt kc) (hn : 0 ≤ m k 6 ∧ m k 6 ≤ 6) (hs : -2147483648 ≤ s ∧ s ≤ 2147483647) (hx : -2147483648 ≤ x ∧ x ≤ 2147483647) (hff : ∀ i : Int, 0 ≤ i → i < m k 6 → 1 ≤ m kc i ∧ m kc i ≤ 9) (hfr : ∀ i : Int, 0 ≤ i → i < m k 6 → (-10 ≤ m ks i ∧ m ks i ≤ 10) ∧ (1 ≤ m kt i ∧ m kt i ≤ 99)) : MT lau (wC D cy aa ad) yX6_failing cX6_failing 5 (some .int) ({ frames := 1, cells := 0, slots := 0, locals := 21 } : Room) m [.ref (aa k), .int (iz (s)), .int (iz (x))] (Pi (fun z m' => faC (m ks) (m kt) (m kc) s x (m k 6).toNat = z ∧ m = m')) := by
  refine v_entry hI RX6 (by decide) rfl (Nat.le_of_ble_eq_true rfl) (fun E hE C X => ?_)
  subst hE
  show V E (wC D cy aa ad) 5 m 0 [(0, .ref (aa k)), (1, .int (iz (s))), (2, .int (iz (x)))] []
  refine v_iconst (z := 0) C dX6_failing_0 rfl ?_
  refine v_istore_n (L1 := [(3, .int (iz (0))), (0, .ref (aa k)), (1, .int (iz (s))), (2, .int (iz (x)))]) C dX6_failing_1 (by decide) rfl ?_
  refine v_iconst (z := 0) C dX6_failing_2 rfl ?_
  refine v_istore (L1 := [(4, .int (iz (0))), (3, .int (iz (0))), (0, .ref (aa k)), (1, .int (iz (s))), (2, .int (iz (x)))]) C dX6_failing_3 (by decide) rfl ?_
  have K5 : ∀ (nK : Nat) (i : Int) (z : Int) (hi : 0 ≤ i ∧ i ≤ m k 6) (hz : z = faC (m ks) (m kt) (m kc) s x i.toNat), (m k 6 - i).toNat < nK → V E (wC D cy aa ad) 5 m 5 [(0, .ref (aa k)), (1, .int (iz (s))), (2, .int (iz (x))), (3, .int (iz (z))), (4, .int (iz (i)))] [] := by
    intro nK
    induction nK with
    | zero => intro i z  hi hz hn; exact absurd hn (Nat.not_lt_zero _)
    | succ nK ih5 =>
      intro i z  hi hz hn5
      refine v_iload C 4 dX6_failing_5 rfl ?_
      refine v_aload_n C 0 dX6_failing_7 rfl ?_
      refine v_get C k 6 (RocketAt.l0 hk) (RocketAt.e0 hk _) rfl inX6 (by decide) rfl qw389 dX6_failing_8 ?_
      refine v_icmp_ge (tgt := 58) C dX6_failing_11 (by decide) (by omega) (by omega) (fun c1 => ?_) (fun c1 => ?_)
      · refine v_iload_n C 3 dX6_failing_58 rfl ?_
        refine v_iret C X rfl dX6_failing_59 ⟨_, rfl, ?_, ?_⟩
        · rw [hz, show i = m k 6 by omega]
        · rfl
      · refine v_aload_n C 0 dX6_failing_14 rfl ?_
        refine v_get C k 8 (RocketAt.l0 hk) (RocketAt.e0 hk _) rfl inX6 (by decide) rfl qw393 dX6_failing_15 ?_
        have hfi := hfr i (by omega) (by omega)
        refine v_iload C 4 dX6_failing_18 rfl ?_
        refine v_callSN (st := []) (n := 2) C [.ref (aa ks), .int (iz (i))] (ct_StageRatios_at C.2.2.2.2.2.2.1 m (ks) (6) (i) ⟨(RocketAt.l2 hk), by decide, (RocketAt.e2 hk)⟩ (by first | assumption | omega)) qw618 qw1 "StageRatios" (by decide +kernel) rfl rfl ⟨Nat.le_of_ble_eq_true rfl, Nat.le_of_ble_eq_true rfl⟩ (by decide +kernel) qw617 rfl rfl (Nat.le_of_ble_eq_true rfl) dX6_failing_20 (fun r m2 hq2 => ?_)
        obtain ⟨z2, rfl, rfl, rfl⟩ := hq2
        show V E (wC D cy aa ad) 5 m 23 [(0, .ref (aa k)), (1, .int (iz (s))), (2, .int (iz (x))), (3, .int (iz (z))), (4, .int (iz (i)))] [.int (iz (m ks i))]
        refine v_iload_n C 1 dX6_failing_23 rfl ?_
        refine v_icmp_ne (tgt := 52) C dX6_failing_24 (by decide) (by omega) (by omega) (fun c3 => ?_) (fun c3 => ?_)
        · refine v_iinc (L1 := [(4, .int (iz (i + 1))), (0, .ref (aa k)), (1, .int (iz (s))), (2, .int (iz (x))), (3, .int (iz (z)))]) C 4 dX6_failing_52 rfl (by decide) rfl ?_
          refine v_goto (tgt := 5) C dX6_failing_55 (by decide) ?_
          refine v_sub [1, 2, 3, 4, 0] rfl ?_
          exact ih5 (i + 1) (z)  (by first | assumption | omega) (by 
                        rw [show (i + 1).toNat = i.toNat + 1 by omega]; show _ = faC (m ks) (m kt) (m kc) s x i.toNat + ite _ _ _
                        rw [← hz, show ((i.toNat : Nat) : Int) = i by omega]
                        first
                          | rw [if_pos (by omega)]
                          | (rw [if_neg (by omega)]; omega)
                      ) (by omega)
        · refine v_aload_n C 0 dX6_failing_27 rfl ?_
          refine v_get C k 9 (RocketAt.l0 hk) (RocketAt.e0 hk _) rfl inX6 (by decide) rfl qw394 dX6_failing_28 ?_
          refine v_iload C 4 dX6_failing_31 rfl ?_
          refine v_callSN (st := []) (n := 2) C [.ref (aa kt), .int (iz (i))] (ct_StageRatios_at C.2.2.2.2.2.2.1 m (kt) (6) (i) ⟨(RocketAt.l3 hk), by decide, (RocketAt.e3 hk)⟩ (by first | assumption | omega)) qw618 qw1 "StageRatios" (by decide +kernel) rfl rfl ⟨Nat.le_of_ble_eq_true rfl, Nat.le_of_ble_eq_true rfl⟩ (by decide +kernel) qw617 rfl rfl (Nat.le_of_ble_eq_true rfl) dX6_failing_33 (fun r m4 hq4 => ?_)
          obtain ⟨z4, rfl, rfl, rfl⟩ := hq4
          show V E (wC D cy aa ad) 5 m 36 [(0, .ref (aa k)), (1, .int (iz (s))), (2, .int (iz (x))), (3, .int (iz (z))), (4, .int (iz (i)))] [.int (iz (m kt i))]
          refine v_iload_n C 2 dX6_failing_36 rfl ?_
          refine v_icmp_ne (tgt := 52) C dX6_failing_37 (by decide) (by omega) (by omega) (fun c5 => ?_) (fun c5 => ?_)
          · refine v_iinc (L1 := [(4, .int (iz (i + 1))), (0, .ref (aa k)), (1, .int (iz (s))), (2, .int (iz (x))), (3, .int (iz (z)))]) C 4 dX6_failing_52 rfl (by decide) rfl ?_
            refine v_goto (tgt := 5) C dX6_failing_55 (by decide) ?_
            refine v_sub [1, 2, 3, 4, 0] rfl ?_
            exact ih5 (i + 1) (z)  (by first | assumption | omega) (by 
                            rw [show (i + 1).toNat = i.toNat + 1 by omega]; show _ = faC (m ks) (m kt) (m kc) s x i.toNat + ite _ _ _
                            rw [← hz, show ((i.toNat : Nat) : Int) = i by omega]
                            first
                              | rw [if_pos (by omega)]
                              | (rw [if_neg (by omega)]; omega)
                          ) (by omega)
          · refine v_iload_n C 3 dX6_failing_40 rfl ?_
            refine v_aload_n C 0 dX6_failing_41 rfl ?_
            refine v_get C k 10 (RocketAt.l0 hk) (RocketAt.e0 hk _) rfl inX6 (by decide) rfl qw395 dX6_failing_42 ?_
            refine v_iload C 4 dX6_failing_45 rfl ?_
            refine v_callSN (st := [.int (iz (z))]) (n := 2) C [.ref (aa kc), .int (iz (i))] (ct_StageRatios_at C.2.2.2.2.2.2.1 m (kc) (6) (i) ⟨(RocketAt.l4 hk), by decide, (RocketAt.e4 hk)⟩ (by first | assumption | omega)) qw618 qw1 "StageRatios" (by decide +kernel) rfl rfl ⟨Nat.le_of_ble_eq_true rfl, Nat.le_of_ble_eq_true rfl⟩ (by decide +kernel) qw617 rfl rfl (Nat.le_of_ble_eq_true rfl) dX6_failing_47 (fun r m6 hq6 => ?_)
            obtain ⟨z6, rfl, rfl, rfl⟩ := hq6
            show V E (wC D cy aa ad) 5 m 50 [(0, .ref (aa k)), (1, .int (iz (s))), (2, .int (iz (x))), (3, .int (iz (z))), (4, .int (iz (i)))] [.int (iz (m kc i)), .int (iz (z))]
            refine v_iadd C dX6_failing_50 ?_
            refine v_istore_n (L1 := [(3, .int (iz (z + (m kc i)))), (0, .ref (aa k)), (1, .int (iz (s))), (2, .int (iz (x))), (4, .int (iz (i)))]) C dX6_failing_51 (by decide) rfl ?_
            refine v_iinc (L1 := [(4, .int (iz (i + 1))), (3, .int (iz (z + (m kc i)))), (0, .ref (aa k)), (1, .int (iz (s))), (2, .int (iz (x)))]) C 4 dX6_failing_52 rfl (by decide) rfl ?_
            refine v_goto (tgt := 5) C dX6_failing_55 (by decide) ?_
            refine v_sub [2, 3, 4, 1, 0] rfl ?_
            exact ih5 (i + 1) (z + (m kc i))  (by first | assumption | omega) (by 
                            rw [show (i + 1).toNat = i.toNat + 1 by omega]; show _ = faC (m ks) (m kt) (m kc) s x i.toNat + ite _ _ _
                            rw [← hz, show ((i.toNat : Nat) : Int) = i by omega]
                            first
                              | rw [if_pos (by omega)]
                              | (rw [if_neg (by omega)]; omega)
                          ) (by omega)
  refine v_sub [2, 3, 4, 1, 0] rfl ?_
  exact K5 _ (0) (0)  (by first | assumption | omega) (by rfl) (Nat.lt_succ_self _)

set_option maxHeartbeats 4000000 in
set_option maxRecDepth 100000 in
theorem ct_Rocket_lastFailOf {lau : Launch} {D : va_G} {cy : Nat → ClassId} {aa ad : Nat → Nat} (hI : wI (wC D cy aa ad)) (m : Mem) (k kf ks kt kc : Nat) (s : Int) (hk : RocketAt k kf ks kt kc) (hn : 0 ≤ m k 6 ∧ m k 6 ≤ 6) (hs : -2147483648 ≤ s ∧ s ≤ 2147483647) (hfr : ∀ i : Int, 0 ≤ i → i < m k 6 → (-10 ≤ m ks i ∧ m ks i ≤ 10) ∧ (1 ≤ m kt i ∧ m kt i ≤ 99)) : MT lau (wC D cy aa ad) yX6_lastFailOf cX6_lastFailOf 4 (some .int) ({ frames := 1, cells := 0, slots := 0, locals := 21 } : Room) m [.ref (aa k), .int (iz (s))] (Pi (fun z m' => laF (m ks) (m kt) s (m k 6).toNat = z ∧ m = m')) := by
  refine v_entry hI RX6 (by decide) rfl (Nat.le_of_ble_eq_true rfl) (fun E hE C X => ?_)
  subst hE
  show V E (wC D cy aa ad) 4 m 0 [(0, .ref (aa k)), (1, .int (iz (s)))] []
  refine v_iconst (z := 0) C dX6_lastFailOf_0 rfl ?_
  refine v_istore_n (L1 := [(2, .int (iz (0))), (0, .ref (aa k)), (1, .int (iz (s)))]) C dX6_lastFailOf_1 (by decide) rfl ?_
  refine v_iconst (z := 0) C dX6_lastFailOf_2 rfl ?_
  refine v_istore_n (L1 := [(3, .int (iz (0))), (2, .int (iz (0))), (0, .ref (aa k)), (1, .int (iz (s)))]) C dX6_lastFailOf_3 (by decide) rfl ?_
  have K4 : ∀ (nK : Nat) (i : Int) (z : Int) (hi : 0 ≤ i ∧ i ≤ m k 6) (hz : z = laF (m ks) (m kt) s i.toNat), (m k 6 - i).toNat < nK → V E (wC D cy aa ad) 4 m 4 [(0, .ref (aa k)), (1, .int (iz (s))), (2, .int (iz (z))), (3, .int (iz (i)))] [] := by
    intro nK
    induction nK with
    | zero => intro i z  hi hz hn; exact absurd hn (Nat.not_lt_zero _)
    | succ nK ih4 =>
      intro i z  hi hz hn4
      refine v_iload_n C 3 dX6_lastFailOf_4 rfl ?_
      refine v_aload_n C 0 dX6_lastFailOf_5 rfl ?_
      refine v_get C k 6 (RocketAt.l0 hk) (RocketAt.e0 hk _) rfl inX6 (by decide) rfl qw389 dX6_lastFailOf_6 ?_
      refine v_icmp_ge (tgt := 39) C dX6_lastFailOf_9 (by decide) (by omega) (by omega) (fun c1 => ?_) (fun c1 => ?_)
      · refine v_iload_n C 2 dX6_lastFailOf_39 rfl ?_
        refine v_iret C X rfl dX6_lastFailOf_40 ⟨_, rfl, ?_, ?_⟩
        · rw [hz, show i = m k 6 by omega]
        · rfl
      · refine v_aload_n C 0 dX6_lastFailOf_12 rfl ?_
        refine v_get C k 8 (RocketAt.l0 hk) (RocketAt.e0 hk _) rfl inX6 (by decide) rfl qw393 dX6_lastFailOf_13 ?_
        have hfi := hfr i (by omega) (by omega)
        refine v_iload_n C 3 dX6_lastFailOf_16 rfl ?_
        refine v_callSN (st := []) (n := 2) C [.ref (aa ks), .int (iz (i))] (ct_StageRatios_at C.2.2.2.2.2.2.1 m (ks) (6) (i) ⟨(RocketAt.l2 hk), by decide, (RocketAt.e2 hk)⟩ (by first | assumption | omega)) qw618 qw1 "StageRatios" (by decide +kernel) rfl rfl ⟨Nat.le_of_ble_eq_true rfl, Nat.le_of_ble_eq_true rfl⟩ (by decide +kernel) qw617 rfl rfl (Nat.le_of_ble_eq_true rfl) dX6_lastFailOf_17 (fun r m2 hq2 => ?_)
        obtain ⟨z2, rfl, rfl, rfl⟩ := hq2
        show V E (wC D cy aa ad) 4 m 20 [(0, .ref (aa k)), (1, .int (iz (s))), (2, .int (iz (z))), (3, .int (iz (i)))] [.int (iz (m ks i))]
        refine v_iload_n C 1 dX6_lastFailOf_20 rfl ?_
        refine v_icmp_ne (tgt := 33) C dX6_lastFailOf_21 (by decide) (by omega) (by omega) (fun c3 => ?_) (fun c3 => ?_)
        · refine v_iinc (L1 := [(3, .int (iz (i + 1))), (0, .ref (aa k)), (1, .int (iz (s))), (2, .int (iz (z)))]) C 3 dX6_lastFailOf_33 rfl (by decide) rfl ?_
          refine v_goto (tgt := 4) C dX6_lastFailOf_36 (by decide) ?_
          refine v_sub [1, 2, 3, 0] rfl ?_
          exact ih4 (i + 1) (z)  (by first | assumption | omega) (by 
                        rw [show (i + 1).toNat = i.toNat + 1 by omega]; show _ = ite _ _ _
                        rw [← hz, show ((i.toNat : Nat) : Int) = i by omega]
                        first
                          | rw [if_pos (by omega)]
                          | rw [if_neg (by omega)]
                      ) (by omega)
        · refine v_aload_n C 0 dX6_lastFailOf_24 rfl ?_
          refine v_get C k 9 (RocketAt.l0 hk) (RocketAt.e0 hk _) rfl inX6 (by decide) rfl qw394 dX6_lastFailOf_25 ?_
          refine v_iload_n C 3 dX6_lastFailOf_28 rfl ?_
          refine v_callSN (st := []) (n := 2) C [.ref (aa kt), .int (iz (i))] (ct_StageRatios_at C.2.2.2.2.2.2.1 m (kt) (6) (i) ⟨(RocketAt.l3 hk), by decide, (RocketAt.e3 hk)⟩ (by first | assumption | omega)) qw618 qw1 "StageRatios" (by decide +kernel) rfl rfl ⟨Nat.le_of_ble_eq_true rfl, Nat.le_of_ble_eq_true rfl⟩ (by decide +kernel) qw617 rfl rfl (Nat.le_of_ble_eq_true rfl) dX6_lastFailOf_29 (fun r m4 hq4 => ?_)
          obtain ⟨z4, rfl, rfl, rfl⟩ := hq4
          show V E (wC D cy aa ad) 4 m 32 [(0, .ref (aa k)), (1, .int (iz (s))), (2, .int (iz (z))), (3, .int (iz (i)))] [.int (iz (m kt i))]
          refine v_istore_n (L1 := [(2, .int (iz (m kt i))), (0, .ref (aa k)), (1, .int (iz (s))), (3, .int (iz (i)))]) C dX6_lastFailOf_32 (by decide) rfl ?_
          refine v_iinc (L1 := [(3, .int (iz (i + 1))), (2, .int (iz (m kt i))), (0, .ref (aa k)), (1, .int (iz (s)))]) C 3 dX6_lastFailOf_33 rfl (by decide) rfl ?_
          refine v_goto (tgt := 4) C dX6_lastFailOf_36 (by decide) ?_
          refine v_sub [2, 3, 1, 0] rfl ?_
          exact ih4 (i + 1) (m kt i)  (by first | assumption | omega) (by 
                        rw [show (i + 1).toNat = i.toNat + 1 by omega]; show _ = ite _ _ _
                        rw [← hz, show ((i.toNat : Nat) : Int) = i by omega]
                        first
                          | rw [if_pos (by omega)]
                          | rw [if_neg (by omega)]
                      ) (by omega)
  refine v_sub [2, 3, 1, 0] rfl ?_
  exact K4 _ (0) (0)  (by first | assumption | omega) (by rfl) (Nat.lt_succ_self _)
