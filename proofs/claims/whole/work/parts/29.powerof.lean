set_option maxHeartbeats 4000000 in
set_option maxRecDepth 100000 in
theorem ct_Scale_powerOf {lau : Launch} {D : va_G} {cy : Nat → ClassId} {aa ad : Nat → Nat} (hI : wI (wC D cy aa ad)) (m : Mem) (ro rb rp rr : Nat) (l : List (Int × Int)) (U L : Int) (hr : RatioAt ro rb rp rr) (hl : RatL m ro rb rp l) (hok : RatOk l) (hwt : wtL l ≤ 200) (hn : numL l ≤ 2 ^ 560) (hd : denL l ≤ 2 ^ 560) (hU : 2 ≤ U ∧ U ≤ 99) (hL : 1 ≤ L ∧ L < U) (hNB : numL l * L ^ 40 < 281474976710656 ^ 16) (hDB : denL l * U ^ 40 < 281474976710656 ^ 16) : MT lau (wC D cy aa ad) yX7_powerOf cX7_powerOf 12 (some .int) ({ frames := 3, cells := 0, slots := 0, locals := 92 } : Room) m [.ref (aa 7), .ref (aa ro), .int (iz (U)), .int (iz (L))] (Pi (fun z m' => (PwIs (numL l) (denL l) U L z) ∧ (∀ q, q ≠ 15 → q ≠ 16 → q ≠ 17 → q ≠ 18 → m' q = m q))) := by
  refine v_entry hI RX7 (by decide) rfl (Nat.le_of_ble_eq_true rfl) (fun E hE C X => ?_)
  subst hE
  show V E (wC D cy aa ad) 12 m 0 [(0, .ref (aa 7)), (1, .ref (aa ro)), (2, .int (iz (U))), (3, .int (iz (L)))] []
  have hout : Ne7 ro 15 16 17 18 15 15 15 ∧ Ne7 rb 15 16 17 18 15 15 15 ∧ Ne7 rp 15 16 17 18 15 15 15 := by unfold Ne7; unfold RatioAt at hr; omega
  have p1 : 1 ≤ numL l := numL_pos fun q h => (hok.2 q h).1
  have p2 : 1 ≤ denL l := denL_pos fun q h => (hok.2 q h).1
  refine v_aload_n C 1 dX7_powerOf_0 rfl ?_
  refine v_callV (st := []) (n := 0) (q := ro) C [] (ct_Ratio_roughly C.2.2.2.2.2.2.1 m (ro) (rb) (rp) (rr) (l) hr (by exact hl) (by first | assumption | omega) (by first | assumption | omega) (by first | assumption | omega) (by first | assumption | omega)) (RatioAt.l0 hr) (RatioAt.e0 hr _) rfl qw742 qw9 qw739 rfl rfl ⟨Nat.le_of_ble_eq_true rfl, Nat.le_of_ble_eq_true rfl⟩ (by decide +kernel) qw740 qw741 rfl rfl (Nat.le_of_ble_eq_true rfl) dX7_powerOf_1 (fun r m1 hq1 => ?_)
  obtain ⟨z1, rfl, hq1, rfl⟩ := hq1
  show V E (wC D cy aa ad) 12 m 4 [(0, .ref (aa 7)), (1, .ref (aa ro)), (2, .int (iz (U))), (3, .int (iz (L)))] [.double (z1)]
  obtain ⟨c1, q1, f1, -, -, a1, b1, i1, i2, i3, i4⟩ := hq1.parts p1 p2 hn hd
  refine v_dstore (L1 := [(4, .double (z1)), (0, .ref (aa 7)), (1, .ref (aa ro)), (2, .int (iz (U))), (3, .int (iz (L)))]) C dX7_powerOf_4 (by decide) rfl ?_
  refine v_iload_n C 4 dX7_powerOf_6 rfl ?_
  refine v_if_le (tgt := 18) C dX7_powerOf_7 (by decide) (by omega) (fun c2 => ?_) (fun c2 => ?_)
  · exfalso; omega
  · refine v_iload_n C 3 dX7_powerOf_10 rfl ?_
    refine v_i2d C dX7_powerOf_11 ?_
    refine v_iload_n C 4 dX7_powerOf_12 rfl ?_
    refine v_i2d C dX7_powerOf_13 ?_
    refine v_ddiv C dX7_powerOf_14 (fun r3 hr4 => ?_)
    refine v_goto (tgt := 19) C dX7_powerOf_15 (by decide) ?_
    have hstep : RoL r3 U L 4 := RoL.step hU hL hr4
    refine v_dstore (L1 := [(6, .double (r3)), (4, .double (z1)), (0, .ref (aa 7)), (1, .ref (aa ro)), (2, .int (iz (U))), (3, .int (iz (L)))]) C dX7_powerOf_19 (by decide) rfl ?_
    refine v_dconst1 C dX7_powerOf_21 ?_
    refine v_dstore (L1 := [(8, .double (4607182418800017408)), (6, .double (r3)), (4, .double (z1)), (0, .ref (aa 7)), (1, .ref (aa ro)), (2, .int (iz (U))), (3, .int (iz (L)))]) C dX7_powerOf_22 (by decide) rfl ?_
    refine v_bipush (z := -2) C dX7_powerOf_24 (by decide) ?_
    refine v_istore (L1 := [(10, .int (iz (-2))), (8, .double (4607182418800017408)), (6, .double (r3)), (4, .double (z1)), (0, .ref (aa 7)), (1, .ref (aa ro)), (2, .int (iz (U))), (3, .int (iz (L)))]) C dX7_powerOf_26 (by decide) rfl ?_
    refine v_iconst (z := 0) C dX7_powerOf_28 rfl ?_
    refine v_istore (L1 := [(11, .int (iz (0))), (10, .int (iz (-2))), (8, .double (4607182418800017408)), (6, .double (r3)), (4, .double (z1)), (0, .ref (aa 7)), (1, .ref (aa ro)), (2, .int (iz (U))), (3, .int (iz (L)))]) C dX7_powerOf_29 (by decide) rfl ?_
    have K31 : ∀ (nK : Nat) (w : UInt64) (fo : Int) (k : Int) (mL : Mem) (hk : 0 ≤ k ∧ k ≤ 41) (hfo : (k = 0 ∧ fo = -2) ∨ (1 ≤ k ∧ fo = k - 1)) (hw : RoL w (U ^ k.toNat) (L ^ k.toNat) (6 * k.toNat)) (hr1 : ∀ j : Nat, (j : Int) < k → rch (numL l) (denL l) U L j) (hf : ∀ q, q ≠ 15 → q ≠ 16 → q ≠ 17 → q ≠ 18 → mL q = m q), (41 - k).toNat < nK → V E (wC D cy aa ad) 12 mL 31 [(0, .ref (aa 7)), (1, .ref (aa ro)), (2, .int (iz (U))), (3, .int (iz (L))), (4, .double (z1)), (6, .double (r3)), (8, .double (w)), (10, .int (iz (fo))), (11, .int (iz (k)))] [] := by
      intro nK
      induction nK with
      | zero => intro w fo k mL hk hfo hw hr1 hf hn; exact absurd hn (Nat.not_lt_zero _)
      | succ nK ih31 =>
        intro w fo k mL hk hfo hw hr1 hf hn31
        refine v_iload C 8 dX7_powerOf_31 rfl ?_
        refine v_bipush (z := 40) C dX7_powerOf_33 (by decide) ?_
        refine v_icmp_gt (tgt := 103) C dX7_powerOf_35 (by decide) (by omega) (by omega) (fun c5 => ?_) (fun c5 => ?_)
        · refine v_iload C 7 dX7_powerOf_103 rfl ?_
          refine v_iret C X rfl dX7_powerOf_105 ⟨_, rfl, ?_, ?_⟩
          · exact Or.inr ⟨by omega, by omega, fun j h => hr1 j (by omega), Or.inl (by omega)⟩
          · exact hf
        · have u1 := pw_pos (x := U) (by omega) k.toNat
          have u2 := pw_pos (x := L) hL.1 k.toNat
          obtain ⟨c2, q2, f2, up2, dn2, a2, b2, j1, j2, j3, j4⟩ := (hw.mono (j := 800) (by omega)).parts u1 u2 (pw_560 (by omega) hU.2 (by omega)) (pw_560 hL.1 (by omega) (by omega))
          refine v_dload C 4 dX7_powerOf_38 rfl ?_
          refine v_dload C 6 dX7_powerOf_40 rfl ?_
          refine v_dload C 6 dX7_powerOf_42 rfl ?_
          refine v_ldc2d (v := 4487126258331716666) C qw747 dX7_powerOf_44 ?_
          refine v_dmul C dX7_powerOf_47 (fun r6 hr7 => ?_)
          refine v_dsub C dX7_powerOf_48 (fun r8 hr9 => ?_)
          obtain ⟨d5, s5, f5, x5⟩ := dn2 _ _ hr7 hr9
          refine v_dc_ge (tgt := 56) C f1 f5 dX7_powerOf_49 dX7_powerOf_50 (by decide) (fun c10 => ?_) (fun c10 => ?_)
          · refine v_dload C 4 dX7_powerOf_56 rfl ?_
            refine v_dload C 6 dX7_powerOf_58 rfl ?_
            refine v_dload C 6 dX7_powerOf_60 rfl ?_
            refine v_ldc2d (v := 4487126258331716666) C qw747 dX7_powerOf_62 ?_
            refine v_dmul C dX7_powerOf_65 (fun r11 hr12 => ?_)
            refine v_dadd C dX7_powerOf_66 (fun r13 hr14 => ?_)
            obtain ⟨d4, s4, f4, x4⟩ := up2 _ _ hr12 hr14
            refine v_dc_gt (tgt := 86) C f1 f4 dX7_powerOf_67 dX7_powerOf_68 (by decide) (fun c15 => ?_) (fun c15 => ?_)
            · have hrk : rch (numL l) (denL l) U L k.toNat := by
                have z := c_lt i1 i2 j1 j2 (up_core KK_pos (Nat.two_pow_pos 50) i3 j4 x4 (by omega) cst_cmp (Nat.mul_pos (by omega) (by omega)))
                unfold rch; rw [Int.mul_comm (denL l)]; omega
              refine v_iload C 8 dX7_powerOf_86 rfl ?_
              refine v_istore (L1 := [(10, .int (iz (k))), (0, .ref (aa 7)), (1, .ref (aa ro)), (2, .int (iz (U))), (3, .int (iz (L))), (4, .double (z1)), (6, .double (r3)), (8, .double (w)), (11, .int (iz (k)))]) C dX7_powerOf_88 (by decide) rfl ?_
              refine v_dload C 7 dX7_powerOf_90 rfl ?_
              refine v_dload C 6 dX7_powerOf_92 rfl ?_
              refine v_dmul C dX7_powerOf_94 (fun r16 hr17 => ?_)
              refine v_dstore (L1 := [(8, .double (r16)), (10, .int (iz (k))), (0, .ref (aa 7)), (1, .ref (aa ro)), (2, .int (iz (U))), (3, .int (iz (L))), (4, .double (z1)), (6, .double (r3)), (11, .int (iz (k)))]) C dX7_powerOf_95 (by decide) rfl ?_
              refine v_iinc (L1 := [(11, .int (iz (k + 1))), (8, .double (r16)), (10, .int (iz (k))), (0, .ref (aa 7)), (1, .ref (aa ro)), (2, .int (iz (U))), (3, .int (iz (L))), (4, .double (z1)), (6, .double (r3))]) C 8 dX7_powerOf_97 rfl (by decide) rfl ?_
              refine v_goto (tgt := 31) C dX7_powerOf_100 (by decide) ?_
              refine v_sub [3, 4, 5, 6, 7, 8, 1, 2, 0] rfl ?_
              exact ih31 (r16) (k) (k + 1) mL (by first | assumption | omega) (by first | assumption | omega) (by 
                                rw [show (k + 1).toNat = k.toNat + 1 by omega, pw_s, pw_s, show 6 * (k.toNat + 1) = 6 * k.toNat + 6 by omega]
                                exact hw.mul2 hstep hr17 (by omega) (pw_pos (by omega) _) (pw_pos hL.1 _) (by omega) hL.1 (by rw [← pw_s]; exact pw_560 (by omega) hU.2 (by omega)) (by rw [← pw_s]; exact pw_560 hL.1 (by omega) (by omega))
                              ) (by 
                                intro j h
                                by_cases e : (j : Int) = k
                                · rw [show j = k.toNat by omega]; exact hrk
                                · exact hr1 j (by omega)
                              ) (by 
                                first
                                  | exact hf
                                  | (intro q h1 h2 h3 h4; rw [NO_h77 q h1 h2 h3 h4]; exact hf q h1 h2 h3 h4)
                              ) (by omega)
            · refine v_aload_n C 0 dX7_powerOf_71 rfl ?_
              refine v_aload_n C 1 dX7_powerOf_72 rfl ?_
              refine v_iload_n C 2 dX7_powerOf_73 rfl ?_
              refine v_iload_n C 3 dX7_powerOf_74 rfl ?_
              refine v_iload C 8 dX7_powerOf_75 rfl ?_
              refine v_callV (st := []) (n := 4) (q := 7) C [.ref (aa ro), .int (iz (U)), .int (iz (L)), .int (iz (k))] (ct_Scale_isNoLess C.2.2.2.2.2.2.1 mL (ro) (rb) (rp) (rr) (l) (U) (L) (k) hr (by exact hl.fr (hf _ hout.1.1 hout.1.2.1 hout.1.2.2.1 hout.1.2.2.2.1) (hf _ hout.2.1.1 hout.2.1.2.1 hout.2.1.2.2.1 hout.2.1.2.2.2.1) (hf _ hout.2.2.1 hout.2.2.2.1 hout.2.2.2.2.1 hout.2.2.2.2.2.1)) (by exact hok) (by first | assumption | omega) (by first | assumption | omega) (by first | assumption | omega) (by first | assumption | omega) (by first | assumption | omega)) lC7 (eC7 _) rfl qw751 qw10 qw748 rfl rfl ⟨Nat.le_of_ble_eq_true rfl, Nat.le_of_ble_eq_true rfl⟩ (by decide +kernel) qw750 qp21 rfl rfl (Nat.le_of_ble_eq_true rfl) dX7_powerOf_77 (fun r m18 hq18 => ?_)
              obtain ⟨z18, rfl, ⟨rfl, hq18, hm18⟩ | ⟨rfl, hq18, hm18⟩⟩ := hq18
              · show V E (wC D cy aa ad) 12 m18 80 [(0, .ref (aa 7)), (1, .ref (aa ro)), (2, .int (iz (U))), (3, .int (iz (L))), (4, .double (z1)), (6, .double (r3)), (8, .double (w)), (10, .int (iz (fo))), (11, .int (iz (k)))] [.int (iz (1))]
                have hrk := hq18
                refine v_if_ne (tgt := 86) C dX7_powerOf_80 (by decide) (by omega) (fun c19 => ?_) (fun c19 => by exact absurd c19 (by decide))
                refine v_iload C 8 dX7_powerOf_86 rfl ?_
                refine v_istore (L1 := [(10, .int (iz (k))), (0, .ref (aa 7)), (1, .ref (aa ro)), (2, .int (iz (U))), (3, .int (iz (L))), (4, .double (z1)), (6, .double (r3)), (8, .double (w)), (11, .int (iz (k)))]) C dX7_powerOf_88 (by decide) rfl ?_
                refine v_dload C 7 dX7_powerOf_90 rfl ?_
                refine v_dload C 6 dX7_powerOf_92 rfl ?_
                refine v_dmul C dX7_powerOf_94 (fun r20 hr21 => ?_)
                refine v_dstore (L1 := [(8, .double (r20)), (10, .int (iz (k))), (0, .ref (aa 7)), (1, .ref (aa ro)), (2, .int (iz (U))), (3, .int (iz (L))), (4, .double (z1)), (6, .double (r3)), (11, .int (iz (k)))]) C dX7_powerOf_95 (by decide) rfl ?_
                refine v_iinc (L1 := [(11, .int (iz (k + 1))), (8, .double (r20)), (10, .int (iz (k))), (0, .ref (aa 7)), (1, .ref (aa ro)), (2, .int (iz (U))), (3, .int (iz (L))), (4, .double (z1)), (6, .double (r3))]) C 8 dX7_powerOf_97 rfl (by decide) rfl ?_
                refine v_goto (tgt := 31) C dX7_powerOf_100 (by decide) ?_
                refine v_sub [3, 4, 5, 6, 7, 8, 1, 2, 0] rfl ?_
                exact ih31 (r20) (k) (k + 1) m18 (by first | assumption | omega) (by first | assumption | omega) (by 
                                    rw [show (k + 1).toNat = k.toNat + 1 by omega, pw_s, pw_s, show 6 * (k.toNat + 1) = 6 * k.toNat + 6 by omega]
                                    exact hw.mul2 hstep hr21 (by omega) (pw_pos (by omega) _) (pw_pos hL.1 _) (by omega) hL.1 (by rw [← pw_s]; exact pw_560 (by omega) hU.2 (by omega)) (by rw [← pw_s]; exact pw_560 hL.1 (by omega) (by omega))
                                  ) (by 
                                    intro j h
                                    by_cases e : (j : Int) = k
                                    · rw [show j = k.toNat by omega]; exact hrk
                                    · exact hr1 j (by omega)
                                  ) (by 
                                    first
                                      | exact hf
                                      | (intro q h1 h2 h3 h4; rw [hm18 q h1 h2 h3 h4]; exact hf q h1 h2 h3 h4)
                                  ) (by omega)
              · show V E (wC D cy aa ad) 12 m18 80 [(0, .ref (aa 7)), (1, .ref (aa ro)), (2, .int (iz (U))), (3, .int (iz (L))), (4, .double (z1)), (6, .double (r3)), (8, .double (w)), (10, .int (iz (fo))), (11, .int (iz (k)))] [.int (iz (0))]
                have hno := hq18
                refine v_if_ne (tgt := 86) C dX7_powerOf_80 (by decide) (by omega) (fun c22 => by exact absurd c22 (by decide)) (fun c22 => ?_)
                refine v_iload C 7 dX7_powerOf_83 rfl ?_
                refine v_iret C X rfl dX7_powerOf_85 ⟨_, rfl, ?_, ?_⟩
                · rcases hfo with ⟨e1, e2⟩ | ⟨e1, e2⟩
                  · exact Or.inl ⟨e2, by rw [e1] at hno; exact hno⟩
                  · exact Or.inr ⟨by omega, by omega, fun j h => hr1 j (by omega), Or.inr (by rw [show fo.toNat + 1 = k.toNat by omega]; exact hno)⟩
                · intro q h1 h2 h3 h4; rw [hm18 q h1 h2 h3 h4]; exact hf q h1 h2 h3 h4
          · have hno : ¬ rch (numL l) (denL l) U L k.toNat := by
              have z := c_lt j1 j2 i1 i2 (up_core (V4 := Va c2 q2) KK_pos (Nat.two_pow_pos 50) j3 i4 (Nat.le_trans (Nat.mul_le_mul_right _ (by omega)) x5) (Nat.le_refl _) cst_cmp2 (Nat.mul_pos (by omega) (by omega)))
              unfold rch; rw [Int.mul_comm (denL l)]; omega
            refine v_iload C 7 dX7_powerOf_53 rfl ?_
            refine v_iret C X rfl dX7_powerOf_55 ⟨_, rfl, ?_, ?_⟩
            · rcases hfo with ⟨e1, e2⟩ | ⟨e1, e2⟩
              · exact Or.inl ⟨e2, by rw [e1] at hno; exact hno⟩
              · exact Or.inr ⟨by omega, by omega, fun j h => hr1 j (by omega), Or.inr (by rw [show fo.toNat + 1 = k.toNat by omega]; exact hno)⟩
            · exact hf
    refine v_sub [5, 6, 7, 8, 4, 3, 2, 1, 0] rfl ?_
    exact K31 _ (4607182418800017408) (-2) (0) m (by first | assumption | omega) (by first | assumption | omega) (by exact ⟨1, 1, by show ((1 : Nat) : Int) = U ^ 0; rw [Int.pow_zero]; rfl, by show ((1 : Nat) : Int) = L ^ 0; rw [Int.pow_zero]; rfl, Ap.one⟩) (by intro j h; omega) (by intro q _ _ _ _; rfl) (Nat.lt_succ_self _)
