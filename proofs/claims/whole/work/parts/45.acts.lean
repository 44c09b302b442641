set_option maxHeartbeats 4000000 in
set_option maxRecDepth 100000 in
theorem ct_StageRatios_keep {lau : Launch} {D : va_G} {cy : Nat → ClassId} {aa ad : Nat → Nat} (hI : wI (wC D cy aa ad)) (m : Mem)  (hkp : 0 ≤ m 0 16 ∧ m 0 16 ≤ 10) : MT lau (wC D cy aa ad) yX10_keep cX10_keep 2 (none) ({ frames := 1, cells := 0, slots := 0, locals := 22 } : Room) m [.ref (aa 0)] (Pv (fun m' => aKeep (m 0 16) (m 6) (m 5) (m' 0 16) (m' 6) ∧ m' 0 17 = m 0 17 + 1 ∧ (∀ j : Int, j ≠ 16 → j ≠ 17 → m' 0 j = m 0 j) ∧ ∀ q, q ≠ 0 → q ≠ 6 → m' q = m q)) := by
  refine v_entry hI RX10 (by decide) rfl (Nat.le_of_ble_eq_true rfl) (fun E hE C X => ?_)
  subst hE
  show V E (wC D cy aa ad) 2 m 0 [(0, .ref (aa 0))] []
  refine v_aload_n C 0 dX10_keep_0 rfl ?_
  have K48 : ∀  (mB : Mem) (hK : (m 0 16 < 10 ∧ mB 0 16 = m 0 16 ∧ ∀ j : Int, 0 ≤ j → j < 110 → mB 6 j = m 6 j) ∨ (10 ≤ m 0 16 ∧ mB 0 16 = 9 ∧ ∀ j : Int, 0 ≤ j → j < 99 → mB 6 j = m 6 (j + 11))) (h0B : ∀ j : Int, j ≠ 16 → mB 0 j = m 0 j) (hfB : ∀ q, q ≠ 0 → q ≠ 6 → mB q = m q), V E (wC D cy aa ad) 2 mB 48 [(0, .ref (aa 0))] [] := by
    intro  mB hK h0B hfB
    refine v_iconst (z := 0) C dX10_keep_48 rfl ?_
    refine v_istore_n (L1 := [(1, .int (iz (0))), (0, .ref (aa 0))]) C dX10_keep_49 (by decide) rfl ?_
    have K50 : ∀ (nK : Nat) (i : Int) (mC : Mem) (hi : 0 ≤ i ∧ i ≤ 11) (h6C : ∀ j : Int, 0 ≤ j → j < 11 * mB 0 16 + i → mC 6 j = if j < 11 * mB 0 16 then mB 6 j else m 5 (j - 11 * mB 0 16)) (hfC : ∀ q, q ≠ 6 → mC q = mB q), (11 - i).toNat < nK → V E (wC D cy aa ad) 2 mC 50 [(0, .ref (aa 0)), (1, .int (iz (i)))] [] := by
      intro nK
      induction nK with
      | zero => intro i mC hi h6C hfC hn; exact absurd hn (Nat.not_lt_zero _)
      | succ nK ih50 =>
        intro i mC hi h6C hfC hn50
        have hKr : 0 ≤ mB 0 16 ∧ mB 0 16 ≤ 9 := by rcases hK with y | y <;> omega
        have e0C : mC 0 = mB 0 := hfC 0 (by decide)
        have e016 : mC 0 16 = mB 0 16 := by rw [e0C]
        have e5C : mC 5 = m 5 := by rw [hfC 5 (by decide), hfB 5 (by decide) (by decide)]
        refine v_iload_n C 1 dX10_keep_50 rfl ?_
        refine v_bipush (z := 11) C dX10_keep_51 (by decide) ?_
        refine v_icmp_ge (tgt := 86) C dX10_keep_53 (by decide) (by omega) (by omega) (fun c1 => ?_) (fun c1 => ?_)
        · refine v_aload_n C 0 dX10_keep_86 rfl ?_
          refine v_dup C dX10_keep_87 rfl ?_
          refine v_get C 0 16 lC0 (eC0 _) rfl inX10 (by decide) rfl qw435 dX10_keep_88 ?_
          refine v_iconst (z := 1) C dX10_keep_91 rfl ?_
          refine v_iadd C dX10_keep_92 ?_
          refine v_put C 0 16 ((mC 0 16) + 1) 16 rfl lC0 (eC0 _) rfl inX10 tyX10 tyX10_ok nmX10 (by decide) qw435 rfl rfl rfl (Nat.le_of_ble_eq_true rfl) (by rw [mup_r]; exact (eC0 _)) dX10_keep_93 (fun m2 em2 => ?_)
          refine v_aload_n C 0 dX10_keep_96 rfl ?_
          refine v_dup C dX10_keep_97 rfl ?_
          refine v_get C 0 17 lC0 (eC0 _) rfl inX10 (by decide) rfl qw436 dX10_keep_98 ?_
          refine v_iconst (z := 1) C dX10_keep_101 rfl ?_
          refine v_iadd C dX10_keep_102 ?_
          refine v_put C 0 17 ((m2 0 17) + 1) 17 rfl lC0 (eC0 _) rfl inX10 tyX10 tyX10_ok nmX10 (by decide) qw436 rfl rfl rfl (Nat.le_of_ble_eq_true rfl) (by rw [mup_r]; exact (eC0 _)) dX10_keep_103 (fun m3 em3 => ?_)
          refine v_vret C X dX10_keep_106 ⟨rfl, ?_⟩
          have e6 : m3 6 = mC 6 := by rw [em3, mup_k _ _ _ (by decide), em2, mup_k _ _ _ (by decide)]
          have e16 : m3 0 16 = mB 0 16 + 1 := by rw [em3, mup_j _ _ (by decide), em2, mup_s, e016]
          refine ⟨?_, by rw [em3, mup_s, em2, mup_j _ _ (by decide), e0C, h0B 17 (by decide)], fun j h1 h2 => by rw [em3, mup_j _ _ h2, em2, mup_j _ _ h1, e0C, h0B j h1], fun q h1 h2 => by rw [em3, mup_k _ _ _ h1, em2, mup_k _ _ _ h1, hfC q h2, hfB q h1 h2]⟩
          rw [e6, e16]
          have hi11 : i = 11 := by omega
          subst hi11
          rcases hK with ⟨y1, y2, y3⟩ | ⟨y1, y2, y3⟩
          · refine Or.inl ⟨y1, by omega, fun j h0 h1 => ?_, fun j h0 h1 => ?_⟩
            · rw [h6C j h0 (by omega), if_pos (by omega)]; exact y3 j h0 (by omega)
            · rw [h6C _ (by omega) (by omega), if_neg (by omega)]; congr 1; omega
          · refine Or.inr ⟨y1, by omega, fun j h0 h1 => ?_, fun j h0 h1 => ?_⟩
            · rw [h6C j h0 (by omega), if_pos (by omega)]; exact y3 j h0 h1
            · rw [h6C _ (by omega) (by omega), if_neg (by omega)]; congr 1; omega
        · refine v_aload_n C 0 dX10_keep_56 rfl ?_
          refine v_get C 0 3 lC0 (eC0 _) rfl inX10 (by decide) rfl qw422 dX10_keep_57 ?_
          refine v_aload_n C 0 dX10_keep_60 rfl ?_
          refine v_get C 0 16 lC0 (eC0 _) rfl inX10 (by decide) rfl qw435 dX10_keep_61 ?_
          refine v_bipush (z := 11) C dX10_keep_64 (by decide) ?_
          refine v_imul C dX10_keep_66 ?_
          refine v_iload_n C 1 dX10_keep_67 rfl ?_
          refine v_iadd C dX10_keep_68 ?_
          refine v_aload_n C 0 dX10_keep_69 rfl ?_
          refine v_get C 0 2 lC0 (eC0 _) rfl inX10 (by decide) rfl qw421 dX10_keep_70 ?_
          refine v_iload_n C 1 dX10_keep_73 rfl ?_
          refine v_callS (st := [.int (iz (((mC 0 16) * 11) + i)), .ref (aa 6)]) (n := 2) C [.ref (aa 5), .int (iz (i))] (ct_StageRatios_at C.2.2.2.2.2.2.1 mC (5) (11) (i) ⟨lC5, by decide, eC5⟩ (by first | assumption | omega)) qw618 qw1 qw653 rfl rfl ⟨Nat.le_of_ble_eq_true rfl, Nat.le_of_ble_eq_true rfl⟩ (by decide +kernel) qw617 rfl rfl (Nat.le_of_ble_eq_true rfl) dX10_keep_74 (fun r m4 hq4 => ?_)
          obtain ⟨z4, rfl, rfl, rfl⟩ := hq4
          show V E (wC D cy aa ad) 2 mC 77 [(0, .ref (aa 0)), (1, .int (iz (i)))] [.int (iz (mC 5 i)), .int (iz (((mC 0 16) * 11) + i)), .ref (aa 6)]
          refine v_callS (st := []) (n := 3) C [.ref (aa 6), .int (iz (((mC 0 16) * 11) + i)), .int (iz (mC 5 i))] (ct_StageRatios_put C.2.2.2.2.2.2.1 mC (6) (110) (((mC 0 16) * 11) + i) (mC 5 i) ⟨lC6, by decide, eC6⟩ (by omega)) qw494 qw1 qw635 rfl rfl ⟨Nat.le_of_ble_eq_true rfl, Nat.le_of_ble_eq_true rfl⟩ (by decide +kernel) qw493 rfl rfl (Nat.le_of_ble_eq_true rfl) dX10_keep_77 (fun r m5 hq5 => ?_)
          obtain ⟨rfl, hq5⟩ := hq5
          show V E (wC D cy aa ad) 2 m5 80 [(0, .ref (aa 0)), (1, .int (iz (i)))] []
          refine v_iinc (L1 := [(1, .int (iz (i + 1))), (0, .ref (aa 0))]) C 1 dX10_keep_80 rfl (by decide) rfl ?_
          refine v_goto (tgt := 50) C dX10_keep_83 (by decide) ?_
          refine v_sub [1, 0] rfl ?_
          exact ih50 (i + 1) m5 (by first | assumption | omega) (by 
                        intro j h0 h1; rw [← hq5, mup_r]
                        by_cases e : j = mC 0 16 * 11 + i
                        · rw [if_neg (by omega)]; refine (if_pos e).trans ?_; rw [e5C]; congr 1; omega
                        · exact (if_neg e).trans (h6C j h0 (by omega))
                      ) (by intro q h; rw [← hq5, mup_k _ _ _ h]; exact hfC q h) (by omega)
    refine v_sub [1, 0] rfl ?_
    exact K50 _ (0) mB (by first | assumption | omega) (by intro j h0 h1; rw [if_pos (by omega)]) (by intro q _; rfl) (Nat.lt_succ_self _)
  refine v_get C 0 16 lC0 (eC0 _) rfl inX10 (by decide) rfl qw435 dX10_keep_1 ?_
  refine v_bipush (z := 10) C dX10_keep_4 (by decide) ?_
  refine v_icmp_lt (tgt := 48) C dX10_keep_6 (by decide) (by omega) (by omega) (fun c6 => ?_) (fun c6 => ?_)
  · refine v_sub [0] rfl ?_
    exact K48   m (by 
            first
              | exact Or.inl ⟨by omega, rfl, fun _ _ _ => rfl⟩
              | exact Or.inr ⟨by omega, by rw [NO_em45, mup_s], fun j h0 h1 => by rw [NO_em45, mup_k _ _ _ (by decide), h6 j h0 (by omega), if_pos (by omega)]⟩
          ) (by 
            first
              | exact fun _ _ => rfl
              | (intro j h; rw [NO_em45, mup_j _ _ h, hf 0 (by decide)])
          ) (by 
            first
              | exact fun _ _ _ => rfl
              | (intro q h1 h2; rw [NO_em45, mup_k _ _ _ h1]; exact hf q h2)
          )
  · refine v_iconst (z := 0) C dX10_keep_9 rfl ?_
    refine v_istore_n (L1 := [(1, .int (iz (0))), (0, .ref (aa 0))]) C dX10_keep_10 (by decide) rfl ?_
    have K11 : ∀ (nK : Nat) (i : Int) (mA : Mem) (hi : 0 ≤ i ∧ i ≤ 99) (h6 : ∀ j : Int, 0 ≤ j → j < 110 → mA 6 j = if j < i then m 6 (j + 11) else m 6 j) (hf : ∀ q, q ≠ 6 → mA q = m q), (99 - i).toNat < nK → V E (wC D cy aa ad) 2 mA 11 [(0, .ref (aa 0)), (1, .int (iz (i)))] [] := by
      intro nK
      induction nK with
      | zero => intro i mA hi h6 hf hn; exact absurd hn (Nat.not_lt_zero _)
      | succ nK ih11 =>
        intro i mA hi h6 hf hn11
        refine v_iload_n C 1 dX10_keep_11 rfl ?_
        refine v_bipush (z := 99) C dX10_keep_12 (by decide) ?_
        refine v_icmp_ge (tgt := 42) C dX10_keep_14 (by decide) (by omega) (by omega) (fun c7 => ?_) (fun c7 => ?_)
        · refine v_aload_n C 0 dX10_keep_42 rfl ?_
          refine v_bipush (z := 9) C dX10_keep_43 (by decide) ?_
          refine v_put C 0 16 (9) 16 rfl lC0 (eC0 _) rfl inX10 tyX10 tyX10_ok nmX10 (by decide) qw435 rfl rfl rfl (Nat.le_of_ble_eq_true rfl) (by rw [mup_r]; exact (eC0 _)) dX10_keep_45 (fun m8 em8 => ?_)
          refine v_sub [0] rfl ?_
          exact K48   m8 (by 
                        first
                          | exact Or.inl ⟨by omega, rfl, fun _ _ _ => rfl⟩
                          | exact Or.inr ⟨by omega, by rw [em8, mup_s], fun j h0 h1 => by rw [em8, mup_k _ _ _ (by decide), h6 j h0 (by omega), if_pos (by omega)]⟩
                      ) (by 
                        first
                          | exact fun _ _ => rfl
                          | (intro j h; rw [em8, mup_j _ _ h, hf 0 (by decide)])
                      ) (by 
                        first
                          | exact fun _ _ _ => rfl
                          | (intro q h1 h2; rw [em8, mup_k _ _ _ h1]; exact hf q h2)
                      )
        · refine v_aload_n C 0 dX10_keep_17 rfl ?_
          refine v_get C 0 3 lC0 (eC0 _) rfl inX10 (by decide) rfl qw422 dX10_keep_18 ?_
          refine v_iload_n C 1 dX10_keep_21 rfl ?_
          refine v_aload_n C 0 dX10_keep_22 rfl ?_
          refine v_get C 0 3 lC0 (eC0 _) rfl inX10 (by decide) rfl qw422 dX10_keep_23 ?_
          refine v_iload_n C 1 dX10_keep_26 rfl ?_
          refine v_bipush (z := 11) C dX10_keep_27 (by decide) ?_
          refine v_iadd C dX10_keep_29 ?_
          refine v_callS (st := [.int (iz (i)), .ref (aa 6)]) (n := 2) C [.ref (aa 6), .int (iz (i + 11))] (ct_StageRatios_at C.2.2.2.2.2.2.1 mA (6) (110) (i + 11) ⟨lC6, by decide, eC6⟩ (by first | assumption | omega)) qw618 qw1 qw653 rfl rfl ⟨Nat.le_of_ble_eq_true rfl, Nat.le_of_ble_eq_true rfl⟩ (by decide +kernel) qw617 rfl rfl (Nat.le_of_ble_eq_true rfl) dX10_keep_30 (fun r m9 hq9 => ?_)
          obtain ⟨z9, rfl, rfl, rfl⟩ := hq9
          show V E (wC D cy aa ad) 2 mA 33 [(0, .ref (aa 0)), (1, .int (iz (i)))] [.int (iz (mA 6 (i + 11))), .int (iz (i)), .ref (aa 6)]
          refine v_callS (st := []) (n := 3) C [.ref (aa 6), .int (iz (i)), .int (iz (mA 6 (i + 11)))] (ct_StageRatios_put C.2.2.2.2.2.2.1 mA (6) (110) (i) (mA 6 (i + 11)) ⟨lC6, by decide, eC6⟩ (by first | assumption | omega)) qw494 qw1 qw635 rfl rfl ⟨Nat.le_of_ble_eq_true rfl, Nat.le_of_ble_eq_true rfl⟩ (by decide +kernel) qw493 rfl rfl (Nat.le_of_ble_eq_true rfl) dX10_keep_33 (fun r m10 hq10 => ?_)
          obtain ⟨rfl, hq10⟩ := hq10
          show V E (wC D cy aa ad) 2 m10 36 [(0, .ref (aa 0)), (1, .int (iz (i)))] []
          refine v_iinc (L1 := [(1, .int (iz (i + 1))), (0, .ref (aa 0))]) C 1 dX10_keep_36 rfl (by decide) rfl ?_
          refine v_goto (tgt := 11) C dX10_keep_39 (by decide) ?_
          refine v_sub [1, 0] rfl ?_
          exact ih11 (i + 1) m10 (by first | assumption | omega) (by 
                        intro j h0 h1; rw [← hq10, mup_r]
                        by_cases e : j = i
                        · rw [if_pos (by omega)]; refine (if_pos e).trans ?_; rw [h6 (i + 11) (by omega) (by omega), if_neg (by omega), e]
                        · refine (if_neg e).trans ?_
                          rw [h6 j h0 h1]; by_cases d : j < i
                          · rw [if_pos d, if_pos (by omega)]
                          · rw [if_neg d, if_neg (by omega)]
                      ) (by intro q h; rw [← hq10, mup_k _ _ _ h]; exact hf q h) (by omega)
    refine v_sub [1, 0] rfl ?_
    exact K11 _ (0) m (by first | assumption | omega) (by intro j h0 h1; rw [if_neg (by omega)]) (by intro q _; rfl) (Nat.lt_succ_self _)

set_option maxHeartbeats 4000000 in
set_option maxRecDepth 100000 in
theorem ct_StageRatios_change {lau : Launch} {D : va_G} {cy : Nat → ClassId} {aa ad : Nat → Nat} (hI : wI (wC D cy aa ad)) (m : Mem) (p v : Int) (hkp : 0 ≤ m 0 16 ∧ m 0 16 ≤ 10) (hp : 0 ≤ p ∧ p < 11) : MT lau (wC D cy aa ad) yX10_change cX10_change 4 (some .int) ({ frames := 2, cells := 0, slots := 0, locals := 43 } : Room) m [.ref (aa 0), .int (iz (p)), .int (iz (v))] (Pi (fun z m' => m 5 p = z ∧ aKeep (m 0 16) (m 6) (m 5) (m' 0 16) (m' 6) ∧ m' 0 17 = m 0 17 + 1 ∧ (∀ j : Int, j ≠ 16 → j ≠ 17 → m' 0 j = m 0 j) ∧ (∀ j : Int, m' 5 j = if j = p then v else m 5 j) ∧ ∀ q, q ≠ 0 → q ≠ 5 → q ≠ 6 → m' q = m q)) := by
  refine v_entry hI RX10 (by decide) rfl (Nat.le_of_ble_eq_true rfl) (fun E hE C X => ?_)
  subst hE
  show V E (wC D cy aa ad) 4 m 0 [(0, .ref (aa 0)), (1, .int (iz (p))), (2, .int (iz (v)))] []
  refine v_aload_n C 0 dX10_change_0 rfl ?_
  refine v_get C 0 2 lC0 (eC0 _) rfl inX10 (by decide) rfl qw421 dX10_change_1 ?_
  refine v_iload_n C 1 dX10_change_4 rfl ?_
  refine v_callS (st := []) (n := 2) C [.ref (aa 5), .int (iz (p))] (ct_StageRatios_at C.2.2.2.2.2.2.1 m (5) (11) (p) ⟨lC5, by decide, eC5⟩ (by first | assumption | omega)) qw618 qw1 qw653 rfl rfl ⟨Nat.le_of_ble_eq_true rfl, Nat.le_of_ble_eq_true rfl⟩ (by decide +kernel) qw617 rfl rfl (Nat.le_of_ble_eq_true rfl) dX10_change_5 (fun r m1 hq1 => ?_)
  obtain ⟨z1, rfl, rfl, rfl⟩ := hq1
  show V E (wC D cy aa ad) 4 m 8 [(0, .ref (aa 0)), (1, .int (iz (p))), (2, .int (iz (v)))] [.int (iz (m 5 p))]
  refine v_istore_n (L1 := [(3, .int (iz (m 5 p))), (0, .ref (aa 0)), (1, .int (iz (p))), (2, .int (iz (v)))]) C dX10_change_8 (by decide) rfl ?_
  refine v_aload_n C 1 dX10_change_9 rfl ?_
  refine v_callV (st := []) (n := 0) (q := 0) C [] (ct_StageRatios_keep C.2.2.2.2.2.2.1 m  (by first | assumption | omega)) lC0 (eC0 _) rfl qw1028 qw1 qw1025 rfl rfl ⟨Nat.le_of_ble_eq_true rfl, Nat.le_of_ble_eq_true rfl⟩ (by decide +kernel) qw1027 qp32 rfl rfl (Nat.le_of_ble_eq_true rfl) dX10_change_10 (fun r m2 hq2 => ?_)
  obtain ⟨rfl, hq2⟩ := hq2
  show V E (wC D cy aa ad) 4 m2 13 [(3, .int (iz (m 5 p))), (0, .ref (aa 0)), (1, .int (iz (p))), (2, .int (iz (v)))] []
  refine v_aload_n C 1 dX10_change_13 rfl ?_
  refine v_get C 0 2 lC0 (eC0 _) rfl inX10 (by decide) rfl qw421 dX10_change_14 ?_
  refine v_iload_n C 2 dX10_change_17 rfl ?_
  refine v_iload_n C 3 dX10_change_18 rfl ?_
  refine v_callS (st := []) (n := 3) C [.ref (aa 5), .int (iz (p)), .int (iz (v))] (ct_StageRatios_put C.2.2.2.2.2.2.1 m2 (5) (11) (p) (v) ⟨lC5, by decide, eC5⟩ (by first | assumption | omega)) qw494 qw1 qw635 rfl rfl ⟨Nat.le_of_ble_eq_true rfl, Nat.le_of_ble_eq_true rfl⟩ (by decide +kernel) qw493 rfl rfl (Nat.le_of_ble_eq_true rfl) dX10_change_19 (fun r m3 hq3 => ?_)
  obtain ⟨rfl, hq3⟩ := hq3
  show V E (wC D cy aa ad) 4 m3 22 [(3, .int (iz (m 5 p))), (0, .ref (aa 0)), (1, .int (iz (p))), (2, .int (iz (v)))] []
  refine v_iload_n C 0 dX10_change_22 rfl ?_
  refine v_iret C X rfl dX10_change_23 ⟨_, rfl, ?_, ?_⟩
  · rfl
  · have o1 := hq2.2.2.2
    rw [← hq3, mup_k _ _ _ (show (0 : Nat) ≠ 5 by decide), mup_k _ _ _ (show (6 : Nat) ≠ 5 by decide), mup_r]
    exact ⟨hq2.1, hq2.2.1, hq2.2.2.1, fun j => by rw [o1 5 (by decide) (by decide)], fun q h1 h2 h3 => by rw [mup_k _ _ _ h2]; exact o1 q h1 h3⟩

set_option maxHeartbeats 4000000 in
set_option maxRecDepth 100000 in
theorem ct_StageRatios_load {lau : Launch} {D : va_G} {cy : Nat → ClassId} {aa ad : Nat → Nat} (hI : wI (wC D cy aa ad)) (m : Mem) (k kf ks kt kc : Nat) (s w : Int) (hci : CI m k kf ks kt kc) (hch : m 0 17 < 100000) (hs : -2147483648 ≤ s ∧ s ≤ 2147483647) (hw : -2147483648 ≤ w ∧ w ≤ 2147483647) : MT lau (wC D cy aa ad) yX10_load cX10_load 3 (some .int) ({ frames := 3, cells := 0, slots := 0, locals := 66 } : Room) m [.ref (aa 0), .int (iz (s)), .int (iz (w))] (Pi (fun z m' => (AP (qLoa (m 0 15) (m kf) (m k) (m 5) s w) m m' z) ∧ CI m' k kf ks kt kc)) := by
  refine v_entry hI RX10 (by decide) rfl (Nat.le_of_ble_eq_true rfl) (fun E hE C X => ?_)
  subst hE
  show V E (wC D cy aa ad) 3 m 0 [(0, .ref (aa 0)), (1, .int (iz (s))), (2, .int (iz (w)))] []
  obtain ⟨hk, hcu, htd, -⟩ := id hci
  have ht01 : m 0 15 = 0 ∨ m 0 15 = 1 := htd.imp (fun a => a) (fun a => a.1)
  refine v_aload_n C 0 dX10_load_0 rfl ?_
  refine v_iload_n C 1 dX10_load_1 rfl ?_
  refine v_callV (st := []) (n := 1) (q := 0) C [.int (iz (s))] (ct_StageRatios_has C.2.2.2.2.2.2.1 m (k) (kf) (ks) (kt) (kc) (s) (by first | assumption | omega) (by first | assumption | omega) (by first | assumption | omega) (by first | assumption | omega)) lC0 (eC0 _) rfl qw661 qw1 qw658 rfl rfl ⟨Nat.le_of_ble_eq_true rfl, Nat.le_of_ble_eq_true rfl⟩ (by decide +kernel) qw660 qp17 rfl rfl (Nat.le_of_ble_eq_true rfl) dX10_load_2 (fun r m1 hq1 => ?_)
  obtain ⟨z1, rfl, ⟨rfl, hq1, rfl⟩ | ⟨rfl, hq1, rfl⟩⟩ := hq1
  · show V E (wC D cy aa ad) 3 m 5 [(0, .ref (aa 0)), (1, .int (iz (s))), (2, .int (iz (w)))] [.int (iz (1))]
    refine v_if_ne (tgt := 14) C dX10_load_5 (by decide) (by omega) (fun c2 => ?_) (fun c2 => by exact absurd c2 (by decide))
    have hhs := hq1
    obtain ⟨hT1, hs0⟩ := id hhs
    obtain ⟨-, hti⟩ := htd.resolve_left (by omega)
    obtain ⟨hrk, hX, -⟩ := id hti
    obtain ⟨hk5, hF, hup, hlw, hpl, hnf, hfa, -⟩ := id hrk
    have hkk : 73 ≤ k ∧ 73 ≤ kf ∧ 73 ≤ ks ∧ 73 ≤ kt ∧ 73 ≤ kc := by unfold RocketAt at hk; omega
    have hUr := hX.u hF
    have hDv := hX.dv hF hk5
    have hfs := hF s hs0.1 hs0.2
    refine v_iload_n C 2 dX10_load_14 rfl ?_
    refine v_if_lt (tgt := 31) C dX10_load_15 (by decide) (by omega) (fun c3 => ?_) (fun c3 => ?_)
    · refine v_aload_n C 0 dX10_load_31 rfl ?_
      refine v_iconst (z := 2) C dX10_load_32 rfl ?_
      refine v_callV (st := []) (n := 1) (q := 0) C [.int (iz (2))] (ct_StageRatios_refuse C.2.2.2.2.2.2.1 m (2) ) lC0 (eC0 _) rfl qw502 qw1 qw499 rfl rfl ⟨Nat.le_of_ble_eq_true rfl, Nat.le_of_ble_eq_true rfl⟩ (by decide +kernel) qw501 qp0 rfl rfl (Nat.le_of_ble_eq_true rfl) dX10_load_33 (fun r m4 hq4 => ?_)
      obtain ⟨z4, rfl, rfl, hq4⟩ := hq4
      show V E (wC D cy aa ad) 3 m4 36 [(0, .ref (aa 0)), (1, .int (iz (s))), (2, .int (iz (w)))] [.int (iz (-1))]
      refine v_iret C X rfl dX10_load_36 ⟨_, rfl, ?_, ?_⟩
      · rw [← hq4]
        exact ⟨2, 0, by decide, Or.inr (Or.inl ⟨hhs, by omega, rfl, rfl, rfl⟩), Or.inl ⟨rfl, CQ.of (fun _ _ => rfl)⟩⟩
      · rw [← hq4]; exact hci.of (fun _ _ => rfl)
    · refine v_iload_n C 2 dX10_load_18 rfl ?_
      refine v_aload_n C 0 dX10_load_19 rfl ?_
      refine v_get C 0 13 lC0 (eC0 _) rfl inX10 (by decide) rfl qw432 dX10_load_20 ?_
      refine v_st (st1 := [.ref (aa k), .int (iz (w))]) (by rw [show (m 0 13).toNat = k from by assumption]) ?_
      refine v_iload_n C 1 dX10_load_23 rfl ?_
      refine v_iconst (z := 3) C dX10_load_24 rfl ?_
      refine v_callV (st := [.int (iz (w))]) (n := 2) (q := k) C [.int (iz (s)), .int (iz (3))] (ct_Rocket_fact C.2.2.2.2.2.2.1 m (k) (kf) (ks) (kt) (kc) (s) (3) hk (by first | assumption | omega) (by first | assumption | omega)) (RocketAt.l0 hk) (RocketAt.e0 hk _) rfl qw590 qw15 qw636 rfl rfl ⟨Nat.le_of_ble_eq_true rfl, Nat.le_of_ble_eq_true rfl⟩ (by decide +kernel) qw588 qw589 rfl rfl (Nat.le_of_ble_eq_true rfl) dX10_load_25 (fun r m5 hq5 => ?_)
      obtain ⟨z5, rfl, rfl, rfl⟩ := hq5
      show V E (wC D cy aa ad) 3 m 28 [(0, .ref (aa 0)), (1, .int (iz (s))), (2, .int (iz (w)))] [.int (iz (m kf (s * 9 + 3))), .int (iz (w))]
      refine v_icmp_le (tgt := 37) C dX10_load_28 (by decide) (by omega) (by omega) (fun c6 => ?_) (fun c6 => ?_)
      · refine v_aload_n C 0 dX10_load_37 rfl ?_
        refine v_aload_n C 0 dX10_load_38 rfl ?_
        refine v_iconst (z := 2) C dX10_load_39 rfl ?_
        refine v_iload_n C 1 dX10_load_40 rfl ?_
        refine v_iadd C dX10_load_41 ?_
        refine v_iload_n C 2 dX10_load_42 rfl ?_
        refine v_callV (st := [.ref (aa 0)]) (n := 2) (q := 0) C [.int (iz (2 + s)), .int (iz (w))] (ct_StageRatios_change C.2.2.2.2.2.2.1 m (2 + s) (w) (by exact hti.2.2.2.2.1) (by first | assumption | omega)) lC0 (eC0 _) rfl qw1036 qw1 qw1033 rfl rfl ⟨Nat.le_of_ble_eq_true rfl, Nat.le_of_ble_eq_true rfl⟩ (by decide +kernel) qw1035 qp33 rfl rfl (Nat.le_of_ble_eq_true rfl) dX10_load_43 (fun r m7 hq7 => ?_)
        obtain ⟨z7, rfl, rfl, hq7⟩ := hq7
        show V E (wC D cy aa ad) 3 m7 46 [(0, .ref (aa 0)), (1, .int (iz (s))), (2, .int (iz (w)))] [.int (iz (m 5 (2 + s))), .ref (aa 0)]
        refine v_callV (st := []) (n := 1) (q := 0) C [.int (iz (m 5 (2 + s)))] (ct_StageRatios_answer C.2.2.2.2.2.2.1 m7 (m 5 (2 + s)) ) lC0 (eC0 _) rfl qw640 qw1 qw637 rfl rfl ⟨Nat.le_of_ble_eq_true rfl, Nat.le_of_ble_eq_true rfl⟩ (by decide +kernel) qw639 qp16 rfl rfl (Nat.le_of_ble_eq_true rfl) dX10_load_46 (fun r m8 hq8 => ?_)
        obtain ⟨z8, rfl, rfl, hq8⟩ := hq8
        show V E (wC D cy aa ad) 3 m8 49 [(0, .ref (aa 0)), (1, .int (iz (s))), (2, .int (iz (w)))] [.int (iz ((m 5 (2 + s))))]
        refine v_iret C X rfl dX10_load_49 ⟨_, rfl, ?_, ?_⟩
        · refine ⟨0, 1, by decide, ?_, Or.inr (Or.inl ⟨rfl, ?_⟩)⟩
          · have e5 : m8 5 = m7 5 := by rw [← hq8, mup_k _ _ _ (by decide)]
            rw [e5]
            exact Or.inl ⟨⟨hhs, by omega, by omega⟩, rfl, rfl, rfl, fun j _ _ => hq7.2.2.2.1 j⟩
          · refine ⟨by rw [← hq8, mup_s], by rw [← hq8, mup_j _ _ (by decide)]; exact hq7.2.1, fun j h1 h2 h3 => by rw [← hq8, mup_j _ _ h3]; exact hq7.2.2.1 j h1 h2, ?_, fun q h => by rw [← hq8, mup_k _ _ _ (by omega)]; exact hq7.2.2.2.2 q (by omega) (by omega) (by omega)⟩
            rw [← hq8, mup_j _ _ (by decide), mup_k _ _ _ (by decide)]; exact hq7.1
        · have hpa := hti.2.2.2.2.2.2.keep hti.2.2.2.2.1 hX hq7.1
          have z : ∀ q : Nat, q ≠ 0 → m8 q = m7 q := fun q h => by rw [← hq8, mup_k _ _ _ h]
          have z0 : ∀ j : Int, j ≠ 18 → m8 0 j = m7 0 j := fun j h => by rw [← hq8, mup_j _ _ h]
          refine CI.act hk hcu hT1 hti hch (fun j h1 h2 h3 => by rw [z0 j h3]; exact hq7.2.2.1 j h1 h2) (by rw [z0 17 (by decide)]; exact hq7.2.1) (fun q h => by rw [z q (by omega)]; exact hq7.2.2.2.2 q (by omega) (by omega) (by omega)) (by unfold ChOk; rw [z 8 (by decide), z 9 (by decide), hq7.2.2.2.2 8 (by decide) (by decide) (by decide), hq7.2.2.2.2 9 (by decide) (by decide) (by decide)]; exact hti.2.2.1) ?_ (by rw [z 6 (by decide), z0 16 (by decide)]; exact hpa)
          rw [z 5 (by decide)]
          refine ⟨by rw [hq7.2.2.2.1 0, if_neg (by omega)]; exact hX.1, by rw [hq7.2.2.2.1 1, if_neg (by omega)]; exact hX.2.1, fun s9 h0 h1 => ?_⟩
          rw [hq7.2.2.2.1, hq7.2.2.2.1, hq7.2.2.2.1]
          have y := hX.2.2 s9 h0 h1
          have ms : s < m k 5 → mstZ (m kf) (m k 5) s = m kf (s * 9 + 3) := fun h => if_pos h
          rw [if_neg (show ¬ (5 + s9 = 2 + s) by omega), if_neg (show ¬ (8 + s9 = 2 + s) by omega)]
          by_cases e : s9 = s
          · subst e; rw [if_pos rfl]; have := ms hs0.2; exact ⟨by omega, y.2⟩
          · rw [if_neg (by omega)]; exact y
      · refine v_aload_n C 0 dX10_load_31 rfl ?_
        refine v_iconst (z := 2) C dX10_load_32 rfl ?_
        refine v_callV (st := []) (n := 1) (q := 0) C [.int (iz (2))] (ct_StageRatios_refuse C.2.2.2.2.2.2.1 m (2) ) lC0 (eC0 _) rfl qw502 qw1 qw499 rfl rfl ⟨Nat.le_of_ble_eq_true rfl, Nat.le_of_ble_eq_true rfl⟩ (by decide +kernel) qw501 qp0 rfl rfl (Nat.le_of_ble_eq_true rfl) dX10_load_33 (fun r m9 hq9 => ?_)
        obtain ⟨z9, rfl, rfl, hq9⟩ := hq9
        show V E (wC D cy aa ad) 3 m9 36 [(0, .ref (aa 0)), (1, .int (iz (s))), (2, .int (iz (w)))] [.int (iz (-1))]
        refine v_iret C X rfl dX10_load_36 ⟨_, rfl, ?_, ?_⟩
        · rw [← hq9]
          exact ⟨2, 0, by decide, Or.inr (Or.inl ⟨hhs, by omega, rfl, rfl, rfl⟩), Or.inl ⟨rfl, CQ.of (fun _ _ => rfl)⟩⟩
        · rw [← hq9]; exact hci.of (fun _ _ => rfl)
  · show V E (wC D cy aa ad) 3 m 5 [(0, .ref (aa 0)), (1, .int (iz (s))), (2, .int (iz (w)))] [.int (iz (0))]
    refine v_if_ne (tgt := 14) C dX10_load_5 (by decide) (by omega) (fun c10 => by exact absurd c10 (by decide)) (fun c10 => ?_)
    refine v_aload_n C 0 dX10_load_8 rfl ?_
    refine v_iconst (z := 1) C dX10_load_9 rfl ?_
    refine v_callV (st := []) (n := 1) (q := 0) C [.int (iz (1))] (ct_StageRatios_refuse C.2.2.2.2.2.2.1 m (1) ) lC0 (eC0 _) rfl qw502 qw1 qw499 rfl rfl ⟨Nat.le_of_ble_eq_true rfl, Nat.le_of_ble_eq_true rfl⟩ (by decide +kernel) qw501 qp0 rfl rfl (Nat.le_of_ble_eq_true rfl) dX10_load_10 (fun r m11 hq11 => ?_)
    obtain ⟨z11, rfl, rfl, hq11⟩ := hq11
    show V E (wC D cy aa ad) 3 m11 13 [(0, .ref (aa 0)), (1, .int (iz (s))), (2, .int (iz (w)))] [.int (iz (-1))]
    refine v_iret C X rfl dX10_load_13 ⟨_, rfl, ?_, ?_⟩
    · rw [← hq11]
      exact ⟨1, 0, by decide, Or.inr (Or.inr ⟨hq1, rfl, rfl, rfl⟩), Or.inl ⟨rfl, CQ.of (fun _ _ => rfl)⟩⟩
    · rw [← hq11]; exact hci.of (fun _ _ => rfl)

set_option maxHeartbeats 4000000 in
set_option maxRecDepth 100000 in
theorem ct_StageRatios_payload {lau : Launch} {D : va_G} {cy : Nat → ClassId} {aa ad : Nat → Nat} (hI : wI (wC D cy aa ad)) (m : Mem) (k kf ks kt kc : Nat) (v : Int) (hci : CI m k kf ks kt kc) (hch : m 0 17 < 100000) (hv : -2147483648 ≤ v ∧ v ≤ 2147483647) : MT lau (wC D cy aa ad) yX10_payload cX10_payload 2 (some .int) ({ frames := 3, cells := 0, slots := 0, locals := 66 } : Room) m [.ref (aa 0), .int (iz (v))] (Pi (fun z m' => (AP (qPut (m 0 15) (m 5) 0 40 v) m m' z) ∧ CI m' k kf ks kt kc)) := by
  refine v_entry hI RX10 (by decide) rfl (Nat.le_of_ble_eq_true rfl) (fun E hE C X => ?_)
  subst hE
  show V E (wC D cy aa ad) 2 m 0 [(0, .ref (aa 0)), (1, .int (iz (v)))] []
  obtain ⟨hk, hcu, htd, -⟩ := id hci
  have ht01 : m 0 15 = 0 ∨ m 0 15 = 1 := htd.imp (fun a => a) (fun a => a.1)
  refine v_aload_n C 0 dX10_payload_0 rfl ?_
  refine v_get C 0 15 lC0 (eC0 _) rfl inX10 (by decide) rfl qw434 dX10_payload_1 ?_
  refine v_if_ne (tgt := 13) C dX10_payload_4 (by decide) (by omega) (fun c1 => ?_) (fun c1 => ?_)
  · obtain ⟨hT1, hti⟩ := htd.resolve_left (by omega)
    obtain ⟨hrk, hX, -⟩ := id hti
    obtain ⟨hk5, hF, hup, hlw, hpl, hnf, hfa, -⟩ := id hrk
    have hkk : 73 ≤ k ∧ 73 ≤ kf ∧ 73 ≤ ks ∧ 73 ≤ kt ∧ 73 ≤ kc := by unfold RocketAt at hk; omega
    have hUr := hX.u hF
    have hDv := hX.dv hF hk5
    refine v_iload_n C 1 dX10_payload_13 rfl ?_
    refine v_iconst (z := 1) C dX10_payload_14 rfl ?_
    refine v_icmp_lt (tgt := 24) C dX10_payload_15 (by decide) (by omega) (by omega) (fun c2 => ?_) (fun c2 => ?_)
    · refine v_aload_n C 0 dX10_payload_24 rfl ?_
      refine v_iconst (z := 2) C dX10_payload_25 rfl ?_
      refine v_callV (st := []) (n := 1) (q := 0) C [.int (iz (2))] (ct_StageRatios_refuse C.2.2.2.2.2.2.1 m (2) ) lC0 (eC0 _) rfl qw502 qw1 qw499 rfl rfl ⟨Nat.le_of_ble_eq_true rfl, Nat.le_of_ble_eq_true rfl⟩ (by decide +kernel) qw501 qp0 rfl rfl (Nat.le_of_ble_eq_true rfl) dX10_payload_26 (fun r m3 hq3 => ?_)
      obtain ⟨z3, rfl, rfl, hq3⟩ := hq3
      show V E (wC D cy aa ad) 2 m3 29 [(0, .ref (aa 0)), (1, .int (iz (v)))] [.int (iz (-1))]
      refine v_iret C X rfl dX10_payload_29 ⟨_, rfl, ?_, ?_⟩
      · rw [← hq3]
        exact ⟨2, 0, by decide, Or.inr (Or.inl ⟨hT1, by omega, rfl, rfl, rfl⟩), Or.inl ⟨rfl, CQ.of (fun _ _ => rfl)⟩⟩
      · rw [← hq3]; exact hci.of (fun _ _ => rfl)
    · refine v_iload_n C 1 dX10_payload_18 rfl ?_
      refine v_bipush (z := 40) C dX10_payload_19 (by decide) ?_
      refine v_icmp_le (tgt := 30) C dX10_payload_21 (by decide) (by omega) (by omega) (fun c4 => ?_) (fun c4 => ?_)
      · refine v_aload_n C 0 dX10_payload_30 rfl ?_
        refine v_aload_n C 0 dX10_payload_31 rfl ?_
        refine v_iconst (z := 0) C dX10_payload_32 rfl ?_
        refine v_iload_n C 1 dX10_payload_33 rfl ?_
        refine v_callV (st := [.ref (aa 0)]) (n := 2) (q := 0) C [.int (iz (0)), .int (iz (v))] (ct_StageRatios_change C.2.2.2.2.2.2.1 m (0) (v) (by exact hti.2.2.2.2.1) (by first | assumption | omega)) lC0 (eC0 _) rfl qw1036 qw1 qw1033 rfl rfl ⟨Nat.le_of_ble_eq_true rfl, Nat.le_of_ble_eq_true rfl⟩ (by decide +kernel) qw1035 qp33 rfl rfl (Nat.le_of_ble_eq_true rfl) dX10_payload_34 (fun r m5 hq5 => ?_)
        obtain ⟨z5, rfl, rfl, hq5⟩ := hq5
        show V E (wC D cy aa ad) 2 m5 37 [(0, .ref (aa 0)), (1, .int (iz (v)))] [.int (iz (m 5 0)), .ref (aa 0)]
        refine v_callV (st := []) (n := 1) (q := 0) C [.int (iz (m 5 0))] (ct_StageRatios_answer C.2.2.2.2.2.2.1 m5 (m 5 0) ) lC0 (eC0 _) rfl qw640 qw1 qw637 rfl rfl ⟨Nat.le_of_ble_eq_true rfl, Nat.le_of_ble_eq_true rfl⟩ (by decide +kernel) qw639 qp16 rfl rfl (Nat.le_of_ble_eq_true rfl) dX10_payload_37 (fun r m6 hq6 => ?_)
        obtain ⟨z6, rfl, rfl, hq6⟩ := hq6
        show V E (wC D cy aa ad) 2 m6 40 [(0, .ref (aa 0)), (1, .int (iz (v)))] [.int (iz ((m 5 0)))]
        refine v_iret C X rfl dX10_payload_40 ⟨_, rfl, ?_, ?_⟩
        · refine ⟨0, 1, by decide, ?_, Or.inr (Or.inl ⟨rfl, ?_⟩)⟩
          · have e5 : m6 5 = m5 5 := by rw [← hq6, mup_k _ _ _ (by decide)]
            rw [e5]
            exact Or.inl ⟨⟨hT1, by omega, by omega⟩, rfl, rfl, rfl, fun j _ _ => hq5.2.2.2.1 j⟩
          · refine ⟨by rw [← hq6, mup_s], by rw [← hq6, mup_j _ _ (by decide)]; exact hq5.2.1, fun j h1 h2 h3 => by rw [← hq6, mup_j _ _ h3]; exact hq5.2.2.1 j h1 h2, ?_, fun q h => by rw [← hq6, mup_k _ _ _ (by omega)]; exact hq5.2.2.2.2 q (by omega) (by omega) (by omega)⟩
            rw [← hq6, mup_j _ _ (by decide), mup_k _ _ _ (by decide)]; exact hq5.1
        · have hpa := hti.2.2.2.2.2.2.keep hti.2.2.2.2.1 hX hq5.1
          have z : ∀ q : Nat, q ≠ 0 → m6 q = m5 q := fun q h => by rw [← hq6, mup_k _ _ _ h]
          have z0 : ∀ j : Int, j ≠ 18 → m6 0 j = m5 0 j := fun j h => by rw [← hq6, mup_j _ _ h]
          refine CI.act hk hcu hT1 hti hch (fun j h1 h2 h3 => by rw [z0 j h3]; exact hq5.2.2.1 j h1 h2) (by rw [z0 17 (by decide)]; exact hq5.2.1) (fun q h => by rw [z q (by omega)]; exact hq5.2.2.2.2 q (by omega) (by omega) (by omega)) (by unfold ChOk; rw [z 8 (by decide), z 9 (by decide), hq5.2.2.2.2 8 (by decide) (by decide) (by decide), hq5.2.2.2.2 9 (by decide) (by decide) (by decide)]; exact hti.2.2.1) ?_ (by rw [z 6 (by decide), z0 16 (by decide)]; exact hpa)
          rw [z 5 (by decide)]
          refine ⟨by rw [hq5.2.2.2.1 0]; rw [if_pos rfl]; omega, by rw [hq5.2.2.2.1 1]; rw [if_neg (by decide)]; exact hX.2.1, fun s9 h0 h1 => ?_⟩
          rw [hq5.2.2.2.1, hq5.2.2.2.1, hq5.2.2.2.1, if_neg (by omega), if_neg (by omega), if_neg (by omega)]
          exact hX.2.2 s9 h0 h1
      · refine v_aload_n C 0 dX10_payload_24 rfl ?_
        refine v_iconst (z := 2) C dX10_payload_25 rfl ?_
        refine v_callV (st := []) (n := 1) (q := 0) C [.int (iz (2))] (ct_StageRatios_refuse C.2.2.2.2.2.2.1 m (2) ) lC0 (eC0 _) rfl qw502 qw1 qw499 rfl rfl ⟨Nat.le_of_ble_eq_true rfl, Nat.le_of_ble_eq_true rfl⟩ (by decide +kernel) qw501 qp0 rfl rfl (Nat.le_of_ble_eq_true rfl) dX10_payload_26 (fun r m7 hq7 => ?_)
        obtain ⟨z7, rfl, rfl, hq7⟩ := hq7
        show V E (wC D cy aa ad) 2 m7 29 [(0, .ref (aa 0)), (1, .int (iz (v)))] [.int (iz (-1))]
        refine v_iret C X rfl dX10_payload_29 ⟨_, rfl, ?_, ?_⟩
        · rw [← hq7]
          exact ⟨2, 0, by decide, Or.inr (Or.inl ⟨hT1, by omega, rfl, rfl, rfl⟩), Or.inl ⟨rfl, CQ.of (fun _ _ => rfl)⟩⟩
        · rw [← hq7]; exact hci.of (fun _ _ => rfl)
  · refine v_aload_n C 0 dX10_payload_7 rfl ?_
    refine v_iconst (z := 1) C dX10_payload_8 rfl ?_
    refine v_callV (st := []) (n := 1) (q := 0) C [.int (iz (1))] (ct_StageRatios_refuse C.2.2.2.2.2.2.1 m (1) ) lC0 (eC0 _) rfl qw502 qw1 qw499 rfl rfl ⟨Nat.le_of_ble_eq_true rfl, Nat.le_of_ble_eq_true rfl⟩ (by decide +kernel) qw501 qp0 rfl rfl (Nat.le_of_ble_eq_true rfl) dX10_payload_9 (fun r m8 hq8 => ?_)
    obtain ⟨z8, rfl, rfl, hq8⟩ := hq8
    show V E (wC D cy aa ad) 2 m8 12 [(0, .ref (aa 0)), (1, .int (iz (v)))] [.int (iz (-1))]
    refine v_iret C X rfl dX10_payload_12 ⟨_, rfl, ?_, ?_⟩
    · rw [← hq8]
      exact ⟨1, 0, by decide, Or.inr (Or.inr ⟨by omega, rfl, rfl, rfl⟩), Or.inl ⟨rfl, CQ.of (fun _ _ => rfl)⟩⟩
    · rw [← hq8]; exact hci.of (fun _ _ => rfl)

set_option maxHeartbeats 4000000 in
set_option maxRecDepth 100000 in
theorem ct_StageRatios_power {lau : Launch} {D : va_G} {cy : Nat → ClassId} {aa ad : Nat → Nat} (hI : wI (wC D cy aa ad)) (m : Mem) (k kf ks kt kc : Nat) (v : Int) (hci : CI m k kf ks kt kc) (hch : m 0 17 < 100000) (hv : -2147483648 ≤ v ∧ v ≤ 2147483647) : MT lau (wC D cy aa ad) yX10_power cX10_power 2 (some .int) ({ frames := 3, cells := 0, slots := 0, locals := 66 } : Room) m [.ref (aa 0), .int (iz (v))] (Pi (fun z m' => (AP (qPut (m 0 15) (m 5) 1 12 v) m m' z) ∧ CI m' k kf ks kt kc)) := by
  refine v_entry hI RX10 (by decide) rfl (Nat.le_of_ble_eq_true rfl) (fun E hE C X => ?_)
  subst hE
  show V E (wC D cy aa ad) 2 m 0 [(0, .ref (aa 0)), (1, .int (iz (v)))] []
  obtain ⟨hk, hcu, htd, -⟩ := id hci
  have ht01 : m 0 15 = 0 ∨ m 0 15 = 1 := htd.imp (fun a => a) (fun a => a.1)
  refine v_aload_n C 0 dX10_power_0 rfl ?_
  refine v_get C 0 15 lC0 (eC0 _) rfl inX10 (by decide) rfl qw434 dX10_power_1 ?_
  refine v_if_ne (tgt := 13) C dX10_power_4 (by decide) (by omega) (fun c1 => ?_) (fun c1 => ?_)
  · obtain ⟨hT1, hti⟩ := htd.resolve_left (by omega)
    obtain ⟨hrk, hX, -⟩ := id hti
    obtain ⟨hk5, hF, hup, hlw, hpl, hnf, hfa, -⟩ := id hrk
    have hkk : 73 ≤ k ∧ 73 ≤ kf ∧ 73 ≤ ks ∧ 73 ≤ kt ∧ 73 ≤ kc := by unfold RocketAt at hk; omega
    have hUr := hX.u hF
    have hDv := hX.dv hF hk5
    refine v_iload_n C 1 dX10_power_13 rfl ?_
    refine v_iconst (z := 1) C dX10_power_14 rfl ?_
    refine v_icmp_lt (tgt := 24) C dX10_power_15 (by decide) (by omega) (by omega) (fun c2 => ?_) (fun c2 => ?_)
    · refine v_aload_n C 0 dX10_power_24 rfl ?_
      refine v_iconst (z := 2) C dX10_power_25 rfl ?_
      refine v_callV (st := []) (n := 1) (q := 0) C [.int (iz (2))] (ct_StageRatios_refuse C.2.2.2.2.2.2.1 m (2) ) lC0 (eC0 _) rfl qw502 qw1 qw499 rfl rfl ⟨Nat.le_of_ble_eq_true rfl, Nat.le_of_ble_eq_true rfl⟩ (by decide +kernel) qw501 qp0 rfl rfl (Nat.le_of_ble_eq_true rfl) dX10_power_26 (fun r m3 hq3 => ?_)
      obtain ⟨z3, rfl, rfl, hq3⟩ := hq3
      show V E (wC D cy aa ad) 2 m3 29 [(0, .ref (aa 0)), (1, .int (iz (v)))] [.int (iz (-1))]
      refine v_iret C X rfl dX10_power_29 ⟨_, rfl, ?_, ?_⟩
      · rw [← hq3]
        exact ⟨2, 0, by decide, Or.inr (Or.inl ⟨hT1, by omega, rfl, rfl, rfl⟩), Or.inl ⟨rfl, CQ.of (fun _ _ => rfl)⟩⟩
      · rw [← hq3]; exact hci.of (fun _ _ => rfl)
    · refine v_iload_n C 1 dX10_power_18 rfl ?_
      refine v_bipush (z := 12) C dX10_power_19 (by decide) ?_
      refine v_icmp_le (tgt := 30) C dX10_power_21 (by decide) (by omega) (by omega) (fun c4 => ?_) (fun c4 => ?_)
      · refine v_aload_n C 0 dX10_power_30 rfl ?_
        refine v_aload_n C 0 dX10_power_31 rfl ?_
        refine v_iconst (z := 1) C dX10_power_32 rfl ?_
        refine v_iload_n C 1 dX10_power_33 rfl ?_
        refine v_callV (st := [.ref (aa 0)]) (n := 2) (q := 0) C [.int (iz (1)), .int (iz (v))] (ct_StageRatios_change C.2.2.2.2.2.2.1 m (1) (v) (by exact hti.2.2.2.2.1) (by first | assumption | omega)) lC0 (eC0 _) rfl qw1036 qw1 qw1033 rfl rfl ⟨Nat.le_of_ble_eq_true rfl, Nat.le_of_ble_eq_true rfl⟩ (by decide +kernel) qw1035 qp33 rfl rfl (Nat.le_of_ble_eq_true rfl) dX10_power_34 (fun r m5 hq5 => ?_)
        obtain ⟨z5, rfl, rfl, hq5⟩ := hq5
        show V E (wC D cy aa ad) 2 m5 37 [(0, .ref (aa 0)), (1, .int (iz (v)))] [.int (iz (m 5 1)), .ref (aa 0)]
        refine v_callV (st := []) (n := 1) (q := 0) C [.int (iz (m 5 1))] (ct_StageRatios_answer C.2.2.2.2.2.2.1 m5 (m 5 1) ) lC0 (eC0 _) rfl qw640 qw1 qw637 rfl rfl ⟨Nat.le_of_ble_eq_true rfl, Nat.le_of_ble_eq_true rfl⟩ (by decide +kernel) qw639 qp16 rfl rfl (Nat.le_of_ble_eq_true rfl) dX10_power_37 (fun r m6 hq6 => ?_)
        obtain ⟨z6, rfl, rfl, hq6⟩ := hq6
        show V E (wC D cy aa ad) 2 m6 40 [(0, .ref (aa 0)), (1, .int (iz (v)))] [.int (iz ((m 5 1)))]
        refine v_iret C X rfl dX10_power_40 ⟨_, rfl, ?_, ?_⟩
        · refine ⟨0, 1, by decide, ?_, Or.inr (Or.inl ⟨rfl, ?_⟩)⟩
          · have e5 : m6 5 = m5 5 := by rw [← hq6, mup_k _ _ _ (by decide)]
            rw [e5]
            exact Or.inl ⟨⟨hT1, by omega, by omega⟩, rfl, rfl, rfl, fun j _ _ => hq5.2.2.2.1 j⟩
          · refine ⟨by rw [← hq6, mup_s], by rw [← hq6, mup_j _ _ (by decide)]; exact hq5.2.1, fun j h1 h2 h3 => by rw [← hq6, mup_j _ _ h3]; exact hq5.2.2.1 j h1 h2, ?_, fun q h => by rw [← hq6, mup_k _ _ _ (by omega)]; exact hq5.2.2.2.2 q (by omega) (by omega) (by omega)⟩
            rw [← hq6, mup_j _ _ (by decide), mup_k _ _ _ (by decide)]; exact hq5.1
        · have hpa := hti.2.2.2.2.2.2.keep hti.2.2.2.2.1 hX hq5.1
          have z : ∀ q : Nat, q ≠ 0 → m6 q = m5 q := fun q h => by rw [← hq6, mup_k _ _ _ h]
          have z0 : ∀ j : Int, j ≠ 18 → m6 0 j = m5 0 j := fun j h => by rw [← hq6, mup_j _ _ h]
          refine CI.act hk hcu hT1 hti hch (fun j h1 h2 h3 => by rw [z0 j h3]; exact hq5.2.2.1 j h1 h2) (by rw [z0 17 (by decide)]; exact hq5.2.1) (fun q h => by rw [z q (by omega)]; exact hq5.2.2.2.2 q (by omega) (by omega) (by omega)) (by unfold ChOk; rw [z 8 (by decide), z 9 (by decide), hq5.2.2.2.2 8 (by decide) (by decide) (by decide), hq5.2.2.2.2 9 (by decide) (by decide) (by decide)]; exact hti.2.2.1) ?_ (by rw [z 6 (by decide), z0 16 (by decide)]; exact hpa)
          rw [z 5 (by decide)]
          refine ⟨by rw [hq5.2.2.2.1 0]; rw [if_neg (by decide)]; exact hX.1, by rw [hq5.2.2.2.1 1]; rw [if_pos rfl]; omega, fun s9 h0 h1 => ?_⟩
          rw [hq5.2.2.2.1, hq5.2.2.2.1, hq5.2.2.2.1, if_neg (by omega), if_neg (by omega), if_neg (by omega)]
          exact hX.2.2 s9 h0 h1
      · refine v_aload_n C 0 dX10_power_24 rfl ?_
        refine v_iconst (z := 2) C dX10_power_25 rfl ?_
        refine v_callV (st := []) (n := 1) (q := 0) C [.int (iz (2))] (ct_StageRatios_refuse C.2.2.2.2.2.2.1 m (2) ) lC0 (eC0 _) rfl qw502 qw1 qw499 rfl rfl ⟨Nat.le_of_ble_eq_true rfl, Nat.le_of_ble_eq_true rfl⟩ (by decide +kernel) qw501 qp0 rfl rfl (Nat.le_of_ble_eq_true rfl) dX10_power_26 (fun r m7 hq7 => ?_)
        obtain ⟨z7, rfl, rfl, hq7⟩ := hq7
        show V E (wC D cy aa ad) 2 m7 29 [(0, .ref (aa 0)), (1, .int (iz (v)))] [.int (iz (-1))]
        refine v_iret C X rfl dX10_power_29 ⟨_, rfl, ?_, ?_⟩
        · rw [← hq7]
          exact ⟨2, 0, by decide, Or.inr (Or.inl ⟨hT1, by omega, rfl, rfl, rfl⟩), Or.inl ⟨rfl, CQ.of (fun _ _ => rfl)⟩⟩
        · rw [← hq7]; exact hci.of (fun _ _ => rfl)
  · refine v_aload_n C 0 dX10_power_7 rfl ?_
    refine v_iconst (z := 1) C dX10_power_8 rfl ?_
    refine v_callV (st := []) (n := 1) (q := 0) C [.int (iz (1))] (ct_StageRatios_refuse C.2.2.2.2.2.2.1 m (1) ) lC0 (eC0 _) rfl qw502 qw1 qw499 rfl rfl ⟨Nat.le_of_ble_eq_true rfl, Nat.le_of_ble_eq_true rfl⟩ (by decide +kernel) qw501 qp0 rfl rfl (Nat.le_of_ble_eq_true rfl) dX10_power_9 (fun r m8 hq8 => ?_)
    obtain ⟨z8, rfl, rfl, hq8⟩ := hq8
    show V E (wC D cy aa ad) 2 m8 12 [(0, .ref (aa 0)), (1, .int (iz (v)))] [.int (iz (-1))]
    refine v_iret C X rfl dX10_power_12 ⟨_, rfl, ?_, ?_⟩
    · rw [← hq8]
      exact ⟨1, 0, by decide, Or.inr (Or.inr ⟨by omega, rfl, rfl, rfl⟩), Or.inl ⟨rfl, CQ.of (fun _ _ => rfl)⟩⟩
    · rw [← hq8]; exact hci.of (fun _ _ => rfl)

set_option maxHeartbeats 4000000 in
set_option maxRecDepth 100000 in
theorem ct_StageRatios_bounds {lau : Launch} {D : va_G} {cy : Nat → ClassId} {aa ad : Nat → Nat} (hI : wI (wC D cy aa ad)) (m : Mem) (k kf ks kt kc : Nat) (s lo hi : Int) (hci : CI m k kf ks kt kc) (hch : m 0 17 < 100000) (hs : -2147483648 ≤ s ∧ s ≤ 2147483647) (hlo : -2147483648 ≤ lo ∧ lo ≤ 2147483647) (hhi : -2147483648 ≤ hi ∧ hi ≤ 2147483647) : MT lau (wC D cy aa ad) yX10_bounds cX10_bounds 5 (some .int) ({ frames := 2, cells := 0, slots := 0, locals := 43 } : Room) m [.ref (aa 0), .int (iz (s)), .int (iz (lo)), .int (iz (hi))] (Pi (fun z m' => (AP (qBou (m 0 15) (m kf) (m k) (m 5) s lo hi) m m' z) ∧ CI m' k kf ks kt kc)) := by
  refine v_entry hI RX10 (by decide) rfl (Nat.le_of_ble_eq_true rfl) (fun E hE C X => ?_)
  subst hE
  show V E (wC D cy aa ad) 5 m 0 [(0, .ref (aa 0)), (1, .int (iz (s))), (2, .int (iz (lo))), (3, .int (iz (hi)))] []
  obtain ⟨hk, hcu, htd, -⟩ := id hci
  have ht01 : m 0 15 = 0 ∨ m 0 15 = 1 := htd.imp (fun a => a) (fun a => a.1)
  refine v_aload_n C 0 dX10_bounds_0 rfl ?_
  refine v_iload_n C 1 dX10_bounds_1 rfl ?_
  refine v_callV (st := []) (n := 1) (q := 0) C [.int (iz (s))] (ct_StageRatios_has C.2.2.2.2.2.2.1 m (k) (kf) (ks) (kt) (kc) (s) (by first | assumption | omega) (by first | assumption | omega) (by first | assumption | omega) (by first | assumption | omega)) lC0 (eC0 _) rfl qw661 qw1 qw658 rfl rfl ⟨Nat.le_of_ble_eq_true rfl, Nat.le_of_ble_eq_true rfl⟩ (by decide +kernel) qw660 qp17 rfl rfl (Nat.le_of_ble_eq_true rfl) dX10_bounds_2 (fun r m1 hq1 => ?_)
  obtain ⟨z1, rfl, ⟨rfl, hq1, rfl⟩ | ⟨rfl, hq1, rfl⟩⟩ := hq1
  · show V E (wC D cy aa ad) 5 m 5 [(0, .ref (aa 0)), (1, .int (iz (s))), (2, .int (iz (lo))), (3, .int (iz (hi)))] [.int (iz (1))]
    refine v_if_ne (tgt := 14) C dX10_bounds_5 (by decide) (by omega) (fun c2 => ?_) (fun c2 => by exact absurd c2 (by decide))
    have hhs := hq1
    obtain ⟨hT1, hs0⟩ := id hhs
    obtain ⟨-, hti⟩ := htd.resolve_left (by omega)
    obtain ⟨hrk, hX, -⟩ := id hti
    obtain ⟨hk5, hF, hup, hlw, hpl, hnf, hfa, -⟩ := id hrk
    have hkk : 73 ≤ k ∧ 73 ≤ kf ∧ 73 ≤ ks ∧ 73 ≤ kt ∧ 73 ≤ kc := by unfold RocketAt at hk; omega
    have hUr := hX.u hF
    have hDv := hX.dv hF hk5
    have hfs := hF s hs0.1 hs0.2
    refine v_iload_n C 2 dX10_bounds_14 rfl ?_
    refine v_if_lt (tgt := 36) C dX10_bounds_15 (by decide) (by omega) (fun c3 => ?_) (fun c3 => ?_)
    · refine v_aload_n C 0 dX10_bounds_36 rfl ?_
      refine v_iconst (z := 2) C dX10_bounds_37 rfl ?_
      refine v_callV (st := []) (n := 1) (q := 0) C [.int (iz (2))] (ct_StageRatios_refuse C.2.2.2.2.2.2.1 m (2) ) lC0 (eC0 _) rfl qw502 qw1 qw499 rfl rfl ⟨Nat.le_of_ble_eq_true rfl, Nat.le_of_ble_eq_true rfl⟩ (by decide +kernel) qw501 qp0 rfl rfl (Nat.le_of_ble_eq_true rfl) dX10_bounds_38 (fun r m4 hq4 => ?_)
      obtain ⟨z4, rfl, rfl, hq4⟩ := hq4
      show V E (wC D cy aa ad) 5 m4 41 [(0, .ref (aa 0)), (1, .int (iz (s))), (2, .int (iz (lo))), (3, .int (iz (hi)))] [.int (iz (-1))]
      refine v_iret C X rfl dX10_bounds_41 ⟨_, rfl, ?_, ?_⟩
      · rw [← hq4]
        exact ⟨2, 0, by decide, Or.inr (Or.inl ⟨hhs, by omega, rfl, rfl, rfl⟩), Or.inl ⟨rfl, CQ.of (fun _ _ => rfl)⟩⟩
      · rw [← hq4]; exact hci.of (fun _ _ => rfl)
    · refine v_iload_n C 2 dX10_bounds_18 rfl ?_
      refine v_iload_n C 3 dX10_bounds_19 rfl ?_
      refine v_icmp_gt (tgt := 36) C dX10_bounds_20 (by decide) (by omega) (by omega) (fun c5 => ?_) (fun c5 => ?_)
      · refine v_aload_n C 0 dX10_bounds_36 rfl ?_
        refine v_iconst (z := 2) C dX10_bounds_37 rfl ?_
        refine v_callV (st := []) (n := 1) (q := 0) C [.int (iz (2))] (ct_StageRatios_refuse C.2.2.2.2.2.2.1 m (2) ) lC0 (eC0 _) rfl qw502 qw1 qw499 rfl rfl ⟨Nat.le_of_ble_eq_true rfl, Nat.le_of_ble_eq_true rfl⟩ (by decide +kernel) qw501 qp0 rfl rfl (Nat.le_of_ble_eq_true rfl) dX10_bounds_38 (fun r m6 hq6 => ?_)
        obtain ⟨z6, rfl, rfl, hq6⟩ := hq6
        show V E (wC D cy aa ad) 5 m6 41 [(0, .ref (aa 0)), (1, .int (iz (s))), (2, .int (iz (lo))), (3, .int (iz (hi)))] [.int (iz (-1))]
        refine v_iret C X rfl dX10_bounds_41 ⟨_, rfl, ?_, ?_⟩
        · rw [← hq6]
          exact ⟨2, 0, by decide, Or.inr (Or.inl ⟨hhs, by omega, rfl, rfl, rfl⟩), Or.inl ⟨rfl, CQ.of (fun _ _ => rfl)⟩⟩
        · rw [← hq6]; exact hci.of (fun _ _ => rfl)
      · refine v_iload_n C 3 dX10_bounds_23 rfl ?_
        refine v_aload_n C 0 dX10_bounds_24 rfl ?_
        refine v_get C 0 13 lC0 (eC0 _) rfl inX10 (by decide) rfl qw432 dX10_bounds_25 ?_
        refine v_st (st1 := [.ref (aa k), .int (iz (hi))]) (by rw [show (m 0 13).toNat = k from by assumption]) ?_
        refine v_iload_n C 1 dX10_bounds_28 rfl ?_
        refine v_iconst (z := 3) C dX10_bounds_29 rfl ?_
        refine v_callV (st := [.int (iz (hi))]) (n := 2) (q := k) C [.int (iz (s)), .int (iz (3))] (ct_Rocket_fact C.2.2.2.2.2.2.1 m (k) (kf) (ks) (kt) (kc) (s) (3) hk (by first | assumption | omega) (by first | assumption | omega)) (RocketAt.l0 hk) (RocketAt.e0 hk _) rfl qw590 qw15 qw636 rfl rfl ⟨Nat.le_of_ble_eq_true rfl, Nat.le_of_ble_eq_true rfl⟩ (by decide +kernel) qw588 qw589 rfl rfl (Nat.le_of_ble_eq_true rfl) dX10_bounds_30 (fun r m7 hq7 => ?_)
        obtain ⟨z7, rfl, rfl, rfl⟩ := hq7
        show V E (wC D cy aa ad) 5 m 33 [(0, .ref (aa 0)), (1, .int (iz (s))), (2, .int (iz (lo))), (3, .int (iz (hi)))] [.int (iz (m kf (s * 9 + 3))), .int (iz (hi))]
        refine v_icmp_le (tgt := 42) C dX10_bounds_33 (by decide) (by omega) (by omega) (fun c8 => ?_) (fun c8 => ?_)
        · refine v_aload_n C 0 dX10_bounds_42 rfl ?_
          refine v_get C 0 2 lC0 (eC0 _) rfl inX10 (by decide) rfl qw421 dX10_bounds_43 ?_
          refine v_bipush (z := 8) C dX10_bounds_46 (by decide) ?_
          refine v_iload_n C 1 dX10_bounds_48 rfl ?_
          refine v_iadd C dX10_bounds_49 ?_
          refine v_callS (st := []) (n := 2) C [.ref (aa 5), .int (iz (8 + s))] (ct_StageRatios_at C.2.2.2.2.2.2.1 m (5) (11) (8 + s) ⟨lC5, by decide, eC5⟩ (by first | assumption | omega)) qw618 qw1 qw653 rfl rfl ⟨Nat.le_of_ble_eq_true rfl, Nat.le_of_ble_eq_true rfl⟩ (by decide +kernel) qw617 rfl rfl (Nat.le_of_ble_eq_true rfl) dX10_bounds_50 (fun r m9 hq9 => ?_)
          obtain ⟨z9, rfl, rfl, rfl⟩ := hq9
          show V E (wC D cy aa ad) 5 m 53 [(0, .ref (aa 0)), (1, .int (iz (s))), (2, .int (iz (lo))), (3, .int (iz (hi)))] [.int (iz (m 5 (8 + s)))]
          refine v_aload_n C 0 dX10_bounds_53 rfl ?_
          refine v_get C 0 2 lC0 (eC0 _) rfl inX10 (by decide) rfl qw421 dX10_bounds_54 ?_
          refine v_iconst (z := 5) C dX10_bounds_57 rfl ?_
          refine v_iload_n C 1 dX10_bounds_58 rfl ?_
          refine v_iadd C dX10_bounds_59 ?_
          refine v_callS (st := [.int (iz (m 5 (8 + s)))]) (n := 2) C [.ref (aa 5), .int (iz (5 + s))] (ct_StageRatios_at C.2.2.2.2.2.2.1 m (5) (11) (5 + s) ⟨lC5, by decide, eC5⟩ (by first | assumption | omega)) qw618 qw1 qw653 rfl rfl ⟨Nat.le_of_ble_eq_true rfl, Nat.le_of_ble_eq_true rfl⟩ (by decide +kernel) qw617 rfl rfl (Nat.le_of_ble_eq_true rfl) dX10_bounds_60 (fun r m10 hq10 => ?_)
          obtain ⟨z10, rfl, rfl, rfl⟩ := hq10
          show V E (wC D cy aa ad) 5 m 63 [(0, .ref (aa 0)), (1, .int (iz (s))), (2, .int (iz (lo))), (3, .int (iz (hi)))] [.int (iz (m 5 (5 + s))), .int (iz (m 5 (8 + s)))]
          refine v_isub C dX10_bounds_63 ?_
          refine v_istore (L1 := [(4, .int (iz ((m 5 (8 + s)) - (m 5 (5 + s))))), (0, .ref (aa 0)), (1, .int (iz (s))), (2, .int (iz (lo))), (3, .int (iz (hi)))]) C dX10_bounds_64 (by decide) rfl ?_
          refine v_aload_n C 1 dX10_bounds_66 rfl ?_
          refine v_callV (st := []) (n := 0) (q := 0) C [] (ct_StageRatios_keep C.2.2.2.2.2.2.1 m  (by exact hti.2.2.2.2.1)) lC0 (eC0 _) rfl qw1028 qw1 qw1025 rfl rfl ⟨Nat.le_of_ble_eq_true rfl, Nat.le_of_ble_eq_true rfl⟩ (by decide +kernel) qw1027 qp32 rfl rfl (Nat.le_of_ble_eq_true rfl) dX10_bounds_67 (fun r m11 hq11 => ?_)
          obtain ⟨rfl, hq11⟩ := hq11
          show V E (wC D cy aa ad) 5 m11 70 [(4, .int (iz ((m 5 (8 + s)) - (m 5 (5 + s))))), (0, .ref (aa 0)), (1, .int (iz (s))), (2, .int (iz (lo))), (3, .int (iz (hi)))] []
          have o1 := hq11.2.2.2
          refine v_aload_n C 1 dX10_bounds_70 rfl ?_
          refine v_get C 0 2 lC0 (eC0 _) rfl inX10 (by decide) rfl qw421 dX10_bounds_71 ?_
          refine v_iconst (z := 5) C dX10_bounds_74 rfl ?_
          refine v_iload_n C 2 dX10_bounds_75 rfl ?_
          refine v_iadd C dX10_bounds_76 ?_
          refine v_iload_n C 3 dX10_bounds_77 rfl ?_
          refine v_callS (st := []) (n := 3) C [.ref (aa 5), .int (iz (5 + s)), .int (iz (lo))] (ct_StageRatios_put C.2.2.2.2.2.2.1 m11 (5) (11) (5 + s) (lo) ⟨lC5, by decide, eC5⟩ (by first | assumption | omega)) qw494 qw1 qw635 rfl rfl ⟨Nat.le_of_ble_eq_true rfl, Nat.le_of_ble_eq_true rfl⟩ (by decide +kernel) qw493 rfl rfl (Nat.le_of_ble_eq_true rfl) dX10_bounds_78 (fun r m12 hq12 => ?_)
          obtain ⟨rfl, hq12⟩ := hq12
          show V E (wC D cy aa ad) 5 m12 81 [(4, .int (iz ((m 5 (8 + s)) - (m 5 (5 + s))))), (0, .ref (aa 0)), (1, .int (iz (s))), (2, .int (iz (lo))), (3, .int (iz (hi)))] []
          refine v_aload_n C 1 dX10_bounds_81 rfl ?_
          refine v_get C 0 2 lC0 (eC0 _) rfl inX10 (by decide) rfl qw421 dX10_bounds_82 ?_
          refine v_bipush (z := 8) C dX10_bounds_85 (by decide) ?_
          refine v_iload_n C 2 dX10_bounds_87 rfl ?_
          refine v_iadd C dX10_bounds_88 ?_
          refine v_iload_n C 4 dX10_bounds_89 rfl ?_
          refine v_callS (st := []) (n := 3) C [.ref (aa 5), .int (iz (8 + s)), .int (iz (hi))] (ct_StageRatios_put C.2.2.2.2.2.2.1 m12 (5) (11) (8 + s) (hi) ⟨lC5, by decide, eC5⟩ (by first | assumption | omega)) qw494 qw1 qw635 rfl rfl ⟨Nat.le_of_ble_eq_true rfl, Nat.le_of_ble_eq_true rfl⟩ (by decide +kernel) qw493 rfl rfl (Nat.le_of_ble_eq_true rfl) dX10_bounds_90 (fun r m13 hq13 => ?_)
          obtain ⟨rfl, hq13⟩ := hq13
          show V E (wC D cy aa ad) 5 m13 93 [(4, .int (iz ((m 5 (8 + s)) - (m 5 (5 + s))))), (0, .ref (aa 0)), (1, .int (iz (s))), (2, .int (iz (lo))), (3, .int (iz (hi)))] []
          have e5b : ∀ j : Int, m12 5 j = if j = 5 + s then lo else m 5 j := fun j => by rw [← hq12, mup_r, o1 5 (by decide) (by decide)]
          have h5x : ∀ j : Int, m13 5 j = if j = 5 + s then lo else if j = 8 + s then hi else m 5 j := fun j => by
            rw [← hq13, mup_r]
            by_cases e : j = 8 + s
            · rw [if_neg (show ¬ j = 5 + s by omega), if_pos e]; exact if_pos e
            · rw [if_neg e]; exact (if_neg e).trans (e5b j)
          have z90 : ∀ q : Nat, q ≠ 5 → m13 q = m11 q := fun q h => by rw [← hq13, mup_k _ _ _ h, ← hq12, mup_k _ _ _ h]
          have h17 : m13 0 17 = m 0 17 + 1 := by rw [z90 0 (by decide)]; exact hq11.2.1
          have h0x : ∀ j : Int, j ≠ 16 → j ≠ 17 → m13 0 j = m 0 j := fun j h1 h2 => by rw [z90 0 (by decide)]; exact hq11.2.2.1 j h1 h2
          have hkx : aKeep (m 0 16) (m 6) (m 5) (m13 0 16) (m13 6) := by rw [z90 0 (by decide), z90 6 (by decide)]; exact hq11.1
          have hqx : ∀ q : Nat, (q = 12 ∨ q = 1 ∨ q = 2 ∨ q = 3 ∨ q = 8 ∨ q = 9 ∨ 73 ≤ q) → m13 q = m q := fun q h => by rw [z90 q (by omega)]; exact o1 q (by omega) (by omega)
          have hchx : ChOk m13 (m kf) (m k) := by unfold ChOk; rw [hqx 8 (by omega), hqx 9 (by omega)]; exact hti.2.2.1
          refine v_aload_n C 1 dX10_bounds_93 rfl ?_
          refine v_iload C 0 dX10_bounds_94 rfl ?_
          refine v_callV (st := []) (n := 1) (q := 0) C [.int (iz ((m 5 (8 + s)) - (m 5 (5 + s))))] (ct_StageRatios_answer C.2.2.2.2.2.2.1 m13 ((m 5 (8 + s)) - (m 5 (5 + s))) ) lC0 (eC0 _) rfl qw640 qw1 qw637 rfl rfl ⟨Nat.le_of_ble_eq_true rfl, Nat.le_of_ble_eq_true rfl⟩ (by decide +kernel) qw639 qp16 rfl rfl (Nat.le_of_ble_eq_true rfl) dX10_bounds_96 (fun r m14 hq14 => ?_)
          obtain ⟨z14, rfl, rfl, hq14⟩ := hq14
          show V E (wC D cy aa ad) 5 m14 99 [(4, .int (iz ((m 5 (8 + s)) - (m 5 (5 + s))))), (0, .ref (aa 0)), (1, .int (iz (s))), (2, .int (iz (lo))), (3, .int (iz (hi)))] [.int (iz (((m 5 (8 + s)) - (m 5 (5 + s)))))]
          refine v_iret C X rfl dX10_bounds_99 ⟨_, rfl, ?_, ?_⟩
          · refine ⟨0, 1, by decide, ?_, Or.inr (Or.inl ⟨rfl, ?_⟩)⟩
            · rw [← hq14, mup_k _ _ _ (by decide)]
              exact Or.inl ⟨⟨hhs, by omega, by omega, by omega⟩, rfl, rfl, rfl, fun j _ _ => h5x j⟩
            · refine ⟨by rw [← hq14, mup_s], by rw [← hq14, mup_j _ _ (by decide)]; exact h17, fun j h1 h2 h3 => by rw [← hq14, mup_j _ _ h3]; exact h0x j h1 h2, ?_, fun q h => by rw [← hq14, mup_k _ _ _ (by omega)]; exact hqx q (by omega)⟩
              rw [← hq14, mup_j _ _ (by decide), mup_k _ _ _ (by decide)]; exact hkx
          · have z : ∀ q : Nat, q ≠ 0 → m14 q = m13 q := fun q h => by rw [← hq14, mup_k _ _ _ h]
            have z0 : ∀ j : Int, j ≠ 18 → m14 0 j = m13 0 j := fun j h => by rw [← hq14, mup_j _ _ h]
            refine CI.act hk hcu hT1 hti hch (fun j h1 h2 h3 => by rw [z0 j h3]; exact h0x j h1 h2) (by rw [z0 17 (by decide)]; exact h17) (fun q h => by rw [z q (by omega)]; exact hqx q (by omega)) (by unfold ChOk; rw [z 8 (by decide), z 9 (by decide)]; exact hchx) ?_ (by rw [z 6 (by decide), z0 16 (by decide)]; exact hti.2.2.2.2.2.2.keep hti.2.2.2.2.1 hX hkx)
            rw [z 5 (by decide)]
            refine ⟨by rw [h5x 0, if_neg (by omega), if_neg (by omega)]; exact hX.1, by rw [h5x 1, if_neg (by omega), if_neg (by omega)]; exact hX.2.1, fun s9 h0 h1 => ?_⟩
            have y := hX.2.2 s9 h0 h1
            have ms : s < m k 5 → mstZ (m kf) (m k 5) s = m kf (s * 9 + 3) := fun h => if_pos h
            rw [h5x, h5x, h5x, if_neg (show ¬ (2 + s9 = 5 + s) by omega), if_neg (show ¬ (2 + s9 = 8 + s) by omega), if_neg (show ¬ (8 + s9 = 5 + s) by omega)]
            by_cases e : s9 = s
            · subst e; rw [if_pos rfl, if_pos rfl]; have := ms hs0.2; exact ⟨y.1, by omega⟩
            · rw [if_neg (by omega), if_neg (by omega), if_neg (by omega)]; exact y
        · refine v_aload_n C 0 dX10_bounds_36 rfl ?_
          refine v_iconst (z := 2) C dX10_bounds_37 rfl ?_
          refine v_callV (st := []) (n := 1) (q := 0) C [.int (iz (2))] (ct_StageRatios_refuse C.2.2.2.2.2.2.1 m (2) ) lC0 (eC0 _) rfl qw502 qw1 qw499 rfl rfl ⟨Nat.le_of_ble_eq_true rfl, Nat.le_of_ble_eq_true rfl⟩ (by decide +kernel) qw501 qp0 rfl rfl (Nat.le_of_ble_eq_true rfl) dX10_bounds_38 (fun r m15 hq15 => ?_)
          obtain ⟨z15, rfl, rfl, hq15⟩ := hq15
          show V E (wC D cy aa ad) 5 m15 41 [(0, .ref (aa 0)), (1, .int (iz (s))), (2, .int (iz (lo))), (3, .int (iz (hi)))] [.int (iz (-1))]
          refine v_iret C X rfl dX10_bounds_41 ⟨_, rfl, ?_, ?_⟩
          · rw [← hq15]
            exact ⟨2, 0, by decide, Or.inr (Or.inl ⟨hhs, by omega, rfl, rfl, rfl⟩), Or.inl ⟨rfl, CQ.of (fun _ _ => rfl)⟩⟩
          · rw [← hq15]; exact hci.of (fun _ _ => rfl)
  · show V E (wC D cy aa ad) 5 m 5 [(0, .ref (aa 0)), (1, .int (iz (s))), (2, .int (iz (lo))), (3, .int (iz (hi)))] [.int (iz (0))]
    refine v_if_ne (tgt := 14) C dX10_bounds_5 (by decide) (by omega) (fun c16 => by exact absurd c16 (by decide)) (fun c16 => ?_)
    refine v_aload_n C 0 dX10_bounds_8 rfl ?_
    refine v_iconst (z := 1) C dX10_bounds_9 rfl ?_
    refine v_callV (st := []) (n := 1) (q := 0) C [.int (iz (1))] (ct_StageRatios_refuse C.2.2.2.2.2.2.1 m (1) ) lC0 (eC0 _) rfl qw502 qw1 qw499 rfl rfl ⟨Nat.le_of_ble_eq_true rfl, Nat.le_of_ble_eq_true rfl⟩ (by decide +kernel) qw501 qp0 rfl rfl (Nat.le_of_ble_eq_true rfl) dX10_bounds_10 (fun r m17 hq17 => ?_)
    obtain ⟨z17, rfl, rfl, hq17⟩ := hq17
    show V E (wC D cy aa ad) 5 m17 13 [(0, .ref (aa 0)), (1, .int (iz (s))), (2, .int (iz (lo))), (3, .int (iz (hi)))] [.int (iz (-1))]
    refine v_iret C X rfl dX10_bounds_13 ⟨_, rfl, ?_, ?_⟩
    · rw [← hq17]
      exact ⟨1, 0, by decide, Or.inr (Or.inr ⟨hq1, rfl, rfl, rfl⟩), Or.inl ⟨rfl, CQ.of (fun _ _ => rfl)⟩⟩
    · rw [← hq17]; exact hci.of (fun _ _ => rfl)

set_option maxHeartbeats 4000000 in
set_option maxRecDepth 100000 in
theorem ct_StageRatios_adopt {lau : Launch} {D : va_G} {cy : Nat → ClassId} {aa ad : Nat → Nat} (hI : wI (wC D cy aa ad)) (m : Mem) (k kf ks kt kc : Nat) (hci : CI m k kf ks kt kc) (hch : m 0 17 < 100000) : MT lau (wC D cy aa ad) yX10_adopt cX10_adopt 3 (some .int) ({ frames := 6, cells := 0, slots := 0, locals := 172 } : Room) m [.ref (aa 0)] (Pi (fun z m' => (AP (qAdo (m 0 15) (m kf) (m k) (m 5)) m m' z) ∧ CI m' k kf ks kt kc)) := by
  refine v_entry hI RX10 (by decide) rfl (Nat.le_of_ble_eq_true rfl) (fun E hE C X => ?_)
  subst hE
  show V E (wC D cy aa ad) 3 m 0 [(0, .ref (aa 0))] []
  obtain ⟨hk, hcu, htd, -⟩ := id hci
  have ht01 : m 0 15 = 0 ∨ m 0 15 = 1 := htd.imp (fun a => a) (fun a => a.1)
  refine v_aload_n C 0 dX10_adopt_0 rfl ?_
  refine v_get C 0 15 lC0 (eC0 _) rfl inX10 (by decide) rfl qw434 dX10_adopt_1 ?_
  refine v_if_ne (tgt := 13) C dX10_adopt_4 (by decide) (by omega) (fun c1 => ?_) (fun c1 => ?_)
  · obtain ⟨hT1, hti⟩ := htd.resolve_left (by omega)
    obtain ⟨hrk, hX, -⟩ := id hti
    obtain ⟨hk5, hF, hup, hlw, hpl, hnf, hfa, -⟩ := id hrk
    have hkk : 73 ≤ k ∧ 73 ≤ kf ∧ 73 ≤ ks ∧ 73 ≤ kt ∧ 73 ≤ kc := by unfold RocketAt at hk; omega
    have hUr := hX.u hF
    have hDv := hX.dv hF hk5
    refine v_aload_n C 0 dX10_adopt_13 rfl ?_
    refine v_get C 0 9 lC0 (eC0 _) rfl inX10 (by decide) rfl qw428 dX10_adopt_14 ?_
    refine v_aload_n C 0 dX10_adopt_17 rfl ?_
    refine v_get C 0 13 lC0 (eC0 _) rfl inX10 (by decide) rfl qw432 dX10_adopt_18 ?_
    refine v_st (st1 := [.ref (aa k), .ref (aa 8)]) (by rw [show (m 0 13).toNat = k from by assumption]) ?_
    refine v_aload_n C 0 dX10_adopt_21 rfl ?_
    refine v_get C 0 2 lC0 (eC0 _) rfl inX10 (by decide) rfl qw421 dX10_adopt_22 ?_
    refine v_aload_n C 0 dX10_adopt_25 rfl ?_
    refine v_get C 0 4 lC0 (eC0 _) rfl inX10 (by decide) rfl qw423 dX10_adopt_26 ?_
    refine v_callV (st := []) (n := 3) (q := 8) C [.ref (aa k), .ref (aa 5), .ref (aa 19)] (ct_Choice_prepare C.2.2.2.2.2.2.1 m (k) (kf) (ks) (kt) (kc) hk (by first | assumption | omega) (by exact hX.1) (by exact hti.2.2.1.1) (by exact hti.2.2.1.2)) lC8 (eC8 _) rfl qw819 qw12 qw816 rfl rfl ⟨Nat.le_of_ble_eq_true rfl, Nat.le_of_ble_eq_true rfl⟩ (by decide +kernel) qw817 qw818 rfl rfl (Nat.le_of_ble_eq_true rfl) dX10_adopt_29 (fun r m2 hq2 => ?_)
    obtain ⟨rfl, hq2⟩ := hq2
    show V E (wC D cy aa ad) 3 m2 32 [(0, .ref (aa 0))] []
    have hvd := hti.vd
    have hLd : LdOk m2 (m kf) (m k) (m 5) := ⟨hq2.1, hq2.2.1⟩
    have hbx : ∀ j : Int, 0 ≤ j → j < 3 → m2 10 j = loX (m 5) j ∧ m2 11 j = hiX (m 5) j := hq2.2.2.1
    have o1 : ∀ q, (q < 8 ∨ (12 ≤ q ∧ q < 15) ∨ (23 ≤ q ∧ q < 39) ∨ 42 ≤ q) → m2 q = m q := hq2.2.2.2
    have hcu1 : (m2 0 13).toNat = k := by rw [o1 0 (by decide)]; exact hcu
    have k1 := o1 k (by omega)
    have kf1 := o1 kf (by omega)
    have e51 := o1 5 (by decide)
    have hlh1 : ∀ j : Int, 0 ≤ j → j < 3 → (0 ≤ m2 10 j ∧ m2 10 j ≤ 16) ∧ (0 ≤ m2 11 j ∧ m2 11 j ≤ 16) := fun j h0 h1 => by rw [(hbx j h0 h1).1, (hbx j h0 h1).2]; exact hvd.bx j h0 h1
    have hce1 := hLd.ce hvd
    have hch1 := hLd.ch hvd
    have hou1 : OuOk m2 (m kf) (m k) (m 5) := hti.2.2.2.1.same (o1 0 (by decide)) (o1 12 (by decide)) (o1 14 (by decide))
    have hp1 := hX.2.1
    have hkp : kPw (m 5 1) := ⟨by omega, by omega⟩
    refine v_aload_n C 0 dX10_adopt_32 rfl ?_
    refine v_get C 0 9 lC0 (eC0 _) rfl inX10 (by decide) rfl qw428 dX10_adopt_33 ?_
    refine v_aload_n C 0 dX10_adopt_36 rfl ?_
    refine v_get C 0 2 lC0 (eC0 _) rfl inX10 (by decide) rfl qw421 dX10_adopt_37 ?_
    refine v_iconst (z := 1) C dX10_adopt_40 rfl ?_
    refine v_callS (st := [.ref (aa 8)]) (n := 2) C [.ref (aa 5), .int (iz (1))] (ct_StageRatios_at C.2.2.2.2.2.2.1 m2 (5) (11) (1) ⟨lC5, by decide, eC5⟩ (by first | assumption | omega)) qw618 qw1 qw653 rfl rfl ⟨Nat.le_of_ble_eq_true rfl, Nat.le_of_ble_eq_true rfl⟩ (by decide +kernel) qw617 rfl rfl (Nat.le_of_ble_eq_true rfl) dX10_adopt_41 (fun r m3 hq3 => ?_)
    obtain ⟨z3, rfl, rfl, rfl⟩ := hq3
    show V E (wC D cy aa ad) 3 m2 44 [(0, .ref (aa 0))] [.int (iz (m2 5 1)), .ref (aa 8)]
    refine v_callV (st := []) (n := 1) (q := 8) C [.int (iz (m2 5 1))] (ct_Choice_best C.2.2.2.2.2.2.1 m2 (m2 5 1) (by rw [e51]; omega) (by exact hlh1) (by exact hce1)) lC8 (eC8 _) rfl qw848 qw12 qw845 rfl rfl ⟨Nat.le_of_ble_eq_true rfl, Nat.le_of_ble_eq_true rfl⟩ (by decide +kernel) qw846 qw847 rfl rfl (Nat.le_of_ble_eq_true rfl) dX10_adopt_44 (fun r m4 hq4 => ?_)
    obtain ⟨z4, rfl, hq4, rfl⟩ := hq4
    show V E (wC D cy aa ad) 3 m2 47 [(0, .ref (aa 0))] [.int (iz (z4))]
    rw [e51] at hq4
    have hbe := hLd.be hvd hkp hbx hq4
    have hzr : -1 ≤ z4 ∧ z4 < 4913 := by rcases hq4 with ⟨y, -⟩ | ⟨y, y2, -⟩ <;> omega
    refine v_istore_n (L1 := [(1, .int (iz (z4))), (0, .ref (aa 0))]) C dX10_adopt_47 (by decide) rfl ?_
    refine v_iload_n C 0 dX10_adopt_48 rfl ?_
    refine v_if_ge (tgt := 58) C dX10_adopt_49 (by decide) (by omega) (fun c5 => ?_) (fun c5 => ?_)
    · refine v_aload_n C 1 dX10_adopt_58 rfl ?_
      refine v_callV (st := []) (n := 0) (q := 0) C [] (ct_StageRatios_keep C.2.2.2.2.2.2.1 m2  (by rw [o1 0 (by decide)]; exact hti.2.2.2.2.1)) lC0 (eC0 _) rfl qw1028 qw1 qw1025 rfl rfl ⟨Nat.le_of_ble_eq_true rfl, Nat.le_of_ble_eq_true rfl⟩ (by decide +kernel) qw1027 qp32 rfl rfl (Nat.le_of_ble_eq_true rfl) dX10_adopt_59 (fun r m6 hq6 => ?_)
      obtain ⟨rfl, hq6⟩ := hq6
      show V E (wC D cy aa ad) 3 m6 62 [(1, .int (iz (z4))), (0, .ref (aa 0))] []
      rw [o1 0 (by decide), o1 6 (by decide), e51] at hq6
      have o59 := hq6.2.2.2
      refine v_iconst (z := 0) C dX10_adopt_62 rfl ?_
      refine v_istore_n (L1 := [(2, .int (iz (0))), (1, .int (iz (z4))), (0, .ref (aa 0))]) C dX10_adopt_63 (by decide) rfl ?_
      have K64 : ∀ (nK : Nat) (s : Int) (mI : Mem) (hs : 0 ≤ s ∧ s ≤ 3) (h5I : ∀ j : Int, mI 5 j = if 2 ≤ j ∧ j < 2 + s then unZ z4 (j - 2) else m 5 j) (hfI : ∀ q, q ≠ 5 → mI q = m6 q), (3 - s).toNat < nK → V E (wC D cy aa ad) 3 mI 64 [(0, .ref (aa 0)), (1, .int (iz (z4))), (2, .int (iz (s)))] [] := by
        intro nK
        induction nK with
        | zero => intro s mI hs h5I hfI hn; exact absurd hn (Nat.not_lt_zero _)
        | succ nK ih64 =>
          intro s mI hs h5I hfI hn64
          refine v_iload_n C 2 dX10_adopt_64 rfl ?_
          refine v_iconst (z := 3) C dX10_adopt_65 rfl ?_
          refine v_icmp_ge (tgt := 90) C dX10_adopt_66 (by decide) (by omega) (by omega) (fun c7 => ?_) (fun c7 => ?_)
          · have h9x : mI 9 = m2 9 := by rw [hfI 9 (by decide), o59 9 (by decide) (by decide)]
            have h5x : ∀ j : Int, mI 5 j = if 2 ≤ j ∧ j < 5 then unZ z4 (j - 2) else m 5 j := fun j => by
              rw [h5I j]
              by_cases e : 2 ≤ j ∧ j < 5
              · rw [if_pos e, if_pos (by omega)]
              · rw [if_neg e, if_neg (by omega)]
            have h17 : mI 0 17 = m 0 17 + 1 := by rw [hfI 0 (by decide)]; exact hq6.2.1
            have h0x : ∀ j : Int, j ≠ 16 → j ≠ 17 → mI 0 j = m 0 j := fun j h1 h2 => by rw [hfI 0 (by decide)]; exact hq6.2.2.1 j h1 h2
            have hkx : aKeep (m 0 16) (m 6) (m 5) (mI 0 16) (mI 6) := by rw [hfI 0 (by decide), hfI 6 (by decide)]; exact hq6.1
            have hqx : ∀ q : Nat, (q = 12 ∨ q = 1 ∨ q = 2 ∨ q = 3 ∨ 73 ≤ q) → mI q = m q := fun q h => by rw [hfI q (by omega), o59 q (by omega) (by omega)]; exact o1 q (by omega)
            have hchx : ChOk mI (m kf) (m k) := by unfold ChOk; rw [hfI 8 (by omega), hfI 9 (by omega), o59 8 (by decide) (by decide), o59 9 (by decide) (by decide)]; exact hch1
            refine v_aload_n C 0 dX10_adopt_90 rfl ?_
            refine v_aload_n C 0 dX10_adopt_91 rfl ?_
            refine v_get C 0 9 lC0 (eC0 _) rfl inX10 (by decide) rfl qw428 dX10_adopt_92 ?_
            refine v_iload_n C 1 dX10_adopt_95 rfl ?_
            refine v_callV (st := [.ref (aa 0)]) (n := 1) (q := 8) C [.int (iz (z4))] (ct_Choice_weightOf C.2.2.2.2.2.2.1 mI (z4) (by exact (hbe.2 (by omega)).1) (by rw [h9x]; exact ⟨(hbe.2 (by omega)).2.1, (hce1 _ (hbe.2 (by omega)).1.1 (hbe.2 (by omega)).1.2).2⟩)) lC8 (eC8 _) rfl qw865 qw12 qw866 rfl rfl ⟨Nat.le_of_ble_eq_true rfl, Nat.le_of_ble_eq_true rfl⟩ (by decide +kernel) qw863 qw864 rfl rfl (Nat.le_of_ble_eq_true rfl) dX10_adopt_96 (fun r m8 hq8 => ?_)
            obtain ⟨z8, rfl, rfl, rfl⟩ := hq8
            show V E (wC D cy aa ad) 3 mI 99 [(0, .ref (aa 0)), (1, .int (iz (z4))), (2, .int (iz (s)))] [.int (iz (mI 9 z4 / 64)), .ref (aa 0)]
            refine v_callV (st := []) (n := 1) (q := 0) C [.int (iz (mI 9 z4 / 64))] (ct_StageRatios_answer C.2.2.2.2.2.2.1 mI (mI 9 z4 / 64) ) lC0 (eC0 _) rfl qw640 qw1 qw637 rfl rfl ⟨Nat.le_of_ble_eq_true rfl, Nat.le_of_ble_eq_true rfl⟩ (by decide +kernel) qw639 qp16 rfl rfl (Nat.le_of_ble_eq_true rfl) dX10_adopt_99 (fun r m9 hq9 => ?_)
            obtain ⟨z9, rfl, rfl, hq9⟩ := hq9
            show V E (wC D cy aa ad) 3 m9 102 [(0, .ref (aa 0)), (1, .int (iz (z4))), (2, .int (iz (s)))] [.int (iz ((mI 9 z4 / 64)))]
            refine v_iret C X rfl dX10_adopt_102 ⟨_, rfl, ?_, ?_⟩
            · refine ⟨0, 1, by decide, ?_, Or.inr (Or.inl ⟨rfl, ?_⟩)⟩
              · rw [← hq9, mup_k _ _ _ (by decide)]
                exact Or.inl ⟨hT1, _, hbe.1, Or.inl ⟨by omega, rfl, by rw [h9x]; exact (hbe.2 (by omega)).2.2, rfl, fun j _ _ => h5x j⟩⟩
              · refine ⟨by rw [← hq9, mup_s], by rw [← hq9, mup_j _ _ (by decide)]; exact h17, fun j h1 h2 h3 => by rw [← hq9, mup_j _ _ h3]; exact h0x j h1 h2, ?_, fun q h => by rw [← hq9, mup_k _ _ _ (by omega)]; exact hqx q (by omega)⟩
                rw [← hq9, mup_j _ _ (by decide), mup_k _ _ _ (by decide)]; exact hkx
            · have z : ∀ q : Nat, q ≠ 0 → m9 q = mI q := fun q h => by rw [← hq9, mup_k _ _ _ h]
              have z0 : ∀ j : Int, j ≠ 18 → m9 0 j = mI 0 j := fun j h => by rw [← hq9, mup_j _ _ h]
              refine CI.act hk hcu hT1 hti hch (fun j h1 h2 h3 => by rw [z0 j h3]; exact h0x j h1 h2) (by rw [z0 17 (by decide)]; exact h17) (fun q h => by rw [z q (by omega)]; exact hqx q (by omega)) (by unfold ChOk; rw [z 8 (by decide), z 9 (by decide)]; exact hchx) ?_ (by rw [z 6 (by decide), z0 16 (by decide)]; exact hti.2.2.2.2.2.2.keep hti.2.2.2.2.1 hX hkx)
              rw [z 5 (by decide)]
              refine ⟨by rw [h5x 0, if_neg (by omega)]; exact hX.1, by rw [h5x 1, if_neg (by omega)]; exact hX.2.1, fun s9 h0 h1 => ?_⟩
              have y := hX.2.2 s9 h0 h1
              rw [h5x, h5x, h5x, if_pos (by omega), if_neg (by omega), if_neg (by omega), show 2 + s9 - 2 = s9 by omega]
              refine ⟨?_, y.2⟩
              have hcz := hbe.2 (by omega)
              have hin : inB (loX (m 5)) (hiX (m 5)) z4 := by
                rcases hbe.1 with ⟨y1, -⟩ | ⟨-, -, y3, -⟩
                · omega
                · exact y3.1.1
              have hin2 := hin s9 h0 h1
              have hu2 := unZ_rng (s := s9) hcz.1.1 hcz.1.2
              unfold loX hiX at hin2
              omega
          · refine v_aload_n C 0 dX10_adopt_69 rfl ?_
            refine v_get C 0 2 lC0 (eC0 _) rfl inX10 (by decide) rfl qw421 dX10_adopt_70 ?_
            refine v_iconst (z := 2) C dX10_adopt_73 rfl ?_
            refine v_iload_n C 2 dX10_adopt_74 rfl ?_
            refine v_iadd C dX10_adopt_75 ?_
            refine v_iload_n C 1 dX10_adopt_76 rfl ?_
            refine v_iload_n C 2 dX10_adopt_77 rfl ?_
            refine v_callS (st := [.int (iz (2 + s)), .ref (aa 5)]) (n := 2) C [.int (iz (z4)), .int (iz (s))] (ct_Choice_unitsOf C.2.2.2.2.2.2.1 mI (z4) (s) (by exact (hbe.2 (by omega)).1) (by first | assumption | omega)) qw832 qw12 qw871 rfl rfl ⟨Nat.le_of_ble_eq_true rfl, Nat.le_of_ble_eq_true rfl⟩ (by decide +kernel) qw831 rfl rfl (Nat.le_of_ble_eq_true rfl) dX10_adopt_78 (fun r m10 hq10 => ?_)
            obtain ⟨z10, rfl, rfl, rfl⟩ := hq10
            show V E (wC D cy aa ad) 3 mI 81 [(0, .ref (aa 0)), (1, .int (iz (z4))), (2, .int (iz (s)))] [.int (iz (unZ z4 s)), .int (iz (2 + s)), .ref (aa 5)]
            refine v_callS (st := []) (n := 3) C [.ref (aa 5), .int (iz (2 + s)), .int (iz (unZ z4 s))] (ct_StageRatios_put C.2.2.2.2.2.2.1 mI (5) (11) (2 + s) (unZ z4 s) ⟨lC5, by decide, eC5⟩ (by first | assumption | omega)) qw494 qw1 qw635 rfl rfl ⟨Nat.le_of_ble_eq_true rfl, Nat.le_of_ble_eq_true rfl⟩ (by decide +kernel) qw493 rfl rfl (Nat.le_of_ble_eq_true rfl) dX10_adopt_81 (fun r m11 hq11 => ?_)
            obtain ⟨rfl, hq11⟩ := hq11
            show V E (wC D cy aa ad) 3 m11 84 [(0, .ref (aa 0)), (1, .int (iz (z4))), (2, .int (iz (s)))] []
            refine v_iinc (L1 := [(2, .int (iz (s + 1))), (0, .ref (aa 0)), (1, .int (iz (z4)))]) C 2 dX10_adopt_84 rfl (by decide) rfl ?_
            refine v_goto (tgt := 64) C dX10_adopt_87 (by decide) ?_
            refine v_sub [1, 2, 0] rfl ?_
            exact ih64 (s + 1) m11 (by first | assumption | omega) (by 
                            intro j; rw [← hq11, mup_r]
                            by_cases e : j = 2 + s
                            · rw [if_pos (by omega), show j - 2 = s by omega]; exact if_pos e
                            · refine (if_neg e).trans ((h5I j).trans ?_)
                              by_cases d : 2 ≤ j ∧ j < 2 + s
                              · rw [if_pos d, if_pos (by omega)]
                              · rw [if_neg d, if_neg (by omega)]
                          ) (by intro q h; rw [← hq11, mup_k _ _ _ h]; exact hfI q h) (by omega)
      refine v_sub [2, 1, 0] rfl ?_
      exact K64 _ (0) m6 (by first | assumption | omega) (by intro j; rw [if_neg (by omega), o59 5 (by decide) (by decide), e51]) (by intro q _; rfl) (Nat.lt_succ_self _)
    · refine v_aload_n C 1 dX10_adopt_52 rfl ?_
      refine v_iconst (z := 5) C dX10_adopt_53 rfl ?_
      refine v_callV (st := []) (n := 1) (q := 0) C [.int (iz (5))] (ct_StageRatios_refuse C.2.2.2.2.2.2.1 m2 (5) ) lC0 (eC0 _) rfl qw502 qw1 qw499 rfl rfl ⟨Nat.le_of_ble_eq_true rfl, Nat.le_of_ble_eq_true rfl⟩ (by decide +kernel) qw501 qp0 rfl rfl (Nat.le_of_ble_eq_true rfl) dX10_adopt_54 (fun r m12 hq12 => ?_)
      obtain ⟨z12, rfl, rfl, hq12⟩ := hq12
      show V E (wC D cy aa ad) 3 m12 57 [(1, .int (iz (z4))), (0, .ref (aa 0))] [.int (iz (-1))]
      refine v_iret C X rfl dX10_adopt_57 ⟨_, rfl, ?_, ?_⟩
      · rw [← hq12]
        exact ⟨5, 0, by decide, Or.inl ⟨hT1, _, hbe.1, Or.inr ⟨by omega, rfl, rfl, rfl⟩⟩, Or.inl ⟨rfl, CQ.of3 (fun q h => o1 q (by omega))⟩⟩
      · rw [← hq12]; exact CI.of3 hk hcu hT1 hti (fun q h => o1 q (by omega)) hch1 hou1
  · refine v_aload_n C 0 dX10_adopt_7 rfl ?_
    refine v_iconst (z := 1) C dX10_adopt_8 rfl ?_
    refine v_callV (st := []) (n := 1) (q := 0) C [.int (iz (1))] (ct_StageRatios_refuse C.2.2.2.2.2.2.1 m (1) ) lC0 (eC0 _) rfl qw502 qw1 qw499 rfl rfl ⟨Nat.le_of_ble_eq_true rfl, Nat.le_of_ble_eq_true rfl⟩ (by decide +kernel) qw501 qp0 rfl rfl (Nat.le_of_ble_eq_true rfl) dX10_adopt_9 (fun r m13 hq13 => ?_)
    obtain ⟨z13, rfl, rfl, hq13⟩ := hq13
    show V E (wC D cy aa ad) 3 m13 12 [(0, .ref (aa 0))] [.int (iz (-1))]
    refine v_iret C X rfl dX10_adopt_12 ⟨_, rfl, ?_, ?_⟩
    · rw [← hq13]
      exact ⟨1, 0, by decide, Or.inr ⟨by omega, rfl, rfl, rfl⟩, Or.inl ⟨rfl, CQ.of (fun _ _ => rfl)⟩⟩
    · rw [← hq13]; exact hci.of (fun _ _ => rfl)

set_option maxHeartbeats 4000000 in
set_option maxRecDepth 100000 in
theorem ct_StageRatios_undo {lau : Launch} {D : va_G} {cy : Nat → ClassId} {aa ad : Nat → Nat} (hI : wI (wC D cy aa ad)) (m : Mem) (k kf ks kt kc : Nat) (hci : CI m k kf ks kt kc) (hch : m 0 17 < 100000) : MT lau (wC D cy aa ad) yX10_undo cX10_undo 2 (some .boolean) ({ frames := 1, cells := 0, slots := 0, locals := 22 } : Room) m [.ref (aa 0)] (Pi (fun z m' => (AP (qUnd (m 0 15) (m 0 16) (m 6)) m m' z) ∧ CI m' k kf ks kt kc)) := by
  refine v_entry hI RX10 (by decide) rfl (Nat.le_of_ble_eq_true rfl) (fun E hE C X => ?_)
  subst hE
  show V E (wC D cy aa ad) 2 m 0 [(0, .ref (aa 0))] []
  obtain ⟨hk, hcu, htd, -⟩ := id hci
  have ht01 : m 0 15 = 0 ∨ m 0 15 = 1 := htd.imp (fun a => a) (fun a => a.1)
  refine v_aload_n C 0 dX10_undo_0 rfl ?_
  have K15 : ∀  (hno : ¬ (m 0 15 = 1 ∧ 1 ≤ m 0 16)), V E (wC D cy aa ad) 2 m 15 [(0, .ref (aa 0))] [] := by
    intro   hno
    refine v_aload_n C 0 dX10_undo_15 rfl ?_
    refine v_iconst (z := 1) C dX10_undo_16 rfl ?_
    refine v_callV (st := []) (n := 1) (q := 0) C [.int (iz (1))] (ct_StageRatios_refuse C.2.2.2.2.2.2.1 m (1) ) lC0 (eC0 _) rfl qw502 qw1 qw499 rfl rfl ⟨Nat.le_of_ble_eq_true rfl, Nat.le_of_ble_eq_true rfl⟩ (by decide +kernel) qw501 qp0 rfl rfl (Nat.le_of_ble_eq_true rfl) dX10_undo_17 (fun r m1 hq1 => ?_)
    obtain ⟨z1, rfl, rfl, hq1⟩ := hq1
    show V E (wC D cy aa ad) 2 m1 20 [(0, .ref (aa 0))] [.int (iz (-1))]
    refine v_pop C dX10_undo_20 rfl ?_
    refine v_iconst (z := 0) C dX10_undo_21 rfl ?_
    refine v_iret C X (by decide) dX10_undo_22 ?_
    refine ⟨_, rfl, ?_, ?_⟩
    · rw [← hq1]; exact ⟨1, 0, by decide, Or.inr ⟨hno, rfl, rfl, rfl⟩, Or.inl ⟨rfl, CQ.of (fun _ _ => rfl)⟩⟩
    · rw [← hq1]; exact hci.of (fun _ _ => rfl)
  refine v_get C 0 15 lC0 (eC0 _) rfl inX10 (by decide) rfl qw434 dX10_undo_1 ?_
  refine v_if_eq (tgt := 15) C dX10_undo_4 (by decide) (by omega) (fun c2 => ?_) (fun c2 => ?_)
  · refine v_sub [0] rfl ?_
    exact K15    (by first | assumption | omega)
  · refine v_aload_n C 0 dX10_undo_7 rfl ?_
    obtain ⟨hT1, hti⟩ := htd.resolve_left (by omega)
    obtain ⟨hrk, hX, -⟩ := id hti
    obtain ⟨hk5, hF, hup, hlw, hpl, hnf, hfa, -⟩ := id hrk
    have hkk : 73 ≤ k ∧ 73 ≤ kf ∧ 73 ≤ ks ∧ 73 ≤ kt ∧ 73 ≤ kc := by unfold RocketAt at hk; omega
    have hUr := hX.u hF
    have hDv := hX.dv hF hk5
    have hkr := hti.2.2.2.2.1
    refine v_get C 0 16 lC0 (eC0 _) rfl inX10 (by decide) rfl qw435 dX10_undo_8 ?_
    refine v_iconst (z := 1) C dX10_undo_11 rfl ?_
    refine v_icmp_ge (tgt := 23) C dX10_undo_12 (by decide) (by omega) (by omega) (fun c3 => ?_) (fun c3 => ?_)
    · refine v_aload_n C 0 dX10_undo_23 rfl ?_
      refine v_dup C dX10_undo_24 rfl ?_
      refine v_get C 0 16 lC0 (eC0 _) rfl inX10 (by decide) rfl qw435 dX10_undo_25 ?_
      refine v_iconst (z := 1) C dX10_undo_28 rfl ?_
      refine v_isub C dX10_undo_29 ?_
      refine v_put C 0 16 ((m 0 16) - 1) 16 rfl lC0 (eC0 _) rfl inX10 tyX10 tyX10_ok nmX10 (by decide) qw435 rfl rfl rfl (Nat.le_of_ble_eq_true rfl) (by rw [mup_r]; exact (eC0 _)) dX10_undo_30 (fun m4 em4 => ?_)
      refine v_aload_n C 0 dX10_undo_33 rfl ?_
      refine v_dup C dX10_undo_34 rfl ?_
      refine v_get C 0 17 lC0 (eC0 _) rfl inX10 (by decide) rfl qw436 dX10_undo_35 ?_
      refine v_iconst (z := 1) C dX10_undo_38 rfl ?_
      refine v_iadd C dX10_undo_39 ?_
      refine v_put C 0 17 ((m4 0 17) + 1) 17 rfl lC0 (eC0 _) rfl inX10 tyX10 tyX10_ok nmX10 (by decide) qw436 rfl rfl rfl (Nat.le_of_ble_eq_true rfl) (by rw [mup_r]; exact (eC0 _)) dX10_undo_40 (fun m5 em5 => ?_)
      refine v_iconst (z := 0) C dX10_undo_43 rfl ?_
      refine v_istore_n (L1 := [(1, .int (iz (0))), (0, .ref (aa 0))]) C dX10_undo_44 (by decide) rfl ?_
      have K45 : ∀ (nK : Nat) (i : Int) (mI : Mem) (hi : 0 ≤ i ∧ i ≤ 11) (h5I : ∀ j : Int, 0 ≤ j → j < i → mI 5 j = m 6 (11 * (m 0 16 - 1) + j)) (hfI : ∀ q, q ≠ 5 → mI q = m5 q), (11 - i).toNat < nK → V E (wC D cy aa ad) 2 mI 45 [(0, .ref (aa 0)), (1, .int (iz (i)))] [] := by
        intro nK
        induction nK with
        | zero => intro i mI hi h5I hfI hn; exact absurd hn (Nat.not_lt_zero _)
        | succ nK ih45 =>
          intro i mI hi h5I hfI hn45
          have e016 : mI 0 16 = m 0 16 - 1 := by rw [hfI 0 (by decide), em5, mup_j _ _ (by decide), em4, mup_s]
          have e6I : mI 6 = m 6 := by rw [hfI 6 (by decide), em5, mup_k _ _ _ (by decide), em4, mup_k _ _ _ (by decide)]
          refine v_iload_n C 1 dX10_undo_45 rfl ?_
          refine v_bipush (z := 11) C dX10_undo_46 (by decide) ?_
          refine v_icmp_ge (tgt := 81) C dX10_undo_48 (by decide) (by omega) (by omega) (fun c6 => ?_) (fun c6 => ?_)
          · refine v_aload_n C 0 dX10_undo_81 rfl ?_
            refine v_iconst (z := 0) C dX10_undo_82 rfl ?_
            refine v_callV (st := []) (n := 1) (q := 0) C [.int (iz (0))] (ct_StageRatios_answer C.2.2.2.2.2.2.1 mI (0) ) lC0 (eC0 _) rfl qw640 qw1 qw637 rfl rfl ⟨Nat.le_of_ble_eq_true rfl, Nat.le_of_ble_eq_true rfl⟩ (by decide +kernel) qw639 qp16 rfl rfl (Nat.le_of_ble_eq_true rfl) dX10_undo_83 (fun r m7 hq7 => ?_)
            obtain ⟨z7, rfl, rfl, hq7⟩ := hq7
            show V E (wC D cy aa ad) 2 m7 86 [(0, .ref (aa 0)), (1, .int (iz (i)))] [.int (iz (0))]
            refine v_pop C dX10_undo_86 rfl ?_
            refine v_iconst (z := 1) C dX10_undo_87 rfl ?_
            refine v_iret C X (by decide) dX10_undo_88 ?_
            have z : ∀ q : Nat, q ≠ 0 → m7 q = mI q := fun q h => by rw [← hq7, mup_k _ _ _ h]
            have z0 : ∀ j : Int, j ≠ 18 → m7 0 j = mI 0 j := fun j h => by rw [← hq7, mup_j _ _ h]
            have h17 : mI 0 17 = m 0 17 + 1 := by rw [hfI 0 (by decide), em5, mup_s, em4, mup_j _ _ (by decide)]
            have h0x : ∀ j : Int, j ≠ 16 → j ≠ 17 → mI 0 j = m 0 j := fun j h1 h2 => by rw [hfI 0 (by decide), em5, mup_j _ _ h2, em4, mup_j _ _ h1]
            have hqx : ∀ q : Nat, q ≠ 0 → q ≠ 5 → mI q = m q := fun q h1 h2 => by rw [hfI q h2, em5, mup_k _ _ _ h1, em4, mup_k _ _ _ h1]
            refine ⟨_, rfl, ⟨0, 2, by decide, Or.inl ⟨⟨hT1, by omega⟩, rfl, rfl, rfl, fun j h0 h1 => by rw [z 5 (by decide)]; exact h5I j h0 (by omega)⟩, Or.inr (Or.inr ⟨rfl, ?_⟩)⟩, ?_⟩
            · exact ⟨by rw [← hq7, mup_s], by rw [z0 17 (by decide)]; exact h17, by rw [z0 16 (by decide)]; exact e016, fun j h1 h2 h3 => by rw [z0 j h3]; exact h0x j h1 h2, fun q h => by rw [z q (by omega)]; exact hqx q (by omega) (by omega)⟩
            · have hpa := hti.2.2.2.2.2.2
              refine CI.act hk hcu hT1 hti hch (fun j h1 h2 h3 => by rw [z0 j h3]; exact h0x j h1 h2) (by rw [z0 17 (by decide)]; exact h17) (fun q h => by rw [z q (by omega)]; exact hqx q (by omega) (by omega)) (by unfold ChOk; rw [z 8 (by decide), z 9 (by decide), hqx 8 (by decide) (by decide), hqx 9 (by decide) (by decide)]; exact hti.2.2.1) ?_ (by rw [z 6 (by decide), z0 16 (by decide), e6I, e016]; exact ⟨fun r r0 r1 => hpa r r0 (by omega), by omega⟩)
              rw [z 5 (by decide)]
              exact (hpa (m 0 16 - 1) (by omega) (by omega)).cg fun j h0 h1 => h5I j h0 (by omega)
          · refine v_aload_n C 0 dX10_undo_51 rfl ?_
            refine v_get C 0 2 lC0 (eC0 _) rfl inX10 (by decide) rfl qw421 dX10_undo_52 ?_
            refine v_iload_n C 1 dX10_undo_55 rfl ?_
            refine v_aload_n C 0 dX10_undo_56 rfl ?_
            refine v_get C 0 3 lC0 (eC0 _) rfl inX10 (by decide) rfl qw422 dX10_undo_57 ?_
            refine v_aload_n C 0 dX10_undo_60 rfl ?_
            refine v_get C 0 16 lC0 (eC0 _) rfl inX10 (by decide) rfl qw435 dX10_undo_61 ?_
            refine v_bipush (z := 11) C dX10_undo_64 (by decide) ?_
            refine v_imul C dX10_undo_66 ?_
            refine v_iload_n C 1 dX10_undo_67 rfl ?_
            refine v_iadd C dX10_undo_68 ?_
            refine v_callS (st := [.int (iz (i)), .ref (aa 5)]) (n := 2) C [.ref (aa 6), .int (iz (((mI 0 16) * 11) + i))] (ct_StageRatios_at C.2.2.2.2.2.2.1 mI (6) (110) (((mI 0 16) * 11) + i) ⟨lC6, by decide, eC6⟩ (by first | assumption | omega)) qw618 qw1 qw653 rfl rfl ⟨Nat.le_of_ble_eq_true rfl, Nat.le_of_ble_eq_true rfl⟩ (by decide +kernel) qw617 rfl rfl (Nat.le_of_ble_eq_true rfl) dX10_undo_69 (fun r m8 hq8 => ?_)
            obtain ⟨z8, rfl, rfl, rfl⟩ := hq8
            show V E (wC D cy aa ad) 2 mI 72 [(0, .ref (aa 0)), (1, .int (iz (i)))] [.int (iz (mI 6 (((mI 0 16) * 11) + i))), .int (iz (i)), .ref (aa 5)]
            refine v_callS (st := []) (n := 3) C [.ref (aa 5), .int (iz (i)), .int (iz (mI 6 (((mI 0 16) * 11) + i)))] (ct_StageRatios_put C.2.2.2.2.2.2.1 mI (5) (11) (i) (mI 6 (((mI 0 16) * 11) + i)) ⟨lC5, by decide, eC5⟩ (by first | assumption | omega)) qw494 qw1 qw635 rfl rfl ⟨Nat.le_of_ble_eq_true rfl, Nat.le_of_ble_eq_true rfl⟩ (by decide +kernel) qw493 rfl rfl (Nat.le_of_ble_eq_true rfl) dX10_undo_72 (fun r m9 hq9 => ?_)
            obtain ⟨rfl, hq9⟩ := hq9
            show V E (wC D cy aa ad) 2 m9 75 [(0, .ref (aa 0)), (1, .int (iz (i)))] []
            refine v_iinc (L1 := [(1, .int (iz (i + 1))), (0, .ref (aa 0))]) C 1 dX10_undo_75 rfl (by decide) rfl ?_
            refine v_goto (tgt := 45) C dX10_undo_78 (by decide) ?_
            refine v_sub [1, 0] rfl ?_
            exact ih45 (i + 1) m9 (by first | assumption | omega) (by 
                            intro j h0 h1; rw [← hq9, mup_r]
                            by_cases e : j = i
                            · refine (if_pos e).trans ?_; rw [e6I, e016, e]; congr 1; omega
                            · exact (if_neg e).trans (h5I j h0 (by omega))
                          ) (by intro q h; rw [← hq9, mup_k _ _ _ h]; exact hfI q h) (by omega)
      refine v_sub [1, 0] rfl ?_
      exact K45 _ (0) m5 (by first | assumption | omega) (by intro j h0 h1; omega) (by intro q _; rfl) (Nat.lt_succ_self _)
    · refine v_sub [0] rfl ?_
      exact K15    (by first | assumption | omega)
