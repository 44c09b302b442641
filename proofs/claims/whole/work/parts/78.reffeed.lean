/-! the reference: feed, rocket -/
theorem nar_b (x : Int) : vp_nar .byte (iz (x.bmod 256)) = iz (x.bmod 256) := by rw [← iz_b]; exact pk_vb _
def wdK (a b c d e k : Int) : Int := if k < 4 then a else if k < 8 then b else if k < 12 then c else if k < 16 then d else e
theorem fd_w {a b c d e k : Int} (h0 : 0 ≤ k) (h1 : k < 20) : fdZ a b c d e k = byZ (wdK a b c d e k) (k % 4) := by
  unfold fdZ wdK
  by_cases h4 : k < 4
  · rw [if_pos h4, if_pos h4]; congr 1; omega
  rw [if_neg h4, if_neg h4]
  by_cases h8 : k < 8
  · rw [if_pos h8, if_pos h8]; congr 1; omega
  rw [if_neg h8, if_neg h8]
  by_cases h12 : k < 12
  · rw [if_pos h12, if_pos h12]; congr 1; omega
  rw [if_neg h12, if_neg h12]
  by_cases h16 : k < 16
  · rw [if_pos h16, if_pos h16]; congr 1; omega
  rw [if_neg h16, if_neg h16]; congr 1; omega
def RocketR (m m' : Mem) (b : Int → Int) (n z : Int) : Prop :=
  (¬ (0 ≤ n ∧ n ≤ m 0 25) ∧ z = -1 ∧ RQ 2 m m') ∨
  ((0 ≤ n ∧ n ≤ m 0 25) ∧ ∃ e, oAll b n 701 sg0 0 = .inl e ∧ z = -1 ∧ m' 0 1 = 4 ∧ m' 0 2 = e.2 ∧ m' 0 31 = e.1 ∧ m' 0 25 = 0 ∧ (∀ j : Int, CKj j → j ≠ 25 → j ≠ 31 → m' 0 j = m 0 j) ∧ ∀ q : Nat, (q = 1 ∨ q = 2 ∨ q = 6 ∨ q = 7 ∨ q = 8) → m' q = m q) ∨
  ((0 ≤ n ∧ n ≤ m 0 25) ∧ ∃ σ, oAll b n 701 sg0 0 = .inr σ ∧ z = σ.h 5 ∧ m' 0 1 = 0 ∧ m' 0 2 = -1 ∧ m' 0 31 = 0 ∧ m' 0 25 = 0 ∧ m' 0 20 = 1 ∧ m' 0 23 = 0 ∧ (m' 0 11 = σ.h 5 ∧ m' 0 8 = σ.h 2 ∧ m' 0 9 = σ.h 3 ∧ m' 0 10 = σ.h 4 ∧ m' 0 12 = σ.h 6) ∧ (∀ j : Int, 0 ≤ j → j < σ.h 5 * 9 → m' 1 j = σ.fa j) ∧ (∀ i : Int, 0 ≤ i → i < σ.h 6 → m' 2 (3 * i) = σ.ft i ∧ m' 2 (3 * i + 1) = σ.fk i ∧ m' 2 (3 * i + 2) = σ.fc i) ∧ (∀ j : Int, 0 ≤ j → j < 11 → m' 6 j = fiX σ.fa σ.h j) ∧ m' 8 = m 8)
theorem AllS.d {m : Mem} {y : Rs Sg} (h : AllS m y) : (∃ e, y = .inl e ∧ m 0 31 = e.1 ∧ 0 < e.1 ∧ e.1 ≤ 6 ∧ m 0 29 = e.2) ∨ (∃ σ, y = .inr σ ∧ m 0 31 = 0 ∧ DrR m σ) := by
  cases y with
  | inl e => exact Or.inl ⟨e, rfl, h⟩
  | inr σ => exact Or.inr ⟨σ, rfl, h⟩
theorem sg0_7 (σ : Sg) (h : SgOk σ) (h5 : 0 < σ.h 5) : σ.h 7 = 1 := by
  rcases h.1 with y | y
  · have := (h.2.1 y).1; omega
  · exact y
set_option maxHeartbeats 4000000 in
set_option maxRecDepth 100000 in
theorem ct_StageRatiosModel_feed {lau : Launch} {D : va_G} {cy : Nat → ClassId} {aa ad : Nat → Nat} (hI : wI (wR D cy aa ad)) (m : Mem) (a b c d e : Int) (hh : 0 ≤ m 0 25 ∧ m 0 25 ≤ 700) (ha : -2147483648 ≤ a ∧ a ≤ 2147483647) (hb : -2147483648 ≤ b ∧ b ≤ 2147483647) (hc : -2147483648 ≤ c ∧ c ≤ 2147483647) (hd : -2147483648 ≤ d ∧ d ≤ 2147483647) (he : -2147483648 ≤ e ∧ e ≤ 2147483647) : MT lau (wR D cy aa ad) yX11_feed cX11_feed 8 (some .int) ({ frames := 0, cells := 0, slots := 0, locals := 0 } : Room) m [.ref (aa 0), .int (iz (a)), .int (iz (b)), .int (iz (c)), .int (iz (d)), .int (iz (e))] (Pi (fun z m' => ((m 0 25 + 20 ≤ 700 ∧ z = m 0 25 + 20) ∨ (¬ m 0 25 + 20 ≤ 700 ∧ z = -1)) ∧ m' 0 25 = (if m 0 25 + 20 ≤ 700 then m 0 25 + 20 else m 0 25) ∧ (∀ j : Int, m' 8 j % 256 = if m 0 25 + 20 ≤ 700 ∧ m 0 25 ≤ j ∧ j < m 0 25 + 20 then fdZ a b c d e (j - m 0 25) else m 8 j % 256) ∧ (∀ j : Int, j ≠ 0 → j ≠ 25 → m' 0 j = m 0 j) ∧ ∀ q, q ≠ 0 → q ≠ 8 → m' q = m q)) := by
  refine v_entry hI RX11 (by decide) rfl (Nat.le_of_ble_eq_true rfl) (fun E hE C X => ?_)
  subst hE
  show V E (wR D cy aa ad) 8 m 0 [(0, .ref (aa 0)), (1, .int (iz (a))), (2, .int (iz (b))), (3, .int (iz (c))), (4, .int (iz (d))), (5, .int (iz (e)))] []
  refine v_aload_n C 0 dX11_feed_0 rfl ?_
  refine v_iconst (z := 0) C dX11_feed_1 rfl ?_
  refine v_put C 0 0 (0) 0 rfl lR0 (eR0 _) rfl inX11 tyX11 tyX11_ok nmX11 (by decide) qw1140 rfl rfl rfl (Nat.le_of_ble_eq_true rfl) (by rw [mup_r]; exact (eR0 _)) dX11_feed_2 (fun m1 em1 => ?_)
  have e25 : m1 0 25 = m 0 25 := by rw [em1, mup_j _ _ (by decide)]
  refine v_aload_n C 0 dX11_feed_5 rfl ?_
  refine v_get C 0 25 lR0 (eR0 _) rfl inX11 (by decide) rfl qw1165 dX11_feed_6 ?_
  refine v_bipush (z := 20) C dX11_feed_9 (by decide) ?_
  refine v_iadd C dX11_feed_11 ?_
  refine v_sipush (z := 700) C dX11_feed_12 (by decide) ?_
  refine v_icmp_le (tgt := 20) C dX11_feed_15 (by decide) (by omega) (by omega) (fun c2 => ?_) (fun c2 => ?_)
  · refine v_iconst (z := 0) C dX11_feed_20 rfl ?_
    refine v_istore (L1 := [(6, .int (iz (0))), (0, .ref (aa 0)), (1, .int (iz (a))), (2, .int (iz (b))), (3, .int (iz (c))), (4, .int (iz (d))), (5, .int (iz (e)))]) C dX11_feed_21 (by decide) rfl ?_
    have K23 : ∀ (nK : Nat) (k : Int) (mL : Mem) (hk : 0 ≤ k ∧ k ≤ 20) (h25 : mL 0 25 = m 0 25 + k) (h8 : ∀ j : Int, mL 8 j % 256 = if m 0 25 ≤ j ∧ j < m 0 25 + k then fdZ a b c d e (j - m 0 25) else m 8 j % 256) (h0 : ∀ j : Int, j ≠ 0 → j ≠ 25 → mL 0 j = m 0 j) (hf : ∀ q, q ≠ 0 → q ≠ 8 → mL q = m q), (20 - k).toNat < nK → V E (wR D cy aa ad) 8 mL 23 [(0, .ref (aa 0)), (1, .int (iz (a))), (2, .int (iz (b))), (3, .int (iz (c))), (4, .int (iz (d))), (5, .int (iz (e))), (6, .int (iz (k)))] [] := by
      intro nK
      induction nK with
      | zero => intro k mL hk h25 h8 h0 hf hn; exact absurd hn (Nat.not_lt_zero _)
      | succ nK ih23 =>
        intro k mL hk h25 h8 h0 hf hn23
        refine v_iload C 6 dX11_feed_23 rfl ?_
        refine v_bipush (z := 20) C dX11_feed_25 (by decide) ?_
        refine v_icmp_ge (tgt := 117) C dX11_feed_27 (by decide) (by omega) (by omega) (fun c3 => ?_) (fun c3 => ?_)
        · refine v_aload_n C 0 dX11_feed_117 rfl ?_
          refine v_get C 0 25 lR0 (eR0 _) rfl inX11 (by decide) rfl qw1165 dX11_feed_118 ?_
          refine v_iret C X rfl dX11_feed_121 ⟨_, rfl, ?_, ?_⟩
          · exact Or.inl ⟨by omega, by omega⟩
          · have k20 : k = 20 := by omega
            subst k20
            refine ⟨by rw [if_pos (by omega)]; exact h25, fun j => ?_, h0, hf⟩
            rw [h8]
            by_cases d : m 0 25 ≤ j ∧ j < m 0 25 + 20
            · rw [if_pos d, if_pos ⟨by omega, d⟩]
            · rw [if_neg d, if_neg (fun y => d y.2)]
        · have K76 : ∀ (v : Int) (hv : v = wdK a b c d e k) (hv2 : -2147483648 ≤ v ∧ v ≤ 2147483647), V E (wR D cy aa ad) 8 mL 76 [(0, .ref (aa 0)), (1, .int (iz (a))), (2, .int (iz (b))), (3, .int (iz (c))), (4, .int (iz (d))), (5, .int (iz (e))), (6, .int (iz (k)))] [.int (iz (v))] := by
            intro v  hv hv2
            refine v_istore (L1 := [(7, .int (iz (v))), (0, .ref (aa 0)), (1, .int (iz (a))), (2, .int (iz (b))), (3, .int (iz (c))), (4, .int (iz (d))), (5, .int (iz (e))), (6, .int (iz (k)))]) C dX11_feed_76 (by decide) rfl ?_
            refine v_aload_n C 1 dX11_feed_78 rfl ?_
            refine v_get C 0 24 lR0 (eR0 _) rfl inX11 (by decide) rfl qw1164 dX11_feed_79 ?_
            refine v_aload_n C 1 dX11_feed_82 rfl ?_
            refine v_get C 0 25 lR0 (eR0 _) rfl inX11 (by decide) rfl qw1165 dX11_feed_83 ?_
            refine v_iload C 0 dX11_feed_86 rfl ?_
            refine v_bipush (z := 24) C dX11_feed_88 (by decide) ?_
            refine v_bipush (z := 8) C dX11_feed_90 (by decide) ?_
            refine v_iload C 7 dX11_feed_92 rfl ?_
            refine v_iconst (z := 4) C dX11_feed_94 rfl ?_
            refine v_irem C (by omega) (by omega) dX11_feed_95 ?_
            refine v_imul C dX11_feed_96 ?_
            refine v_isub C dX11_feed_97 ?_
            refine v_ishr (z := v / 2 ^ (24 - 8 * (k % 4)).toNat) C (by exact iz_sr hv2 (by omega)) dX11_feed_98 ?_
            refine v_i2b (z := (v / 2 ^ (24 - 8 * (k % 4)).toNat).bmod 256) C (by exact iz_b _) dX11_feed_99 ?_
            refine v_bast C 8 lR8 eR8 (by decide) (by omega) (by exact nar_b _) dX11_feed_100 (fun m4 em4 => ?_)
            refine v_aload_n C 1 dX11_feed_101 rfl ?_
            refine v_dup C dX11_feed_102 rfl ?_
            refine v_get C 0 25 lR0 (eR0 _) rfl inX11 (by decide) rfl qw1165 dX11_feed_103 ?_
            refine v_iconst (z := 1) C dX11_feed_106 rfl ?_
            refine v_iadd C dX11_feed_107 ?_
            refine v_put C 0 25 ((m4 0 25) + 1) 25 rfl lR0 (eR0 _) rfl inX11 tyX11 tyX11_ok nmX11 (by decide) qw1165 rfl rfl rfl (Nat.le_of_ble_eq_true rfl) (by rw [mup_r]; exact (eR0 _)) dX11_feed_108 (fun m5 em5 => ?_)
            refine v_iinc (L1 := [(6, .int (iz (k + 1))), (7, .int (iz (v))), (0, .ref (aa 0)), (1, .int (iz (a))), (2, .int (iz (b))), (3, .int (iz (c))), (4, .int (iz (d))), (5, .int (iz (e)))]) C 7 dX11_feed_111 rfl (by decide) rfl ?_
            refine v_goto (tgt := 23) C dX11_feed_114 (by decide) ?_
            refine v_sub [2, 3, 4, 5, 6, 7, 0] rfl ?_
            exact ih23 (k + 1) m5 (by omega) (by rw [em5, mup_s, em4, mup_k _ _ _ (by decide)]; omega) (by 
                            intro j
                            rw [em5, mup_k _ _ _ (by decide), em4]
                            by_cases e : j = mL 0 25
                            · rw [if_pos (by omega), e, mup_s, byZ_s (i := k % 4) rfl (by omega), hv]
                              rw [show mL 0 25 - m 0 25 = k by omega]; exact (fd_w hk.1 (by omega)).symm
                            · rw [mup_j _ _ e, h8]
                              by_cases d : m 0 25 ≤ j ∧ j < m 0 25 + k
                              · rw [if_pos d, if_pos (by omega)]
                              · rw [if_neg d, if_neg (by omega)]
                          ) (by intro j y y2; rw [em5, mup_j _ _ y2, em4, mup_k _ _ _ (by decide)]; exact h0 j y y2) (by intro q y y2; rw [em5, mup_k _ _ _ y, em4, mup_k _ _ _ y2]; exact hf q y y2) (by omega)
          refine v_iload C 6 dX11_feed_30 rfl ?_
          refine v_iconst (z := 4) C dX11_feed_32 rfl ?_
          refine v_icmp_ge (tgt := 40) C dX11_feed_33 (by decide) (by omega) (by omega) (fun c6 => ?_) (fun c6 => ?_)
          · refine v_iload C 6 dX11_feed_40 rfl ?_
            refine v_bipush (z := 8) C dX11_feed_42 (by decide) ?_
            refine v_icmp_ge (tgt := 51) C dX11_feed_44 (by decide) (by omega) (by omega) (fun c7 => ?_) (fun c7 => ?_)
            · refine v_iload C 6 dX11_feed_51 rfl ?_
              refine v_bipush (z := 12) C dX11_feed_53 (by decide) ?_
              refine v_icmp_ge (tgt := 62) C dX11_feed_55 (by decide) (by omega) (by omega) (fun c8 => ?_) (fun c8 => ?_)
              · refine v_iload C 6 dX11_feed_62 rfl ?_
                refine v_bipush (z := 16) C dX11_feed_64 (by decide) ?_
                refine v_icmp_ge (tgt := 74) C dX11_feed_66 (by decide) (by omega) (by omega) (fun c9 => ?_) (fun c9 => ?_)
                · refine v_iload C 5 dX11_feed_74 rfl ?_
                  refine v_sub [0, 1, 2, 3, 4, 5, 6] rfl ?_
                  exact K76  (e)  (by 
                                        unfold wdK
                                        first
                                          | (rw [if_pos (by omega)])
                                          | (rw [if_neg (by omega), if_pos (by omega)])
                                          | (rw [if_neg (by omega), if_neg (by omega), if_pos (by omega)])
                                          | (rw [if_neg (by omega), if_neg (by omega), if_neg (by omega), if_pos (by omega)])
                                          | (rw [if_neg (by omega), if_neg (by omega), if_neg (by omega), if_neg (by omega)])
                                      ) (by omega)
                · refine v_iload C 4 dX11_feed_69 rfl ?_
                  refine v_goto (tgt := 76) C dX11_feed_71 (by decide) ?_
                  refine v_sub [0, 1, 2, 3, 4, 5, 6] rfl ?_
                  exact K76  (d)  (by 
                                        unfold wdK
                                        first
                                          | (rw [if_pos (by omega)])
                                          | (rw [if_neg (by omega), if_pos (by omega)])
                                          | (rw [if_neg (by omega), if_neg (by omega), if_pos (by omega)])
                                          | (rw [if_neg (by omega), if_neg (by omega), if_neg (by omega), if_pos (by omega)])
                                          | (rw [if_neg (by omega), if_neg (by omega), if_neg (by omega), if_neg (by omega)])
                                      ) (by omega)
              · refine v_iload_n C 3 dX11_feed_58 rfl ?_
                refine v_goto (tgt := 76) C dX11_feed_59 (by decide) ?_
                refine v_sub [0, 1, 2, 3, 4, 5, 6] rfl ?_
                exact K76  (c)  (by 
                                    unfold wdK
                                    first
                                      | (rw [if_pos (by omega)])
                                      | (rw [if_neg (by omega), if_pos (by omega)])
                                      | (rw [if_neg (by omega), if_neg (by omega), if_pos (by omega)])
                                      | (rw [if_neg (by omega), if_neg (by omega), if_neg (by omega), if_pos (by omega)])
                                      | (rw [if_neg (by omega), if_neg (by omega), if_neg (by omega), if_neg (by omega)])
                                  ) (by omega)
            · refine v_iload_n C 2 dX11_feed_47 rfl ?_
              refine v_goto (tgt := 76) C dX11_feed_48 (by decide) ?_
              refine v_sub [0, 1, 2, 3, 4, 5, 6] rfl ?_
              exact K76  (b)  (by 
                                unfold wdK
                                first
                                  | (rw [if_pos (by omega)])
                                  | (rw [if_neg (by omega), if_pos (by omega)])
                                  | (rw [if_neg (by omega), if_neg (by omega), if_pos (by omega)])
                                  | (rw [if_neg (by omega), if_neg (by omega), if_neg (by omega), if_pos (by omega)])
                                  | (rw [if_neg (by omega), if_neg (by omega), if_neg (by omega), if_neg (by omega)])
                              ) (by omega)
          · refine v_iload_n C 1 dX11_feed_36 rfl ?_
            refine v_goto (tgt := 76) C dX11_feed_37 (by decide) ?_
            refine v_sub [0, 1, 2, 3, 4, 5, 6] rfl ?_
            exact K76  (a)  (by 
                            unfold wdK
                            first
                              | (rw [if_pos (by omega)])
                              | (rw [if_neg (by omega), if_pos (by omega)])
                              | (rw [if_neg (by omega), if_neg (by omega), if_pos (by omega)])
                              | (rw [if_neg (by omega), if_neg (by omega), if_neg (by omega), if_pos (by omega)])
                              | (rw [if_neg (by omega), if_neg (by omega), if_neg (by omega), if_neg (by omega)])
                          ) (by omega)
    refine v_sub [1, 2, 3, 4, 5, 6, 0] rfl ?_
    exact K23 _ (0) m1 (by omega) (by omega) (by intro j; rw [if_neg (by omega), em1, mup_k _ _ _ (by decide)]) (by intro j y _; rw [em1, mup_j _ _ y]) (by intro q y _; rw [em1, mup_k _ _ _ y]) (Nat.lt_succ_self _)
  · refine v_iconst (z := -1) C dX11_feed_18 rfl ?_
    refine v_iret C X rfl dX11_feed_19 ⟨_, rfl, ?_, ?_⟩
    · exact Or.inr ⟨by omega, rfl⟩
    · exact ⟨by rw [if_neg (by omega)]; exact e25, fun j => by rw [if_neg (fun y => by omega), em1, mup_k _ _ _ (by decide)], fun j y _ => by rw [em1, mup_j _ _ y], fun q y _ => by rw [em1, mup_k _ _ _ y]⟩

set_option maxHeartbeats 4000000 in
set_option maxRecDepth 100000 in
theorem ct_StageRatiosModel_told0 {lau : Launch} {D : va_G} {cy : Nat → ClassId} {aa ad : Nat → Nat} (hI : wI (wR D cy aa ad)) (m : Mem) (s w : Int) (hs : 0 ≤ s ∧ s ≤ 2) (hw : 0 ≤ w ∧ w ≤ 8) : MT lau (wR D cy aa ad) yX11_told cX11_told 3 (some .int) ({ frames := 0, cells := 0, slots := 0, locals := 0 } : Room) m [.ref (aa 0), .int (iz (s)), .int (iz (w))] (Pi (fun z m' => m 1 (9 * s + w) = z ∧ m = m')) := by
  refine v_entry hI RX11 (by decide) rfl (Nat.le_of_ble_eq_true rfl) (fun E hE C X => ?_)
  subst hE
  show V E (wR D cy aa ad) 3 m 0 [(0, .ref (aa 0)), (1, .int (iz (s))), (2, .int (iz (w)))] []
  refine v_aload_n C 0 dX11_told_0 rfl ?_
  refine v_get C 0 3 lR0 (eR0 _) rfl inX11 (by decide) rfl qw1143 dX11_told_1 ?_
  refine v_bipush (z := 9) C dX11_told_4 (by decide) ?_
  refine v_iload_n C 1 dX11_told_6 rfl ?_
  refine v_imul C dX11_told_7 ?_
  refine v_iload_n C 2 dX11_told_8 rfl ?_
  refine v_iadd C dX11_told_9 ?_
  refine v_iald C 1 lR1 (eR1 _) (by decide) (by omega) dX11_told_10 ?_
  refine v_iret C X rfl dX11_told_11 ⟨_, rfl, ?_, ?_⟩
  · rfl
  · rfl

set_option maxHeartbeats 4000000 in
set_option maxRecDepth 100000 in
theorem ct_StageRatiosModel_rocket {lau : Launch} {D : va_G} {cy : Nat → ClassId} {aa ad : Nat → Nat} (hI : wI (wR D cy aa ad)) (m : Mem) (fa Af Bf Cf Rr Xx b : Int → Int) (n : Int) (hT : TT m fa Af Bf Cf Rr Xx) (hh : 0 ≤ m 0 25 ∧ m 0 25 ≤ 700) (hb : ∀ j : Int, 0 ≤ j → j < 700 → m 8 j % 256 = b j) (hn : -2147483648 ≤ n ∧ n ≤ 2147483647) : MT lau (wR D cy aa ad) yX11_rocket cX11_rocket 3 (some .int) ({ frames := 9, cells := 0, slots := 0, locals := 204 } : Room) m [.ref (aa 0), .int (iz (n))] (Pi (fun z m' => (RocketR m m' b n z) ∧ True)) := by
  refine v_entry hI RX11 (by decide) rfl (Nat.le_of_ble_eq_true rfl) (fun E hE C X => ?_)
  subst hE
  show V E (wR D cy aa ad) 3 m 0 [(0, .ref (aa 0)), (1, .int (iz (n)))] []
  refine v_aload_n C 0 dX11_rocket_0 rfl ?_
  refine v_iconst (z := 0) C dX11_rocket_1 rfl ?_
  refine v_put C 0 0 (0) 0 rfl lR0 (eR0 _) rfl inX11 tyX11 tyX11_ok nmX11 (by decide) qw1140 rfl rfl rfl (Nat.le_of_ble_eq_true rfl) (by rw [mup_r]; exact (eR0 _)) dX11_rocket_2 (fun m1 em1 => ?_)
  have fk2 : FK m m1 := by rw [em1]; exact FK.up 0 0 (by unfold CKj; omega)
  have e25 : m1 0 25 = m 0 25 := fk2.1 25 (by unfold CKj; omega)
  refine v_iload_n C 1 dX11_rocket_5 rfl ?_
  refine v_if_lt (tgt := 17) C dX11_rocket_6 (by decide) (by omega) (fun c2 => ?_) (fun c2 => ?_)
  · refine v_aload_n C 0 dX11_rocket_17 rfl ?_
    refine v_iconst (z := 2) C dX11_rocket_18 rfl ?_
    refine v_callV (st := []) (n := 1) (q := 0) C [.int (iz (2))] (ct_StageRatiosModel_refused C.2.2.2.2.2.2.1 m1 (2) ) lR0 (eR0 _) rfl qw1340 qw16 qw1337 rfl rfl ⟨Nat.le_of_ble_eq_true rfl, Nat.le_of_ble_eq_true rfl⟩ (by decide +kernel) qw1339 qp36 rfl rfl (Nat.le_of_ble_eq_true rfl) dX11_rocket_19 (fun r m3 hq3 => ?_)
    obtain ⟨z3, rfl, rfl, hq3⟩ := hq3
    show V E (wR D cy aa ad) 3 m3 22 [(0, .ref (aa 0)), (1, .int (iz (n)))] [.int (iz (-1))]
    refine v_iret C X rfl dX11_rocket_22 ⟨_, rfl, ?_, ?_⟩
    · rw [← hq3]
      exact Or.inl ⟨by omega, rfl, RQ.of fk2.1 fk2.2⟩
    · trivial
  · refine v_iload_n C 1 dX11_rocket_9 rfl ?_
    refine v_aload_n C 0 dX11_rocket_10 rfl ?_
    refine v_get C 0 25 lR0 (eR0 _) rfl inX11 (by decide) rfl qw1165 dX11_rocket_11 ?_
    refine v_icmp_le (tgt := 23) C dX11_rocket_14 (by decide) (by omega) (by omega) (fun c4 => ?_) (fun c4 => ?_)
    · refine v_aload_n C 0 dX11_rocket_23 rfl ?_
      refine v_iload_n C 1 dX11_rocket_24 rfl ?_
      refine v_put C 0 26 (n) 26 rfl lR0 (eR0 _) rfl inX11 tyX11 tyX11_ok nmX11 (by decide) qw1166 rfl rfl rfl (Nat.le_of_ble_eq_true rfl) (by rw [mup_r]; exact (eR0 _)) dX11_rocket_25 (fun m5 em5 => ?_)
      refine v_aload_n C 0 dX11_rocket_28 rfl ?_
      refine v_iconst (z := 0) C dX11_rocket_29 rfl ?_
      refine v_put C 0 25 (0) 25 rfl lR0 (eR0 _) rfl inX11 tyX11 tyX11_ok nmX11 (by decide) qw1165 rfl rfl rfl (Nat.le_of_ble_eq_true rfl) (by rw [mup_r]; exact (eR0 _)) dX11_rocket_30 (fun m6 em6 => ?_)
      refine v_aload_n C 0 dX11_rocket_33 rfl ?_
      refine v_iconst (z := 0) C dX11_rocket_34 rfl ?_
      refine v_put C 0 27 (0) 27 rfl lR0 (eR0 _) rfl inX11 tyX11 tyX11_ok nmX11 (by decide) qw1167 rfl rfl rfl (Nat.le_of_ble_eq_true rfl) (by rw [mup_r]; exact (eR0 _)) dX11_rocket_35 (fun m7 em7 => ?_)
      refine v_aload_n C 0 dX11_rocket_38 rfl ?_
      refine v_iconst (z := 0) C dX11_rocket_39 rfl ?_
      refine v_put C 0 31 (0) 31 rfl lR0 (eR0 _) rfl inX11 tyX11 tyX11_ok nmX11 (by decide) qw1171 rfl rfl rfl (Nat.le_of_ble_eq_true rfl) (by rw [mup_r]; exact (eR0 _)) dX11_rocket_40 (fun m8 em8 => ?_)
      have y40 : ∀ j : Int, j ≠ 0 → j ≠ 25 → j ≠ 26 → j ≠ 27 → j ≠ 31 → m8 0 j = m 0 j := fun j a1 a2 a3 a4 a5 => by rw [em8, mup_j _ _ a5, em7, mup_j _ _ a4, em6, mup_j _ _ a2, em5, mup_j _ _ a3, em1, mup_j _ _ a1]
      have z40 : ∀ q, q ≠ 0 → m8 q = m q := fun q a => by rw [em8, mup_k _ _ _ a, em7, mup_k _ _ _ a, em6, mup_k _ _ _ a, em5, mup_k _ _ _ a, em1, mup_k _ _ _ a]
      have t40 : m8 0 25 = 0 := by rw [em8, mup_j _ _ (by decide), em7, mup_j _ _ (by decide), em6, mup_s]
      have hB : BtR m8 b n := ⟨by rw [em8, mup_j _ _ (by decide), em7, mup_j _ _ (by decide), em6, mup_j _ _ (by decide), em5, mup_s], ⟨by omega, by omega⟩, fun j j0 j1 => by rw [z40 8 (by decide)]; exact hb j j0 (by omega)⟩
      refine v_aload_n C 0 dX11_rocket_43 rfl ?_
      refine v_callV (st := []) (n := 0) (q := 0) C [] (ct_StageRatiosModel_readAll C.2.2.2.2.2.2.1 m8 (b) (n) (by exact hB) (by rw [em8, mup_s]) (by rw [em8, mup_j _ _ (by decide), em7, mup_s])) lR0 (eR0 _) rfl qw1344 qw16 qw1341 rfl rfl ⟨Nat.le_of_ble_eq_true rfl, Nat.le_of_ble_eq_true rfl⟩ (by decide +kernel) qw1343 qp37 rfl rfl (Nat.le_of_ble_eq_true rfl) dX11_rocket_44 (fun r m9 hq9 => ?_)
      obtain ⟨rfl, hq9⟩ := hq9
      show V E (wR D cy aa ad) 3 m9 47 [(0, .ref (aa 0)), (1, .int (iz (n)))] []
      have hA := hq9.1.d
      have F44 := hq9.2
      have f31 : 0 ≤ m9 0 31 ∧ m9 0 31 ≤ 6 := by rcases hA with ⟨e, -, y1, y2, y3, -⟩ | ⟨σ, -, y1, -⟩ <;> omega
      have y44 : ∀ j : Int, CKj j → j ≠ 25 → j ≠ 31 → m9 0 j = m 0 j := fun j hj a c => by
        have y : j ≠ 0 ∧ j ≠ 26 ∧ j ≠ 27 ∧ (j < 13 ∨ 19 < j ∧ j < 27 ∨ 32 < j) := by unfold CKj at hj; omega
        rw [F44.1 j y.2.2.2]; exact y40 j y.1 a y.2.1 y.2.2.1 c
      have t44 : m9 0 25 = 0 := by rw [F44.1 25 (by omega)]; exact t40
      have z44 : ∀ q : Nat, (q = 1 ∨ q = 2 ∨ q = 6 ∨ q = 7 ∨ q = 8) → m9 q = m q := fun q hq => by rw [F44.2 q (by omega) (by omega) (by omega) (by omega)]; exact z40 q (by omega)
      refine v_aload_n C 0 dX11_rocket_47 rfl ?_
      refine v_get C 0 31 lR0 (eR0 _) rfl inX11 (by decide) rfl qw1171 dX11_rocket_48 ?_
      refine v_if_le (tgt := 69) C dX11_rocket_51 (by decide) (by omega) (fun c10 => ?_) (fun c10 => ?_)
      · obtain ⟨σ, hσe, h31, hD⟩ := hA.resolve_left (fun ⟨e, _, y1, y2, _⟩ => by omega)
        obtain ⟨hSg, h5p⟩ := oAll_i _ _ _ _ hσe (by omega) sg0_ok
        obtain ⟨d1, d2, d3, d4, d5, d6, d7⟩ := id hD
        obtain ⟨s1, s2, s3, s4, s5, s6, s7, s8⟩ := id hSg
        have h7 := sg0_7 σ hSg h5p
        have d4b := d4 h7
        rw [if_pos h7] at d1
        refine v_aload_n C 0 dX11_rocket_69 rfl ?_
        refine v_iconst (z := 1) C dX11_rocket_70 rfl ?_
        refine v_put C 0 20 (1) 20 rfl lR0 (eR0 _) rfl inX11 tyX11 tyX11_ok nmX11 (by decide) qw1160 rfl (by decide) rfl (Nat.le_of_ble_eq_true rfl) (by rw [mup_r]; exact (eR0 _)) dX11_rocket_71 (fun m11 em11 => ?_)
        refine v_aload_n C 0 dX11_rocket_74 rfl ?_
        refine v_aload_n C 0 dX11_rocket_75 rfl ?_
        refine v_get C 0 13 lR0 (eR0 _) rfl inX11 (by decide) rfl qw1153 dX11_rocket_76 ?_
        refine v_put C 0 8 (m11 0 13) 8 rfl lR0 (eR0 _) rfl inX11 tyX11 tyX11_ok nmX11 (by decide) qw1148 rfl rfl rfl (Nat.le_of_ble_eq_true rfl) (by rw [mup_r]; exact (eR0 _)) dX11_rocket_79 (fun m12 em12 => ?_)
        refine v_aload_n C 0 dX11_rocket_82 rfl ?_
        refine v_aload_n C 0 dX11_rocket_83 rfl ?_
        refine v_get C 0 14 lR0 (eR0 _) rfl inX11 (by decide) rfl qw1154 dX11_rocket_84 ?_
        refine v_put C 0 9 (m12 0 14) 9 rfl lR0 (eR0 _) rfl inX11 tyX11 tyX11_ok nmX11 (by decide) qw1149 rfl rfl rfl (Nat.le_of_ble_eq_true rfl) (by rw [mup_r]; exact (eR0 _)) dX11_rocket_87 (fun m13 em13 => ?_)
        refine v_aload_n C 0 dX11_rocket_90 rfl ?_
        refine v_aload_n C 0 dX11_rocket_91 rfl ?_
        refine v_get C 0 15 lR0 (eR0 _) rfl inX11 (by decide) rfl qw1155 dX11_rocket_92 ?_
        refine v_put C 0 10 (m13 0 15) 10 rfl lR0 (eR0 _) rfl inX11 tyX11 tyX11_ok nmX11 (by decide) qw1150 rfl rfl rfl (Nat.le_of_ble_eq_true rfl) (by rw [mup_r]; exact (eR0 _)) dX11_rocket_95 (fun m14 em14 => ?_)
        refine v_aload_n C 0 dX11_rocket_98 rfl ?_
        refine v_aload_n C 0 dX11_rocket_99 rfl ?_
        refine v_get C 0 18 lR0 (eR0 _) rfl inX11 (by decide) rfl qw1158 dX11_rocket_100 ?_
        refine v_put C 0 11 (m14 0 18) 11 rfl lR0 (eR0 _) rfl inX11 tyX11 tyX11_ok nmX11 (by decide) qw1151 rfl rfl rfl (Nat.le_of_ble_eq_true rfl) (by rw [mup_r]; exact (eR0 _)) dX11_rocket_103 (fun m15 em15 => ?_)
        refine v_aload_n C 0 dX11_rocket_106 rfl ?_
        refine v_aload_n C 0 dX11_rocket_107 rfl ?_
        refine v_get C 0 19 lR0 (eR0 _) rfl inX11 (by decide) rfl qw1159 dX11_rocket_108 ?_
        refine v_put C 0 12 (m15 0 19) 12 rfl lR0 (eR0 _) rfl inX11 tyX11 tyX11_ok nmX11 (by decide) qw1152 rfl rfl rfl (Nat.le_of_ble_eq_true rfl) (by rw [mup_r]; exact (eR0 _)) dX11_rocket_111 (fun m16 em16 => ?_)
        have w111 : ∀ j : Int, j ≠ 20 → j ≠ 8 → j ≠ 9 → j ≠ 10 → j ≠ 11 → j ≠ 12 → m16 0 j = m9 0 j := fun j a1 a2 a3 a4 a5 a6 => by rw [em16, mup_j _ _ a6, em15, mup_j _ _ a5, em14, mup_j _ _ a4, em13, mup_j _ _ a3, em12, mup_j _ _ a2, em11, mup_j _ _ a1]
        have r8 : m16 0 8 = σ.h 2 := by rw [em16, mup_j _ _ (by decide), em15, mup_j _ _ (by decide), em14, mup_j _ _ (by decide), em13, mup_j _ _ (by decide), em12, mup_s, em11, mup_j _ _ (by decide)]; exact d1
        have r9 : m16 0 9 = σ.h 3 := by rw [em16, mup_j _ _ (by decide), em15, mup_j _ _ (by decide), em14, mup_j _ _ (by decide), em13, mup_s, em12, mup_j _ _ (by decide), em11, mup_j _ _ (by decide)]; exact d4b.2.2.1
        have r10 : m16 0 10 = σ.h 4 := by rw [em16, mup_j _ _ (by decide), em15, mup_j _ _ (by decide), em14, mup_s, em13, mup_j _ _ (by decide), em12, mup_j _ _ (by decide), em11, mup_j _ _ (by decide)]; exact d4b.2.2.2
        have r11 : m16 0 11 = σ.h 5 := by rw [em16, mup_j _ _ (by decide), em15, mup_s, em14, mup_j _ _ (by decide), em13, mup_j _ _ (by decide), em12, mup_j _ _ (by decide), em11, mup_j _ _ (by decide)]; exact d2
        have r12 : m16 0 12 = σ.h 6 := by rw [em16, mup_s, em15, mup_j _ _ (by decide), em14, mup_j _ _ (by decide), em13, mup_j _ _ (by decide), em12, mup_j _ _ (by decide), em11, mup_j _ _ (by decide)]; exact d3
        have r20 : m16 0 20 = 1 := by rw [em16, mup_j _ _ (by decide), em15, mup_j _ _ (by decide), em14, mup_j _ _ (by decide), em13, mup_j _ _ (by decide), em12, mup_j _ _ (by decide), em11, mup_s]
        have v111 : ∀ q, q ≠ 0 → m16 q = m9 q := fun q a => by rw [em16, mup_k _ _ _ a, em15, mup_k _ _ _ a, em14, mup_k _ _ _ a, em13, mup_k _ _ _ a, em12, mup_k _ _ _ a, em11, mup_k _ _ _ a]
        refine v_iconst (z := 0) C dX11_rocket_114 rfl ?_
        refine v_istore_n (L1 := [(2, .int (iz (0))), (0, .ref (aa 0)), (1, .int (iz (n)))]) C dX11_rocket_115 (by decide) rfl ?_
        have K116 : ∀ (nK : Nat) (k : Int) (mA : Mem) (hk : 0 ≤ k ∧ k ≤ 27) (hA1 : ∀ j : Int, 0 ≤ j → j < k → mA 1 j = m16 3 j) (hAq : ∀ q, q ≠ 1 → mA q = m16 q), (27 - k).toNat < nK → V E (wR D cy aa ad) 3 mA 116 [(0, .ref (aa 0)), (2, .int (iz (k)))] [] := by
          intro nK
          induction nK with
          | zero => intro k mA hk hA1 hAq hn; exact absurd hn (Nat.not_lt_zero _)
          | succ nK ih116 =>
            intro k mA hk hA1 hAq hn116
            refine v_iload_n C 1 dX11_rocket_116 rfl ?_
            refine v_bipush (z := 27) C dX11_rocket_117 (by decide) ?_
            refine v_icmp_ge (tgt := 140) C dX11_rocket_119 (by decide) (by omega) (by omega) (fun c17 => ?_) (fun c17 => ?_)
            · refine v_iconst (z := 0) C dX11_rocket_140 rfl ?_
              refine v_istore_n (L1 := [(2, .int (iz (0))), (0, .ref (aa 0))]) C dX11_rocket_141 (by decide) rfl ?_
              have K142 : ∀ (nK : Nat) (k2 : Int) (mB : Mem) (hk2 : 0 ≤ k2 ∧ k2 ≤ 18) (hB2 : ∀ j : Int, 0 ≤ j → j < k2 → mB 2 j = m16 4 j) (hB1 : ∀ j : Int, 0 ≤ j → j < 27 → mB 1 j = m16 3 j) (hB0 : mB 0 = m16 0) (hBq : ∀ q, q ≠ 1 → q ≠ 2 → mB q = m16 q), (18 - k2).toNat < nK → V E (wR D cy aa ad) 3 mB 142 [(0, .ref (aa 0)), (2, .int (iz (k2)))] [] := by
                intro nK
                induction nK with
                | zero => intro k2 mB hk2 hB2 hB1 hB0 hBq hn; exact absurd hn (Nat.not_lt_zero _)
                | succ nK ih142 =>
                  intro k2 mB hk2 hB2 hB1 hB0 hBq hn142
                  refine v_iload_n C 1 dX11_rocket_142 rfl ?_
                  refine v_bipush (z := 18) C dX11_rocket_143 (by decide) ?_
                  refine v_icmp_ge (tgt := 166) C dX11_rocket_145 (by decide) (by omega) (by omega) (fun c18 => ?_) (fun c18 => ?_)
                  · refine v_aload_n C 0 dX11_rocket_166 rfl ?_
                    refine v_iconst (z := 0) C dX11_rocket_167 rfl ?_
                    refine v_put C 0 23 (0) 23 rfl lR0 (eR0 _) rfl inX11 tyX11 tyX11_ok nmX11 (by decide) qw1163 rfl rfl rfl (Nat.le_of_ble_eq_true rfl) (by rw [mup_r]; exact (eR0 _)) dX11_rocket_168 (fun m19 em19 => ?_)
                    refine v_aload_n C 0 dX11_rocket_171 rfl ?_
                    refine v_get C 0 21 lR0 (eR0 _) rfl inX11 (by decide) rfl qw1161 dX11_rocket_172 ?_
                    refine v_iconst (z := 0) C dX11_rocket_175 rfl ?_
                    refine v_aload_n C 0 dX11_rocket_176 rfl ?_
                    refine v_get C 0 17 lR0 (eR0 _) rfl inX11 (by decide) rfl qw1157 dX11_rocket_177 ?_
                    refine v_iast C 6 lR6 eR6 (by decide) (by omega) dX11_rocket_180 (fun m20 em20 => ?_)
                    refine v_aload_n C 0 dX11_rocket_181 rfl ?_
                    refine v_get C 0 21 lR0 (eR0 _) rfl inX11 (by decide) rfl qw1161 dX11_rocket_182 ?_
                    refine v_iconst (z := 1) C dX11_rocket_185 rfl ?_
                    refine v_aload_n C 0 dX11_rocket_186 rfl ?_
                    refine v_get C 0 16 lR0 (eR0 _) rfl inX11 (by decide) rfl qw1156 dX11_rocket_187 ?_
                    refine v_iast C 6 lR6 eR6 (by decide) (by omega) dX11_rocket_190 (fun m21 em21 => ?_)
                    have k0 : ∀ j : Int, j ≠ 23 → m21 0 j = m16 0 j := fun j a => by rw [em21, mup_k _ _ _ (by decide), em20, mup_k _ _ _ (by decide), em19, mup_j _ _ a, hB0]
                    have k23 : m21 0 23 = 0 := by rw [em21, mup_k _ _ _ (by decide), em20, mup_k _ _ _ (by decide), em19, mup_s]
                    have k60 : m21 6 0 = σ.h 0 := by rw [em21, mup_j _ _ (by decide), em20, mup_s, em19, mup_j _ _ (by decide), hB0, w111 17 (by decide) (by decide) (by decide) (by decide) (by decide) (by decide)]; exact d4b.1
                    have k61 : m21 6 1 = σ.h 1 := by rw [em21, mup_s, em20, mup_k _ _ _ (by decide), em19, mup_j _ _ (by decide), hB0, w111 16 (by decide) (by decide) (by decide) (by decide) (by decide) (by decide)]; exact d4b.2.1
                    have kq : ∀ q, q ≠ 0 → q ≠ 6 → m21 q = mB q := fun q a c => by rw [em21, mup_k _ _ _ c, em20, mup_k _ _ _ c, em19, mup_k _ _ _ a]
                    refine v_iconst (z := 0) C dX11_rocket_191 rfl ?_
                    refine v_istore_n (L1 := [(2, .int (iz (0))), (0, .ref (aa 0))]) C dX11_rocket_192 (by decide) rfl ?_
                    have K193 : ∀ (nK : Nat) (s : Int) (mX : Mem) (hs : 0 ≤ s ∧ s ≤ 3) (hX0 : mX 0 = m21 0) (hXq : ∀ q, q ≠ 6 → mX q = m21 q) (hX6 : mX 6 0 = σ.h 0 ∧ mX 6 1 = σ.h 1) (hXs : ∀ j : Int, 0 ≤ j → j < s → mX 6 (2 + j) = mstZ σ.fa (σ.h 5) j ∧ mX 6 (5 + j) = 0 ∧ mX 6 (8 + j) = mstZ σ.fa (σ.h 5) j), (3 - s).toNat < nK → V E (wR D cy aa ad) 3 mX 193 [(0, .ref (aa 0)), (2, .int (iz (s)))] [] := by
                      intro nK
                      induction nK with
                      | zero => intro s mX hs hX0 hXq hX6 hXs hn; exact absurd hn (Nat.not_lt_zero _)
                      | succ nK ih193 =>
                        intro s mX hs hX0 hXq hX6 hXs hn193
                        have x11 : mX 0 11 = σ.h 5 := by rw [hX0, k0 11 (by decide)]; exact r11
                        have x1 : ∀ j : Int, 0 ≤ j → j < σ.h 5 * 9 → mX 1 j = σ.fa j := fun j a c => by rw [hXq 1 (by decide), kq 1 (by decide) (by decide), hB1 j a (by omega), v111 3 (by decide)]; exact d5 j a c
                        refine v_iload_n C 1 dX11_rocket_193 rfl ?_
                        refine v_iconst (z := 3) C dX11_rocket_194 rfl ?_
                        refine v_icmp_ge (tgt := 256) C dX11_rocket_195 (by decide) (by omega) (by omega) (fun c22 => ?_) (fun c22 => ?_)
                        · refine v_aload_n C 0 dX11_rocket_256 rfl ?_
                          refine v_aload_n C 0 dX11_rocket_257 rfl ?_
                          refine v_get C 0 11 lR0 (eR0 _) rfl inX11 (by decide) rfl qw1151 dX11_rocket_258 ?_
                          refine v_callV (st := []) (n := 1) (q := 0) C [.int (iz (mX 0 11))] (ct_StageRatiosModel_good C.2.2.2.2.2.2.1 mX (mX 0 11) ) lR0 (eR0 _) rfl qw1444 qw16 qw1441 rfl rfl ⟨Nat.le_of_ble_eq_true rfl, Nat.le_of_ble_eq_true rfl⟩ (by decide +kernel) qw1443 qp56 rfl rfl (Nat.le_of_ble_eq_true rfl) dX11_rocket_261 (fun r m23 hq23 => ?_)
                          obtain ⟨z23, rfl, rfl, hq23⟩ := hq23
                          show V E (wR D cy aa ad) 3 m23 264 [(0, .ref (aa 0)), (2, .int (iz (s)))] [.int (iz ((mX 0 11)))]
                          refine v_iret C X rfl dX11_rocket_264 ⟨_, rfl, ?_, ?_⟩
                          · rw [← hq23]
                            have s3e : s = 3 := by omega
                            subst s3e
                            have g0 : ∀ j : Int, j ≠ 1 → j ≠ 2 → j ≠ 23 → mup (mup mX 0 1 0) 0 2 (-1) 0 j = m16 0 j := fun j a c d => by rw [mup_j _ _ c, mup_j _ _ a, hX0]; exact k0 j d
                            have gq : ∀ q, q ≠ 0 → mup (mup mX 0 1 0) 0 2 (-1) q = mX q := fun q a => by rw [mup_k _ _ _ a, mup_k _ _ _ a]
                            refine Or.inr (Or.inr ⟨⟨by omega, by omega⟩, σ, hσe, x11, by rw [mup_j _ _ (by decide), mup_s], mup_s _ _ _ _, ?_, ?_, ?_, ?_, ⟨?_, ?_, ?_, ?_, ?_⟩, fun j a c => ?_, fun i a c => ?_, fun j a c => ?_, ?_⟩)
                            · rw [g0 31 (by decide) (by decide) (by decide), w111 31 (by decide) (by decide) (by decide) (by decide) (by decide) (by decide)]; exact h31
                            · rw [g0 25 (by decide) (by decide) (by decide), w111 25 (by decide) (by decide) (by decide) (by decide) (by decide) (by decide)]; exact t44
                            · rw [g0 20 (by decide) (by decide) (by decide)]; exact r20
                            · rw [mup_j _ _ (by decide), mup_j _ _ (by decide), hX0]; exact k23
                            · rw [g0 11 (by decide) (by decide) (by decide)]; exact r11
                            · rw [g0 8 (by decide) (by decide) (by decide)]; exact r8
                            · rw [g0 9 (by decide) (by decide) (by decide)]; exact r9
                            · rw [g0 10 (by decide) (by decide) (by decide)]; exact r10
                            · rw [g0 12 (by decide) (by decide) (by decide)]; exact r12
                            · rw [gq 1 (by decide)]; exact x1 j a c
                            · rw [gq 2 (by decide), hXq 2 (by decide), kq 2 (by decide) (by decide), hB2 _ (by omega) (by omega), hB2 _ (by omega) (by omega), hB2 _ (by omega) (by omega), v111 4 (by decide)]; exact d7 i a c
                            · rw [gq 6 (by decide)]
                              unfold fiX
                              by_cases e0 : j = 0
                              · rw [if_pos e0, e0]; exact hX6.1
                              rw [if_neg e0]
                              by_cases e1 : j = 1
                              · rw [if_pos e1, e1]; exact hX6.2
                              rw [if_neg e1]
                              by_cases e2 : j < 5
                              · rw [if_pos e2, ← (hXs (j - 2) (by omega) (by omega)).1]; congr 1; omega
                              rw [if_neg e2]
                              by_cases e3 : j < 8
                              · rw [if_pos e3, ← (hXs (j - 5) (by omega) (by omega)).2.1]; congr 1; omega
                              rw [if_neg e3, ← (hXs (j - 8) (by omega) (by omega)).2.2]; congr 1; omega
                            · rw [gq 8 (by decide), hXq 8 (by decide), kq 8 (by decide) (by decide), hBq 8 (by decide) (by decide), v111 8 (by decide)]; exact z44 8 (by omega)
                          · trivial
                        · refine v_aload_n C 0 dX11_rocket_198 rfl ?_
                          refine v_get C 0 21 lR0 (eR0 _) rfl inX11 (by decide) rfl qw1161 dX11_rocket_199 ?_
                          refine v_iconst (z := 2) C dX11_rocket_202 rfl ?_
                          refine v_iload_n C 1 dX11_rocket_203 rfl ?_
                          refine v_iadd C dX11_rocket_204 ?_
                          refine v_iload_n C 1 dX11_rocket_205 rfl ?_
                          refine v_aload_n C 0 dX11_rocket_206 rfl ?_
                          refine v_get C 0 11 lR0 (eR0 _) rfl inX11 (by decide) rfl qw1151 dX11_rocket_207 ?_
                          have K223 : ∀ (mo : Int) (hmo : mo = mstZ σ.fa (σ.h 5) s), V E (wR D cy aa ad) 3 mX 223 [(0, .ref (aa 0)), (2, .int (iz (s)))] [.int (iz (mo)), .int (iz (2 + s)), .ref (aa 6)] := by
                            intro mo  hmo
                            refine v_iast C 6 lR6 eR6 (by decide) (by omega) dX11_rocket_223 (fun m24 em24 => ?_)
                            refine v_aload_n C 0 dX11_rocket_224 rfl ?_
                            refine v_get C 0 21 lR0 (eR0 _) rfl inX11 (by decide) rfl qw1161 dX11_rocket_225 ?_
                            refine v_iconst (z := 5) C dX11_rocket_228 rfl ?_
                            refine v_iload_n C 1 dX11_rocket_229 rfl ?_
                            refine v_iadd C dX11_rocket_230 ?_
                            refine v_iconst (z := 0) C dX11_rocket_231 rfl ?_
                            refine v_iast C 6 lR6 eR6 (by decide) (by omega) dX11_rocket_232 (fun m25 em25 => ?_)
                            refine v_aload_n C 0 dX11_rocket_233 rfl ?_
                            refine v_get C 0 21 lR0 (eR0 _) rfl inX11 (by decide) rfl qw1161 dX11_rocket_234 ?_
                            refine v_bipush (z := 8) C dX11_rocket_237 (by decide) ?_
                            refine v_iload_n C 1 dX11_rocket_239 rfl ?_
                            refine v_iadd C dX11_rocket_240 ?_
                            refine v_aload_n C 0 dX11_rocket_241 rfl ?_
                            refine v_get C 0 21 lR0 (eR0 _) rfl inX11 (by decide) rfl qw1161 dX11_rocket_242 ?_
                            refine v_iconst (z := 2) C dX11_rocket_245 rfl ?_
                            refine v_iload_n C 1 dX11_rocket_246 rfl ?_
                            refine v_iadd C dX11_rocket_247 ?_
                            refine v_iald C 6 lR6 (eR6 _) (by decide) (by omega) dX11_rocket_248 ?_
                            refine v_iast C 6 lR6 eR6 (by decide) (by omega) dX11_rocket_249 (fun m26 em26 => ?_)
                            refine v_iinc (L1 := [(2, .int (iz (s + 1))), (0, .ref (aa 0))]) C 1 dX11_rocket_250 rfl (by decide) rfl ?_
                            refine v_goto (tgt := 193) C dX11_rocket_253 (by decide) ?_
                            refine v_sub [1, 0] rfl ?_
                            exact ih193 (s + 1) m26 (by omega) (by rw [em26, mup_k _ _ _ (by decide), em25, mup_k _ _ _ (by decide), em24, mup_k _ _ _ (by decide)]; exact hX0) (by intro q a; rw [em26, mup_k _ _ _ a, em25, mup_k _ _ _ a, em24, mup_k _ _ _ a]; exact hXq q a) (by rw [em26, em25, em24, mup_j _ _ (by omega), mup_j _ _ (by omega), mup_j _ _ (by omega), mup_j _ _ (by omega), mup_j _ _ (by omega), mup_j _ _ (by omega)]; exact hX6) (by 
                                                            intro j a c
                                                            rw [em26]
                                                            have q2 : m25 6 (2 + s) = mo := by rw [em25, mup_j _ _ (by omega), em24, mup_s]
                                                            by_cases e : j = s
                                                            · subst e
                                                              refine ⟨?_, ?_, ?_⟩
                                                              · rw [mup_j _ _ (by omega), q2]; exact hmo
                                                              · rw [mup_j _ _ (by omega), em25, mup_s]
                                                              · rw [mup_s, q2]; exact hmo
                                                            · rw [em25, em24, mup_j _ _ (by omega), mup_j _ _ (by omega), mup_j _ _ (by omega), mup_j _ _ (by omega), mup_j _ _ (by omega), mup_j _ _ (by omega), mup_j _ _ (by omega), mup_j _ _ (by omega), mup_j _ _ (by omega)]; exact hXs j a (by omega)
                                                          ) (by omega)
                          refine v_icmp_ge (tgt := 222) C dX11_rocket_210 (by decide) (by omega) (by omega) (fun c27 => ?_) (fun c27 => ?_)
                          · refine v_iconst (z := 0) C dX11_rocket_222 rfl ?_
                            refine v_sub [0, 1] rfl ?_
                            exact K223  (0)  (by 
                                                            unfold mstZ
                                                            first
                                                              | (rw [if_neg (by omega)])
                                                              | (rw [if_pos (by omega), x1 _ (by omega) (by omega)]; congr 1; omega)
                                                          )
                          · refine v_aload_n C 0 dX11_rocket_213 rfl ?_
                            refine v_iload_n C 1 dX11_rocket_214 rfl ?_
                            refine v_iconst (z := 3) C dX11_rocket_215 rfl ?_
                            refine v_callV (st := [.int (iz (2 + s)), .ref (aa 6)]) (n := 2) (q := 0) C [.int (iz (s)), .int (iz (3))] (ct_StageRatiosModel_told0 C.2.2.2.2.2.2.1 mX (s) (3) (by omega) (by decide)) lR0 (eR0 _) rfl qw1440 qw16 qw1437 rfl rfl ⟨Nat.le_of_ble_eq_true rfl, Nat.le_of_ble_eq_true rfl⟩ (by decide +kernel) qw1439 qp55 rfl rfl (Nat.le_of_ble_eq_true rfl) dX11_rocket_216 (fun r m28 hq28 => ?_)
                            obtain ⟨z28, rfl, rfl, rfl⟩ := hq28
                            show V E (wR D cy aa ad) 3 mX 219 [(0, .ref (aa 0)), (2, .int (iz (s)))] [.int (iz (mX 1 (9 * s + 3))), .int (iz (2 + s)), .ref (aa 6)]
                            refine v_goto (tgt := 223) C dX11_rocket_219 (by decide) ?_
                            refine v_sub [0, 1] rfl ?_
                            exact K223  (mX 1 (9 * s + 3))  (by 
                                                            unfold mstZ
                                                            first
                                                              | (rw [if_neg (by omega)])
                                                              | (rw [if_pos (by omega), x1 _ (by omega) (by omega)]; congr 1; omega)
                                                          )
                    refine v_sub [1, 0] rfl ?_
                    exact K193 _ (0) m21 (by omega) (by rfl) (by intro q _; rfl) (by exact ⟨k60, k61⟩) (by intro j a c; omega) (Nat.lt_succ_self _)
                  · refine v_aload_n C 0 dX11_rocket_148 rfl ?_
                    refine v_get C 0 4 lR0 (eR0 _) rfl inX11 (by decide) rfl qw1144 dX11_rocket_149 ?_
                    refine v_iload_n C 1 dX11_rocket_152 rfl ?_
                    refine v_aload_n C 0 dX11_rocket_153 rfl ?_
                    refine v_get C 0 6 lR0 (eR0 _) rfl inX11 (by decide) rfl qw1146 dX11_rocket_154 ?_
                    refine v_iload_n C 1 dX11_rocket_157 rfl ?_
                    refine v_iald C 4 lR4 (eR4 _) (by decide) (by omega) dX11_rocket_158 ?_
                    refine v_iast C 2 lR2 eR2 (by decide) (by omega) dX11_rocket_159 (fun m29 em29 => ?_)
                    refine v_iinc (L1 := [(2, .int (iz (k2 + 1))), (0, .ref (aa 0))]) C 1 dX11_rocket_160 rfl (by decide) rfl ?_
                    refine v_goto (tgt := 142) C dX11_rocket_163 (by decide) ?_
                    refine v_sub [1, 0] rfl ?_
                    exact ih142 (k2 + 1) m29 (by omega) (by 
                                            intro j a c; rw [em29]; by_cases e : j = k2
                                            · rw [e, mup_s, hBq 4 (by decide) (by decide)]
                                            · rw [mup_j _ _ e]; exact hB2 j a (by omega)
                                          ) (by intro j a c; rw [em29, mup_k _ _ _ (by decide)]; exact hB1 j a c) (by rw [em29, mup_k _ _ _ (by decide)]; exact hB0) (by intro q a c; rw [em29, mup_k _ _ _ c]; exact hBq q a c) (by omega)
              refine v_sub [1, 0] rfl ?_
              exact K142 _ (0) mA (by omega) (by intro j a c; omega) (by intro j a c; exact hA1 j a (by omega)) (by exact hAq 0 (by decide)) (by intro q a _; exact hAq q a) (Nat.lt_succ_self _)
            · refine v_aload_n C 0 dX11_rocket_122 rfl ?_
              refine v_get C 0 3 lR0 (eR0 _) rfl inX11 (by decide) rfl qw1143 dX11_rocket_123 ?_
              refine v_iload_n C 1 dX11_rocket_126 rfl ?_
              refine v_aload_n C 0 dX11_rocket_127 rfl ?_
              refine v_get C 0 5 lR0 (eR0 _) rfl inX11 (by decide) rfl qw1145 dX11_rocket_128 ?_
              refine v_iload_n C 1 dX11_rocket_131 rfl ?_
              refine v_iald C 3 lR3 (eR3 _) (by decide) (by omega) dX11_rocket_132 ?_
              refine v_iast C 1 lR1 eR1 (by decide) (by omega) dX11_rocket_133 (fun m30 em30 => ?_)
              refine v_iinc (L1 := [(2, .int (iz (k + 1))), (0, .ref (aa 0))]) C 1 dX11_rocket_134 rfl (by decide) rfl ?_
              refine v_goto (tgt := 116) C dX11_rocket_137 (by decide) ?_
              refine v_sub [1, 0] rfl ?_
              exact ih116 (k + 1) m30 (by omega) (by 
                                intro j a c; rw [em30]; by_cases e : j = k
                                · rw [e, mup_s, hAq 3 (by decide)]
                                · rw [mup_j _ _ e]; exact hA1 j a (by omega)
                              ) (by intro q a; rw [em30, mup_k _ _ _ a]; exact hAq q a) (by omega)
        refine v_sub [1, 0] rfl ?_
        exact K116 _ (0) m16 (by omega) (by intro j a c; omega) (by intro q _; rfl) (Nat.lt_succ_self _)
      · obtain ⟨e, hee, he1, he2, he3, he4⟩ := hA.resolve_right (fun ⟨σ, _, y1, _⟩ => by omega)
        refine v_aload_n C 0 dX11_rocket_54 rfl ?_
        refine v_iconst (z := 4) C dX11_rocket_55 rfl ?_
        refine v_put C 0 1 (4) 1 rfl lR0 (eR0 _) rfl inX11 tyX11 tyX11_ok nmX11 (by decide) qw1141 rfl rfl rfl (Nat.le_of_ble_eq_true rfl) (by rw [mup_r]; exact (eR0 _)) dX11_rocket_56 (fun m31 em31 => ?_)
        refine v_aload_n C 0 dX11_rocket_59 rfl ?_
        refine v_aload_n C 0 dX11_rocket_60 rfl ?_
        refine v_get C 0 29 lR0 (eR0 _) rfl inX11 (by decide) rfl qw1169 dX11_rocket_61 ?_
        refine v_put C 0 2 (m31 0 29) 2 rfl lR0 (eR0 _) rfl inX11 tyX11 tyX11_ok nmX11 (by decide) qw1142 rfl rfl rfl (Nat.le_of_ble_eq_true rfl) (by rw [mup_r]; exact (eR0 _)) dX11_rocket_64 (fun m32 em32 => ?_)
        refine v_iconst (z := -1) C dX11_rocket_67 rfl ?_
        refine v_iret C X rfl dX11_rocket_68 ⟨_, rfl, ?_, ?_⟩
        · have zz : ∀ j : Int, j ≠ 1 → j ≠ 2 → m32 0 j = m9 0 j := fun j a c => by rw [em32, mup_j _ _ c, em31, mup_j _ _ a]
          refine Or.inr (Or.inl ⟨⟨by omega, by omega⟩, e, hee, rfl, by rw [em32, mup_j _ _ (by decide), em31, mup_s], by rw [em32, mup_s, em31, mup_j _ _ (by decide)]; exact he4, by rw [zz 31 (by decide) (by decide)]; exact he1, by rw [zz 25 (by decide) (by decide)]; exact t44, fun j hj a c => ?_, fun q hq => by rw [em32, mup_k _ _ _ (by omega), em31, mup_k _ _ _ (by omega)]; exact z44 q hq⟩)
          rw [zz j (by unfold CKj at hj; omega) (by unfold CKj at hj; omega)]; exact y44 j hj a c
        · trivial
    · refine v_aload_n C 0 dX11_rocket_17 rfl ?_
      refine v_iconst (z := 2) C dX11_rocket_18 rfl ?_
      refine v_callV (st := []) (n := 1) (q := 0) C [.int (iz (2))] (ct_StageRatiosModel_refused C.2.2.2.2.2.2.1 m1 (2) ) lR0 (eR0 _) rfl qw1340 qw16 qw1337 rfl rfl ⟨Nat.le_of_ble_eq_true rfl, Nat.le_of_ble_eq_true rfl⟩ (by decide +kernel) qw1339 qp36 rfl rfl (Nat.le_of_ble_eq_true rfl) dX11_rocket_19 (fun r m33 hq33 => ?_)
      obtain ⟨z33, rfl, rfl, hq33⟩ := hq33
      show V E (wR D cy aa ad) 3 m33 22 [(0, .ref (aa 0)), (1, .int (iz (n)))] [.int (iz (-1))]
      refine v_iret C X rfl dX11_rocket_22 ⟨_, rfl, ?_, ?_⟩
      · rw [← hq33]
        exact Or.inl ⟨by omega, rfl, RQ.of fk2.1 fk2.2⟩
      · trivial
