set_option maxHeartbeats 4000000 in
set_option maxRecDepth 100000 in
theorem ct_Big_setOne {lau : Launch} {D : va_G} {cy : Nat → ClassId} {aa ad : Nat → Nat} (hI : wI (wC D cy aa ad)) (m : Mem) (g gl : Nat) (hg : BigAt g gl) : MT lau (wC D cy aa ad) yX0_setOne cX0_setOne 1 (none) ({ frames := 0, cells := 0, slots := 0, locals := 0 } : Room) m [.ref (aa g)] (Pv (fun m' => BigIs m' g gl 1 ∧ (∀ k, k ≠ g → k ≠ gl → m' k = m k))) := by
  refine v_entry hI RX0 (by decide) rfl (Nat.le_of_ble_eq_true rfl) (fun E hE C X => ?_)
  subst hE
  show V E (wC D cy aa ad) 1 m 0 [(0, .ref (aa g))] []
  have hgne : gl ≠ g := by unfold BigAt at hg; omega
  refine v_aload_n C 0 dX0_setOne_0 rfl ?_
  refine v_get C g 0 (BigAt.l0 hg) (BigAt.e0 hg _) rfl inX0 (by decide) rfl qw229 dX0_setOne_1 ?_
  refine v_alen C gl 1 (BigAt.l1 hg) (BigAt.e1 hg _) rfl dX0_setOne_4 ?_
  refine v_st (st1 := [.int (iz (16))]) rfl ?_
  refine v_if_le (tgt := 15) C dX0_setOne_5 (by decide) (by omega) (fun c1 => by exact absurd c1 (by decide)) (fun c1 => ?_)
  refine v_aload_n C 0 dX0_setOne_8 rfl ?_
  refine v_get C g 0 (BigAt.l0 hg) (BigAt.e0 hg _) rfl inX0 (by decide) rfl qw229 dX0_setOne_9 ?_
  refine v_iconst (z := 0) C dX0_setOne_12 rfl ?_
  refine v_lconst (z := 1) C dX0_setOne_13 rfl ?_
  refine v_last C gl (BigAt.l1 hg) (BigAt.e1 hg) (by decide) (by omega) dX0_setOne_14 (fun m2 em2 => ?_)
  refine v_aload_n C 0 dX0_setOne_15 rfl ?_
  refine v_iconst (z := 1) C dX0_setOne_16 rfl ?_
  refine v_put C g 1 (1) 1 rfl (BigAt.l0 hg) (BigAt.e0 hg _) rfl inX0 tyX0 tyX0_ok nmX0 (by decide) qw230 rfl rfl rfl (Nat.le_of_ble_eq_true rfl) (by rw [mup_r]; exact (BigAt.e0 hg _)) dX0_setOne_17 (fun m3 em3 => ?_)
  refine v_vret C X dX0_setOne_20 ⟨rfl, ?_⟩
  refine ⟨⟨1, by omega, by omega, by rw [em3, mup_s]; rfl, fun j h0 h1 => ?_, ?_, ?_⟩, fun k h1 h2 => ?_⟩
  · have : j = 0 := by omega
    subst this
    rw [em3, mup_k _ _ _ hgne, em2, mup_s]; omega
  · rw [em3, mup_k _ _ _ hgne, em2]; show 0 < mup m gl 0 1 gl 0; rw [mup_s]; omega
  · show 0 + m3 gl ((0 : Nat) : Int) * 1 = 1
    rw [em3, mup_k _ _ _ hgne, em2]; show 0 + mup m gl 0 1 gl 0 * 1 = 1; rw [mup_s]; rfl
  · rw [em3, mup_k _ _ _ h1, em2, mup_k _ _ _ h2]

set_option maxHeartbeats 4000000 in
set_option maxRecDepth 100000 in
theorem ct_Big_multiply {lau : Launch} {D : va_G} {cy : Nat → ClassId} {aa ad : Nat → Nat} (hI : wI (wC D cy aa ad)) (m : Mem) (g gl : Nat) (x v : Int) (hg : BigAt g gl) (hb : BigIs m g gl v) (hx : 1 ≤ x ∧ x ≤ 32768) (hlt : v * x < 281474976710656 ^ 16) : MT lau (wC D cy aa ad) yX0_multiply cX0_multiply 7 (none) ({ frames := 0, cells := 0, slots := 0, locals := 0 } : Room) m [.ref (aa g), .int (iz (x))] (Pv (fun m' => BigIs m' g gl (v * x) ∧ (∀ k, k ≠ g → k ≠ gl → m' k = m k))) := by
  refine v_entry hI RX0 (by decide) rfl (Nat.le_of_ble_eq_true rfl) (fun E hE C X => ?_)
  subst hE
  show V E (wC D cy aa ad) 7 m 0 [(0, .ref (aa g)), (1, .int (iz (x)))] []
  have hgne : gl ≠ g := by unfold BigAt at hg; omega
  obtain ⟨n, hn1, hn2, hu, hlim, htop, hval⟩ := hb
  refine v_lconst (z := 0) C dX0_multiply_0 rfl ?_
  refine v_lstore_n (L1 := [(2, .long (lz (0))), (0, .ref (aa g)), (1, .int (iz (x)))]) C dX0_multiply_1 (by decide) rfl ?_
  refine v_iconst (z := 0) C dX0_multiply_2 rfl ?_
  refine v_istore (L1 := [(4, .int (iz (0))), (2, .long (lz (0))), (0, .ref (aa g)), (1, .int (iz (x)))]) C dX0_multiply_3 (by decide) rfl ?_
  have K5 : ∀ (nK : Nat) (i : Int) (c : Int) (mL : Mem) (hi : 0 ≤ i ∧ i ≤ n) (hc : 0 ≤ c ∧ c < x) (hf : ∀ k, k ≠ gl → mL k = m k) (hlo : ∀ j : Int, 0 ≤ j → j < i → 0 ≤ mL gl j ∧ mL gl j < 281474976710656) (hhi : ∀ j : Int, i ≤ j → mL gl j = m gl j) (hV : bigV (mL gl) i.toNat + c * 281474976710656 ^ i.toNat = bigV (m gl) i.toNat * x), (n - i).toNat < nK → V E (wC D cy aa ad) 7 mL 5 [(0, .ref (aa g)), (1, .int (iz (x))), (2, .long (lz (c))), (4, .int (iz (i)))] [] := by
    intro nK
    induction nK with
    | zero => intro i c mL hi hc hf hlo hhi hV hn; exact absurd hn (Nat.not_lt_zero _)
    | succ nK ih5 =>
      intro i c mL hi hc hf hlo hhi hV hn5
      have hun : mL g 1 = n := by rw [hf g (Ne.symm hgne)]; exact hu
      refine v_iload C 3 dX0_multiply_5 rfl ?_
      refine v_aload_n C 0 dX0_multiply_7 rfl ?_
      refine v_get C g 1 (BigAt.l0 hg) (BigAt.e0 hg _) rfl inX0 (by decide) rfl qw230 dX0_multiply_8 ?_
      refine v_icmp_ge (tgt := 63) C dX0_multiply_11 (by decide) (by omega) (by omega) (fun c1 => ?_) (fun c1 => ?_)
      · have hin : i = n := by omega
        subst hin
        rw [show ((n : Int)).toNat = n from rfl, hval] at hV
        have hw := bigV_top hn1 hlim htop
        rw [hval] at hw
        have hv0 : 0 < v := Int.lt_of_lt_of_le (powB_pos _) hw
        have hwx : (281474976710656 : Int) ^ (n - 1) ≤ v * x := Int.le_trans hw (by have := Int.mul_le_mul_of_nonneg_left (a := 1) (b := x) (c := v) (by omega) (by omega); rwa [Int.mul_one] at this)
        refine v_lload_n C 2 dX0_multiply_63 rfl ?_
        refine v_lconst (z := 0) C dX0_multiply_64 rfl ?_
        refine v_lc_le (tgt := 108) C dX0_multiply_65 dX0_multiply_66 (by decide) (by omega) (by omega) (fun c2 => ?_) (fun c2 => ?_)
        · refine v_vret C X dX0_multiply_108 ⟨rfl, ?_⟩
          first
            | (have hc0 : c = 0 := by omega
               rw [hc0, Int.zero_mul, Int.add_zero] at hV
               exact ⟨big_end0 hn1 hn2 hun hlo hV hwx, fun k h1 h2 => hf k h2⟩)
            | (have q := big_end1 (m := mL) (n := n) hgne (by omega) hlo hV (by omega) (by omega)
               have e1 : NO_m97 = mup mL gl n c := by rw [NO_em97, hun]
               have e2 : NO_m105 = mup (mup mL gl n c) g 1 ((n : Int) + 1) := by rw [NO_em105, e1, mup_k _ _ _ (Ne.symm hgne), hun]
               rw [e2]
               exact ⟨q, fun k h1 h2 => by rw [mup_k _ _ _ h1, mup_k _ _ _ h2]; exact hf k h2⟩)
        · refine v_aload_n C 0 dX0_multiply_69 rfl ?_
          refine v_get C g 1 (BigAt.l0 hg) (BigAt.e0 hg _) rfl inX0 (by decide) rfl qw230 dX0_multiply_70 ?_
          refine v_if_lt (tgt := 108) C dX0_multiply_73 (by decide) (by omega) (fun c3 => ?_) (fun c3 => ?_)
          · exfalso; omega
          · refine v_aload_n C 0 dX0_multiply_76 rfl ?_
            refine v_get C g 1 (BigAt.l0 hg) (BigAt.e0 hg _) rfl inX0 (by decide) rfl qw230 dX0_multiply_77 ?_
            refine v_aload_n C 0 dX0_multiply_80 rfl ?_
            refine v_get C g 0 (BigAt.l0 hg) (BigAt.e0 hg _) rfl inX0 (by decide) rfl qw229 dX0_multiply_81 ?_
            refine v_alen C gl 1 (BigAt.l1 hg) (BigAt.e1 hg _) rfl dX0_multiply_84 ?_
            refine v_st (st1 := [.int (iz (16)), .int (iz (mL g 1))]) rfl ?_
            refine v_icmp_ge (tgt := 108) C dX0_multiply_85 (by decide) (by omega) (by omega) (fun c4 => ?_) (fun c4 => ?_)
            · exfalso
              have e16 : n = 16 := by omega
              subst e16
              have e1 := (bigV_rng hlo).1
              have e2 : 1 * 281474976710656 ^ 16 ≤ c * 281474976710656 ^ 16 := Int.mul_le_mul_of_nonneg_right (by omega) (Int.le_of_lt (powB_pos _))
              omega
            · refine v_aload_n C 0 dX0_multiply_88 rfl ?_
              refine v_get C g 0 (BigAt.l0 hg) (BigAt.e0 hg _) rfl inX0 (by decide) rfl qw229 dX0_multiply_89 ?_
              refine v_aload_n C 0 dX0_multiply_92 rfl ?_
              refine v_get C g 1 (BigAt.l0 hg) (BigAt.e0 hg _) rfl inX0 (by decide) rfl qw230 dX0_multiply_93 ?_
              refine v_lload_n C 2 dX0_multiply_96 rfl ?_
              refine v_last C gl (BigAt.l1 hg) (BigAt.e1 hg) (by decide) (by omega) dX0_multiply_97 (fun m5 em5 => ?_)
              refine v_aload_n C 0 dX0_multiply_98 rfl ?_
              refine v_dup C dX0_multiply_99 rfl ?_
              refine v_get C g 1 (BigAt.l0 hg) (BigAt.e0 hg _) rfl inX0 (by decide) rfl qw230 dX0_multiply_100 ?_
              refine v_iconst (z := 1) C dX0_multiply_103 rfl ?_
              refine v_iadd C dX0_multiply_104 ?_
              refine v_put C g 1 ((m5 g 1) + 1) 1 rfl (BigAt.l0 hg) (BigAt.e0 hg _) rfl inX0 tyX0 tyX0_ok nmX0 (by decide) qw230 rfl rfl rfl (Nat.le_of_ble_eq_true rfl) (by rw [mup_r]; exact (BigAt.e0 hg _)) dX0_multiply_105 (fun m6 em6 => ?_)
              refine v_vret C X dX0_multiply_108 ⟨rfl, ?_⟩
              first
                | (have hc0 : c = 0 := by omega
                   rw [hc0, Int.zero_mul, Int.add_zero] at hV
                   exact ⟨big_end0 hn1 hn2 hun hlo hV hwx, fun k h1 h2 => hf k h2⟩)
                | (have q := big_end1 (m := mL) (n := n) hgne (by omega) hlo hV (by omega) (by omega)
                   have e1 : m5 = mup mL gl n c := by rw [em5, hun]
                   have e2 : m6 = mup (mup mL gl n c) g 1 ((n : Int) + 1) := by rw [em6, e1, mup_k _ _ _ (Ne.symm hgne), hun]
                   rw [e2]
                   exact ⟨q, fun k h1 h2 => by rw [mup_k _ _ _ h1, mup_k _ _ _ h2]; exact hf k h2⟩)
      · refine v_iload C 3 dX0_multiply_14 rfl ?_
        refine v_aload_n C 0 dX0_multiply_16 rfl ?_
        refine v_get C g 0 (BigAt.l0 hg) (BigAt.e0 hg _) rfl inX0 (by decide) rfl qw229 dX0_multiply_17 ?_
        refine v_alen C gl 1 (BigAt.l1 hg) (BigAt.e1 hg _) rfl dX0_multiply_20 ?_
        refine v_st (st1 := [.int (iz (16)), .int (iz (i))]) rfl ?_
        refine v_icmp_ge (tgt := 63) C dX0_multiply_21 (by decide) (by omega) (by omega) (fun c7 => ?_) (fun c7 => ?_)
        · exfalso; omega
        · have hgi := hlim i (by omega) (by omega)
          have hgi2 : mL gl i = m gl i := hhi i (by omega)
          have hmul : m gl i * x ≤ 281474976710655 * x := Int.mul_le_mul_of_nonneg_right (by omega) (by omega)
          have hmul0 : 0 ≤ m gl i * x := Int.mul_nonneg (by omega) (by omega)
          have hp : 0 ≤ mL gl i * x + c ∧ mL gl i * x + c < 9223372036854775808 := by rw [hgi2]; exact ⟨by omega, by omega⟩
          refine v_aload_n C 0 dX0_multiply_24 rfl ?_
          refine v_get C g 0 (BigAt.l0 hg) (BigAt.e0 hg _) rfl inX0 (by decide) rfl qw229 dX0_multiply_25 ?_
          refine v_iload C 3 dX0_multiply_28 rfl ?_
          refine v_lald C gl (BigAt.l1 hg) (BigAt.e1 hg _) (by decide) (by omega) dX0_multiply_30 ?_
          refine v_iload_n C 1 dX0_multiply_31 rfl ?_
          refine v_i2l C (by omega) dX0_multiply_32 ?_
          refine v_lmul C dX0_multiply_33 ?_
          refine v_lload_n C 2 dX0_multiply_34 rfl ?_
          refine v_ladd C dX0_multiply_35 ?_
          refine v_lstore (L1 := [(5, .long (lz (((mL gl i) * x) + c))), (0, .ref (aa g)), (1, .int (iz (x))), (2, .long (lz (c))), (4, .int (iz (i)))]) C dX0_multiply_36 (by decide) rfl ?_
          refine v_aload_n C 1 dX0_multiply_38 rfl ?_
          refine v_get C g 0 (BigAt.l0 hg) (BigAt.e0 hg _) rfl inX0 (by decide) rfl qw229 dX0_multiply_39 ?_
          refine v_iload C 4 dX0_multiply_42 rfl ?_
          refine v_lload C 0 dX0_multiply_44 rfl ?_
          refine v_ldc2 (z := 281474976710655) C qw764 dX0_multiply_46 rfl ?_
          refine v_land (z := (mL gl i * x + c) % 281474976710656) C (by exact lz_mask hp.1 hp.2) dX0_multiply_49 ?_
          refine v_last C gl (BigAt.l1 hg) (BigAt.e1 hg) (by decide) (by omega) dX0_multiply_50 (fun m8 em8 => ?_)
          refine v_lload C 0 dX0_multiply_51 rfl ?_
          refine v_bipush (z := 48) C dX0_multiply_53 (by decide) ?_
          refine v_lushr (z := (mL gl i * x + c) / 281474976710656) C (by exact lz_sh48 hp.1 hp.2) dX0_multiply_55 ?_
          refine v_lstore_n (L1 := [(2, .long (lz ((mL gl i * x + c) / 281474976710656))), (5, .long (lz (((mL gl i) * x) + c))), (0, .ref (aa g)), (1, .int (iz (x))), (4, .int (iz (i)))]) C dX0_multiply_56 (by decide) rfl ?_
          refine v_iinc (L1 := [(4, .int (iz (i + 1))), (2, .long (lz ((mL gl i * x + c) / 281474976710656))), (5, .long (lz (((mL gl i) * x) + c))), (0, .ref (aa g)), (1, .int (iz (x)))]) C 4 dX0_multiply_57 rfl (by decide) rfl ?_
          refine v_goto (tgt := 5) C dX0_multiply_60 (by decide) ?_
          refine v_sub [3, 4, 1, 0] rfl ?_
          exact ih5 (i + 1) ((mL gl i * x + c) / 281474976710656) m8 (by first | assumption | omega) (by rw [hgi2]; exact ⟨by omega, by omega⟩) (by intro k h; rw [em8, mup_k _ _ _ h]; exact hf k h) (by 
                        intro j h0 h1; rw [em8]
                        by_cases q : j = i
                        · subst q; rw [mup_s]; exact ⟨Int.emod_nonneg _ (by omega), Int.emod_lt_of_pos _ (by omega)⟩
                        · rw [mup_j _ _ q]; exact hlo j h0 (by omega)
                      ) (by intro j h; rw [em8, mup_j _ _ (by omega)]; exact hhi j (by omega)) (by 
                        have e1 : (i + 1).toNat = i.toNat + 1 := by omega
                        have e2 : ((i.toNat : Nat) : Int) = i := by omega
                        have e3 : bigV (m8 gl) i.toNat = bigV (mL gl) i.toNat := bigV_cg fun j h0 h1 => by rw [em8, mup_j _ _ (by omega)]
                        have := bigV_step (f := m8 gl) (g := m gl) (n := i.toNat) (c := c) (x := x) (by rw [e3]; exact hV) (by rw [e2, em8, mup_s, hgi2])
                        rw [e2] at this
                        rw [e1, hgi2]
                        exact this
                      ) (by omega)
  refine v_sub [2, 3, 1, 0] rfl ?_
  exact K5 _ (0) (0) m (by first | assumption | omega) (by first | assumption | omega) (by intro k h; rfl) (by intro j h0 h1; omega) (by intro j h; rfl) (by show (0 : Int) + 0 * 1 = 0 * x; omega) (Nat.lt_succ_self _)

set_option maxHeartbeats 4000000 in
set_option maxRecDepth 100000 in
theorem ct_Big_compare {lau : Launch} {D : va_G} {cy : Nat → ClassId} {aa ad : Nat → Nat} (hI : wI (wC D cy aa ad)) (m : Mem) (g gl q ql : Nat) (v u : Int) (hg : BigAt g gl) (hq : BigAt q ql) (hb : BigIs m g gl v) (hb2 : BigIs m q ql u) : MT lau (wC D cy aa ad) yX0_compare cX0_compare 3 (some .int) ({ frames := 0, cells := 0, slots := 0, locals := 0 } : Room) m [.ref (aa g), .ref (aa q)] (Pi (fun z m' => (if u < v then 1 else if v < u then -1 else 0) = z ∧ m = m')) := by
  refine v_entry hI RX0 (by decide) rfl (Nat.le_of_ble_eq_true rfl) (fun E hE C X => ?_)
  subst hE
  show V E (wC D cy aa ad) 3 m 0 [(0, .ref (aa g)), (1, .ref (aa q))] []
  obtain ⟨n, hn1, hn2, hu, hlim, htop, hval⟩ := hb
  obtain ⟨n2, hm1, hm2, hu2, hlim2, htop2, hval2⟩ := hb2
  refine v_aload_n C 0 dX0_compare_0 rfl ?_
  refine v_get C g 1 (BigAt.l0 hg) (BigAt.e0 hg _) rfl inX0 (by decide) rfl qw230 dX0_compare_1 ?_
  refine v_aload_n C 1 dX0_compare_4 rfl ?_
  refine v_get C q 1 (BigAt.l0 hq) (BigAt.e0 hq _) rfl inX0 (by decide) rfl qw230 dX0_compare_5 ?_
  refine v_icmp_eq (tgt := 28) C dX0_compare_8 (by decide) (by omega) (by omega) (fun c1 => ?_) (fun c1 => ?_)
  · refine v_aload_n C 0 dX0_compare_28 rfl ?_
    refine v_get C g 1 (BigAt.l0 hg) (BigAt.e0 hg _) rfl inX0 (by decide) rfl qw230 dX0_compare_29 ?_
    refine v_iconst (z := 1) C dX0_compare_32 rfl ?_
    refine v_isub C dX0_compare_33 ?_
    refine v_istore_n (L1 := [(2, .int (iz ((m g 1) - 1))), (0, .ref (aa g)), (1, .ref (aa q))]) C dX0_compare_34 (by decide) rfl ?_
    have K35 : ∀ (nK : Nat) (i : Int) (hi : -1 ≤ i ∧ i < n) (heq : ∀ j : Int, i < j → j < n → m gl j = m ql j), (i + 1).toNat < nK → V E (wC D cy aa ad) 3 m 35 [(0, .ref (aa g)), (1, .ref (aa q)), (2, .int (iz (i)))] [] := by
      intro nK
      induction nK with
      | zero => intro i  hi heq hn; exact absurd hn (Nat.not_lt_zero _)
      | succ nK ih35 =>
        intro i  hi heq hn35
        refine v_iload_n C 2 dX0_compare_35 rfl ?_
        refine v_if_lt (tgt := 101) C dX0_compare_36 (by decide) (by omega) (fun c2 => ?_) (fun c2 => ?_)
        · refine v_iconst (z := 0) C dX0_compare_101 rfl ?_
          refine v_iret C X rfl dX0_compare_102 ⟨_, rfl, ?_, ?_⟩
          · have e : bigV (m gl) n = bigV (m ql) n := bigV_cg fun j h0 h1 => heq j (by omega) h1
            rw [hval, show n = n2 by omega, hval2] at e
            rw [if_neg (by omega), if_neg (by omega)]
          · rfl
        · refine v_iload_n C 2 dX0_compare_39 rfl ?_
          refine v_aload_n C 0 dX0_compare_40 rfl ?_
          refine v_get C g 0 (BigAt.l0 hg) (BigAt.e0 hg _) rfl inX0 (by decide) rfl qw229 dX0_compare_41 ?_
          refine v_alen C gl 1 (BigAt.l1 hg) (BigAt.e1 hg _) rfl dX0_compare_44 ?_
          refine v_st (st1 := [.int (iz (16)), .int (iz (i))]) rfl ?_
          refine v_icmp_ge (tgt := 95) C dX0_compare_45 (by decide) (by omega) (by omega) (fun c3 => ?_) (fun c3 => ?_)
          · exfalso; omega
          · refine v_iload_n C 2 dX0_compare_48 rfl ?_
            refine v_aload_n C 1 dX0_compare_49 rfl ?_
            refine v_get C q 0 (BigAt.l0 hq) (BigAt.e0 hq _) rfl inX0 (by decide) rfl qw229 dX0_compare_50 ?_
            refine v_alen C ql 1 (BigAt.l1 hq) (BigAt.e1 hq _) rfl dX0_compare_53 ?_
            refine v_st (st1 := [.int (iz (16)), .int (iz (i))]) rfl ?_
            refine v_icmp_ge (tgt := 95) C dX0_compare_54 (by decide) (by omega) (by omega) (fun c4 => ?_) (fun c4 => ?_)
            · exfalso; omega
            · have r1 := hlim i (by omega) (by omega)
              have r2 := hlim2 i (by omega) (by omega)
              refine v_aload_n C 0 dX0_compare_57 rfl ?_
              refine v_get C g 0 (BigAt.l0 hg) (BigAt.e0 hg _) rfl inX0 (by decide) rfl qw229 dX0_compare_58 ?_
              refine v_iload_n C 2 dX0_compare_61 rfl ?_
              refine v_lald C gl (BigAt.l1 hg) (BigAt.e1 hg _) (by decide) (by omega) dX0_compare_62 ?_
              refine v_aload_n C 1 dX0_compare_63 rfl ?_
              refine v_get C q 0 (BigAt.l0 hq) (BigAt.e0 hq _) rfl inX0 (by decide) rfl qw229 dX0_compare_64 ?_
              refine v_iload_n C 2 dX0_compare_67 rfl ?_
              refine v_lald C ql (BigAt.l1 hq) (BigAt.e1 hq _) (by decide) (by omega) dX0_compare_68 ?_
              refine v_lc_eq (tgt := 95) C dX0_compare_69 dX0_compare_70 (by decide) (by omega) (by omega) (fun c5 => ?_) (fun c5 => ?_)
              · refine v_iinc (L1 := [(2, .int (iz (i + (-1)))), (0, .ref (aa g)), (1, .ref (aa q))]) C 2 dX0_compare_95 rfl (by decide) rfl ?_
                refine v_goto (tgt := 35) C dX0_compare_98 (by decide) ?_
                refine v_sub [1, 2, 0] rfl ?_
                exact ih35 (i + (-1))  (by first | assumption | omega) (by 
                                    intro j h0 h1
                                    by_cases q : j = i
                                    · subst q; omega
                                    · exact heq j (by omega) h1
                                  ) (by omega)
              · refine v_aload_n C 0 dX0_compare_73 rfl ?_
                refine v_get C g 0 (BigAt.l0 hg) (BigAt.e0 hg _) rfl inX0 (by decide) rfl qw229 dX0_compare_74 ?_
                refine v_iload_n C 2 dX0_compare_77 rfl ?_
                refine v_lald C gl (BigAt.l1 hg) (BigAt.e1 hg _) (by decide) (by omega) dX0_compare_78 ?_
                refine v_aload_n C 1 dX0_compare_79 rfl ?_
                refine v_get C q 0 (BigAt.l0 hq) (BigAt.e0 hq _) rfl inX0 (by decide) rfl qw229 dX0_compare_80 ?_
                refine v_iload_n C 2 dX0_compare_83 rfl ?_
                refine v_lald C ql (BigAt.l1 hq) (BigAt.e1 hq _) (by decide) (by omega) dX0_compare_84 ?_
                refine v_lc_le (tgt := 93) C dX0_compare_85 dX0_compare_86 (by decide) (by omega) (by omega) (fun c6 => ?_) (fun c6 => ?_)
                · refine v_iconst (z := -1) C dX0_compare_93 rfl ?_
                  refine v_iret C X rfl dX0_compare_94 ⟨_, rfl, ?_, ?_⟩
                  · first
                      | (have e := bigV_lt (f := m ql) (g := m gl) (n := n) (k := i.toNat) (by omega) (fun j h0 h1 => hlim2 j h0 (by omega)) hlim (fun j h0 h1 => (heq j (by omega) h1).symm) (by rw [show ((i.toNat : Nat) : Int) = i by omega]; omega)
                         rw [hval, show n = n2 by omega, hval2] at e
                         rw [if_pos e])
                      | (have e := bigV_lt (f := m gl) (g := m ql) (n := n) (k := i.toNat) (by omega) hlim (fun j h0 h1 => hlim2 j h0 (by omega)) (fun j h0 h1 => heq j (by omega) h1) (by rw [show ((i.toNat : Nat) : Int) = i by omega]; omega)
                         rw [hval, show n = n2 by omega, hval2] at e
                         rw [if_neg (by omega), if_pos e])
                  · rfl
                · refine v_iconst (z := 1) C dX0_compare_89 rfl ?_
                  refine v_goto (tgt := 94) C dX0_compare_90 (by decide) ?_
                  refine v_iret C X rfl dX0_compare_94 ⟨_, rfl, ?_, ?_⟩
                  · first
                      | (have e := bigV_lt (f := m ql) (g := m gl) (n := n) (k := i.toNat) (by omega) (fun j h0 h1 => hlim2 j h0 (by omega)) hlim (fun j h0 h1 => (heq j (by omega) h1).symm) (by rw [show ((i.toNat : Nat) : Int) = i by omega]; omega)
                         rw [hval, show n = n2 by omega, hval2] at e
                         rw [if_pos e])
                      | (have e := bigV_lt (f := m gl) (g := m ql) (n := n) (k := i.toNat) (by omega) hlim (fun j h0 h1 => hlim2 j h0 (by omega)) (fun j h0 h1 => heq j (by omega) h1) (by rw [show ((i.toNat : Nat) : Int) = i by omega]; omega)
                         rw [hval, show n = n2 by omega, hval2] at e
                         rw [if_neg (by omega), if_pos e])
                  · rfl
    refine v_sub [1, 2, 0] rfl ?_
    exact K35 _ ((m g 1) - 1)  (by first | assumption | omega) (by intro j h0 h1; omega) (Nat.lt_succ_self _)
  · refine v_aload_n C 0 dX0_compare_11 rfl ?_
    refine v_get C g 1 (BigAt.l0 hg) (BigAt.e0 hg _) rfl inX0 (by decide) rfl qw230 dX0_compare_12 ?_
    refine v_aload_n C 1 dX0_compare_15 rfl ?_
    refine v_get C q 1 (BigAt.l0 hq) (BigAt.e0 hq _) rfl inX0 (by decide) rfl qw230 dX0_compare_16 ?_
    refine v_icmp_le (tgt := 26) C dX0_compare_19 (by decide) (by omega) (by omega) (fun c7 => ?_) (fun c7 => ?_)
    · refine v_iconst (z := -1) C dX0_compare_26 rfl ?_
      refine v_iret C X rfl dX0_compare_27 ⟨_, rfl, ?_, ?_⟩
      · first
          | (have hlt : n2 < n := by omega
             have e := bigV_lt_len hlt hlim2 hlim htop
             rw [hval, hval2] at e
             rw [if_pos e])
          | (have hlt : n < n2 := by omega
             have e := bigV_lt_len hlt hlim hlim2 htop2
             rw [hval, hval2] at e
             rw [if_neg (by omega), if_pos e])
      · rfl
    · refine v_iconst (z := 1) C dX0_compare_22 rfl ?_
      refine v_goto (tgt := 27) C dX0_compare_23 (by decide) ?_
      refine v_iret C X rfl dX0_compare_27 ⟨_, rfl, ?_, ?_⟩
      · first
          | (have hlt : n2 < n := by omega
             have e := bigV_lt_len hlt hlim2 hlim htop
             rw [hval, hval2] at e
             rw [if_pos e])
          | (have hlt : n < n2 := by omega
             have e := bigV_lt_len hlt hlim hlim2 htop2
             rw [hval, hval2] at e
             rw [if_neg (by omega), if_pos e])
      · rfl
