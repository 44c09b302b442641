set_option maxHeartbeats 4000000 in
set_option maxRecDepth 100000 in
theorem ct_StageRatios_refuse {lau : Launch} {D : va_G} {cy : Nat → ClassId} {aa ad : Nat → Nat} (hI : wI (wC D cy aa ad)) (m : Mem) (n : Int)  : MT lau (wC D cy aa ad) yX10_refuse cX10_refuse 2 (some .int) ({ frames := 0, cells := 0, slots := 0, locals := 0 } : Room) m [.ref (aa 0), .int (iz (n))] (Pi (fun z m' => -1 = z ∧ mup m 0 18 n = m')) := by
  refine v_entry hI RX10 (by decide) rfl (Nat.le_of_ble_eq_true rfl) (fun E hE C X => ?_)
  subst hE
  show V E (wC D cy aa ad) 2 m 0 [(0, .ref (aa 0)), (1, .int (iz (n)))] []
  refine v_aload_n C 0 dX10_refuse_0 rfl ?_
  refine v_iload_n C 1 dX10_refuse_1 rfl ?_
  refine v_put C 0 18 (n) 18 rfl lC0 (eC0 _) rfl inX10 tyX10 tyX10_ok nmX10 (by decide) qw437 rfl rfl rfl (Nat.le_of_ble_eq_true rfl) (by rw [mup_r]; exact (eC0 _)) dX10_refuse_2 (fun m1 em1 => ?_)
  refine v_iconst (z := -1) C dX10_refuse_5 rfl ?_
  refine v_iret C X rfl dX10_refuse_6 ⟨_, rfl, ?_, ?_⟩
  · rfl
  · exact em1.symm

set_option maxHeartbeats 4000000 in
set_option maxRecDepth 100000 in
theorem ct_StageRatios_answer {lau : Launch} {D : va_G} {cy : Nat → ClassId} {aa ad : Nat → Nat} (hI : wI (wC D cy aa ad)) (m : Mem) (v : Int)  : MT lau (wC D cy aa ad) yX10_answer cX10_answer 2 (some .int) ({ frames := 0, cells := 0, slots := 0, locals := 0 } : Room) m [.ref (aa 0), .int (iz (v))] (Pi (fun z m' => v = z ∧ mup m 0 18 0 = m')) := by
  refine v_entry hI RX10 (by decide) rfl (Nat.le_of_ble_eq_true rfl) (fun E hE C X => ?_)
  subst hE
  show V E (wC D cy aa ad) 2 m 0 [(0, .ref (aa 0)), (1, .int (iz (v)))] []
  refine v_aload_n C 0 dX10_answer_0 rfl ?_
  refine v_iconst (z := 0) C dX10_answer_1 rfl ?_
  refine v_put C 0 18 (0) 18 rfl lC0 (eC0 _) rfl inX10 tyX10 tyX10_ok nmX10 (by decide) qw437 rfl rfl rfl (Nat.le_of_ble_eq_true rfl) (by rw [mup_r]; exact (eC0 _)) dX10_answer_2 (fun m1 em1 => ?_)
  refine v_iload_n C 1 dX10_answer_5 rfl ?_
  refine v_iret C X rfl dX10_answer_6 ⟨_, rfl, ?_, ?_⟩
  · rfl
  · exact em1.symm

set_option maxHeartbeats 4000000 in
set_option maxRecDepth 100000 in
theorem ct_StageRatios_isPower {lau : Launch} {D : va_G} {cy : Nat → ClassId} {aa ad : Nat → Nat} (hI : wI (wC D cy aa ad)) (m : Mem) (k0 : Int) (hk0 : -2147483648 ≤ k0 ∧ k0 ≤ 2147483647) : MT lau (wC D cy aa ad) yX10_isPower cX10_isPower 1 (some .boolean) ({ frames := 0, cells := 0, slots := 0, locals := 0 } : Room) m [.int (iz (k0))] (Pi (fun z m' => (1 = z ∧ (kPw k0) ∧ m = m') ∨ (0 = z ∧ ¬ (kPw k0) ∧ m = m'))) := by
  refine v_entry hI RX10 (by decide) rfl (Nat.le_of_ble_eq_true rfl) (fun E hE C X => ?_)
  subst hE
  show V E (wC D cy aa ad) 1 m 0 [(0, .int (iz (k0)))] []
  refine v_iload_n C 0 dX10_isPower_0 rfl ?_
  refine v_if_lt (tgt := 14) C dX10_isPower_1 (by decide) (by omega) (fun c1 => ?_) (fun c1 => ?_)
  · refine v_iconst (z := 0) C dX10_isPower_14 rfl ?_
    refine v_iret C X (by decide) dX10_isPower_15 ⟨_, rfl, Or.inr ⟨rfl, ?_, ?_⟩⟩
    · unfold kPw; omega
    · rfl
  · refine v_iload_n C 0 dX10_isPower_4 rfl ?_
    refine v_bipush (z := 40) C dX10_isPower_5 (by decide) ?_
    refine v_icmp_gt (tgt := 14) C dX10_isPower_7 (by decide) (by omega) (by omega) (fun c2 => ?_) (fun c2 => ?_)
    · refine v_iconst (z := 0) C dX10_isPower_14 rfl ?_
      refine v_iret C X (by decide) dX10_isPower_15 ⟨_, rfl, Or.inr ⟨rfl, ?_, ?_⟩⟩
      · unfold kPw; omega
      · rfl
    · refine v_iconst (z := 1) C dX10_isPower_10 rfl ?_
      refine v_goto (tgt := 15) C dX10_isPower_11 (by decide) ?_
      refine v_iret C X (by decide) dX10_isPower_15 ⟨_, rfl, Or.inl ⟨rfl, ?_, ?_⟩⟩
      · unfold kPw; omega
      · rfl

set_option maxHeartbeats 4000000 in
set_option maxRecDepth 100000 in
theorem ct_StageRatios_has {lau : Launch} {D : va_G} {cy : Nat → ClassId} {aa ad : Nat → Nat} (hI : wI (wC D cy aa ad)) (m : Mem) (k kf ks kt kc : Nat) (s : Int) (hk : RocketAt k kf ks kt kc) (hcu : (m 0 13).toNat = k) (htd : m 0 15 = 0 ∨ (m 0 15 = 1 ∧ TI m k kf ks kt kc)) (hs : -2147483648 ≤ s ∧ s ≤ 2147483647) : MT lau (wC D cy aa ad) yX10_has cX10_has 2 (some .boolean) ({ frames := 0, cells := 0, slots := 0, locals := 0 } : Room) m [.ref (aa 0), .int (iz (s))] (Pi (fun z m' => (1 = z ∧ (hsS (m 0 15) (m k) s) ∧ m = m') ∨ (0 = z ∧ ¬ (hsS (m 0 15) (m k) s) ∧ m = m'))) := by
  refine v_entry hI RX10 (by decide) rfl (Nat.le_of_ble_eq_true rfl) (fun E hE C X => ?_)
  subst hE
  show V E (wC D cy aa ad) 2 m 0 [(0, .ref (aa 0)), (1, .int (iz (s)))] []
  have ht01 : m 0 15 = 0 ∨ m 0 15 = 1 := htd.imp (fun a => a) (fun a => a.1)
  refine v_aload_n C 0 dX10_has_0 rfl ?_
  refine v_get C 0 15 lC0 (eC0 _) rfl inX10 (by decide) rfl qw434 dX10_has_1 ?_
  refine v_if_eq (tgt := 26) C dX10_has_4 (by decide) (by omega) (fun c1 => ?_) (fun c1 => ?_)
  · refine v_iconst (z := 0) C dX10_has_26 rfl ?_
    refine v_iret C X (by decide) dX10_has_27 ⟨_, rfl, Or.inr ⟨rfl, ?_, ?_⟩⟩
    · unfold hsS; omega
    · rfl
  · refine v_iload_n C 1 dX10_has_7 rfl ?_
    refine v_if_lt (tgt := 26) C dX10_has_8 (by decide) (by omega) (fun c2 => ?_) (fun c2 => ?_)
    · refine v_iconst (z := 0) C dX10_has_26 rfl ?_
      refine v_iret C X (by decide) dX10_has_27 ⟨_, rfl, Or.inr ⟨rfl, ?_, ?_⟩⟩
      · unfold hsS; omega
      · rfl
    · refine v_iload_n C 1 dX10_has_11 rfl ?_
      refine v_aload_n C 0 dX10_has_12 rfl ?_
      obtain ⟨hT1, hti⟩ := htd.resolve_left (by omega)
      obtain ⟨hrk, hX, -⟩ := id hti
      obtain ⟨hk5, hF, hup, hlw, hpl, hnf, hfa, -⟩ := id hrk
      have hkk : 73 ≤ k ∧ 73 ≤ kf ∧ 73 ≤ ks ∧ 73 ≤ kt ∧ 73 ≤ kc := by unfold RocketAt at hk; omega
      have hUr := hX.u hF
      have hDv := hX.dv hF hk5
      refine v_get C 0 13 lC0 (eC0 _) rfl inX10 (by decide) rfl qw432 dX10_has_13 ?_
      refine v_st (st1 := [.ref (aa k), .int (iz (s))]) (by rw [show (m 0 13).toNat = k from by assumption]) ?_
      refine v_get C k 5 (RocketAt.l0 hk) (RocketAt.e0 hk _) rfl inX6 (by decide) rfl qw387 dX10_has_16 ?_
      refine v_icmp_ge (tgt := 26) C dX10_has_19 (by decide) (by omega) (by omega) (fun c3 => ?_) (fun c3 => ?_)
      · refine v_iconst (z := 0) C dX10_has_26 rfl ?_
        refine v_iret C X (by decide) dX10_has_27 ⟨_, rfl, Or.inr ⟨rfl, ?_, ?_⟩⟩
        · unfold hsS; omega
        · rfl
      · refine v_iconst (z := 1) C dX10_has_22 rfl ?_
        refine v_goto (tgt := 27) C dX10_has_23 (by decide) ?_
        refine v_iret C X (by decide) dX10_has_27 ⟨_, rfl, Or.inl ⟨rfl, ?_, ?_⟩⟩
        · unfold hsS; omega
        · rfl

set_option maxHeartbeats 4000000 in
set_option maxRecDepth 100000 in
theorem ct_StageRatios_isFull {lau : Launch} {D : va_G} {cy : Nat → ClassId} {aa ad : Nat → Nat} (hI : wI (wC D cy aa ad)) (m : Mem) (k kf ks kt kc : Nat) (s : Int) (hk : RocketAt k kf ks kt kc) (hcu : (m 0 13).toNat = k) (hti : TI m k kf ks kt kc) (hs : 0 ≤ s ∧ s < m k 5) : MT lau (wC D cy aa ad) yX10_isFull cX10_isFull 2 (some .boolean) ({ frames := 1, cells := 0, slots := 0, locals := 23 } : Room) m [.ref (aa 0), .int (iz (s))] (Pi (fun z m' => (1 = z ∧ (¬ m 5 (2 + s) < m kf (s * 9 + 3)) ∧ m = m') ∨ (0 = z ∧ ¬ (¬ m 5 (2 + s) < m kf (s * 9 + 3)) ∧ m = m'))) := by
  refine v_entry hI RX10 (by decide) rfl (Nat.le_of_ble_eq_true rfl) (fun E hE C X => ?_)
  subst hE
  show V E (wC D cy aa ad) 2 m 0 [(0, .ref (aa 0)), (1, .int (iz (s)))] []
  obtain ⟨hrk, hX, -⟩ := id hti
  obtain ⟨hk5, hF, hup, hlw, hpl, hnf, hfa, -⟩ := id hrk
  have hkk : 73 ≤ k ∧ 73 ≤ kf ∧ 73 ≤ ks ∧ 73 ≤ kt ∧ 73 ≤ kc := by unfold RocketAt at hk; omega
  have hUr := hX.u hF
  have hDv := hX.dv hF hk5
  have hu1 := hUr s hs.1 (by omega)
  have hf1 := hF s hs.1 hs.2
  unfold uX at hu1
  refine v_aload_n C 0 dX10_isFull_0 rfl ?_
  refine v_get C 0 2 lC0 (eC0 _) rfl inX10 (by decide) rfl qw421 dX10_isFull_1 ?_
  refine v_iconst (z := 2) C dX10_isFull_4 rfl ?_
  refine v_iload_n C 1 dX10_isFull_5 rfl ?_
  refine v_iadd C dX10_isFull_6 ?_
  refine v_callS (st := []) (n := 2) C [.ref (aa 5), .int (iz (2 + s))] (ct_StageRatios_at C.2.2.2.2.2.2.1 m (5) (11) (2 + s) ⟨lC5, by decide, eC5⟩ (by first | assumption | omega)) qw618 qw1 qw653 rfl rfl ⟨Nat.le_of_ble_eq_true rfl, Nat.le_of_ble_eq_true rfl⟩ (by decide +kernel) qw617 rfl rfl (Nat.le_of_ble_eq_true rfl) dX10_isFull_7 (fun r m1 hq1 => ?_)
  obtain ⟨z1, rfl, rfl, rfl⟩ := hq1
  show V E (wC D cy aa ad) 2 m 10 [(0, .ref (aa 0)), (1, .int (iz (s)))] [.int (iz (m 5 (2 + s)))]
  refine v_aload_n C 0 dX10_isFull_10 rfl ?_
  refine v_get C 0 13 lC0 (eC0 _) rfl inX10 (by decide) rfl qw432 dX10_isFull_11 ?_
  refine v_st (st1 := [.ref (aa k), .int (iz (m 5 (2 + s)))]) (by rw [show (m 0 13).toNat = k from by assumption]) ?_
  refine v_iload_n C 1 dX10_isFull_14 rfl ?_
  refine v_iconst (z := 3) C dX10_isFull_15 rfl ?_
  refine v_callV (st := [.int (iz (m 5 (2 + s)))]) (n := 2) (q := k) C [.int (iz (s)), .int (iz (3))] (ct_Rocket_fact C.2.2.2.2.2.2.1 m (k) (kf) (ks) (kt) (kc) (s) (3) hk (by first | assumption | omega) (by first | assumption | omega)) (RocketAt.l0 hk) (RocketAt.e0 hk _) rfl qw590 qw15 qw636 rfl rfl ⟨Nat.le_of_ble_eq_true rfl, Nat.le_of_ble_eq_true rfl⟩ (by decide +kernel) qw588 qw589 rfl rfl (Nat.le_of_ble_eq_true rfl) dX10_isFull_16 (fun r m2 hq2 => ?_)
  obtain ⟨z2, rfl, rfl, rfl⟩ := hq2
  show V E (wC D cy aa ad) 2 m 19 [(0, .ref (aa 0)), (1, .int (iz (s)))] [.int (iz (m kf (s * 9 + 3))), .int (iz (m 5 (2 + s)))]
  refine v_icmp_lt (tgt := 26) C dX10_isFull_19 (by decide) (by omega) (by omega) (fun c3 => ?_) (fun c3 => ?_)
  · refine v_iconst (z := 0) C dX10_isFull_26 rfl ?_
    refine v_iret C X (by decide) dX10_isFull_27 ⟨_, rfl, Or.inr ⟨rfl, ?_, ?_⟩⟩
    · omega
    · rfl
  · refine v_iconst (z := 1) C dX10_isFull_22 rfl ?_
    refine v_goto (tgt := 27) C dX10_isFull_23 (by decide) ?_
    refine v_iret C X (by decide) dX10_isFull_27 ⟨_, rfl, Or.inl ⟨rfl, ?_, ?_⟩⟩
    · omega
    · rfl

set_option maxHeartbeats 4000000 in
set_option maxRecDepth 100000 in
theorem ct_StageRatios_layUnits {lau : Launch} {D : va_G} {cy : Nat → ClassId} {aa ad : Nat → Nat} (hI : wI (wC D cy aa ad)) (m : Mem)   : MT lau (wC D cy aa ad) yX10_layUnits cX10_layUnits 2 (none) ({ frames := 1, cells := 0, slots := 0, locals := 22 } : Room) m [.ref (aa 0)] (Pv (fun m' => (∀ j : Int, 0 ≤ j → j < 3 → m' 20 j = uX (m 5) j) ∧ ∀ q, q ≠ 20 → m' q = m q)) := by
  refine v_entry hI RX10 (by decide) rfl (Nat.le_of_ble_eq_true rfl) (fun E hE C X => ?_)
  subst hE
  show V E (wC D cy aa ad) 2 m 0 [(0, .ref (aa 0))] []
  refine v_iconst (z := 0) C dX10_layUnits_0 rfl ?_
  refine v_istore_n (L1 := [(1, .int (iz (0))), (0, .ref (aa 0))]) C dX10_layUnits_1 (by decide) rfl ?_
  have K2 : ∀ (nK : Nat) (s : Int) (mL : Mem) (hs : 0 ≤ s ∧ s ≤ 3) (hv : ∀ j : Int, 0 ≤ j → j < s → mL 20 j = uX (m 5) j) (hf : ∀ q, q ≠ 20 → mL q = m q), (3 - s).toNat < nK → V E (wC D cy aa ad) 2 mL 2 [(0, .ref (aa 0)), (1, .int (iz (s)))] [] := by
    intro nK
    induction nK with
    | zero => intro s mL hs hv hf hn; exact absurd hn (Nat.not_lt_zero _)
    | succ nK ih2 =>
      intro s mL hs hv hf hn2
      refine v_iload_n C 1 dX10_layUnits_2 rfl ?_
      refine v_iconst (z := 3) C dX10_layUnits_3 rfl ?_
      refine v_icmp_ge (tgt := 34) C dX10_layUnits_4 (by decide) (by omega) (by omega) (fun c1 => ?_) (fun c1 => ?_)
      · refine v_vret C X dX10_layUnits_34 ⟨rfl, ?_⟩
        exact ⟨fun j h0 h1 => hv j h0 (by omega), hf⟩
      · refine v_aload_n C 0 dX10_layUnits_7 rfl ?_
        refine v_get C 0 4 lC0 (eC0 _) rfl inX10 (by decide) rfl qw423 dX10_layUnits_8 ?_
        refine v_get C 19 0 lC19 (eC19 _) rfl inX9 (by decide) rfl qw180 dX10_layUnits_11 ?_
        refine v_iload_n C 1 dX10_layUnits_14 rfl ?_
        refine v_aload_n C 0 dX10_layUnits_15 rfl ?_
        refine v_get C 0 2 lC0 (eC0 _) rfl inX10 (by decide) rfl qw421 dX10_layUnits_16 ?_
        refine v_iconst (z := 2) C dX10_layUnits_19 rfl ?_
        refine v_iload_n C 1 dX10_layUnits_20 rfl ?_
        refine v_iadd C dX10_layUnits_21 ?_
        refine v_callS (st := [.int (iz (s)), .ref (aa 20)]) (n := 2) C [.ref (aa 5), .int (iz (2 + s))] (ct_StageRatios_at C.2.2.2.2.2.2.1 mL (5) (11) (2 + s) ⟨lC5, by decide, eC5⟩ (by first | assumption | omega)) qw618 qw1 qw653 rfl rfl ⟨Nat.le_of_ble_eq_true rfl, Nat.le_of_ble_eq_true rfl⟩ (by decide +kernel) qw617 rfl rfl (Nat.le_of_ble_eq_true rfl) dX10_layUnits_22 (fun r m2 hq2 => ?_)
        obtain ⟨z2, rfl, rfl, rfl⟩ := hq2
        show V E (wC D cy aa ad) 2 mL 25 [(0, .ref (aa 0)), (1, .int (iz (s)))] [.int (iz (mL 5 (2 + s))), .int (iz (s)), .ref (aa 20)]
        refine v_callS (st := []) (n := 3) C [.ref (aa 20), .int (iz (s)), .int (iz (mL 5 (2 + s)))] (ct_StageRatios_put C.2.2.2.2.2.2.1 mL (20) (3) (s) (mL 5 (2 + s)) ⟨lC20, by decide, eC20⟩ (by first | assumption | omega)) qw494 qw1 qw635 rfl rfl ⟨Nat.le_of_ble_eq_true rfl, Nat.le_of_ble_eq_true rfl⟩ (by decide +kernel) qw493 rfl rfl (Nat.le_of_ble_eq_true rfl) dX10_layUnits_25 (fun r m3 hq3 => ?_)
        obtain ⟨rfl, hq3⟩ := hq3
        show V E (wC D cy aa ad) 2 m3 28 [(0, .ref (aa 0)), (1, .int (iz (s)))] []
        refine v_iinc (L1 := [(1, .int (iz (s + 1))), (0, .ref (aa 0))]) C 1 dX10_layUnits_28 rfl (by decide) rfl ?_
        refine v_goto (tgt := 2) C dX10_layUnits_31 (by decide) ?_
        refine v_sub [1, 0] rfl ?_
        exact ih2 (s + 1) m3 (by first | assumption | omega) (by 
                    intro j h0 h1; rw [← hq3]
                    by_cases e : j = s
                    · subst e; rw [mup_s, hf 5 (by decide)]; rfl
                    · rw [mup_j _ _ e]; exact hv j h0 (by omega)
                  ) (by intro q h; rw [← hq3, mup_k _ _ _ h]; exact hf q h) (by omega)
  refine v_sub [1, 0] rfl ?_
  exact K2 _ (0) m (by first | assumption | omega) (by intro j h0 h1; omega) (by intro q _; rfl) (Nat.lt_succ_self _)

set_option maxHeartbeats 4000000 in
set_option maxRecDepth 100000 in
theorem ct_StageRatios_weighAsItIs {lau : Launch} {D : va_G} {cy : Nat → ClassId} {aa ad : Nat → Nat} (hI : wI (wC D cy aa ad)) (m : Mem) (k kf ks kt kc : Nat) (hk : RocketAt k kf ks kt kc) (hcu : (m 0 13).toNat = k) (hti : TI m k kf ks kt kc) : MT lau (wC D cy aa ad) yX10_weighAsItIs cX10_weighAsItIs 1 (none) ({ frames := 3, cells := 0, slots := 0, locals := 72 } : Room) m [.ref (aa 0)] (Pv (fun m' => WtIs m' 19 21 22 (m kf) (m k 5) (m 5 0) (uX (m 5)) ∧ (∀ j : Int, 0 ≤ j → j < 3 → m' 20 j = uX (m 5) j) ∧ ∀ q, (q < 19 ∨ 23 ≤ q) → m' q = m q)) := by
  refine v_entry hI RX10 (by decide) rfl (Nat.le_of_ble_eq_true rfl) (fun E hE C X => ?_)
  subst hE
  show V E (wC D cy aa ad) 1 m 0 [(0, .ref (aa 0))] []
  obtain ⟨hrk, hX, -⟩ := id hti
  obtain ⟨hk5, hF, hup, hlw, hpl, hnf, hfa, -⟩ := id hrk
  have hkk : 73 ≤ k ∧ 73 ≤ kf ∧ 73 ≤ ks ∧ 73 ≤ kt ∧ 73 ≤ kc := by unfold RocketAt at hk; omega
  have hUr := hX.u hF
  have hDv := hX.dv hF hk5
  refine v_aload_n C 0 dX10_weighAsItIs_0 rfl ?_
  refine v_callV (st := []) (n := 0) (q := 0) C [] (ct_StageRatios_layUnits C.2.2.2.2.2.2.1 m  ) lC0 (eC0 _) rfl qw678 qw1 qw675 rfl rfl ⟨Nat.le_of_ble_eq_true rfl, Nat.le_of_ble_eq_true rfl⟩ (by decide +kernel) qw677 qp19 rfl rfl (Nat.le_of_ble_eq_true rfl) dX10_weighAsItIs_1 (fun r m1 hq1 => ?_)
  obtain ⟨rfl, hq1⟩ := hq1
  show V E (wC D cy aa ad) 1 m1 4 [(0, .ref (aa 0))] []
  have o1 := hq1.2
  have hcu1 : (m1 0 13).toNat = k := by rw [o1 0 (by decide)]; exact hcu
  have k1 := o1 k (by omega)
  have kf1 := o1 kf (by omega)
  have e51 := o1 5 (by decide)
  refine v_aload_n C 0 dX10_weighAsItIs_4 rfl ?_
  refine v_get C 0 4 lC0 (eC0 _) rfl inX10 (by decide) rfl qw423 dX10_weighAsItIs_5 ?_
  refine v_aload_n C 0 dX10_weighAsItIs_8 rfl ?_
  refine v_get C 0 13 lC0 (eC0 _) rfl inX10 (by decide) rfl qw432 dX10_weighAsItIs_9 ?_
  refine v_st (st1 := [.ref (aa k), .ref (aa 19)]) (by rw [show (m1 0 13).toNat = k from by assumption]) ?_
  refine v_aload_n C 0 dX10_weighAsItIs_12 rfl ?_
  refine v_get C 0 2 lC0 (eC0 _) rfl inX10 (by decide) rfl qw421 dX10_weighAsItIs_13 ?_
  refine v_iconst (z := 0) C dX10_weighAsItIs_16 rfl ?_
  refine v_callS (st := [.ref (aa k), .ref (aa 19)]) (n := 2) C [.ref (aa 5), .int (iz (0))] (ct_StageRatios_at C.2.2.2.2.2.2.1 m1 (5) (11) (0) ⟨lC5, by decide, eC5⟩ (by first | assumption | omega)) qw618 qw1 qw653 rfl rfl ⟨Nat.le_of_ble_eq_true rfl, Nat.le_of_ble_eq_true rfl⟩ (by decide +kernel) qw617 rfl rfl (Nat.le_of_ble_eq_true rfl) dX10_weighAsItIs_17 (fun r m2 hq2 => ?_)
  obtain ⟨z2, rfl, rfl, rfl⟩ := hq2
  show V E (wC D cy aa ad) 1 m1 20 [(0, .ref (aa 0))] [.int (iz (m1 5 0)), .ref (aa k), .ref (aa 19)]
  refine v_callV (st := []) (n := 2) (q := 19) C [.ref (aa k), .int (iz (m1 5 0))] (ct_Weights_weigh C.2.2.2.2.2.2.1 m1 (19) (20) (21) (22) (k) (kf) (ks) (kt) (kc) (m1 5 0) (by unfold WeightsAt; decide) hk (by rw [k1]; exact hk5) (by rw [k1, kf1]; exact hF) (by rw [e51]; exact hX.1) (by rw [k1]; intro j h0 h1; rw [hq1.1 j h0 (by omega)]; exact hUr j h0 (by omega))) lC19 (eC19 _) rfl qw682 qw8 qw679 rfl rfl ⟨Nat.le_of_ble_eq_true rfl, Nat.le_of_ble_eq_true rfl⟩ (by decide +kernel) qw680 qw681 rfl rfl (Nat.le_of_ble_eq_true rfl) dX10_weighAsItIs_20 (fun r m3 hq3 => ?_)
  obtain ⟨rfl, hq3⟩ := hq3
  show V E (wC D cy aa ad) 1 m3 23 [(0, .ref (aa 0))] []
  refine v_vret C X dX10_weighAsItIs_23 ⟨rfl, ?_⟩
  have zw := hq3.1
  rw [k1, kf1, e51] at zw
  exact ⟨zw.cgU hk5.2 hq1.1, fun j h0 h1 => by rw [hq3.2 20 (by decide) (by decide) (by decide)]; exact hq1.1 j h0 h1, fun q h => by rw [hq3.2 q (by omega) (by omega) (by omega)]; exact o1 q (by omega)⟩

set_option maxHeartbeats 4000000 in
set_option maxRecDepth 100000 in
theorem ct_StageRatios_weighWithOneMore {lau : Launch} {D : va_G} {cy : Nat → ClassId} {aa ad : Nat → Nat} (hI : wI (wC D cy aa ad)) (m : Mem) (k kf ks kt kc : Nat) (s : Int) (hk : RocketAt k kf ks kt kc) (hcu : (m 0 13).toNat = k) (hti : TI m k kf ks kt kc) (hs : 0 ≤ s ∧ s < m k 5) (hlt : m 5 (2 + s) < m kf (s * 9 + 3)) : MT lau (wC D cy aa ad) yX10_weighWithOneMore cX10_weighWithOneMore 2 (none) ({ frames := 3, cells := 0, slots := 0, locals := 72 } : Room) m [.ref (aa 0), .int (iz (s))] (Pv (fun m' => WtIs m' 19 21 22 (m kf) (m k 5) (m 5 0) (u1X (m 5) s) ∧ (∀ j : Int, 0 ≤ j → j < 3 → m' 20 j = u1X (m 5) s j) ∧ ∀ q, (q < 19 ∨ 23 ≤ q) → m' q = m q)) := by
  refine v_entry hI RX10 (by decide) rfl (Nat.le_of_ble_eq_true rfl) (fun E hE C X => ?_)
  subst hE
  show V E (wC D cy aa ad) 2 m 0 [(0, .ref (aa 0)), (1, .int (iz (s)))] []
  obtain ⟨hrk, hX, -⟩ := id hti
  obtain ⟨hk5, hF, hup, hlw, hpl, hnf, hfa, -⟩ := id hrk
  have hkk : 73 ≤ k ∧ 73 ≤ kf ∧ 73 ≤ ks ∧ 73 ≤ kt ∧ 73 ≤ kc := by unfold RocketAt at hk; omega
  have hUr := hX.u hF
  have hDv := hX.dv hF hk5
  have hu1 := hUr s hs.1 (by omega)
  have hf1 := hF s hs.1 hs.2
  refine v_aload_n C 0 dX10_weighWithOneMore_0 rfl ?_
  refine v_callV (st := []) (n := 0) (q := 0) C [] (ct_StageRatios_layUnits C.2.2.2.2.2.2.1 m  ) lC0 (eC0 _) rfl qw678 qw1 qw675 rfl rfl ⟨Nat.le_of_ble_eq_true rfl, Nat.le_of_ble_eq_true rfl⟩ (by decide +kernel) qw677 qp19 rfl rfl (Nat.le_of_ble_eq_true rfl) dX10_weighWithOneMore_1 (fun r m1 hq1 => ?_)
  obtain ⟨rfl, hq1⟩ := hq1
  show V E (wC D cy aa ad) 2 m1 4 [(0, .ref (aa 0)), (1, .int (iz (s)))] []
  have o1 := hq1.2
  have hcu1 : (m1 0 13).toNat = k := by rw [o1 0 (by decide)]; exact hcu
  have k1 := o1 k (by omega)
  have kf1 := o1 kf (by omega)
  have e51 := o1 5 (by decide)
  refine v_aload_n C 0 dX10_weighWithOneMore_4 rfl ?_
  refine v_get C 0 4 lC0 (eC0 _) rfl inX10 (by decide) rfl qw423 dX10_weighWithOneMore_5 ?_
  refine v_get C 19 0 lC19 (eC19 _) rfl inX9 (by decide) rfl qw180 dX10_weighWithOneMore_8 ?_
  refine v_iload_n C 1 dX10_weighWithOneMore_11 rfl ?_
  refine v_aload_n C 0 dX10_weighWithOneMore_12 rfl ?_
  refine v_get C 0 2 lC0 (eC0 _) rfl inX10 (by decide) rfl qw421 dX10_weighWithOneMore_13 ?_
  refine v_iconst (z := 2) C dX10_weighWithOneMore_16 rfl ?_
  refine v_iload_n C 1 dX10_weighWithOneMore_17 rfl ?_
  refine v_iadd C dX10_weighWithOneMore_18 ?_
  refine v_callS (st := [.int (iz (s)), .ref (aa 20)]) (n := 2) C [.ref (aa 5), .int (iz (2 + s))] (ct_StageRatios_at C.2.2.2.2.2.2.1 m1 (5) (11) (2 + s) ⟨lC5, by decide, eC5⟩ (by first | assumption | omega)) qw618 qw1 qw653 rfl rfl ⟨Nat.le_of_ble_eq_true rfl, Nat.le_of_ble_eq_true rfl⟩ (by decide +kernel) qw617 rfl rfl (Nat.le_of_ble_eq_true rfl) dX10_weighWithOneMore_19 (fun r m2 hq2 => ?_)
  obtain ⟨z2, rfl, rfl, rfl⟩ := hq2
  show V E (wC D cy aa ad) 2 m1 22 [(0, .ref (aa 0)), (1, .int (iz (s)))] [.int (iz (m1 5 (2 + s))), .int (iz (s)), .ref (aa 20)]
  refine v_iconst (z := 1) C dX10_weighWithOneMore_22 rfl ?_
  refine v_iadd C dX10_weighWithOneMore_23 ?_
  refine v_callS (st := []) (n := 3) C [.ref (aa 20), .int (iz (s)), .int (iz ((m1 5 (2 + s)) + 1))] (ct_StageRatios_put C.2.2.2.2.2.2.1 m1 (20) (3) (s) ((m1 5 (2 + s)) + 1) ⟨lC20, by decide, eC20⟩ (by first | assumption | omega)) qw494 qw1 qw635 rfl rfl ⟨Nat.le_of_ble_eq_true rfl, Nat.le_of_ble_eq_true rfl⟩ (by decide +kernel) qw493 rfl rfl (Nat.le_of_ble_eq_true rfl) dX10_weighWithOneMore_24 (fun r m3 hq3 => ?_)
  obtain ⟨rfl, hq3⟩ := hq3
  show V E (wC D cy aa ad) 2 m3 27 [(0, .ref (aa 0)), (1, .int (iz (s)))] []
  have o2 : ∀ q, q ≠ 20 → m3 q = m q := fun q h => by rw [← hq3, mup_k _ _ _ h]; exact o1 q h
  have hcu2 : (m3 0 13).toNat = k := by rw [o2 0 (by decide)]; exact hcu
  have k2 := o2 k (by omega)
  have kf2 := o2 kf (by omega)
  have e52 := o2 5 (by decide)
  have hu2 : ∀ j : Int, 0 ≤ j → j < 3 → m3 20 j = u1X (m 5) s j := fun j h0 h1 => by
    unfold u1X; rw [← hq3, mup_r]
    by_cases e : j = s
    · rw [if_pos e, e]; exact (if_pos rfl).trans (by rw [e51])
    · rw [if_neg e]; exact (if_neg e).trans (hq1.1 j h0 h1)
  have hu3 : ∀ j : Int, 0 ≤ j → j < 3 → 0 ≤ u1X (m 5) s j ∧ u1X (m 5) s j ≤ 16 := fun j h0 h1 => by
    have a := hUr j h0 h1
    unfold uX at a; unfold u1X; split
    · rename_i e; subst e; omega
    · exact a
  refine v_aload_n C 0 dX10_weighWithOneMore_27 rfl ?_
  refine v_get C 0 4 lC0 (eC0 _) rfl inX10 (by decide) rfl qw423 dX10_weighWithOneMore_28 ?_
  refine v_aload_n C 0 dX10_weighWithOneMore_31 rfl ?_
  refine v_get C 0 13 lC0 (eC0 _) rfl inX10 (by decide) rfl qw432 dX10_weighWithOneMore_32 ?_
  refine v_st (st1 := [.ref (aa k), .ref (aa 19)]) (by rw [show (m3 0 13).toNat = k from by assumption]) ?_
  refine v_aload_n C 0 dX10_weighWithOneMore_35 rfl ?_
  refine v_get C 0 2 lC0 (eC0 _) rfl inX10 (by decide) rfl qw421 dX10_weighWithOneMore_36 ?_
  refine v_iconst (z := 0) C dX10_weighWithOneMore_39 rfl ?_
  refine v_callS (st := [.ref (aa k), .ref (aa 19)]) (n := 2) C [.ref (aa 5), .int (iz (0))] (ct_StageRatios_at C.2.2.2.2.2.2.1 m3 (5) (11) (0) ⟨lC5, by decide, eC5⟩ (by first | assumption | omega)) qw618 qw1 qw653 rfl rfl ⟨Nat.le_of_ble_eq_true rfl, Nat.le_of_ble_eq_true rfl⟩ (by decide +kernel) qw617 rfl rfl (Nat.le_of_ble_eq_true rfl) dX10_weighWithOneMore_40 (fun r m4 hq4 => ?_)
  obtain ⟨z4, rfl, rfl, rfl⟩ := hq4
  show V E (wC D cy aa ad) 2 m3 43 [(0, .ref (aa 0)), (1, .int (iz (s)))] [.int (iz (m3 5 0)), .ref (aa k), .ref (aa 19)]
  refine v_callV (st := []) (n := 2) (q := 19) C [.ref (aa k), .int (iz (m3 5 0))] (ct_Weights_weigh C.2.2.2.2.2.2.1 m3 (19) (20) (21) (22) (k) (kf) (ks) (kt) (kc) (m3 5 0) (by unfold WeightsAt; decide) hk (by rw [k2]; exact hk5) (by rw [k2, kf2]; exact hF) (by rw [e52]; exact hX.1) (by rw [k2]; intro j h0 h1; rw [hu2 j h0 (by omega)]; exact hu3 j h0 (by omega))) lC19 (eC19 _) rfl qw682 qw8 qw679 rfl rfl ⟨Nat.le_of_ble_eq_true rfl, Nat.le_of_ble_eq_true rfl⟩ (by decide +kernel) qw680 qw681 rfl rfl (Nat.le_of_ble_eq_true rfl) dX10_weighWithOneMore_43 (fun r m5 hq5 => ?_)
  obtain ⟨rfl, hq5⟩ := hq5
  show V E (wC D cy aa ad) 2 m5 46 [(0, .ref (aa 0)), (1, .int (iz (s)))] []
  refine v_vret C X dX10_weighWithOneMore_46 ⟨rfl, ?_⟩
  have zw := hq5.1
  rw [k2, kf2, e52] at zw
  exact ⟨zw.cgU hk5.2 hu2, fun j h0 h1 => by rw [hq5.2 20 (by decide) (by decide) (by decide)]; exact hu2 j h0 h1, fun q h => by rw [hq5.2 q (by omega) (by omega) (by omega)]; exact o2 q (by omega)⟩

set_option maxHeartbeats 4000000 in
set_option maxRecDepth 100000 in
theorem ct_StageRatios_powerAsItIs {lau : Launch} {D : va_G} {cy : Nat → ClassId} {aa ad : Nat → Nat} (hI : wI (wC D cy aa ad)) (m : Mem) (k kf ks kt kc : Nat) (hk : RocketAt k kf ks kt kc) (hcu : (m 0 13).toNat = k) (hti : TI m k kf ks kt kc) : MT lau (wC D cy aa ad) yX10_powerAsItIs cX10_powerAsItIs 1 (some .int) ({ frames := 4, cells := 0, slots := 0, locals := 123 } : Room) m [.ref (aa 0)] (Pi (fun z m' => (paA (m kf) (m k 5) (m k 2) (m k 3) (m 5 0) (uX (m 5)) z) ∧ ∀ q, (q < 15 ∨ (23 ≤ q ∧ q < 31) ∨ 34 ≤ q) → m' q = m q)) := by
  refine v_entry hI RX10 (by decide) rfl (Nat.le_of_ble_eq_true rfl) (fun E hE C X => ?_)
  subst hE
  show V E (wC D cy aa ad) 1 m 0 [(0, .ref (aa 0))] []
  obtain ⟨hrk, hX, -⟩ := id hti
  obtain ⟨hk5, hF, hup, hlw, hpl, hnf, hfa, -⟩ := id hrk
  have hkk : 73 ≤ k ∧ 73 ≤ kf ∧ 73 ≤ ks ∧ 73 ≤ kt ∧ 73 ≤ kc := by unfold RocketAt at hk; omega
  have hUr := hX.u hF
  have hDv := hX.dv hF hk5
  obtain ⟨al1, al2, al3, al4, al5⟩ := hDv.al hF
  refine v_aload_n C 0 dX10_powerAsItIs_0 rfl ?_
  refine v_callV (st := []) (n := 0) (q := 0) C [] (ct_StageRatios_weighAsItIs C.2.2.2.2.2.2.1 m (k) (kf) (ks) (kt) (kc) (by first | assumption | omega) (by first | assumption | omega) (by first | assumption | omega)) lC0 (eC0 _) rfl qw674 qw1 qw671 rfl rfl ⟨Nat.le_of_ble_eq_true rfl, Nat.le_of_ble_eq_true rfl⟩ (by decide +kernel) qw673 qp18 rfl rfl (Nat.le_of_ble_eq_true rfl) dX10_powerAsItIs_1 (fun r m1 hq1 => ?_)
  obtain ⟨rfl, hq1⟩ := hq1
  show V E (wC D cy aa ad) 1 m1 4 [(0, .ref (aa 0))] []
  have o1 := hq1.2.2
  have hcu1 : (m1 0 13).toNat = k := by rw [o1 0 (by decide)]; exact hcu
  have k1 := o1 k (by omega)
  have kf1 := o1 kf (by omega)
  refine v_aload_n C 0 dX10_powerAsItIs_4 rfl ?_
  refine v_get C 0 4 lC0 (eC0 _) rfl inX10 (by decide) rfl qw423 dX10_powerAsItIs_5 ?_
  refine v_aload_n C 0 dX10_powerAsItIs_8 rfl ?_
  refine v_get C 0 13 lC0 (eC0 _) rfl inX10 (by decide) rfl qw432 dX10_powerAsItIs_9 ?_
  refine v_st (st1 := [.ref (aa k), .ref (aa 19)]) (by rw [show (m1 0 13).toNat = k from by assumption]) ?_
  refine v_aload_n C 0 dX10_powerAsItIs_12 rfl ?_
  refine v_get C 0 6 lC0 (eC0 _) rfl inX10 (by decide) rfl qw425 dX10_powerAsItIs_13 ?_
  refine v_callV (st := []) (n := 2) (q := 19) C [.ref (aa k), .ref (aa 31)] (ct_Weights_speedInto C.2.2.2.2.2.2.1 m1 (19) (20) (21) (22) (k) (kf) (ks) (kt) (kc) (31) (32) (33) (34) (by unfold WeightsAt; decide) hk (by unfold RatioAt; decide) (by rw [k1]; exact hk5)) lC19 (eC19 _) rfl qw725 qw8 qw722 rfl rfl ⟨Nat.le_of_ble_eq_true rfl, Nat.le_of_ble_eq_true rfl⟩ (by decide +kernel) qw723 qw724 rfl rfl (Nat.le_of_ble_eq_true rfl) dX10_powerAsItIs_16 (fun r m2 hq2 => ?_)
  obtain ⟨rfl, hq2⟩ := hq2
  show V E (wC D cy aa ad) 1 m2 19 [(0, .ref (aa 0))] []
  have zq := hq2.1
  rw [k1, kf1, hq1.1.spT] at zq
  have o2 : ∀ q, (q < 31 ∨ 34 ≤ q) → m2 q = m1 q := fun q h => hq2.2 q (by omega) (by omega) (by omega)
  have k2 : m2 k = m k := by rw [o2 k (by omega), k1]
  have hcu2 : (m2 0 13).toNat = k := by rw [o2 0 (by decide)]; exact hcu1
  refine v_aload_n C 0 dX10_powerAsItIs_19 rfl ?_
  refine v_get C 0 8 lC0 (eC0 _) rfl inX10 (by decide) rfl qw427 dX10_powerAsItIs_20 ?_
  refine v_aload_n C 0 dX10_powerAsItIs_23 rfl ?_
  refine v_get C 0 6 lC0 (eC0 _) rfl inX10 (by decide) rfl qw425 dX10_powerAsItIs_24 ?_
  refine v_aload_n C 0 dX10_powerAsItIs_27 rfl ?_
  refine v_get C 0 13 lC0 (eC0 _) rfl inX10 (by decide) rfl qw432 dX10_powerAsItIs_28 ?_
  refine v_st (st1 := [.ref (aa k), .ref (aa 31), .ref (aa 7)]) (by rw [show (m2 0 13).toNat = k from by assumption]) ?_
  refine v_get C k 2 (RocketAt.l0 hk) (RocketAt.e0 hk _) rfl inX6 (by decide) rfl qw373 dX10_powerAsItIs_31 ?_
  refine v_aload_n C 0 dX10_powerAsItIs_34 rfl ?_
  refine v_get C 0 13 lC0 (eC0 _) rfl inX10 (by decide) rfl qw432 dX10_powerAsItIs_35 ?_
  refine v_st (st1 := [.ref (aa k), .int (iz (m2 k 2)), .ref (aa 31), .ref (aa 7)]) (by rw [show (m2 0 13).toNat = k from by assumption]) ?_
  refine v_get C k 3 (RocketAt.l0 hk) (RocketAt.e0 hk _) rfl inX6 (by decide) rfl qw376 dX10_powerAsItIs_38 ?_
  refine v_callV (st := []) (n := 3) (q := 7) C [.ref (aa 31), .int (iz (m2 k 2)), .int (iz (m2 k 3))] (ct_Scale_powerOf C.2.2.2.2.2.2.1 m2 (31) (32) (33) (34) (spT (m kf) (m k 5) (m 5 0) (uX (m 5))) (m2 k 2) (m2 k 3) (by unfold RatioAt; decide) (by exact zq) (by exact al1) (by exact al2) (by exact le_560 al3) (by exact le_560 (Int.le_trans al5 al3)) (by rw [k2]; exact hup) (by rw [k2]; exact hlw) (by rw [k2]; exact nb_ok (by omega) (le_450 al3) hlw.1 (by omega)) (by rw [k2]; exact nb_ok (by omega) (le_450 (Int.le_trans al5 al3)) (by omega) hup.2)) lC7 (eC7 _) rfl qw738 qw10 qw735 rfl rfl ⟨Nat.le_of_ble_eq_true rfl, Nat.le_of_ble_eq_true rfl⟩ (by decide +kernel) qw736 qw737 rfl rfl (Nat.le_of_ble_eq_true rfl) dX10_powerAsItIs_41 (fun r m3 hq3 => ?_)
  obtain ⟨z3, rfl, hq3, hm3⟩ := hq3
  show V E (wC D cy aa ad) 1 m3 44 [(0, .ref (aa 0))] [.int (iz (z3))]
  refine v_iret C X rfl dX10_powerAsItIs_44 ⟨_, rfl, ?_, ?_⟩
  · rw [k2] at hq3; exact hq3
  · exact fun q h => by rw [hm3 q (by omega) (by omega) (by omega) (by omega), o2 q (by omega), o1 q (by omega)]
