/-! the methods under weak, without draws -/
set_option maxHeartbeats 4000000 in
set_option maxRecDepth 100000 in
theorem c0_StageRatios_at {lau : Launch} {D : va_G} {cy : Nat → ClassId} {aa ad : Nat → Nat} (hI : wI (wC D cy aa ad)) (m : Mem) (a n : Nat) (x : Int) (ha : ArI D cy aa ad a n) (hx : 0 ≤ x ∧ x < n) : MT0 lau (wC D cy aa ad) yX10_at cX10_at 2 (some .int) ({ frames := 0, cells := 0, slots := 0, locals := 0 } : Room) m [.ref (aa a), .int (iz (x))] (Pi (fun z m' => m a x = z ∧ m = m')) := by
  refine u0_entry hI RX10 (by decide) rfl (Nat.le_of_ble_eq_true rfl) (fun E hE C X => ?_)
  subst hE
  show V0 E (wC D cy aa ad) 2 m 0 [(0, .ref (aa a)), (1, .int (iz (x)))] []
  refine u0_aload_n C 0 dX10_at_0 rfl ?_
  refine u0_ifnull C dX10_at_1 ?_
  refine u0_iload_n C 1 dX10_at_4 rfl ?_
  refine u0_if_lt (tgt := 20) C dX10_at_5 (by decide) (by have := ha.2.1; omega) (fun c1 => ?_) (fun c1 => ?_)
  · exfalso; omega
  · refine u0_iload_n C 1 dX10_at_8 rfl ?_
    refine u0_aload_n C 0 dX10_at_9 rfl ?_
    refine u0_alen C a 0 ha.1 (ha.2.2 _) rfl dX10_at_10 ?_
    refine u0_icmp_ge (tgt := 20) C dX10_at_11 (by decide) (by have := ha.2.1; omega) (by have := ha.2.1; omega) (fun c2 => ?_) (fun c2 => ?_)
    · exfalso; omega
    · refine u0_aload_n C 0 dX10_at_14 rfl ?_
      refine u0_iload_n C 1 dX10_at_15 rfl ?_
      refine u0_iald C a ha.1 (ha.2.2 _) (ha.2.1) (by omega) dX10_at_16 ?_
      refine u0_goto (tgt := 21) C dX10_at_17 (by decide) ?_
      refine u0_iret C X rfl dX10_at_21 ⟨_, rfl, ?_, ?_⟩
      · rfl
      · rfl

set_option maxHeartbeats 4000000 in
set_option maxRecDepth 100000 in
theorem c0_StageRatios_put {lau : Launch} {D : va_G} {cy : Nat → ClassId} {aa ad : Nat → Nat} (hI : wI (wC D cy aa ad)) (m : Mem) (a n : Nat) (x v : Int) (ha : ArI D cy aa ad a n) (hx : 0 ≤ x ∧ x < n) : MT0 lau (wC D cy aa ad) yX10_put cX10_put 3 (none) ({ frames := 0, cells := 0, slots := 0, locals := 0 } : Room) m [.ref (aa a), .int (iz (x)), .int (iz (v))] (Pv (fun m' => mup m a x v = m')) := by
  refine u0_entry hI RX10 (by decide) rfl (Nat.le_of_ble_eq_true rfl) (fun E hE C X => ?_)
  subst hE
  show V0 E (wC D cy aa ad) 3 m 0 [(0, .ref (aa a)), (1, .int (iz (x))), (2, .int (iz (v)))] []
  refine u0_aload_n C 0 dX10_put_0 rfl ?_
  refine u0_ifnull C dX10_put_1 ?_
  refine u0_iload_n C 1 dX10_put_4 rfl ?_
  refine u0_if_lt (tgt := 18) C dX10_put_5 (by decide) (by have := ha.2.1; omega) (fun c1 => ?_) (fun c1 => ?_)
  · exfalso; omega
  · refine u0_iload_n C 1 dX10_put_8 rfl ?_
    refine u0_aload_n C 0 dX10_put_9 rfl ?_
    refine u0_alen C a 0 ha.1 (ha.2.2 _) rfl dX10_put_10 ?_
    refine u0_icmp_ge (tgt := 18) C dX10_put_11 (by decide) (by have := ha.2.1; omega) (by have := ha.2.1; omega) (fun c2 => ?_) (fun c2 => ?_)
    · exfalso; omega
    · refine u0_aload_n C 0 dX10_put_14 rfl ?_
      refine u0_iload_n C 1 dX10_put_15 rfl ?_
      refine u0_iload_n C 2 dX10_put_16 rfl ?_
      refine u0_iast C a ha.1 ha.2.2 (ha.2.1) (by omega) dX10_put_17 (fun m3 em3 => ?_)
      refine u0_vret C X dX10_put_18 ⟨rfl, ?_⟩
      exact em3.symm

set_option maxHeartbeats 4000000 in
set_option maxRecDepth 100000 in
theorem c0_StageRatios_layUnits {lau : Launch} {D : va_G} {cy : Nat → ClassId} {aa ad : Nat → Nat} (hI : wI (wC D cy aa ad)) (m : Mem)   : MT0 lau (wC D cy aa ad) yX10_layUnits cX10_layUnits 2 (none) ({ frames := 1, cells := 0, slots := 0, locals := 22 } : Room) m [.ref (aa 0)] (Pv (fun m' => (∀ j : Int, 0 ≤ j → j < 3 → m' 20 j = uX (m 5) j) ∧ ∀ q, q ≠ 20 → m' q = m q)) := by
  refine u0_entry hI RX10 (by decide) rfl (Nat.le_of_ble_eq_true rfl) (fun E hE C X => ?_)
  subst hE
  show V0 E (wC D cy aa ad) 2 m 0 [(0, .ref (aa 0))] []
  refine u0_iconst (z := 0) C dX10_layUnits_0 rfl ?_
  refine u0_istore_n (L1 := [(1, .int (iz (0))), (0, .ref (aa 0))]) C dX10_layUnits_1 (by decide) rfl ?_
  have K2 : ∀ (nK : Nat) (s : Int) (mL : Mem) (hs : 0 ≤ s ∧ s ≤ 3) (hv : ∀ j : Int, 0 ≤ j → j < s → mL 20 j = uX (m 5) j) (hf : ∀ q, q ≠ 20 → mL q = m q), (3 - s).toNat < nK → V0 E (wC D cy aa ad) 2 mL 2 [(0, .ref (aa 0)), (1, .int (iz (s)))] [] := by
    intro nK
    induction nK with
    | zero => intro s mL hs hv hf hn; exact absurd hn (Nat.not_lt_zero _)
    | succ nK ih2 =>
      intro s mL hs hv hf hn2
      refine u0_iload_n C 1 dX10_layUnits_2 rfl ?_
      refine u0_iconst (z := 3) C dX10_layUnits_3 rfl ?_
      refine u0_icmp_ge (tgt := 34) C dX10_layUnits_4 (by decide) (by omega) (by omega) (fun c1 => ?_) (fun c1 => ?_)
      · refine u0_vret C X dX10_layUnits_34 ⟨rfl, ?_⟩
        exact ⟨fun j h0 h1 => hv j h0 (by omega), hf⟩
      · refine u0_aload_n C 0 dX10_layUnits_7 rfl ?_
        refine u0_get C 0 4 lC0 (eC0 _) rfl inX10 (by decide) rfl qw423 dX10_layUnits_8 ?_
        refine u0_get C 19 0 lC19 (eC19 _) rfl inX9 (by decide) rfl qw180 dX10_layUnits_11 ?_
        refine u0_iload_n C 1 dX10_layUnits_14 rfl ?_
        refine u0_aload_n C 0 dX10_layUnits_15 rfl ?_
        refine u0_get C 0 2 lC0 (eC0 _) rfl inX10 (by decide) rfl qw421 dX10_layUnits_16 ?_
        refine u0_iconst (z := 2) C dX10_layUnits_19 rfl ?_
        refine u0_iload_n C 1 dX10_layUnits_20 rfl ?_
        refine u0_iadd C dX10_layUnits_21 ?_
        refine u0_callS (st := [.int (iz (s)), .ref (aa 20)]) (n := 2) C [.ref (aa 5), .int (iz (2 + s))] (c0_StageRatios_at C.2.2.2.2.2.2.1 mL (5) (11) (2 + s) ⟨lC5, by decide, eC5⟩ (by first | assumption | omega)) qw618 qw1 qw653 rfl rfl ⟨Nat.le_of_ble_eq_true rfl, Nat.le_of_ble_eq_true rfl⟩ (by decide +kernel) qw617 rfl rfl (Nat.le_of_ble_eq_true rfl) dX10_layUnits_22 (fun r m2 hq2 => ?_)
        obtain ⟨z2, rfl, rfl, rfl⟩ := hq2
        show V0 E (wC D cy aa ad) 2 mL 25 [(0, .ref (aa 0)), (1, .int (iz (s)))] [.int (iz (mL 5 (2 + s))), .int (iz (s)), .ref (aa 20)]
        refine u0_callS (st := []) (n := 3) C [.ref (aa 20), .int (iz (s)), .int (iz (mL 5 (2 + s)))] (c0_StageRatios_put C.2.2.2.2.2.2.1 mL (20) (3) (s) (mL 5 (2 + s)) ⟨lC20, by decide, eC20⟩ (by first | assumption | omega)) qw494 qw1 qw635 rfl rfl ⟨Nat.le_of_ble_eq_true rfl, Nat.le_of_ble_eq_true rfl⟩ (by decide +kernel) qw493 rfl rfl (Nat.le_of_ble_eq_true rfl) dX10_layUnits_25 (fun r m3 hq3 => ?_)
        obtain ⟨rfl, hq3⟩ := hq3
        show V0 E (wC D cy aa ad) 2 m3 28 [(0, .ref (aa 0)), (1, .int (iz (s)))] []
        refine u0_iinc (L1 := [(1, .int (iz (s + 1))), (0, .ref (aa 0))]) C 1 dX10_layUnits_28 rfl (by decide) rfl ?_
        refine u0_goto (tgt := 2) C dX10_layUnits_31 (by decide) ?_
        refine u0_sub [1, 0] rfl ?_
        exact ih2 (s + 1) m3 (by first | assumption | omega) (by 
                    intro j h0 h1; rw [← hq3]
                    by_cases e : j = s
                    · subst e; rw [mup_s, hf 5 (by decide)]; rfl
                    · rw [mup_j _ _ e]; exact hv j h0 (by omega)
                  ) (by intro q h; rw [← hq3, mup_k _ _ _ h]; exact hf q h) (by omega)
  refine u0_sub [1, 0] rfl ?_
  exact K2 _ (0) m (by first | assumption | omega) (by intro j h0 h1; omega) (by intro q _; rfl) (Nat.lt_succ_self _)

set_option maxHeartbeats 4000000 in
set_option maxRecDepth 100000 in
theorem c0_Rocket_fact {lau : Launch} {D : va_G} {cy : Nat → ClassId} {aa ad : Nat → Nat} (hI : wI (wC D cy aa ad)) (m : Mem) (k kf ks kt kc : Nat) (s w : Int) (hk : RocketAt k kf ks kt kc) (hs : 0 ≤ s ∧ s ≤ 2) (hw : 0 ≤ w ∧ w ≤ 8) : MT0 lau (wC D cy aa ad) yX6_fact cX6_fact 4 (some .int) ({ frames := 0, cells := 0, slots := 0, locals := 0 } : Room) m [.ref (aa k), .int (iz (s)), .int (iz (w))] (Pi (fun z m' => m kf (s * 9 + w) = z ∧ m = m')) := by
  refine u0_entry hI RX6 (by decide) rfl (Nat.le_of_ble_eq_true rfl) (fun E hE C X => ?_)
  subst hE
  show V0 E (wC D cy aa ad) 4 m 0 [(0, .ref (aa k)), (1, .int (iz (s))), (2, .int (iz (w)))] []
  refine u0_iload_n C 1 dX6_fact_0 rfl ?_
  refine u0_bipush (z := 9) C dX6_fact_1 (by decide) ?_
  refine u0_imul C dX6_fact_3 ?_
  refine u0_iload_n C 2 dX6_fact_4 rfl ?_
  refine u0_iadd C dX6_fact_5 ?_
  refine u0_istore_n (L1 := [(3, .int (iz ((s * 9) + w))), (0, .ref (aa k)), (1, .int (iz (s))), (2, .int (iz (w)))]) C dX6_fact_6 (by decide) rfl ?_
  refine u0_iload_n C 0 dX6_fact_7 rfl ?_
  refine u0_if_lt (tgt := 29) C dX6_fact_8 (by decide) (by omega) (fun c1 => ?_) (fun c1 => ?_)
  · exfalso; omega
  · refine u0_iload_n C 0 dX6_fact_11 rfl ?_
    refine u0_aload_n C 1 dX6_fact_12 rfl ?_
    refine u0_get C k 7 (RocketAt.l0 hk) (RocketAt.e0 hk _) rfl inX6 (by decide) rfl qw392 dX6_fact_13 ?_
    refine u0_alen C kf 0 (RocketAt.l1 hk) (RocketAt.e1 hk _) rfl dX6_fact_16 ?_
    refine u0_st (st1 := [.int (iz (27)), .int (iz ((s * 9) + w))]) rfl ?_
    refine u0_icmp_ge (tgt := 29) C dX6_fact_17 (by decide) (by omega) (by omega) (fun c2 => ?_) (fun c2 => ?_)
    · exfalso; omega
    · refine u0_aload_n C 1 dX6_fact_20 rfl ?_
      refine u0_get C k 7 (RocketAt.l0 hk) (RocketAt.e0 hk _) rfl inX6 (by decide) rfl qw392 dX6_fact_21 ?_
      refine u0_iload_n C 0 dX6_fact_24 rfl ?_
      refine u0_iald C kf (RocketAt.l1 hk) (RocketAt.e1 hk _) (by decide) (by omega) dX6_fact_25 ?_
      refine u0_goto (tgt := 30) C dX6_fact_26 (by decide) ?_
      refine u0_iret C X rfl dX6_fact_30 ⟨_, rfl, ?_, ?_⟩
      · rfl
      · rfl

set_option maxHeartbeats 4000000 in
set_option maxRecDepth 100000 in
theorem c0_Rocket_shell {lau : Launch} {D : va_G} {cy : Nat → ClassId} {aa ad : Nat → Nat} (hI : wI (wC D cy aa ad)) (m : Mem) (k kf ks kt kc : Nat) (s u n : Int) (hk : RocketAt k kf ks kt kc) (hn : n ≤ 3) (hs : 0 ≤ s ∧ s < n) (hu : 0 ≤ u ∧ u ≤ 16) (hF : FaOk (m kf) n) : MT0 lau (wC D cy aa ad) yX6_shell cX6_shell 5 (some .int) ({ frames := 1, cells := 0, slots := 0, locals := 23 } : Room) m [.ref (aa k), .int (iz (s)), .int (iz (u))] (Pi (fun z m' => shZ (m kf) s u = z ∧ m = m')) := by
  refine u0_entry hI RX6 (by decide) rfl (Nat.le_of_ble_eq_true rfl) (fun E hE C X => ?_)
  subst hE
  show V0 E (wC D cy aa ad) 5 m 0 [(0, .ref (aa k)), (1, .int (iz (s))), (2, .int (iz (u)))] []
  have f := hF s hs.1 hs.2
  have tk := tk_rng hu f.2.2.1
  refine u0_iload_n C 2 dX6_shell_0 rfl ?_
  refine u0_aload_n C 0 dX6_shell_1 rfl ?_
  refine u0_iload_n C 1 dX6_shell_2 rfl ?_
  refine u0_iconst (z := 2) C dX6_shell_3 rfl ?_
  refine u0_callV (st := [.int (iz (u))]) (n := 2) (q := k) C [.int (iz (s)), .int (iz (2))] (c0_Rocket_fact C.2.2.2.2.2.2.1 m (k) (kf) (ks) (kt) (kc) (s) (2) hk (by first | assumption | omega) (by first | assumption | omega)) (RocketAt.l0 hk) (RocketAt.e0 hk _) rfl qw590 qw15 qw666 rfl rfl ⟨Nat.le_of_ble_eq_true rfl, Nat.le_of_ble_eq_true rfl⟩ (by decide +kernel) qw588 qw589 rfl rfl (Nat.le_of_ble_eq_true rfl) dX6_shell_4 (fun r m1 hq1 => ?_)
  obtain ⟨z1, rfl, rfl, rfl⟩ := hq1
  show V0 E (wC D cy aa ad) 5 m 7 [(0, .ref (aa k)), (1, .int (iz (s))), (2, .int (iz (u)))] [.int (iz (m kf (s * 9 + 2))), .int (iz (u))]
  refine u0_imul C dX6_shell_7 ?_
  refine u0_bipush (z := 99) C dX6_shell_8 (by decide) ?_
  refine u0_iadd C dX6_shell_10 ?_
  refine u0_bipush (z := 100) C dX6_shell_11 (by decide) ?_
  refine u0_idiv C (by omega) (by omega) dX6_shell_13 ?_
  refine u0_istore_n (L1 := [(3, .int (iz (((u * (m kf (s * 9 + 2))) + 99) / 100))), (0, .ref (aa k)), (1, .int (iz (s))), (2, .int (iz (u)))]) C dX6_shell_14 (by decide) rfl ?_
  refine u0_aload_n C 1 dX6_shell_15 rfl ?_
  refine u0_iload_n C 2 dX6_shell_16 rfl ?_
  refine u0_iconst (z := 0) C dX6_shell_17 rfl ?_
  refine u0_callV (st := []) (n := 2) (q := k) C [.int (iz (s)), .int (iz (0))] (c0_Rocket_fact C.2.2.2.2.2.2.1 m (k) (kf) (ks) (kt) (kc) (s) (0) hk (by first | assumption | omega) (by first | assumption | omega)) (RocketAt.l0 hk) (RocketAt.e0 hk _) rfl qw590 qw15 qw666 rfl rfl ⟨Nat.le_of_ble_eq_true rfl, Nat.le_of_ble_eq_true rfl⟩ (by decide +kernel) qw588 qw589 rfl rfl (Nat.le_of_ble_eq_true rfl) dX6_shell_18 (fun r m2 hq2 => ?_)
  obtain ⟨z2, rfl, rfl, rfl⟩ := hq2
  show V0 E (wC D cy aa ad) 5 m 21 [(3, .int (iz (((u * (m kf (s * 9 + 2))) + 99) / 100))), (0, .ref (aa k)), (1, .int (iz (s))), (2, .int (iz (u)))] [.int (iz (m kf (s * 9 + 0)))]
  refine u0_iconst (z := 4) C dX6_shell_21 rfl ?_
  refine u0_icmp_ne (tgt := 36) C dX6_shell_22 (by decide) (by omega) (by omega) (fun c3 => ?_) (fun c3 => ?_)
  · refine u0_iconst (z := 0) C dX6_shell_36 rfl ?_
    refine u0_istore (L1 := [(4, .int (iz (0))), (3, .int (iz (((u * (m kf (s * 9 + 2))) + 99) / 100))), (0, .ref (aa k)), (1, .int (iz (s))), (2, .int (iz (u)))]) C dX6_shell_37 (by decide) rfl ?_
    refine u0_aload_n C 2 dX6_shell_39 rfl ?_
    refine u0_iload_n C 3 dX6_shell_40 rfl ?_
    refine u0_iconst (z := 1) C dX6_shell_41 rfl ?_
    refine u0_callV (st := []) (n := 2) (q := k) C [.int (iz (s)), .int (iz (1))] (c0_Rocket_fact C.2.2.2.2.2.2.1 m (k) (kf) (ks) (kt) (kc) (s) (1) hk (by first | assumption | omega) (by first | assumption | omega)) (RocketAt.l0 hk) (RocketAt.e0 hk _) rfl qw590 qw15 qw666 rfl rfl ⟨Nat.le_of_ble_eq_true rfl, Nat.le_of_ble_eq_true rfl⟩ (by decide +kernel) qw588 qw589 rfl rfl (Nat.le_of_ble_eq_true rfl) dX6_shell_42 (fun r m4 hq4 => ?_)
    obtain ⟨z4, rfl, rfl, rfl⟩ := hq4
    show V0 E (wC D cy aa ad) 5 m 45 [(4, .int (iz (0))), (3, .int (iz (((u * (m kf (s * 9 + 2))) + 99) / 100))), (0, .ref (aa k)), (1, .int (iz (s))), (2, .int (iz (u)))] [.int (iz (m kf (s * 9 + 1)))]
    refine u0_iload_n C 1 dX6_shell_45 rfl ?_
    refine u0_iadd C dX6_shell_46 ?_
    refine u0_iload C 0 dX6_shell_47 rfl ?_
    refine u0_iadd C dX6_shell_49 ?_
    refine u0_iret C X rfl dX6_shell_50 ⟨_, rfl, ?_, ?_⟩
    · unfold shZ
      first | rw [if_pos (by omega)] | rw [if_neg (by omega)]
    · rfl
  · refine u0_aload_n C 1 dX6_shell_25 rfl ?_
    refine u0_iload_n C 2 dX6_shell_26 rfl ?_
    refine u0_iconst (z := 1) C dX6_shell_27 rfl ?_
    refine u0_callV (st := []) (n := 2) (q := k) C [.int (iz (s)), .int (iz (1))] (c0_Rocket_fact C.2.2.2.2.2.2.1 m (k) (kf) (ks) (kt) (kc) (s) (1) hk (by first | assumption | omega) (by first | assumption | omega)) (RocketAt.l0 hk) (RocketAt.e0 hk _) rfl qw590 qw15 qw666 rfl rfl ⟨Nat.le_of_ble_eq_true rfl, Nat.le_of_ble_eq_true rfl⟩ (by decide +kernel) qw588 qw589 rfl rfl (Nat.le_of_ble_eq_true rfl) dX6_shell_28 (fun r m5 hq5 => ?_)
    obtain ⟨z5, rfl, rfl, rfl⟩ := hq5
    show V0 E (wC D cy aa ad) 5 m 31 [(3, .int (iz (((u * (m kf (s * 9 + 2))) + 99) / 100))), (0, .ref (aa k)), (1, .int (iz (s))), (2, .int (iz (u)))] [.int (iz (m kf (s * 9 + 1)))]
    refine u0_iconst (z := 2) C dX6_shell_31 rfl ?_
    refine u0_idiv C (by omega) (by omega) dX6_shell_32 ?_
    refine u0_goto (tgt := 37) C dX6_shell_33 (by decide) ?_
    refine u0_istore (L1 := [(4, .int (iz ((m kf (s * 9 + 1)) / 2))), (3, .int (iz (((u * (m kf (s * 9 + 2))) + 99) / 100))), (0, .ref (aa k)), (1, .int (iz (s))), (2, .int (iz (u)))]) C dX6_shell_37 (by decide) rfl ?_
    refine u0_aload_n C 2 dX6_shell_39 rfl ?_
    refine u0_iload_n C 3 dX6_shell_40 rfl ?_
    refine u0_iconst (z := 1) C dX6_shell_41 rfl ?_
    refine u0_callV (st := []) (n := 2) (q := k) C [.int (iz (s)), .int (iz (1))] (c0_Rocket_fact C.2.2.2.2.2.2.1 m (k) (kf) (ks) (kt) (kc) (s) (1) hk (by first | assumption | omega) (by first | assumption | omega)) (RocketAt.l0 hk) (RocketAt.e0 hk _) rfl qw590 qw15 qw666 rfl rfl ⟨Nat.le_of_ble_eq_true rfl, Nat.le_of_ble_eq_true rfl⟩ (by decide +kernel) qw588 qw589 rfl rfl (Nat.le_of_ble_eq_true rfl) dX6_shell_42 (fun r m6 hq6 => ?_)
    obtain ⟨z6, rfl, rfl, rfl⟩ := hq6
    show V0 E (wC D cy aa ad) 5 m 45 [(4, .int (iz ((m kf (s * 9 + 1)) / 2))), (3, .int (iz (((u * (m kf (s * 9 + 2))) + 99) / 100))), (0, .ref (aa k)), (1, .int (iz (s))), (2, .int (iz (u)))] [.int (iz (m kf (s * 9 + 1)))]
    refine u0_iload_n C 1 dX6_shell_45 rfl ?_
    refine u0_iadd C dX6_shell_46 ?_
    refine u0_iload C 0 dX6_shell_47 rfl ?_
    refine u0_iadd C dX6_shell_49 ?_
    refine u0_iret C X rfl dX6_shell_50 ⟨_, rfl, ?_, ?_⟩
    · unfold shZ
      first | rw [if_pos (by omega)] | rw [if_neg (by omega)]
    · rfl

set_option maxHeartbeats 4000000 in
set_option maxRecDepth 100000 in
theorem c0_Weights_weigh {lau : Launch} {D : va_G} {cy : Nat → ClassId} {aa ad : Nat → Nat} (hI : wI (wC D cy aa ad)) (m : Mem) (o u t e : Nat) (k kf ks kt kc : Nat) (P : Int) (hw : WeightsAt o u t e) (hk : RocketAt k kf ks kt kc) (hR : 1 ≤ m k 5 ∧ m k 5 ≤ 3) (hF : FaOk (m kf) (m k 5)) (hP : 1 ≤ P ∧ P ≤ 40) (hU : ∀ j : Int, 0 ≤ j → j < m k 5 → 0 ≤ m u j ∧ m u j ≤ 16) : MT0 lau (wC D cy aa ad) yX9_weigh cX9_weigh 6 (none) ({ frames := 2, cells := 0, slots := 0, locals := 47 } : Room) m [.ref (aa o), .ref (aa k), .int (iz (P))] (Pv (fun m' => WtIs m' o t e (m kf) (m k 5) P (m u) ∧ (∀ q, q ≠ o → q ≠ t → q ≠ e → m' q = m q))) := by
  refine u0_entry hI RX9 (by decide) rfl (Nat.le_of_ble_eq_true rfl) (fun E hE C X => ?_)
  subst hE
  show V0 E (wC D cy aa ad) 6 m 0 [(0, .ref (aa o)), (1, .ref (aa k)), (2, .int (iz (P)))] []
  have hne : k ≠ t ∧ k ≠ e ∧ kf ≠ t ∧ kf ≠ e ∧ u ≠ t ∧ u ≠ e ∧ t ≠ e := by unfold RocketAt at hk; unfold WeightsAt at hw; omega
  have hne2 : u ≠ o ∧ t ≠ o ∧ e ≠ o ∧ k ≠ o ∧ kf ≠ o ∧ k ≠ u ∧ kf ≠ u := by unfold RocketAt at hk; unfold WeightsAt at hw; omega
  refine u0_iload_n C 2 dX9_weigh_0 rfl ?_
  refine u0_istore_n (L1 := [(3, .int (iz (P))), (0, .ref (aa o)), (1, .ref (aa k)), (2, .int (iz (P)))]) C dX9_weigh_1 (by decide) rfl ?_
  refine u0_aload_n C 2 dX9_weigh_2 rfl ?_
  refine u0_get C k 5 (RocketAt.l0 hk) (RocketAt.e0 hk _) rfl inX6 (by decide) rfl qw384 dX9_weigh_3 ?_
  refine u0_iconst (z := 1) C dX9_weigh_6 rfl ?_
  refine u0_isub C dX9_weigh_7 ?_
  refine u0_istore (L1 := [(4, .int (iz ((m k 5) - 1))), (3, .int (iz (P))), (0, .ref (aa o)), (1, .ref (aa k)), (2, .int (iz (P)))]) C dX9_weigh_8 (by decide) rfl ?_
  have K10 : ∀ (nK : Nat) (s : Int) (y : Int) (mL : Mem) (hs : -1 ≤ s ∧ s < m k 5) (hy : y = stZ (m kf) (m k 5) P (m u) (s + 1)) (hf : ∀ q, q ≠ t → q ≠ e → mL q = m q) (hst : ∀ j : Int, s < j → j < m k 5 → mL t j = stZ (m kf) (m k 5) P (m u) j ∧ mL e j = stZ (m kf) (m k 5) P (m u) j - m u j), (s + 1).toNat < nK → V0 E (wC D cy aa ad) 6 mL 10 [(0, .ref (aa o)), (1, .ref (aa k)), (3, .int (iz (y))), (4, .int (iz (s)))] [] := by
    intro nK
    induction nK with
    | zero => intro s y mL hs hy hf hst hn; exact absurd hn (Nat.not_lt_zero _)
    | succ nK ih10 =>
      intro s y mL hs hy hf hst hn10
      have hk1 : mL k = m k := hf k hne.1 hne.2.1
      have hkf : mL kf = m kf := hf kf hne.2.2.1 hne.2.2.2.1
      have hu1 : mL u = m u := hf u hne.2.2.2.2.1 hne.2.2.2.2.2.1
      refine u0_iload C 3 dX9_weigh_10 rfl ?_
      refine u0_if_lt (tgt := 74) C dX9_weigh_12 (by decide) (by omega) (fun c1 => ?_) (fun c1 => ?_)
      · refine u0_aload_n C 0 dX9_weigh_74 rfl ?_
        refine u0_iload_n C 2 dX9_weigh_75 rfl ?_
        refine u0_put C o 3 (y) 3 rfl (WeightsAt.l0 hw) (WeightsAt.e0 hw _) rfl inX9 tyX9 tyX9_ok nmX9 (by decide) qw186 rfl rfl rfl (Nat.le_of_ble_eq_true rfl) (by rw [mup_r]; exact (WeightsAt.e0 hw _)) dX9_weigh_76 (fun m2 em2 => ?_)
        refine u0_vret C X dX9_weigh_79 ⟨rfl, ?_⟩
        have hs1 : s = -1 := by omega
        subst hs1
        refine ⟨⟨by rw [em2, mup_s]; exact hy, fun j h0 h1 => ?_⟩, fun q h1 h2 h3 => ?_⟩
        · rw [em2, mup_k _ _ _ hne2.2.1, mup_k _ _ _ hne2.2.2.1]; exact hst j (by omega) h1
        · rw [em2, mup_k _ _ _ h1]; exact hf q h2 h3
      · refine u0_iload_n C 2 dX9_weigh_15 rfl ?_
        refine u0_aload_n C 1 dX9_weigh_16 rfl ?_
        refine u0_iload C 3 dX9_weigh_17 rfl ?_
        refine u0_aload_n C 0 dX9_weigh_19 rfl ?_
        refine u0_get C o 0 (WeightsAt.l0 hw) (WeightsAt.e0 hw _) rfl inX9 (by decide) rfl qw177 dX9_weigh_20 ?_
        refine u0_iload C 3 dX9_weigh_23 rfl ?_
        refine u0_callSN (st := [.int (iz (s)), .ref (aa k), .int (iz (y))]) (n := 2) C [.ref (aa u), .int (iz (s))] (c0_StageRatios_at C.2.2.2.2.2.2.1 mL (u) (3) (s) ⟨(WeightsAt.l1 hw), by decide, (WeightsAt.e1 hw)⟩ (by first | assumption | omega)) qw618 qw1 "StageRatios" (by decide +kernel) rfl rfl ⟨Nat.le_of_ble_eq_true rfl, Nat.le_of_ble_eq_true rfl⟩ (by decide +kernel) qw617 rfl rfl (Nat.le_of_ble_eq_true rfl) dX9_weigh_25 (fun r m3 hq3 => ?_)
        obtain ⟨z3, rfl, rfl, rfl⟩ := hq3
        show V0 E (wC D cy aa ad) 6 mL 28 [(0, .ref (aa o)), (1, .ref (aa k)), (3, .int (iz (y))), (4, .int (iz (s)))] [.int (iz (mL u s)), .int (iz (s)), .ref (aa k), .int (iz (y))]
        refine u0_callV (st := [.int (iz (y))]) (n := 2) (q := k) C [.int (iz (s)), .int (iz (mL u s))] (c0_Rocket_shell C.2.2.2.2.2.2.1 mL (k) (kf) (ks) (kt) (kc) (s) (mL u s) (m k 5) hk (by first | assumption | omega) (by first | assumption | omega) (by rw [hu1]; exact hU s (by omega) (by omega)) (by rw [hkf]; exact hF)) (RocketAt.l0 hk) (RocketAt.e0 hk _) rfl qw665 qw15 qw684 rfl rfl ⟨Nat.le_of_ble_eq_true rfl, Nat.le_of_ble_eq_true rfl⟩ (by decide +kernel) qw663 qw664 rfl rfl (Nat.le_of_ble_eq_true rfl) dX9_weigh_28 (fun r m4 hq4 => ?_)
        obtain ⟨z4, rfl, rfl, rfl⟩ := hq4
        show V0 E (wC D cy aa ad) 6 mL 31 [(0, .ref (aa o)), (1, .ref (aa k)), (3, .int (iz (y))), (4, .int (iz (s)))] [.int (iz (shZ (mL kf) s (mL u s))), .int (iz (y))]
        refine u0_iadd C dX9_weigh_31 ?_
        refine u0_istore (L1 := [(5, .int (iz (y + (shZ (mL kf) s (mL u s))))), (0, .ref (aa o)), (1, .ref (aa k)), (3, .int (iz (y))), (4, .int (iz (s)))]) C dX9_weigh_32 (by decide) rfl ?_
        refine u0_iload C 0 dX9_weigh_34 rfl ?_
        refine u0_aload_n C 1 dX9_weigh_36 rfl ?_
        refine u0_get C o 0 (WeightsAt.l0 hw) (WeightsAt.e0 hw _) rfl inX9 (by decide) rfl qw177 dX9_weigh_37 ?_
        refine u0_iload C 4 dX9_weigh_40 rfl ?_
        refine u0_callSN (st := [.int (iz (y + (shZ (mL kf) s (mL u s))))]) (n := 2) C [.ref (aa u), .int (iz (s))] (c0_StageRatios_at C.2.2.2.2.2.2.1 mL (u) (3) (s) ⟨(WeightsAt.l1 hw), by decide, (WeightsAt.e1 hw)⟩ (by first | assumption | omega)) qw618 qw1 "StageRatios" (by decide +kernel) rfl rfl ⟨Nat.le_of_ble_eq_true rfl, Nat.le_of_ble_eq_true rfl⟩ (by decide +kernel) qw617 rfl rfl (Nat.le_of_ble_eq_true rfl) dX9_weigh_42 (fun r m5 hq5 => ?_)
        obtain ⟨z5, rfl, rfl, rfl⟩ := hq5
        show V0 E (wC D cy aa ad) 6 mL 45 [(5, .int (iz (y + (shZ (mL kf) s (mL u s))))), (0, .ref (aa o)), (1, .ref (aa k)), (3, .int (iz (y))), (4, .int (iz (s)))] [.int (iz (mL u s)), .int (iz (y + (shZ (mL kf) s (mL u s))))]
        refine u0_iadd C dX9_weigh_45 ?_
        refine u0_istore_n (L1 := [(3, .int (iz ((y + (shZ (mL kf) s (mL u s))) + (mL u s)))), (5, .int (iz (y + (shZ (mL kf) s (mL u s))))), (0, .ref (aa o)), (1, .ref (aa k)), (4, .int (iz (s)))]) C dX9_weigh_46 (by decide) rfl ?_
        refine u0_aload_n C 2 dX9_weigh_47 rfl ?_
        refine u0_get C o 2 (WeightsAt.l0 hw) (WeightsAt.e0 hw _) rfl inX9 (by decide) rfl qw184 dX9_weigh_48 ?_
        refine u0_iload C 4 dX9_weigh_51 rfl ?_
        refine u0_iload C 1 dX9_weigh_53 rfl ?_
        refine u0_callSN (st := []) (n := 3) C [.ref (aa e), .int (iz (s)), .int (iz (y + (shZ (mL kf) s (mL u s))))] (c0_StageRatios_put C.2.2.2.2.2.2.1 mL (e) (3) (s) (y + (shZ (mL kf) s (mL u s))) ⟨(WeightsAt.l3 hw), by decide, (WeightsAt.e3 hw)⟩ (by first | assumption | omega)) qw494 qw1 "StageRatios" (by decide +kernel) rfl rfl ⟨Nat.le_of_ble_eq_true rfl, Nat.le_of_ble_eq_true rfl⟩ (by decide +kernel) qw493 rfl rfl (Nat.le_of_ble_eq_true rfl) dX9_weigh_55 (fun r m6 hq6 => ?_)
        obtain ⟨rfl, hq6⟩ := hq6
        show V0 E (wC D cy aa ad) 6 m6 58 [(3, .int (iz ((y + (shZ (mL kf) s (mL u s))) + (mL u s)))), (5, .int (iz (y + (shZ (mL kf) s (mL u s))))), (0, .ref (aa o)), (1, .ref (aa k)), (4, .int (iz (s)))] []
        refine u0_aload_n C 2 dX9_weigh_58 rfl ?_
        refine u0_get C o 1 (WeightsAt.l0 hw) (WeightsAt.e0 hw _) rfl inX9 (by decide) rfl qw181 dX9_weigh_59 ?_
        refine u0_iload C 4 dX9_weigh_62 rfl ?_
        refine u0_iload_n C 0 dX9_weigh_64 rfl ?_
        refine u0_callSN (st := []) (n := 3) C [.ref (aa t), .int (iz (s)), .int (iz ((y + (shZ (mL kf) s (mL u s))) + (mL u s)))] (c0_StageRatios_put C.2.2.2.2.2.2.1 m6 (t) (3) (s) ((y + (shZ (mL kf) s (mL u s))) + (mL u s)) ⟨(WeightsAt.l2 hw), by decide, (WeightsAt.e2 hw)⟩ (by first | assumption | omega)) qw494 qw1 "StageRatios" (by decide +kernel) rfl rfl ⟨Nat.le_of_ble_eq_true rfl, Nat.le_of_ble_eq_true rfl⟩ (by decide +kernel) qw493 rfl rfl (Nat.le_of_ble_eq_true rfl) dX9_weigh_65 (fun r m7 hq7 => ?_)
        obtain ⟨rfl, hq7⟩ := hq7
        show V0 E (wC D cy aa ad) 6 m7 68 [(3, .int (iz ((y + (shZ (mL kf) s (mL u s))) + (mL u s)))), (5, .int (iz (y + (shZ (mL kf) s (mL u s))))), (0, .ref (aa o)), (1, .ref (aa k)), (4, .int (iz (s)))] []
        refine u0_iinc (L1 := [(4, .int (iz (s + (-1)))), (3, .int (iz ((y + (shZ (mL kf) s (mL u s))) + (mL u s)))), (5, .int (iz (y + (shZ (mL kf) s (mL u s))))), (0, .ref (aa o)), (1, .ref (aa k))]) C 4 dX9_weigh_68 rfl (by decide) rfl ?_
        refine u0_goto (tgt := 10) C dX9_weigh_71 (by decide) ?_
        refine u0_sub [3, 4, 1, 0] rfl ?_
        exact ih10 (s + (-1)) ((y + (shZ (mL kf) s (mL u s))) + (mL u s)) m7 (by first | assumption | omega) (by rw [show s + (-1) + 1 = s by omega, stZ_s hs.2, hy, hkf, hu1]) (by intro q h1 h2; rw [← hq7, ← hq6, mup_k _ _ _ h1, mup_k _ _ _ h2]; exact hf q h1 h2) (by 
                    intro j h0 h1
                    rw [← hq7, ← hq6, mup_k _ _ _ (Ne.symm hne.2.2.2.2.2.2)]
                    by_cases q : j = s
                    · subst q
                      rw [mup_s, mup_s, stZ_s h1, hy, hkf, hu1]
                      exact ⟨rfl, by omega⟩
                    · rw [mup_j _ _ q, mup_k _ _ _ hne.2.2.2.2.2.2, mup_j _ _ q]
                      exact hst j (by omega) h1
                  ) (by omega)
  refine u0_sub [2, 3, 1, 0] rfl ?_
  exact K10 _ ((m k 5) - 1) (P) m (by first | assumption | omega) (by rw [show m k 5 - 1 + 1 = m k 5 by omega]; exact (stZ_n _ _ _ _).symm) (by intro q h1 h2; rfl) (by intro j h0 h1; omega) (Nat.lt_succ_self _)

set_option maxHeartbeats 4000000 in
set_option maxRecDepth 100000 in
theorem c0_StageRatios_weighAsItIs {lau : Launch} {D : va_G} {cy : Nat → ClassId} {aa ad : Nat → Nat} (hI : wI (wC D cy aa ad)) (m : Mem) (k kf ks kt kc : Nat) (hk : RocketAt k kf ks kt kc) (hcu : (m 0 13).toNat = k) (hti : TI m k kf ks kt kc) : MT0 lau (wC D cy aa ad) yX10_weighAsItIs cX10_weighAsItIs 1 (none) ({ frames := 3, cells := 0, slots := 0, locals := 72 } : Room) m [.ref (aa 0)] (Pv (fun m' => WtIs m' 19 21 22 (m kf) (m k 5) (m 5 0) (uX (m 5)) ∧ (∀ j : Int, 0 ≤ j → j < 3 → m' 20 j = uX (m 5) j) ∧ ∀ q, (q < 19 ∨ 23 ≤ q) → m' q = m q)) := by
  refine u0_entry hI RX10 (by decide) rfl (Nat.le_of_ble_eq_true rfl) (fun E hE C X => ?_)
  subst hE
  show V0 E (wC D cy aa ad) 1 m 0 [(0, .ref (aa 0))] []
  obtain ⟨hrk, hX, -⟩ := id hti
  obtain ⟨hk5, hF, hup, hlw, hpl, hnf, hfa, -⟩ := id hrk
  have hkk : 73 ≤ k ∧ 73 ≤ kf ∧ 73 ≤ ks ∧ 73 ≤ kt ∧ 73 ≤ kc := by unfold RocketAt at hk; omega
  have hUr := hX.u hF
  have hDv := hX.dv hF hk5
  refine u0_aload_n C 0 dX10_weighAsItIs_0 rfl ?_
  refine u0_callV (st := []) (n := 0) (q := 0) C [] (c0_StageRatios_layUnits C.2.2.2.2.2.2.1 m  ) lC0 (eC0 _) rfl qw678 qw1 qw675 rfl rfl ⟨Nat.le_of_ble_eq_true rfl, Nat.le_of_ble_eq_true rfl⟩ (by decide +kernel) qw677 qp19 rfl rfl (Nat.le_of_ble_eq_true rfl) dX10_weighAsItIs_1 (fun r m1 hq1 => ?_)
  obtain ⟨rfl, hq1⟩ := hq1
  show V0 E (wC D cy aa ad) 1 m1 4 [(0, .ref (aa 0))] []
  have o1 := hq1.2
  have hcu1 : (m1 0 13).toNat = k := by rw [o1 0 (by decide)]; exact hcu
  have k1 := o1 k (by omega)
  have kf1 := o1 kf (by omega)
  have e51 := o1 5 (by decide)
  refine u0_aload_n C 0 dX10_weighAsItIs_4 rfl ?_
  refine u0_get C 0 4 lC0 (eC0 _) rfl inX10 (by decide) rfl qw423 dX10_weighAsItIs_5 ?_
  refine u0_aload_n C 0 dX10_weighAsItIs_8 rfl ?_
  refine u0_get C 0 13 lC0 (eC0 _) rfl inX10 (by decide) rfl qw432 dX10_weighAsItIs_9 ?_
  refine u0_st (st1 := [.ref (aa k), .ref (aa 19)]) (by rw [show (m1 0 13).toNat = k from by assumption]) ?_
  refine u0_aload_n C 0 dX10_weighAsItIs_12 rfl ?_
  refine u0_get C 0 2 lC0 (eC0 _) rfl inX10 (by decide) rfl qw421 dX10_weighAsItIs_13 ?_
  refine u0_iconst (z := 0) C dX10_weighAsItIs_16 rfl ?_
  refine u0_callS (st := [.ref (aa k), .ref (aa 19)]) (n := 2) C [.ref (aa 5), .int (iz (0))] (c0_StageRatios_at C.2.2.2.2.2.2.1 m1 (5) (11) (0) ⟨lC5, by decide, eC5⟩ (by first | assumption | omega)) qw618 qw1 qw653 rfl rfl ⟨Nat.le_of_ble_eq_true rfl, Nat.le_of_ble_eq_true rfl⟩ (by decide +kernel) qw617 rfl rfl (Nat.le_of_ble_eq_true rfl) dX10_weighAsItIs_17 (fun r m2 hq2 => ?_)
  obtain ⟨z2, rfl, rfl, rfl⟩ := hq2
  show V0 E (wC D cy aa ad) 1 m1 20 [(0, .ref (aa 0))] [.int (iz (m1 5 0)), .ref (aa k), .ref (aa 19)]
  refine u0_callV (st := []) (n := 2) (q := 19) C [.ref (aa k), .int (iz (m1 5 0))] (c0_Weights_weigh C.2.2.2.2.2.2.1 m1 (19) (20) (21) (22) (k) (kf) (ks) (kt) (kc) (m1 5 0) (by unfold WeightsAt; decide) hk (by rw [k1]; exact hk5) (by rw [k1, kf1]; exact hF) (by rw [e51]; exact hX.1) (by rw [k1]; intro j h0 h1; rw [hq1.1 j h0 (by omega)]; exact hUr j h0 (by omega))) lC19 (eC19 _) rfl qw682 qw8 qw679 rfl rfl ⟨Nat.le_of_ble_eq_true rfl, Nat.le_of_ble_eq_true rfl⟩ (by decide +kernel) qw680 qw681 rfl rfl (Nat.le_of_ble_eq_true rfl) dX10_weighAsItIs_20 (fun r m3 hq3 => ?_)
  obtain ⟨rfl, hq3⟩ := hq3
  show V0 E (wC D cy aa ad) 1 m3 23 [(0, .ref (aa 0))] []
  refine u0_vret C X dX10_weighAsItIs_23 ⟨rfl, ?_⟩
  have zw := hq3.1
  rw [k1, kf1, e51] at zw
  exact ⟨zw.cgU hk5.2 hq1.1, fun j h0 h1 => by rw [hq3.2 20 (by decide) (by decide) (by decide)]; exact hq1.1 j h0 h1, fun q h => by rw [hq3.2 q (by omega) (by omega) (by omega)]; exact o1 q (by omega)⟩

set_option maxHeartbeats 4000000 in
set_option maxRecDepth 100000 in
theorem c0_Weights_hundredfold {lau : Launch} {D : va_G} {cy : Nat → ClassId} {aa ad : Nat → Nat} (hI : wI (wC D cy aa ad)) (m : Mem) (x y : Int) (hx : 0 ≤ x ∧ x ≤ 10000) (hy : 1 ≤ y ∧ y ≤ 2147483647) : MT0 lau (wC D cy aa ad) yX9_hundredfold cX9_hundredfold 2 (some .int) ({ frames := 0, cells := 0, slots := 0, locals := 0 } : Room) m [.int (iz (x)), .int (iz (y))] (Pi (fun z m' => 100 * x / y = z ∧ m = m')) := by
  refine u0_entry hI RX9 (by decide) rfl (Nat.le_of_ble_eq_true rfl) (fun E hE C X => ?_)
  subst hE
  show V0 E (wC D cy aa ad) 2 m 0 [(0, .int (iz (x))), (1, .int (iz (y)))] []
  refine u0_iload_n C 1 dX9_hundredfold_0 rfl ?_
  refine u0_if_le (tgt := 13) C dX9_hundredfold_1 (by decide) (by omega) (fun c1 => ?_) (fun c1 => ?_)
  · exfalso; omega
  · refine u0_bipush (z := 100) C dX9_hundredfold_4 (by decide) ?_
    refine u0_iload_n C 0 dX9_hundredfold_6 rfl ?_
    refine u0_imul C dX9_hundredfold_7 ?_
    refine u0_iload_n C 1 dX9_hundredfold_8 rfl ?_
    refine u0_idiv C (by omega) (by omega) dX9_hundredfold_9 ?_
    refine u0_goto (tgt := 14) C dX9_hundredfold_10 (by decide) ?_
    refine u0_iret C X rfl dX9_hundredfold_14 ⟨_, rfl, ?_, ?_⟩
    · rfl
    · rfl

set_option maxHeartbeats 4000000 in
set_option maxRecDepth 100000 in
theorem c0_Weights_pushWithout {lau : Launch} {D : va_G} {cy : Nat → ClassId} {aa ad : Nat → Nat} (hI : wI (wC D cy aa ad)) (m : Mem) (o u t e : Nat) (k kf ks kt kc : Nat) (s out n : Int) (hw : WeightsAt o u t e) (hk : RocketAt k kf ks kt kc) (hn : n ≤ 3) (hs : 0 ≤ s ∧ s < n) (hF : FaOk (m kf) n) (ho : 0 ≤ out ∧ out ≤ m kf (s * 9 + 4)) (ht : 1 ≤ m t s ∧ m t s ≤ 400) : MT0 lau (wC D cy aa ad) yX9_pushWithout cX9_pushWithout 5 (some .int) ({ frames := 1, cells := 0, slots := 0, locals := 23 } : Room) m [.ref (aa o), .ref (aa k), .int (iz (s)), .int (iz (out))] (Pi (fun z m' => mgZ (m kf) s out (m t s) = z ∧ m = m')) := by
  refine u0_entry hI RX9 (by decide) rfl (Nat.le_of_ble_eq_true rfl) (fun E hE C X => ?_)
  subst hE
  show V0 E (wC D cy aa ad) 5 m 0 [(0, .ref (aa o)), (1, .ref (aa k)), (2, .int (iz (s))), (3, .int (iz (out)))] []
  have f := hF s hs.1 hs.2
  have tq : 0 ≤ m kf (s * 9 + 5) * (m kf (s * 9 + 4) - out) ∧ m kf (s * 9 + 5) * (m kf (s * 9 + 4) - out) ≤ 10000 := by
    have h1 : 0 ≤ m kf (s * 9 + 5) * (m kf (s * 9 + 4) - out) := Int.mul_nonneg (by omega) (by omega)
    have h2 : m kf (s * 9 + 5) * (m kf (s * 9 + 4) - out) ≤ 999 * (m kf (s * 9 + 4) - out) := Int.mul_le_mul_of_nonneg_right (by omega) (by omega)
    omega
  refine u0_aload_n C 1 dX9_pushWithout_0 rfl ?_
  refine u0_iload_n C 2 dX9_pushWithout_1 rfl ?_
  refine u0_iconst (z := 5) C dX9_pushWithout_2 rfl ?_
  refine u0_callV (st := []) (n := 2) (q := k) C [.int (iz (s)), .int (iz (5))] (c0_Rocket_fact C.2.2.2.2.2.2.1 m (k) (kf) (ks) (kt) (kc) (s) (5) hk (by first | assumption | omega) (by first | assumption | omega)) (RocketAt.l0 hk) (RocketAt.e0 hk _) rfl qw590 qw15 qw690 rfl rfl ⟨Nat.le_of_ble_eq_true rfl, Nat.le_of_ble_eq_true rfl⟩ (by decide +kernel) qw588 qw589 rfl rfl (Nat.le_of_ble_eq_true rfl) dX9_pushWithout_3 (fun r m1 hq1 => ?_)
  obtain ⟨z1, rfl, rfl, rfl⟩ := hq1
  show V0 E (wC D cy aa ad) 5 m 6 [(0, .ref (aa o)), (1, .ref (aa k)), (2, .int (iz (s))), (3, .int (iz (out)))] [.int (iz (m kf (s * 9 + 5)))]
  refine u0_aload_n C 1 dX9_pushWithout_6 rfl ?_
  refine u0_iload_n C 2 dX9_pushWithout_7 rfl ?_
  refine u0_iconst (z := 4) C dX9_pushWithout_8 rfl ?_
  refine u0_callV (st := [.int (iz (m kf (s * 9 + 5)))]) (n := 2) (q := k) C [.int (iz (s)), .int (iz (4))] (c0_Rocket_fact C.2.2.2.2.2.2.1 m (k) (kf) (ks) (kt) (kc) (s) (4) hk (by first | assumption | omega) (by first | assumption | omega)) (RocketAt.l0 hk) (RocketAt.e0 hk _) rfl qw590 qw15 qw690 rfl rfl ⟨Nat.le_of_ble_eq_true rfl, Nat.le_of_ble_eq_true rfl⟩ (by decide +kernel) qw588 qw589 rfl rfl (Nat.le_of_ble_eq_true rfl) dX9_pushWithout_9 (fun r m2 hq2 => ?_)
  obtain ⟨z2, rfl, rfl, rfl⟩ := hq2
  show V0 E (wC D cy aa ad) 5 m 12 [(0, .ref (aa o)), (1, .ref (aa k)), (2, .int (iz (s))), (3, .int (iz (out)))] [.int (iz (m kf (s * 9 + 4))), .int (iz (m kf (s * 9 + 5)))]
  refine u0_iload_n C 3 dX9_pushWithout_12 rfl ?_
  refine u0_isub C dX9_pushWithout_13 ?_
  refine u0_imul C dX9_pushWithout_14 ?_
  refine u0_istore (L1 := [(4, .int (iz ((m kf (s * 9 + 5)) * ((m kf (s * 9 + 4)) - out)))), (0, .ref (aa o)), (1, .ref (aa k)), (2, .int (iz (s))), (3, .int (iz (out)))]) C dX9_pushWithout_15 (by decide) rfl ?_
  refine u0_iload C 0 dX9_pushWithout_17 rfl ?_
  refine u0_aload_n C 1 dX9_pushWithout_19 rfl ?_
  refine u0_get C o 1 (WeightsAt.l0 hw) (WeightsAt.e0 hw _) rfl inX9 (by decide) rfl qw181 dX9_pushWithout_20 ?_
  refine u0_iload_n C 3 dX9_pushWithout_23 rfl ?_
  refine u0_callSN (st := [.int (iz ((m kf (s * 9 + 5)) * ((m kf (s * 9 + 4)) - out)))]) (n := 2) C [.ref (aa t), .int (iz (s))] (c0_StageRatios_at C.2.2.2.2.2.2.1 m (t) (3) (s) ⟨(WeightsAt.l2 hw), by decide, (WeightsAt.e2 hw)⟩ (by first | assumption | omega)) qw618 qw1 "StageRatios" (by decide +kernel) rfl rfl ⟨Nat.le_of_ble_eq_true rfl, Nat.le_of_ble_eq_true rfl⟩ (by decide +kernel) qw617 rfl rfl (Nat.le_of_ble_eq_true rfl) dX9_pushWithout_24 (fun r m3 hq3 => ?_)
  obtain ⟨z3, rfl, rfl, rfl⟩ := hq3
  show V0 E (wC D cy aa ad) 5 m 27 [(4, .int (iz ((m kf (s * 9 + 5)) * ((m kf (s * 9 + 4)) - out)))), (0, .ref (aa o)), (1, .ref (aa k)), (2, .int (iz (s))), (3, .int (iz (out)))] [.int (iz (m t s)), .int (iz ((m kf (s * 9 + 5)) * ((m kf (s * 9 + 4)) - out)))]
  refine u0_callS (st := []) (n := 2) C [.int (iz ((m kf (s * 9 + 5)) * ((m kf (s * 9 + 4)) - out))), .int (iz (m t s))] (c0_Weights_hundredfold C.2.2.2.2.2.2.1 m ((m kf (s * 9 + 5)) * ((m kf (s * 9 + 4)) - out)) (m t s) (by first | assumption | omega) (by first | assumption | omega)) qw697 qw8 qw695 rfl rfl ⟨Nat.le_of_ble_eq_true rfl, Nat.le_of_ble_eq_true rfl⟩ (by decide +kernel) qw696 rfl rfl (Nat.le_of_ble_eq_true rfl) dX9_pushWithout_27 (fun r m4 hq4 => ?_)
  obtain ⟨z4, rfl, rfl, rfl⟩ := hq4
  show V0 E (wC D cy aa ad) 5 m 30 [(4, .int (iz ((m kf (s * 9 + 5)) * ((m kf (s * 9 + 4)) - out)))), (0, .ref (aa o)), (1, .ref (aa k)), (2, .int (iz (s))), (3, .int (iz (out)))] [.int (iz (100 * ((m kf (s * 9 + 5)) * ((m kf (s * 9 + 4)) - out)) / (m t s)))]
  refine u0_iret C X rfl dX9_pushWithout_30 ⟨_, rfl, ?_, ?_⟩
  · rfl
  · rfl

set_option maxHeartbeats 4000000 in
set_option maxRecDepth 100000 in
theorem c0_Weights_holdsAt {lau : Launch} {D : va_G} {cy : Nat → ClassId} {aa ad : Nat → Nat} (hI : wI (wC D cy aa ad)) (m : Mem) (o u t e : Nat) (k kf ks kt kc : Nat) (s n : Int) (hw : WeightsAt o u t e) (hk : RocketAt k kf ks kt kc) (hn : n ≤ 3) (hs : 0 ≤ s ∧ s < n) (hF : FaOk (m kf) n) (ht : 1 ≤ m t s ∧ m t s ≤ 400) : MT0 lau (wC D cy aa ad) yX9_holdsAt cX9_holdsAt 3 (some .boolean) ({ frames := 2, cells := 0, slots := 0, locals := 47 } : Room) m [.ref (aa o), .ref (aa k), .int (iz (s))] (Pi (fun z m' => (1 = z ∧ (hoZ (m kf) s (m t s)) ∧ m = m') ∨ (0 = z ∧ ¬ (hoZ (m kf) s (m t s)) ∧ m = m'))) := by
  refine u0_entry hI RX9 (by decide) rfl (Nat.le_of_ble_eq_true rfl) (fun E hE C X => ?_)
  subst hE
  show V0 E (wC D cy aa ad) 3 m 0 [(0, .ref (aa o)), (1, .ref (aa k)), (2, .int (iz (s)))] []
  have f := hF s hs.1 hs.2
  have hmg : -2147483648 ≤ mgZ (m kf) s (m kf (s * 9 + 8)) (m t s) ∧ mgZ (m kf) s (m kf (s * 9 + 8)) (m t s) ≤ 2147483647 := by
    have h1 : 0 ≤ m kf (s * 9 + 5) * (m kf (s * 9 + 4) - m kf (s * 9 + 8)) := Int.mul_nonneg (by omega) (by omega)
    have h2 : m kf (s * 9 + 5) * (m kf (s * 9 + 4) - m kf (s * 9 + 8)) ≤ 999 * (m kf (s * 9 + 4) - m kf (s * 9 + 8)) := Int.mul_le_mul_of_nonneg_right (by omega) (by omega)
    have h3 : 0 ≤ mgZ (m kf) s (m kf (s * 9 + 8)) (m t s) := Int.ediv_nonneg (by omega) (by omega)
    have h4 : mgZ (m kf) s (m kf (s * 9 + 8)) (m t s) ≤ 100 * (m kf (s * 9 + 5) * (m kf (s * 9 + 4) - m kf (s * 9 + 8))) := Int.ediv_le_self _ (by omega)
    omega
  refine u0_aload_n C 0 dX9_holdsAt_0 rfl ?_
  refine u0_aload_n C 1 dX9_holdsAt_1 rfl ?_
  refine u0_iload_n C 2 dX9_holdsAt_2 rfl ?_
  refine u0_aload_n C 1 dX9_holdsAt_3 rfl ?_
  refine u0_iload_n C 2 dX9_holdsAt_4 rfl ?_
  refine u0_bipush (z := 8) C dX9_holdsAt_5 (by decide) ?_
  refine u0_callV (st := [.int (iz (s)), .ref (aa k), .ref (aa o)]) (n := 2) (q := k) C [.int (iz (s)), .int (iz (8))] (c0_Rocket_fact C.2.2.2.2.2.2.1 m (k) (kf) (ks) (kt) (kc) (s) (8) hk (by first | assumption | omega) (by first | assumption | omega)) (RocketAt.l0 hk) (RocketAt.e0 hk _) rfl qw590 qw15 qw690 rfl rfl ⟨Nat.le_of_ble_eq_true rfl, Nat.le_of_ble_eq_true rfl⟩ (by decide +kernel) qw588 qw589 rfl rfl (Nat.le_of_ble_eq_true rfl) dX9_holdsAt_7 (fun r m1 hq1 => ?_)
  obtain ⟨z1, rfl, rfl, rfl⟩ := hq1
  show V0 E (wC D cy aa ad) 3 m 10 [(0, .ref (aa o)), (1, .ref (aa k)), (2, .int (iz (s)))] [.int (iz (m kf (s * 9 + 8))), .int (iz (s)), .ref (aa k), .ref (aa o)]
  refine u0_callV (st := []) (n := 3) (q := o) C [.ref (aa k), .int (iz (s)), .int (iz (m kf (s * 9 + 8)))] (c0_Weights_pushWithout C.2.2.2.2.2.2.1 m (o) (u) (t) (e) (k) (kf) (ks) (kt) (kc) (s) (m kf (s * 9 + 8)) (n) hw hk (by first | assumption | omega) (by first | assumption | omega) (by first | assumption | omega) (by first | assumption | omega) (by first | assumption | omega)) (WeightsAt.l0 hw) (WeightsAt.e0 hw _) rfl qw694 qw8 qw691 rfl rfl ⟨Nat.le_of_ble_eq_true rfl, Nat.le_of_ble_eq_true rfl⟩ (by decide +kernel) qw692 qw693 rfl rfl (Nat.le_of_ble_eq_true rfl) dX9_holdsAt_10 (fun r m2 hq2 => ?_)
  obtain ⟨z2, rfl, rfl, rfl⟩ := hq2
  show V0 E (wC D cy aa ad) 3 m 13 [(0, .ref (aa o)), (1, .ref (aa k)), (2, .int (iz (s)))] [.int (iz (mgZ (m kf) s (m kf (s * 9 + 8)) (m t s)))]
  refine u0_aload_n C 1 dX9_holdsAt_13 rfl ?_
  refine u0_iload_n C 2 dX9_holdsAt_14 rfl ?_
  refine u0_bipush (z := 7) C dX9_holdsAt_15 (by decide) ?_
  refine u0_callV (st := [.int (iz (mgZ (m kf) s (m kf (s * 9 + 8)) (m t s)))]) (n := 2) (q := k) C [.int (iz (s)), .int (iz (7))] (c0_Rocket_fact C.2.2.2.2.2.2.1 m (k) (kf) (ks) (kt) (kc) (s) (7) hk (by first | assumption | omega) (by first | assumption | omega)) (RocketAt.l0 hk) (RocketAt.e0 hk _) rfl qw590 qw15 qw690 rfl rfl ⟨Nat.le_of_ble_eq_true rfl, Nat.le_of_ble_eq_true rfl⟩ (by decide +kernel) qw588 qw589 rfl rfl (Nat.le_of_ble_eq_true rfl) dX9_holdsAt_17 (fun r m3 hq3 => ?_)
  obtain ⟨z3, rfl, rfl, rfl⟩ := hq3
  show V0 E (wC D cy aa ad) 3 m 20 [(0, .ref (aa o)), (1, .ref (aa k)), (2, .int (iz (s)))] [.int (iz (m kf (s * 9 + 7))), .int (iz (mgZ (m kf) s (m kf (s * 9 + 8)) (m t s)))]
  refine u0_icmp_lt (tgt := 27) C dX9_holdsAt_20 (by decide) (by omega) (by omega) (fun c4 => ?_) (fun c4 => ?_)
  · refine u0_iconst (z := 0) C dX9_holdsAt_27 rfl ?_
    refine u0_iret C X (by decide) dX9_holdsAt_28 ⟨_, rfl, Or.inr ⟨rfl, ?_, ?_⟩⟩
    · unfold hoZ; omega
    · rfl
  · refine u0_iconst (z := 1) C dX9_holdsAt_23 rfl ?_
    refine u0_goto (tgt := 28) C dX9_holdsAt_24 (by decide) ?_
    refine u0_iret C X (by decide) dX9_holdsAt_28 ⟨_, rfl, Or.inl ⟨rfl, ?_, ?_⟩⟩
    · unfold hoZ; omega
    · rfl

set_option maxHeartbeats 4000000 in
set_option maxRecDepth 100000 in
theorem c0_StageRatios_weakest {lau : Launch} {D : va_G} {cy : Nat → ClassId} {aa ad : Nat → Nat} (hI : wI (wC D cy aa ad)) (m : Mem) (k kf ks kt kc : Nat) (i : Int) (hci : CI m k kf ks kt kc) (hi : -2147483648 ≤ i ∧ i ≤ 2147483647) : MT0 lau (wC D cy aa ad) yX10_weakest cX10_weakest 4 (some .int) ({ frames := 4, cells := 0, slots := 0, locals := 92 } : Room) m [.ref (aa 0), .int (iz (i))] (Pi (fun z m' => (qWek (m 0 15) (m kf) (m k) (m 5) i z ∧ -1 ≤ z ∧ z ≤ 2) ∧ (∀ q, (q < 15 ∨ 73 ≤ q) → m' q = m q))) := by
  refine u0_entry hI RX10 (by decide) rfl (Nat.le_of_ble_eq_true rfl) (fun E hE C X => ?_)
  subst hE
  show V0 E (wC D cy aa ad) 4 m 0 [(0, .ref (aa 0)), (1, .int (iz (i)))] []
  obtain ⟨hk, hcu, htd, -⟩ := id hci
  have ht01 : m 0 15 = 0 ∨ m 0 15 = 1 := htd.imp (fun a => a) (fun a => a.1)
  refine u0_aload_n C 0 dX10_weakest_0 rfl ?_
  refine u0_get C 0 15 lC0 (eC0 _) rfl inX10 (by decide) rfl qw434 dX10_weakest_1 ?_
  refine u0_if_eq (tgt := 11) C dX10_weakest_4 (by decide) (by omega) (fun c1 => ?_) (fun c1 => ?_)
  · refine u0_iconst (z := -1) C dX10_weakest_11 rfl ?_
    refine u0_iret C X rfl dX10_weakest_12 ⟨_, rfl, ?_, ?_⟩
    · first
        | exact ⟨Or.inr ⟨by omega, rfl⟩, by omega⟩
        | (by_cases hT : m 0 15 = 1
           · exact ⟨Or.inl ⟨hT, Or.inl ⟨rfl, Or.inl (by omega)⟩⟩, by omega⟩
           · exact ⟨Or.inr ⟨hT, rfl⟩, by omega⟩)
    · exact fun _ _ => rfl
  · refine u0_iload_n C 1 dX10_weakest_7 rfl ?_
    refine u0_if_ge (tgt := 13) C dX10_weakest_8 (by decide) (by omega) (fun c2 => ?_) (fun c2 => ?_)
    · obtain ⟨hT1, hti⟩ := htd.resolve_left (by omega)
      obtain ⟨hrk, hX, -⟩ := id hti
      obtain ⟨hk5, hF, hup, hlw, hpl, hnf, hfa, -⟩ := id hrk
      have hkk : 73 ≤ k ∧ 73 ≤ kf ∧ 73 ≤ ks ∧ 73 ≤ kt ∧ 73 ≤ kc := by unfold RocketAt at hk; omega
      have hUr := hX.u hF
      have hDv := hX.dv hF hk5
      refine u0_aload_n C 0 dX10_weakest_13 rfl ?_
      refine u0_callV (st := []) (n := 0) (q := 0) C [] (c0_StageRatios_weighAsItIs C.2.2.2.2.2.2.1 m (k) (kf) (ks) (kt) (kc) (by first | assumption | omega) (by first | assumption | omega) (by first | assumption | omega)) lC0 (eC0 _) rfl qw674 qw1 qw671 rfl rfl ⟨Nat.le_of_ble_eq_true rfl, Nat.le_of_ble_eq_true rfl⟩ (by decide +kernel) qw673 qp18 rfl rfl (Nat.le_of_ble_eq_true rfl) dX10_weakest_14 (fun r m3 hq3 => ?_)
      obtain ⟨rfl, hq3⟩ := hq3
      show V0 E (wC D cy aa ad) 4 m3 17 [(0, .ref (aa 0)), (1, .int (iz (i)))] []
      have o1 := hq3.2.2
      have hW := hq3.1
      have hcu1 : (m3 0 13).toNat = k := by rw [o1 0 (by decide)]; exact hcu
      have k1 := o1 k (by omega)
      have kf1 := o1 kf (by omega)
      have hstr := fun (j : Int) (h0 : 0 ≤ j) (h1 : j ≤ m k 5) => stZ_rng (s := j) hF hk5.2 hX.1 hDv.2.2 h0 h1
      have k15 : m3 k 5 = m k 5 := by rw [k1]
      refine u0_iload_n C 1 dX10_weakest_17 rfl ?_
      refine u0_istore_n (L1 := [(2, .int (iz (i))), (0, .ref (aa 0)), (1, .int (iz (i)))]) C dX10_weakest_18 (by decide) rfl ?_
      refine u0_iconst (z := 0) C dX10_weakest_19 rfl ?_
      refine u0_istore_n (L1 := [(3, .int (iz (0))), (2, .int (iz (i))), (0, .ref (aa 0)), (1, .int (iz (i)))]) C dX10_weakest_20 (by decide) rfl ?_
      have K21 : ∀ (nK : Nat) (le : Int) (s : Int) (hs : 0 ≤ s ∧ s ≤ m k 5) (hle : 0 ≤ le ∧ le ≤ i ∧ le + cnP (fun c => ¬ (fun s => hoZ (m kf) s (stX (m kf) (m k) (m 5) s)) c) s.toNat = i), (m k 5 - s).toNat < nK → V0 E (wC D cy aa ad) 4 m3 21 [(0, .ref (aa 0)), (1, .int (iz (i))), (2, .int (iz (le))), (3, .int (iz (s)))] [] := by
        intro nK
        induction nK with
        | zero => intro le s  hs hle hn; exact absurd hn (Nat.not_lt_zero _)
        | succ nK ih21 =>
          intro le s  hs hle hn21
          have es : (s + 1).toNat = s.toNat + 1 := by omega
          have es2 : ((s.toNat : Nat) : Int) = s := by omega
          refine u0_iload_n C 3 dX10_weakest_21 rfl ?_
          refine u0_aload_n C 0 dX10_weakest_22 rfl ?_
          refine u0_get C 0 13 lC0 (eC0 _) rfl inX10 (by decide) rfl qw432 dX10_weakest_23 ?_
          refine u0_st (st1 := [.ref (aa k), .int (iz (s))]) (by rw [show (m3 0 13).toNat = k from by assumption]) ?_
          refine u0_get C k 5 (RocketAt.l0 hk) (RocketAt.e0 hk _) rfl inX6 (by decide) rfl qw387 dX10_weakest_26 ?_
          refine u0_icmp_ge (tgt := 62) C dX10_weakest_29 (by decide) (by omega) (by omega) (fun c4 => ?_) (fun c4 => ?_)
          · refine u0_iconst (z := -1) C dX10_weakest_62 rfl ?_
            refine u0_iret C X rfl dX10_weakest_63 ⟨_, rfl, ?_, ?_⟩
            · exact ⟨Or.inl ⟨hT1, Or.inl ⟨rfl, Or.inr (by rw [show s = m k 5 by omega] at hle; omega)⟩⟩, by omega⟩
            · exact fun q h => o1 q (by omega)
          · have K56 : ∀ (l2 : Int) (hle2 : 0 ≤ l2 ∧ l2 ≤ i ∧ l2 + cnP (fun c => ¬ (fun s => hoZ (m kf) s (stX (m kf) (m k) (m 5) s)) c) (s + 1).toNat = i), V0 E (wC D cy aa ad) 4 m3 56 [(0, .ref (aa 0)), (1, .int (iz (i))), (2, .int (iz (l2))), (3, .int (iz (s)))] [] := by
              intro l2  hle2
              refine u0_iinc (L1 := [(3, .int (iz (s + 1))), (0, .ref (aa 0)), (1, .int (iz (i))), (2, .int (iz (l2)))]) C 3 dX10_weakest_56 rfl (by decide) rfl ?_
              refine u0_goto (tgt := 21) C dX10_weakest_59 (by decide) ?_
              refine u0_sub [1, 2, 3, 0] rfl ?_
              exact ih21 (l2) (s + 1)  (by first | assumption | omega) (by exact hle2) (by omega)
            refine u0_aload_n C 0 dX10_weakest_32 rfl ?_
            refine u0_get C 0 4 lC0 (eC0 _) rfl inX10 (by decide) rfl qw423 dX10_weakest_33 ?_
            refine u0_aload_n C 0 dX10_weakest_36 rfl ?_
            refine u0_get C 0 13 lC0 (eC0 _) rfl inX10 (by decide) rfl qw432 dX10_weakest_37 ?_
            refine u0_st (st1 := [.ref (aa k), .ref (aa 19)]) (by rw [show (m3 0 13).toNat = k from by assumption]) ?_
            refine u0_iload_n C 3 dX10_weakest_40 rfl ?_
            refine u0_callV (st := []) (n := 2) (q := 19) C [.ref (aa k), .int (iz (s))] (c0_Weights_holdsAt C.2.2.2.2.2.2.1 m3 (19) (20) (21) (22) (k) (kf) (ks) (kt) (kc) (s) (m k 5) (by unfold WeightsAt; decide) hk (by exact hk5.2) (by first | assumption | omega) (by rw [kf1]; exact hF) (by rw [(hW.2 s (by omega) (by omega)).1]; have := hstr s (by omega) (by omega); omega)) lC19 (eC19 _) rfl qw689 qw8 qw686 rfl rfl ⟨Nat.le_of_ble_eq_true rfl, Nat.le_of_ble_eq_true rfl⟩ (by decide +kernel) qw687 qw688 rfl rfl (Nat.le_of_ble_eq_true rfl) dX10_weakest_41 (fun r m5 hq5 => ?_)
            obtain ⟨z5, rfl, ⟨rfl, hq5, rfl⟩ | ⟨rfl, hq5, rfl⟩⟩ := hq5
            · show V0 E (wC D cy aa ad) 4 m3 44 [(0, .ref (aa 0)), (1, .int (iz (i))), (2, .int (iz (le))), (3, .int (iz (s)))] [.int (iz (1))]
              rw [kf1, (hW.2 s (by omega) (by omega)).1] at hq5
              refine u0_if_ne (tgt := 56) C dX10_weakest_44 (by decide) (by omega) (fun c6 => ?_) (fun c6 => by exact absurd c6 (by decide))
              refine u0_sub [0, 1, 2, 3] rfl ?_
              exact K56  (le)  (by 
                                rw [es]
                                first
                                  | (rw [cnP_n (by rw [es2]; exact fun y => y hq5)]; exact hle)
                                  | (rw [cnP_y (by rw [es2]; exact hq5)]; omega)
                              )
            · show V0 E (wC D cy aa ad) 4 m3 44 [(0, .ref (aa 0)), (1, .int (iz (i))), (2, .int (iz (le))), (3, .int (iz (s)))] [.int (iz (0))]
              rw [kf1, (hW.2 s (by omega) (by omega)).1] at hq5
              refine u0_if_ne (tgt := 56) C dX10_weakest_44 (by decide) (by omega) (fun c7 => by exact absurd c7 (by decide)) (fun c7 => ?_)
              refine u0_iload_n C 2 dX10_weakest_47 rfl ?_
              refine u0_if_ne (tgt := 53) C dX10_weakest_48 (by decide) (by omega) (fun c8 => ?_) (fun c8 => ?_)
              · refine u0_iinc (L1 := [(2, .int (iz (le + (-1)))), (0, .ref (aa 0)), (1, .int (iz (i))), (3, .int (iz (s)))]) C 2 dX10_weakest_53 rfl (by decide) rfl ?_
                refine u0_sub [1, 2, 0, 3] rfl ?_
                exact K56  (le + (-1))  (by 
                                    rw [es]
                                    first
                                      | (rw [cnP_n (by rw [es2]; exact fun y => y hq5)]; exact hle)
                                      | (rw [cnP_y (by rw [es2]; exact hq5)]; omega)
                                  )
              · refine u0_iload_n C 3 dX10_weakest_51 rfl ?_
                refine u0_iret C X rfl dX10_weakest_52 ⟨_, rfl, ?_, ?_⟩
                · exact ⟨Or.inl ⟨hT1, Or.inr ⟨⟨by omega, by omega⟩, hq5, by omega⟩⟩, by omega⟩
                · exact fun q h => o1 q (by omega)
      refine u0_sub [2, 3, 1, 0] rfl ?_
      exact K21 _ (i) (0)  (by first | assumption | omega) (by exact ⟨by omega, by omega, by show i + 0 = i; omega⟩) (Nat.lt_succ_self _)
    · refine u0_iconst (z := -1) C dX10_weakest_11 rfl ?_
      refine u0_iret C X rfl dX10_weakest_12 ⟨_, rfl, ?_, ?_⟩
      · first
          | exact ⟨Or.inr ⟨by omega, rfl⟩, by omega⟩
          | (by_cases hT : m 0 15 = 1
             · exact ⟨Or.inl ⟨hT, Or.inl ⟨rfl, Or.inl (by omega)⟩⟩, by omega⟩
             · exact ⟨Or.inr ⟨hT, rfl⟩, by omega⟩)
      · exact fun _ _ => rfl

