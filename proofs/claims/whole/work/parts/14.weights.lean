set_option maxHeartbeats 4000000 in
set_option maxRecDepth 100000 in
theorem ct_Rocket_clear {lau : Launch} {D : va_G} {cy : Nat → ClassId} {aa ad : Nat → Nat} (hI : wI (wC D cy aa ad)) (m : Mem) (k kf ks kt kc : Nat) (hk : RocketAt k kf ks kt kc) : MT lau (wC D cy aa ad) yX6_clear cX6_clear 1 (none) ({ frames := 0, cells := 0, slots := 0, locals := 0 } : Room) m [.ref (aa k)] (Pv (fun m' => mup (mup m k 5 0) k 6 0 = m')) := by
  refine v_entry hI RX6 (by decide) rfl (Nat.le_of_ble_eq_true rfl) (fun E hE C X => ?_)
  subst hE
  show V E (wC D cy aa ad) 1 m 0 [(0, .ref (aa k))] []
  refine v_aload_n C 0 dX6_clear_0 rfl ?_
  refine v_iconst (z := 0) C dX6_clear_1 rfl ?_
  refine v_put C k 5 (0) 5 rfl (RocketAt.l0 hk) (RocketAt.e0 hk _) rfl inX6 tyX6 tyX6_ok nmX6 (by decide) qw383 rfl rfl rfl (Nat.le_of_ble_eq_true rfl) (by rw [mup_r]; exact (RocketAt.e0 hk _)) dX6_clear_2 (fun m1 em1 => ?_)
  refine v_aload_n C 0 dX6_clear_5 rfl ?_
  refine v_iconst (z := 0) C dX6_clear_6 rfl ?_
  refine v_put C k 6 (0) 6 rfl (RocketAt.l0 hk) (RocketAt.e0 hk _) rfl inX6 tyX6 tyX6_ok nmX6 (by decide) qw389 rfl rfl rfl (Nat.le_of_ble_eq_true rfl) (by rw [mup_r]; exact (RocketAt.e0 hk _)) dX6_clear_7 (fun m2 em2 => ?_)
  refine v_vret C X dX6_clear_10 ⟨rfl, ?_⟩
  rw [em2, em1]

set_option maxHeartbeats 4000000 in
set_option maxRecDepth 100000 in
theorem ct_Rocket_fact {lau : Launch} {D : va_G} {cy : Nat → ClassId} {aa ad : Nat → Nat} (hI : wI (wC D cy aa ad)) (m : Mem) (k kf ks kt kc : Nat) (s w : Int) (hk : RocketAt k kf ks kt kc) (hs : 0 ≤ s ∧ s ≤ 2) (hw : 0 ≤ w ∧ w ≤ 8) : MT lau (wC D cy aa ad) yX6_fact cX6_fact 4 (some .int) ({ frames := 0, cells := 0, slots := 0, locals := 0 } : Room) m [.ref (aa k), .int (iz (s)), .int (iz (w))] (Pi (fun z m' => m kf (s * 9 + w) = z ∧ m = m')) := by
  refine v_entry hI RX6 (by decide) rfl (Nat.le_of_ble_eq_true rfl) (fun E hE C X => ?_)
  subst hE
  show V E (wC D cy aa ad) 4 m 0 [(0, .ref (aa k)), (1, .int (iz (s))), (2, .int (iz (w)))] []
  refine v_iload_n C 1 dX6_fact_0 rfl ?_
  refine v_bipush (z := 9) C dX6_fact_1 (by decide) ?_
  refine v_imul C dX6_fact_3 ?_
  refine v_iload_n C 2 dX6_fact_4 rfl ?_
  refine v_iadd C dX6_fact_5 ?_
  refine v_istore_n (L1 := [(3, .int (iz ((s * 9) + w))), (0, .ref (aa k)), (1, .int (iz (s))), (2, .int (iz (w)))]) C dX6_fact_6 (by decide) rfl ?_
  refine v_iload_n C 0 dX6_fact_7 rfl ?_
  refine v_if_lt (tgt := 29) C dX6_fact_8 (by decide) (by omega) (fun c1 => ?_) (fun c1 => ?_)
  · exfalso; omega
  · refine v_iload_n C 0 dX6_fact_11 rfl ?_
    refine v_aload_n C 1 dX6_fact_12 rfl ?_
    refine v_get C k 7 (RocketAt.l0 hk) (RocketAt.e0 hk _) rfl inX6 (by decide) rfl qw392 dX6_fact_13 ?_
    refine v_alen C kf 0 (RocketAt.l1 hk) (RocketAt.e1 hk _) rfl dX6_fact_16 ?_
    refine v_st (st1 := [.int (iz (27)), .int (iz ((s * 9) + w))]) rfl ?_
    refine v_icmp_ge (tgt := 29) C dX6_fact_17 (by decide) (by omega) (by omega) (fun c2 => ?_) (fun c2 => ?_)
    · exfalso; omega
    · refine v_aload_n C 1 dX6_fact_20 rfl ?_
      refine v_get C k 7 (RocketAt.l0 hk) (RocketAt.e0 hk _) rfl inX6 (by decide) rfl qw392 dX6_fact_21 ?_
      refine v_iload_n C 0 dX6_fact_24 rfl ?_
      refine v_iald C kf (RocketAt.l1 hk) (RocketAt.e1 hk _) (by decide) (by omega) dX6_fact_25 ?_
      refine v_goto (tgt := 30) C dX6_fact_26 (by decide) ?_
      refine v_iret C X rfl dX6_fact_30 ⟨_, rfl, ?_, ?_⟩
      · rfl
      · rfl

set_option maxHeartbeats 4000000 in
set_option maxRecDepth 100000 in
theorem ct_Rocket_setFact {lau : Launch} {D : va_G} {cy : Nat → ClassId} {aa ad : Nat → Nat} (hI : wI (wC D cy aa ad)) (m : Mem) (k kf ks kt kc : Nat) (s w v : Int) (hk : RocketAt k kf ks kt kc) (hs : 0 ≤ s ∧ s ≤ 2) (hw : 0 ≤ w ∧ w ≤ 8) : MT lau (wC D cy aa ad) yX6_setFact cX6_setFact 4 (none) ({ frames := 1, cells := 0, slots := 0, locals := 22 } : Room) m [.ref (aa k), .int (iz (s)), .int (iz (w)), .int (iz (v))] (Pv (fun m' => mup m kf (s * 9 + w) v = m')) := by
  refine v_entry hI RX6 (by decide) rfl (Nat.le_of_ble_eq_true rfl) (fun E hE C X => ?_)
  subst hE
  show V E (wC D cy aa ad) 4 m 0 [(0, .ref (aa k)), (1, .int (iz (s))), (2, .int (iz (w))), (3, .int (iz (v)))] []
  refine v_aload_n C 0 dX6_setFact_0 rfl ?_
  refine v_get C k 7 (RocketAt.l0 hk) (RocketAt.e0 hk _) rfl inX6 (by decide) rfl qw392 dX6_setFact_1 ?_
  refine v_iload_n C 1 dX6_setFact_4 rfl ?_
  refine v_bipush (z := 9) C dX6_setFact_5 (by decide) ?_
  refine v_imul C dX6_setFact_7 ?_
  refine v_iload_n C 2 dX6_setFact_8 rfl ?_
  refine v_iadd C dX6_setFact_9 ?_
  refine v_iload_n C 3 dX6_setFact_10 rfl ?_
  refine v_callSN (st := []) (n := 3) C [.ref (aa kf), .int (iz ((s * 9) + w)), .int (iz (v))] (ct_StageRatios_put C.2.2.2.2.2.2.1 m (kf) (27) ((s * 9) + w) (v) ⟨(RocketAt.l1 hk), by decide, (RocketAt.e1 hk)⟩ (by first | assumption | omega)) qw494 qw1 "StageRatios" (by decide +kernel) rfl rfl ⟨Nat.le_of_ble_eq_true rfl, Nat.le_of_ble_eq_true rfl⟩ (by decide +kernel) qw493 rfl rfl (Nat.le_of_ble_eq_true rfl) dX6_setFact_11 (fun r m1 hq1 => ?_)
  obtain ⟨rfl, hq1⟩ := hq1
  show V E (wC D cy aa ad) 4 m1 14 [(0, .ref (aa k)), (1, .int (iz (s))), (2, .int (iz (w))), (3, .int (iz (v)))] []
  refine v_vret C X dX6_setFact_14 ⟨rfl, ?_⟩
  exact hq1

set_option maxHeartbeats 4000000 in
set_option maxRecDepth 100000 in
theorem ct_Rocket_addFail {lau : Launch} {D : va_G} {cy : Nat → ClassId} {aa ad : Nat → Nat} (hI : wI (wC D cy aa ad)) (m : Mem) (k kf ks kt kc : Nat) (x y z : Int) (hk : RocketAt k kf ks kt kc) (hf : 0 ≤ m k 6 ∧ m k 6 < 6) : MT lau (wC D cy aa ad) yX6_addFail cX6_addFail 4 (none) ({ frames := 1, cells := 0, slots := 0, locals := 22 } : Room) m [.ref (aa k), .int (iz (x)), .int (iz (y)), .int (iz (z))] (Pv (fun m' => mup (mup (mup (mup m ks (m k 6) x) kt (m k 6) y) kc (m k 6) z) k 6 (m k 6 + 1) = m')) := by
  refine v_entry hI RX6 (by decide) rfl (Nat.le_of_ble_eq_true rfl) (fun E hE C X => ?_)
  subst hE
  show V E (wC D cy aa ad) 4 m 0 [(0, .ref (aa k)), (1, .int (iz (x))), (2, .int (iz (y))), (3, .int (iz (z)))] []
  have hne : ks ≠ k ∧ kt ≠ k ∧ kc ≠ k := by unfold RocketAt at hk; omega
  have hne2 : k ≠ ks ∧ k ≠ kt ∧ k ≠ kc := by omega
  refine v_aload_n C 0 dX6_addFail_0 rfl ?_
  refine v_get C k 8 (RocketAt.l0 hk) (RocketAt.e0 hk _) rfl inX6 (by decide) rfl qw393 dX6_addFail_1 ?_
  refine v_aload_n C 0 dX6_addFail_4 rfl ?_
  refine v_get C k 6 (RocketAt.l0 hk) (RocketAt.e0 hk _) rfl inX6 (by decide) rfl qw389 dX6_addFail_5 ?_
  refine v_iload_n C 1 dX6_addFail_8 rfl ?_
  refine v_callSN (st := []) (n := 3) C [.ref (aa ks), .int (iz (m k 6)), .int (iz (x))] (ct_StageRatios_put C.2.2.2.2.2.2.1 m (ks) (6) (m k 6) (x) ⟨(RocketAt.l2 hk), by decide, (RocketAt.e2 hk)⟩ (by first | assumption | omega)) qw494 qw1 "StageRatios" (by decide +kernel) rfl rfl ⟨Nat.le_of_ble_eq_true rfl, Nat.le_of_ble_eq_true rfl⟩ (by decide +kernel) qw493 rfl rfl (Nat.le_of_ble_eq_true rfl) dX6_addFail_9 (fun r m1 hq1 => ?_)
  obtain ⟨rfl, hq1⟩ := hq1
  show V E (wC D cy aa ad) 4 m1 12 [(0, .ref (aa k)), (1, .int (iz (x))), (2, .int (iz (y))), (3, .int (iz (z)))] []
  have e9 : m1 k 6 = m k 6 := by rw [← hq1, mup_k _ _ _ hne2.1]
  refine v_aload_n C 0 dX6_addFail_12 rfl ?_
  refine v_get C k 9 (RocketAt.l0 hk) (RocketAt.e0 hk _) rfl inX6 (by decide) rfl qw394 dX6_addFail_13 ?_
  refine v_aload_n C 0 dX6_addFail_16 rfl ?_
  refine v_get C k 6 (RocketAt.l0 hk) (RocketAt.e0 hk _) rfl inX6 (by decide) rfl qw389 dX6_addFail_17 ?_
  refine v_iload_n C 2 dX6_addFail_20 rfl ?_
  refine v_callSN (st := []) (n := 3) C [.ref (aa kt), .int (iz (m1 k 6)), .int (iz (y))] (ct_StageRatios_put C.2.2.2.2.2.2.1 m1 (kt) (6) (m1 k 6) (y) ⟨(RocketAt.l3 hk), by decide, (RocketAt.e3 hk)⟩ (by first | assumption | omega)) qw494 qw1 "StageRatios" (by decide +kernel) rfl rfl ⟨Nat.le_of_ble_eq_true rfl, Nat.le_of_ble_eq_true rfl⟩ (by decide +kernel) qw493 rfl rfl (Nat.le_of_ble_eq_true rfl) dX6_addFail_21 (fun r m2 hq2 => ?_)
  obtain ⟨rfl, hq2⟩ := hq2
  show V E (wC D cy aa ad) 4 m2 24 [(0, .ref (aa k)), (1, .int (iz (x))), (2, .int (iz (y))), (3, .int (iz (z)))] []
  have e21 : m2 k 6 = m k 6 := by rw [← hq2, mup_k _ _ _ hne2.2.1]; exact e9
  refine v_aload_n C 0 dX6_addFail_24 rfl ?_
  refine v_get C k 10 (RocketAt.l0 hk) (RocketAt.e0 hk _) rfl inX6 (by decide) rfl qw395 dX6_addFail_25 ?_
  refine v_aload_n C 0 dX6_addFail_28 rfl ?_
  refine v_get C k 6 (RocketAt.l0 hk) (RocketAt.e0 hk _) rfl inX6 (by decide) rfl qw389 dX6_addFail_29 ?_
  refine v_iload_n C 3 dX6_addFail_32 rfl ?_
  refine v_callSN (st := []) (n := 3) C [.ref (aa kc), .int (iz (m2 k 6)), .int (iz (z))] (ct_StageRatios_put C.2.2.2.2.2.2.1 m2 (kc) (6) (m2 k 6) (z) ⟨(RocketAt.l4 hk), by decide, (RocketAt.e4 hk)⟩ (by first | assumption | omega)) qw494 qw1 "StageRatios" (by decide +kernel) rfl rfl ⟨Nat.le_of_ble_eq_true rfl, Nat.le_of_ble_eq_true rfl⟩ (by decide +kernel) qw493 rfl rfl (Nat.le_of_ble_eq_true rfl) dX6_addFail_33 (fun r m3 hq3 => ?_)
  obtain ⟨rfl, hq3⟩ := hq3
  show V E (wC D cy aa ad) 4 m3 36 [(0, .ref (aa k)), (1, .int (iz (x))), (2, .int (iz (y))), (3, .int (iz (z)))] []
  have e33 : m3 k 6 = m k 6 := by rw [← hq3, mup_k _ _ _ hne2.2.2]; exact e21
  refine v_aload_n C 0 dX6_addFail_36 rfl ?_
  refine v_dup C dX6_addFail_37 rfl ?_
  refine v_get C k 6 (RocketAt.l0 hk) (RocketAt.e0 hk _) rfl inX6 (by decide) rfl qw389 dX6_addFail_38 ?_
  refine v_iconst (z := 1) C dX6_addFail_41 rfl ?_
  refine v_iadd C dX6_addFail_42 ?_
  refine v_put C k 6 ((m3 k 6) + 1) 6 rfl (RocketAt.l0 hk) (RocketAt.e0 hk _) rfl inX6 tyX6 tyX6_ok nmX6 (by decide) qw389 rfl rfl rfl (Nat.le_of_ble_eq_true rfl) (by rw [mup_r]; exact (RocketAt.e0 hk _)) dX6_addFail_43 (fun m4 em4 => ?_)
  refine v_vret C X dX6_addFail_46 ⟨rfl, ?_⟩
  rw [em4, ← hq3, ← hq2, ← hq1, show mup (mup (mup m ks (m k 6) x) kt (mup m ks (m k 6) x k 6) y) kc (mup (mup m ks (m k 6) x) kt (mup m ks (m k 6) x k 6) y k 6) z k 6 = m k 6 from by rw [mup_k _ _ _ hne2.2.2, mup_k _ _ _ hne2.2.1, mup_k _ _ _ hne2.1], mup_k _ _ _ hne2.2.1, mup_k _ _ _ hne2.1]

set_option maxHeartbeats 4000000 in
set_option maxRecDepth 100000 in
theorem ct_Rocket_shell {lau : Launch} {D : va_G} {cy : Nat → ClassId} {aa ad : Nat → Nat} (hI : wI (wC D cy aa ad)) (m : Mem) (k kf ks kt kc : Nat) (s u n : Int) (hk : RocketAt k kf ks kt kc) (hn : n ≤ 3) (hs : 0 ≤ s ∧ s < n) (hu : 0 ≤ u ∧ u ≤ 16) (hF : FaOk (m kf) n) : MT lau (wC D cy aa ad) yX6_shell cX6_shell 5 (some .int) ({ frames := 1, cells := 0, slots := 0, locals := 23 } : Room) m [.ref (aa k), .int (iz (s)), .int (iz (u))] (Pi (fun z m' => shZ (m kf) s u = z ∧ m = m')) := by
  refine v_entry hI RX6 (by decide) rfl (Nat.le_of_ble_eq_true rfl) (fun E hE C X => ?_)
  subst hE
  show V E (wC D cy aa ad) 5 m 0 [(0, .ref (aa k)), (1, .int (iz (s))), (2, .int (iz (u)))] []
  have f := hF s hs.1 hs.2
  have tk := tk_rng hu f.2.2.1
  refine v_iload_n C 2 dX6_shell_0 rfl ?_
  refine v_aload_n C 0 dX6_shell_1 rfl ?_
  refine v_iload_n C 1 dX6_shell_2 rfl ?_
  refine v_iconst (z := 2) C dX6_shell_3 rfl ?_
  refine v_callV (st := [.int (iz (u))]) (n := 2) (q := k) C [.int (iz (s)), .int (iz (2))] (ct_Rocket_fact C.2.2.2.2.2.2.1 m (k) (kf) (ks) (kt) (kc) (s) (2) hk (by first | assumption | omega) (by first | assumption | omega)) (RocketAt.l0 hk) (RocketAt.e0 hk _) rfl qw590 qw15 qw666 rfl rfl ⟨Nat.le_of_ble_eq_true rfl, Nat.le_of_ble_eq_true rfl⟩ (by decide +kernel) qw588 qw589 rfl rfl (Nat.le_of_ble_eq_true rfl) dX6_shell_4 (fun r m1 hq1 => ?_)
  obtain ⟨z1, rfl, rfl, rfl⟩ := hq1
  show V E (wC D cy aa ad) 5 m 7 [(0, .ref (aa k)), (1, .int (iz (s))), (2, .int (iz (u)))] [.int (iz (m kf (s * 9 + 2))), .int (iz (u))]
  refine v_imul C dX6_shell_7 ?_
  refine v_bipush (z := 99) C dX6_shell_8 (by decide) ?_
  refine v_iadd C dX6_shell_10 ?_
  refine v_bipush (z := 100) C dX6_shell_11 (by decide) ?_
  refine v_idiv C (by omega) (by omega) dX6_shell_13 ?_
  refine v_istore_n (L1 := [(3, .int (iz (((u * (m kf (s * 9 + 2))) + 99) / 100))), (0, .ref (aa k)), (1, .int (iz (s))), (2, .int (iz (u)))]) C dX6_shell_14 (by decide) rfl ?_
  refine v_aload_n C 1 dX6_shell_15 rfl ?_
  refine v_iload_n C 2 dX6_shell_16 rfl ?_
  refine v_iconst (z := 0) C dX6_shell_17 rfl ?_
  refine v_callV (st := []) (n := 2) (q := k) C [.int (iz (s)), .int (iz (0))] (ct_Rocket_fact C.2.2.2.2.2.2.1 m (k) (kf) (ks) (kt) (kc) (s) (0) hk (by first | assumption | omega) (by first | assumption | omega)) (RocketAt.l0 hk) (RocketAt.e0 hk _) rfl qw590 qw15 qw666 rfl rfl ⟨Nat.le_of_ble_eq_true rfl, Nat.le_of_ble_eq_true rfl⟩ (by decide +kernel) qw588 qw589 rfl rfl (Nat.le_of_ble_eq_true rfl) dX6_shell_18 (fun r m2 hq2 => ?_)
  obtain ⟨z2, rfl, rfl, rfl⟩ := hq2
  show V E (wC D cy aa ad) 5 m 21 [(3, .int (iz (((u * (m kf (s * 9 + 2))) + 99) / 100))), (0, .ref (aa k)), (1, .int (iz (s))), (2, .int (iz (u)))] [.int (iz (m kf (s * 9 + 0)))]
  refine v_iconst (z := 4) C dX6_shell_21 rfl ?_
  refine v_icmp_ne (tgt := 36) C dX6_shell_22 (by decide) (by omega) (by omega) (fun c3 => ?_) (fun c3 => ?_)
  · refine v_iconst (z := 0) C dX6_shell_36 rfl ?_
    refine v_istore (L1 := [(4, .int (iz (0))), (3, .int (iz (((u * (m kf (s * 9 + 2))) + 99) / 100))), (0, .ref (aa k)), (1, .int (iz (s))), (2, .int (iz (u)))]) C dX6_shell_37 (by decide) rfl ?_
    refine v_aload_n C 2 dX6_shell_39 rfl ?_
    refine v_iload_n C 3 dX6_shell_40 rfl ?_
    refine v_iconst (z := 1) C dX6_shell_41 rfl ?_
    refine v_callV (st := []) (n := 2) (q := k) C [.int (iz (s)), .int (iz (1))] (ct_Rocket_fact C.2.2.2.2.2.2.1 m (k) (kf) (ks) (kt) (kc) (s) (1) hk (by first | assumption | omega) (by first | assumption | omega)) (RocketAt.l0 hk) (RocketAt.e0 hk _) rfl qw590 qw15 qw666 rfl rfl ⟨Nat.le_of_ble_eq_true rfl, Nat.le_of_ble_eq_true rfl⟩ (by decide +kernel) qw588 qw589 rfl rfl (Nat.le_of_ble_eq_true rfl) dX6_shell_42 (fun r m4 hq4 => ?_)
    obtain ⟨z4, rfl, rfl, rfl⟩ := hq4
    show V E (wC D cy aa ad) 5 m 45 [(4, .int (iz (0))), (3, .int (iz (((u * (m kf (s * 9 + 2))) + 99) / 100))), (0, .ref (aa k)), (1, .int (iz (s))), (2, .int (iz (u)))] [.int (iz (m kf (s * 9 + 1)))]
    refine v_iload_n C 1 dX6_shell_45 rfl ?_
    refine v_iadd C dX6_shell_46 ?_
    refine v_iload C 0 dX6_shell_47 rfl ?_
    refine v_iadd C dX6_shell_49 ?_
    refine v_iret C X rfl dX6_shell_50 ⟨_, rfl, ?_, ?_⟩
    · unfold shZ
      first | rw [if_pos (by omega)] | rw [if_neg (by omega)]
    · rfl
  · refine v_aload_n C 1 dX6_shell_25 rfl ?_
    refine v_iload_n C 2 dX6_shell_26 rfl ?_
    refine v_iconst (z := 1) C dX6_shell_27 rfl ?_
    refine v_callV (st := []) (n := 2) (q := k) C [.int (iz (s)), .int (iz (1))] (ct_Rocket_fact C.2.2.2.2.2.2.1 m (k) (kf) (ks) (kt) (kc) (s) (1) hk (by first | assumption | omega) (by first | assumption | omega)) (RocketAt.l0 hk) (RocketAt.e0 hk _) rfl qw590 qw15 qw666 rfl rfl ⟨Nat.le_of_ble_eq_true rfl, Nat.le_of_ble_eq_true rfl⟩ (by decide +kernel) qw588 qw589 rfl rfl (Nat.le_of_ble_eq_true rfl) dX6_shell_28 (fun r m5 hq5 => ?_)
    obtain ⟨z5, rfl, rfl, rfl⟩ := hq5
    show V E (wC D cy aa ad) 5 m 31 [(3, .int (iz (((u * (m kf (s * 9 + 2))) + 99) / 100))), (0, .ref (aa k)), (1, .int (iz (s))), (2, .int (iz (u)))] [.int (iz (m kf (s * 9 + 1)))]
    refine v_iconst (z := 2) C dX6_shell_31 rfl ?_
    refine v_idiv C (by omega) (by omega) dX6_shell_32 ?_
    refine v_goto (tgt := 37) C dX6_shell_33 (by decide) ?_
    refine v_istore (L1 := [(4, .int (iz ((m kf (s * 9 + 1)) / 2))), (3, .int (iz (((u * (m kf (s * 9 + 2))) + 99) / 100))), (0, .ref (aa k)), (1, .int (iz (s))), (2, .int (iz (u)))]) C dX6_shell_37 (by decide) rfl ?_
    refine v_aload_n C 2 dX6_shell_39 rfl ?_
    refine v_iload_n C 3 dX6_shell_40 rfl ?_
    refine v_iconst (z := 1) C dX6_shell_41 rfl ?_
    refine v_callV (st := []) (n := 2) (q := k) C [.int (iz (s)), .int (iz (1))] (ct_Rocket_fact C.2.2.2.2.2.2.1 m (k) (kf) (ks) (kt) (kc) (s) (1) hk (by first | assumption | omega) (by first | assumption | omega)) (RocketAt.l0 hk) (RocketAt.e0 hk _) rfl qw590 qw15 qw666 rfl rfl ⟨Nat.le_of_ble_eq_true rfl, Nat.le_of_ble_eq_true rfl⟩ (by decide +kernel) qw588 qw589 rfl rfl (Nat.le_of_ble_eq_true rfl) dX6_shell_42 (fun r m6 hq6 => ?_)
    obtain ⟨z6, rfl, rfl, rfl⟩ := hq6
    show V E (wC D cy aa ad) 5 m 45 [(4, .int (iz ((m kf (s * 9 + 1)) / 2))), (3, .int (iz (((u * (m kf (s * 9 + 2))) + 99) / 100))), (0, .ref (aa k)), (1, .int (iz (s))), (2, .int (iz (u)))] [.int (iz (m kf (s * 9 + 1)))]
    refine v_iload_n C 1 dX6_shell_45 rfl ?_
    refine v_iadd C dX6_shell_46 ?_
    refine v_iload C 0 dX6_shell_47 rfl ?_
    refine v_iadd C dX6_shell_49 ?_
    refine v_iret C X rfl dX6_shell_50 ⟨_, rfl, ?_, ?_⟩
    · unfold shZ
      first | rw [if_pos (by omega)] | rw [if_neg (by omega)]
    · rfl

set_option maxHeartbeats 4000000 in
set_option maxRecDepth 100000 in
theorem ct_Choice_unitsOf {lau : Launch} {D : va_G} {cy : Nat → ClassId} {aa ad : Nat → Nat} (hI : wI (wC D cy aa ad)) (m : Mem) (c s : Int) (hc : 0 ≤ c ∧ c < 4913) (hs : 0 ≤ s ∧ s ≤ 2) : MT lau (wC D cy aa ad) yX1_unitsOf cX1_unitsOf 2 (some .int) ({ frames := 0, cells := 0, slots := 0, locals := 0 } : Room) m [.int (iz (c)), .int (iz (s))] (Pi (fun z m' => unZ c s = z ∧ m = m')) := by
  refine v_entry hI RX1 (by decide) rfl (Nat.le_of_ble_eq_true rfl) (fun E hE C X => ?_)
  subst hE
  show V E (wC D cy aa ad) 2 m 0 [(0, .int (iz (c))), (1, .int (iz (s)))] []
  refine v_iload_n C 1 dX1_unitsOf_0 rfl ?_
  refine v_if_ne (tgt := 10) C dX1_unitsOf_1 (by decide) (by omega) (fun c1 => ?_) (fun c1 => ?_)
  · refine v_iload_n C 1 dX1_unitsOf_10 rfl ?_
    refine v_iconst (z := 1) C dX1_unitsOf_11 rfl ?_
    refine v_icmp_ne (tgt := 25) C dX1_unitsOf_12 (by decide) (by omega) (by omega) (fun c2 => ?_) (fun c2 => ?_)
    · refine v_iload_n C 0 dX1_unitsOf_25 rfl ?_
      refine v_bipush (z := 17) C dX1_unitsOf_26 (by decide) ?_
      refine v_irem C (by omega) (by omega) dX1_unitsOf_28 ?_
      refine v_iret C X rfl dX1_unitsOf_29 ⟨_, rfl, ?_, ?_⟩
      · unfold unZ
        first | rw [if_pos (by omega)] | rw [if_neg (by omega), if_pos (by omega)] | rw [if_neg (by omega), if_neg (by omega)]
      · rfl
    · refine v_iload_n C 0 dX1_unitsOf_15 rfl ?_
      refine v_bipush (z := 17) C dX1_unitsOf_16 (by decide) ?_
      refine v_idiv C (by omega) (by omega) dX1_unitsOf_18 ?_
      refine v_bipush (z := 17) C dX1_unitsOf_19 (by decide) ?_
      refine v_irem C (by omega) (by omega) dX1_unitsOf_21 ?_
      refine v_goto (tgt := 29) C dX1_unitsOf_22 (by decide) ?_
      refine v_iret C X rfl dX1_unitsOf_29 ⟨_, rfl, ?_, ?_⟩
      · unfold unZ
        first | rw [if_pos (by omega)] | rw [if_neg (by omega), if_pos (by omega)] | rw [if_neg (by omega), if_neg (by omega)]
      · rfl
  · refine v_iload_n C 0 dX1_unitsOf_4 rfl ?_
    refine v_sipush (z := 289) C dX1_unitsOf_5 (by decide) ?_
    refine v_idiv C (by omega) (by omega) dX1_unitsOf_8 ?_
    refine v_iret C X rfl dX1_unitsOf_9 ⟨_, rfl, ?_, ?_⟩
    · unfold unZ
      first | rw [if_pos (by omega)] | rw [if_neg (by omega), if_pos (by omega)] | rw [if_neg (by omega), if_neg (by omega)]
    · rfl

set_option maxHeartbeats 4000000 in
set_option maxRecDepth 100000 in
theorem ct_Weights_hundredfold {lau : Launch} {D : va_G} {cy : Nat → ClassId} {aa ad : Nat → Nat} (hI : wI (wC D cy aa ad)) (m : Mem) (x y : Int) (hx : 0 ≤ x ∧ x ≤ 10000) (hy : 1 ≤ y ∧ y ≤ 2147483647) : MT lau (wC D cy aa ad) yX9_hundredfold cX9_hundredfold 2 (some .int) ({ frames := 0, cells := 0, slots := 0, locals := 0 } : Room) m [.int (iz (x)), .int (iz (y))] (Pi (fun z m' => 100 * x / y = z ∧ m = m')) := by
  refine v_entry hI RX9 (by decide) rfl (Nat.le_of_ble_eq_true rfl) (fun E hE C X => ?_)
  subst hE
  show V E (wC D cy aa ad) 2 m 0 [(0, .int (iz (x))), (1, .int (iz (y)))] []
  refine v_iload_n C 1 dX9_hundredfold_0 rfl ?_
  refine v_if_le (tgt := 13) C dX9_hundredfold_1 (by decide) (by omega) (fun c1 => ?_) (fun c1 => ?_)
  · exfalso; omega
  · refine v_bipush (z := 100) C dX9_hundredfold_4 (by decide) ?_
    refine v_iload_n C 0 dX9_hundredfold_6 rfl ?_
    refine v_imul C dX9_hundredfold_7 ?_
    refine v_iload_n C 1 dX9_hundredfold_8 rfl ?_
    refine v_idiv C (by omega) (by omega) dX9_hundredfold_9 ?_
    refine v_goto (tgt := 14) C dX9_hundredfold_10 (by decide) ?_
    refine v_iret C X rfl dX9_hundredfold_14 ⟨_, rfl, ?_, ?_⟩
    · rfl
    · rfl

set_option maxHeartbeats 4000000 in
set_option maxRecDepth 100000 in
theorem ct_Weights_weigh {lau : Launch} {D : va_G} {cy : Nat → ClassId} {aa ad : Nat → Nat} (hI : wI (wC D cy aa ad)) (m : Mem) (o u t e : Nat) (k kf ks kt kc : Nat) (P : Int) (hw : WeightsAt o u t e) (hk : RocketAt k kf ks kt kc) (hR : 1 ≤ m k 5 ∧ m k 5 ≤ 3) (hF : FaOk (m kf) (m k 5)) (hP : 1 ≤ P ∧ P ≤ 40) (hU : ∀ j : Int, 0 ≤ j → j < m k 5 → 0 ≤ m u j ∧ m u j ≤ 16) : MT lau (wC D cy aa ad) yX9_weigh cX9_weigh 6 (none) ({ frames := 2, cells := 0, slots := 0, locals := 47 } : Room) m [.ref (aa o), .ref (aa k), .int (iz (P))] (Pv (fun m' => WtIs m' o t e (m kf) (m k 5) P (m u) ∧ (∀ q, q ≠ o → q ≠ t → q ≠ e → m' q = m q))) := by
  refine v_entry hI RX9 (by decide) rfl (Nat.le_of_ble_eq_true rfl) (fun E hE C X => ?_)
  subst hE
  show V E (wC D cy aa ad) 6 m 0 [(0, .ref (aa o)), (1, .ref (aa k)), (2, .int (iz (P)))] []
  have hne : k ≠ t ∧ k ≠ e ∧ kf ≠ t ∧ kf ≠ e ∧ u ≠ t ∧ u ≠ e ∧ t ≠ e := by unfold RocketAt at hk; unfold WeightsAt at hw; omega
  have hne2 : u ≠ o ∧ t ≠ o ∧ e ≠ o ∧ k ≠ o ∧ kf ≠ o ∧ k ≠ u ∧ kf ≠ u := by unfold RocketAt at hk; unfold WeightsAt at hw; omega
  refine v_iload_n C 2 dX9_weigh_0 rfl ?_
  refine v_istore_n (L1 := [(3, .int (iz (P))), (0, .ref (aa o)), (1, .ref (aa k)), (2, .int (iz (P)))]) C dX9_weigh_1 (by decide) rfl ?_
  refine v_aload_n C 2 dX9_weigh_2 rfl ?_
  refine v_get C k 5 (RocketAt.l0 hk) (RocketAt.e0 hk _) rfl inX6 (by decide) rfl qw384 dX9_weigh_3 ?_
  refine v_iconst (z := 1) C dX9_weigh_6 rfl ?_
  refine v_isub C dX9_weigh_7 ?_
  refine v_istore (L1 := [(4, .int (iz ((m k 5) - 1))), (3, .int (iz (P))), (0, .ref (aa o)), (1, .ref (aa k)), (2, .int (iz (P)))]) C dX9_weigh_8 (by decide) rfl ?_
  have K10 : ∀ (nK : Nat) (s : Int) (y : Int) (mL : Mem) (hs : -1 ≤ s ∧ s < m k 5) (hy : y = stZ (m kf) (m k 5) P (m u) (s + 1)) (hf : ∀ q, q ≠ t → q ≠ e → mL q = m q) (hst : ∀ j : Int, s < j → j < m k 5 → mL t j = stZ (m kf) (m k 5) P (m u) j ∧ mL e j = stZ (m kf) (m k 5) P (m u) j - m u j), (s + 1).toNat < nK → V E (wC D cy aa ad) 6 mL 10 [(0, .ref (aa o)), (1, .ref (aa k)), (3, .int (iz (y))), (4, .int (iz (s)))] [] := by
    intro nK
    induction nK with
    | zero => intro s y mL hs hy hf hst hn; exact absurd hn (Nat.not_lt_zero _)
    | succ nK ih10 =>
      intro s y mL hs hy hf hst hn10
      have hk1 : mL k = m k := hf k hne.1 hne.2.1
      have hkf : mL kf = m kf := hf kf hne.2.2.1 hne.2.2.2.1
      have hu1 : mL u = m u := hf u hne.2.2.2.2.1 hne.2.2.2.2.2.1
      refine v_iload C 3 dX9_weigh_10 rfl ?_
      refine v_if_lt (tgt := 74) C dX9_weigh_12 (by decide) (by omega) (fun c1 => ?_) (fun c1 => ?_)
      · refine v_aload_n C 0 dX9_weigh_74 rfl ?_
        refine v_iload_n C 2 dX9_weigh_75 rfl ?_
        refine v_put C o 3 (y) 3 rfl (WeightsAt.l0 hw) (WeightsAt.e0 hw _) rfl inX9 tyX9 tyX9_ok nmX9 (by decide) qw186 rfl rfl rfl (Nat.le_of_ble_eq_true rfl) (by rw [mup_r]; exact (WeightsAt.e0 hw _)) dX9_weigh_76 (fun m2 em2 => ?_)
        refine v_vret C X dX9_weigh_79 ⟨rfl, ?_⟩
        have hs1 : s = -1 := by omega
        subst hs1
        refine ⟨⟨by rw [em2, mup_s]; exact hy, fun j h0 h1 => ?_⟩, fun q h1 h2 h3 => ?_⟩
        · rw [em2, mup_k _ _ _ hne2.2.1, mup_k _ _ _ hne2.2.2.1]; exact hst j (by omega) h1
        · rw [em2, mup_k _ _ _ h1]; exact hf q h2 h3
      · refine v_iload_n C 2 dX9_weigh_15 rfl ?_
        refine v_aload_n C 1 dX9_weigh_16 rfl ?_
        refine v_iload C 3 dX9_weigh_17 rfl ?_
        refine v_aload_n C 0 dX9_weigh_19 rfl ?_
        refine v_get C o 0 (WeightsAt.l0 hw) (WeightsAt.e0 hw _) rfl inX9 (by decide) rfl qw177 dX9_weigh_20 ?_
        refine v_iload C 3 dX9_weigh_23 rfl ?_
        refine v_callSN (st := [.int (iz (s)), .ref (aa k), .int (iz (y))]) (n := 2) C [.ref (aa u), .int (iz (s))] (ct_StageRatios_at C.2.2.2.2.2.2.1 mL (u) (3) (s) ⟨(WeightsAt.l1 hw), by decide, (WeightsAt.e1 hw)⟩ (by first | assumption | omega)) qw618 qw1 "StageRatios" (by decide +kernel) rfl rfl ⟨Nat.le_of_ble_eq_true rfl, Nat.le_of_ble_eq_true rfl⟩ (by decide +kernel) qw617 rfl rfl (Nat.le_of_ble_eq_true rfl) dX9_weigh_25 (fun r m3 hq3 => ?_)
        obtain ⟨z3, rfl, rfl, rfl⟩ := hq3
        show V E (wC D cy aa ad) 6 mL 28 [(0, .ref (aa o)), (1, .ref (aa k)), (3, .int (iz (y))), (4, .int (iz (s)))] [.int (iz (mL u s)), .int (iz (s)), .ref (aa k), .int (iz (y))]
        refine v_callV (st := [.int (iz (y))]) (n := 2) (q := k) C [.int (iz (s)), .int (iz (mL u s))] (ct_Rocket_shell C.2.2.2.2.2.2.1 mL (k) (kf) (ks) (kt) (kc) (s) (mL u s) (m k 5) hk (by first | assumption | omega) (by first | assumption | omega) (by rw [hu1]; exact hU s (by omega) (by omega)) (by rw [hkf]; exact hF)) (RocketAt.l0 hk) (RocketAt.e0 hk _) rfl qw665 qw15 qw684 rfl rfl ⟨Nat.le_of_ble_eq_true rfl, Nat.le_of_ble_eq_true rfl⟩ (by decide +kernel) qw663 qw664 rfl rfl (Nat.le_of_ble_eq_true rfl) dX9_weigh_28 (fun r m4 hq4 => ?_)
        obtain ⟨z4, rfl, rfl, rfl⟩ := hq4
        show V E (wC D cy aa ad) 6 mL 31 [(0, .ref (aa o)), (1, .ref (aa k)), (3, .int (iz (y))), (4, .int (iz (s)))] [.int (iz (shZ (mL kf) s (mL u s))), .int (iz (y))]
        refine v_iadd C dX9_weigh_31 ?_
        refine v_istore (L1 := [(5, .int (iz (y + (shZ (mL kf) s (mL u s))))), (0, .ref (aa o)), (1, .ref (aa k)), (3, .int (iz (y))), (4, .int (iz (s)))]) C dX9_weigh_32 (by decide) rfl ?_
        refine v_iload C 0 dX9_weigh_34 rfl ?_
        refine v_aload_n C 1 dX9_weigh_36 rfl ?_
        refine v_get C o 0 (WeightsAt.l0 hw) (WeightsAt.e0 hw _) rfl inX9 (by decide) rfl qw177 dX9_weigh_37 ?_
        refine v_iload C 4 dX9_weigh_40 rfl ?_
        refine v_callSN (st := [.int (iz (y + (shZ (mL kf) s (mL u s))))]) (n := 2) C [.ref (aa u), .int (iz (s))] (ct_StageRatios_at C.2.2.2.2.2.2.1 mL (u) (3) (s) ⟨(WeightsAt.l1 hw), by decide, (WeightsAt.e1 hw)⟩ (by first | assumption | omega)) qw618 qw1 "StageRatios" (by decide +kernel) rfl rfl ⟨Nat.le_of_ble_eq_true rfl, Nat.le_of_ble_eq_true rfl⟩ (by decide +kernel) qw617 rfl rfl (Nat.le_of_ble_eq_true rfl) dX9_weigh_42 (fun r m5 hq5 => ?_)
        obtain ⟨z5, rfl, rfl, rfl⟩ := hq5
        show V E (wC D cy aa ad) 6 mL 45 [(5, .int (iz (y + (shZ (mL kf) s (mL u s))))), (0, .ref (aa o)), (1, .ref (aa k)), (3, .int (iz (y))), (4, .int (iz (s)))] [.int (iz (mL u s)), .int (iz (y + (shZ (mL kf) s (mL u s))))]
        refine v_iadd C dX9_weigh_45 ?_
        refine v_istore_n (L1 := [(3, .int (iz ((y + (shZ (mL kf) s (mL u s))) + (mL u s)))), (5, .int (iz (y + (shZ (mL kf) s (mL u s))))), (0, .ref (aa o)), (1, .ref (aa k)), (4, .int (iz (s)))]) C dX9_weigh_46 (by decide) rfl ?_
        refine v_aload_n C 2 dX9_weigh_47 rfl ?_
        refine v_get C o 2 (WeightsAt.l0 hw) (WeightsAt.e0 hw _) rfl inX9 (by decide) rfl qw184 dX9_weigh_48 ?_
        refine v_iload C 4 dX9_weigh_51 rfl ?_
        refine v_iload C 1 dX9_weigh_53 rfl ?_
        refine v_callSN (st := []) (n := 3) C [.ref (aa e), .int (iz (s)), .int (iz (y + (shZ (mL kf) s (mL u s))))] (ct_StageRatios_put C.2.2.2.2.2.2.1 mL (e) (3) (s) (y + (shZ (mL kf) s (mL u s))) ⟨(WeightsAt.l3 hw), by decide, (WeightsAt.e3 hw)⟩ (by first | assumption | omega)) qw494 qw1 "StageRatios" (by decide +kernel) rfl rfl ⟨Nat.le_of_ble_eq_true rfl, Nat.le_of_ble_eq_true rfl⟩ (by decide +kernel) qw493 rfl rfl (Nat.le_of_ble_eq_true rfl) dX9_weigh_55 (fun r m6 hq6 => ?_)
        obtain ⟨rfl, hq6⟩ := hq6
        show V E (wC D cy aa ad) 6 m6 58 [(3, .int (iz ((y + (shZ (mL kf) s (mL u s))) + (mL u s)))), (5, .int (iz (y + (shZ (mL kf) s (mL u s))))), (0, .ref (aa o)), (1, .ref (aa k)), (4, .int (iz (s)))] []
        refine v_aload_n C 2 dX9_weigh_58 rfl ?_
        refine v_get C o 1 (WeightsAt.l0 hw) (WeightsAt.e0 hw _) rfl inX9 (by decide) rfl qw181 dX9_weigh_59 ?_
        refine v_iload C 4 dX9_weigh_62 rfl ?_
        refine v_iload_n C 0 dX9_weigh_64 rfl ?_
        refine v_callSN (st := []) (n := 3) C [.ref (aa t), .int (iz (s)), .int (iz ((y + (shZ (mL kf) s (mL u s))) + (mL u s)))] (ct_StageRatios_put C.2.2.2.2.2.2.1 m6 (t) (3) (s) ((y + (shZ (mL kf) s (mL u s))) + (mL u s)) ⟨(WeightsAt.l2 hw), by decide, (WeightsAt.e2 hw)⟩ (by first | assumption | omega)) qw494 qw1 "StageRatios" (by decide +kernel) rfl rfl ⟨Nat.le_of_ble_eq_true rfl, Nat.le_of_ble_eq_true rfl⟩ (by decide +kernel) qw493 rfl rfl (Nat.le_of_ble_eq_true rfl) dX9_weigh_65 (fun r m7 hq7 => ?_)
        obtain ⟨rfl, hq7⟩ := hq7
        show V E (wC D cy aa ad) 6 m7 68 [(3, .int (iz ((y + (shZ (mL kf) s (mL u s))) + (mL u s)))), (5, .int (iz (y + (shZ (mL kf) s (mL u s))))), (0, .ref (aa o)), (1, .ref (aa k)), (4, .int (iz (s)))] []
        refine v_iinc (L1 := [(4, .int (iz (s + (-1)))), (3, .int (iz ((y + (shZ (mL kf) s (mL u s))) + (mL u s)))), (5, .int (iz (y + (shZ (mL kf) s (mL u s))))), (0, .ref (aa o)), (1, .ref (aa k))]) C 4 dX9_weigh_68 rfl (by decide) rfl ?_
        refine v_goto (tgt := 10) C dX9_weigh_71 (by decide) ?_
        refine v_sub [3, 4, 1, 0] rfl ?_
        exact ih10 (s + (-1)) ((y + (shZ (mL kf) s (mL u s))) + (mL u s)) m7 (by first | assumption | omega) (by rw [show s + (-1) + 1 = s by omega, stZ_s hs.2, hy, hkf, hu1]) (by intro q h1 h2; rw [← hq7, ← hq6, mup_k _ _ _ h1, mup_k _ _ _ h2]; exact hf q h1 h2) (by 
                    intro j h0 h1
                    rw [← hq7, ← hq6, mup_k _ _ _ (Ne.symm hne.2.2.2.2.2.2)]
                    by_cases q : j = s
                    · subst q
                      rw [mup_s, mup_s, stZ_s h1, hy, hkf, hu1]
                      exact ⟨rfl, by omega⟩
                    · rw [mup_j _ _ q, mup_k _ _ _ hne.2.2.2.2.2.2, mup_j _ _ q]
                      exact hst j (by omega) h1
                  ) (by omega)
  refine v_sub [2, 3, 1, 0] rfl ?_
  exact K10 _ ((m k 5) - 1) (P) m (by first | assumption | omega) (by rw [show m k 5 - 1 + 1 = m k 5 by omega]; exact (stZ_n _ _ _ _).symm) (by intro q h1 h2; rfl) (by intro j h0 h1; omega) (Nat.lt_succ_self _)

set_option maxHeartbeats 4000000 in
set_option maxRecDepth 100000 in
theorem ct_Weights_layCode {lau : Launch} {D : va_G} {cy : Nat → ClassId} {aa ad : Nat → Nat} (hI : wI (wC D cy aa ad)) (m : Mem) (o u t e : Nat) (c : Int) (hw : WeightsAt o u t e) (hc : 0 ≤ c ∧ c < 4913) : MT lau (wC D cy aa ad) yX9_layCode cX9_layCode 3 (none) ({ frames := 1, cells := 0, slots := 0, locals := 22 } : Room) m [.ref (aa o), .int (iz (c))] (Pv (fun m' => (∀ j : Int, 0 ≤ j → j < 3 → m' u j = unZ c j) ∧ (∀ q, q ≠ u → m' q = m q))) := by
  refine v_entry hI RX9 (by decide) rfl (Nat.le_of_ble_eq_true rfl) (fun E hE C X => ?_)
  subst hE
  show V E (wC D cy aa ad) 3 m 0 [(0, .ref (aa o)), (1, .int (iz (c)))] []
  refine v_iconst (z := 0) C dX9_layCode_0 rfl ?_
  refine v_istore_n (L1 := [(2, .int (iz (0))), (0, .ref (aa o)), (1, .int (iz (c)))]) C dX9_layCode_1 (by decide) rfl ?_
  have K2 : ∀ (nK : Nat) (i : Int) (mL : Mem) (hi : 0 ≤ i ∧ i ≤ 3) (hv : ∀ j : Int, 0 ≤ j → j < i → mL u j = unZ c j) (hf : ∀ q, q ≠ u → mL q = m q), (3 - i).toNat < nK → V E (wC D cy aa ad) 3 mL 2 [(0, .ref (aa o)), (1, .int (iz (c))), (2, .int (iz (i)))] [] := by
    intro nK
    induction nK with
    | zero => intro i mL hi hv hf hn; exact absurd hn (Nat.not_lt_zero _)
    | succ nK ih2 =>
      intro i mL hi hv hf hn2
      refine v_iload_n C 2 dX9_layCode_2 rfl ?_
      refine v_iconst (z := 3) C dX9_layCode_3 rfl ?_
      refine v_icmp_ge (tgt := 26) C dX9_layCode_4 (by decide) (by omega) (by omega) (fun c1 => ?_) (fun c1 => ?_)
      · refine v_vret C X dX9_layCode_26 ⟨rfl, ?_⟩
        exact ⟨fun j h0 h1 => hv j h0 (by omega), hf⟩
      · refine v_aload_n C 0 dX9_layCode_7 rfl ?_
        refine v_get C o 0 (WeightsAt.l0 hw) (WeightsAt.e0 hw _) rfl inX9 (by decide) rfl qw177 dX9_layCode_8 ?_
        refine v_iload_n C 2 dX9_layCode_11 rfl ?_
        refine v_iload_n C 1 dX9_layCode_12 rfl ?_
        refine v_iload_n C 2 dX9_layCode_13 rfl ?_
        refine v_callS (st := [.int (iz (i)), .ref (aa u)]) (n := 2) C [.int (iz (c)), .int (iz (i))] (ct_Choice_unitsOf C.2.2.2.2.2.2.1 mL (c) (i) (by first | assumption | omega) (by first | assumption | omega)) qw832 qw12 qw830 rfl rfl ⟨Nat.le_of_ble_eq_true rfl, Nat.le_of_ble_eq_true rfl⟩ (by decide +kernel) qw831 rfl rfl (Nat.le_of_ble_eq_true rfl) dX9_layCode_14 (fun r m2 hq2 => ?_)
        obtain ⟨z2, rfl, rfl, rfl⟩ := hq2
        show V E (wC D cy aa ad) 3 mL 17 [(0, .ref (aa o)), (1, .int (iz (c))), (2, .int (iz (i)))] [.int (iz (unZ c i)), .int (iz (i)), .ref (aa u)]
        refine v_callSN (st := []) (n := 3) C [.ref (aa u), .int (iz (i)), .int (iz (unZ c i))] (ct_StageRatios_put C.2.2.2.2.2.2.1 mL (u) (3) (i) (unZ c i) ⟨(WeightsAt.l1 hw), by decide, (WeightsAt.e1 hw)⟩ (by first | assumption | omega)) qw494 qw1 "StageRatios" (by decide +kernel) rfl rfl ⟨Nat.le_of_ble_eq_true rfl, Nat.le_of_ble_eq_true rfl⟩ (by decide +kernel) qw493 rfl rfl (Nat.le_of_ble_eq_true rfl) dX9_layCode_17 (fun r m3 hq3 => ?_)
        obtain ⟨rfl, hq3⟩ := hq3
        show V E (wC D cy aa ad) 3 m3 20 [(0, .ref (aa o)), (1, .int (iz (c))), (2, .int (iz (i)))] []
        refine v_iinc (L1 := [(2, .int (iz (i + 1))), (0, .ref (aa o)), (1, .int (iz (c)))]) C 2 dX9_layCode_20 rfl (by decide) rfl ?_
        refine v_goto (tgt := 2) C dX9_layCode_23 (by decide) ?_
        refine v_sub [1, 2, 0] rfl ?_
        exact ih2 (i + 1) m3 (by first | assumption | omega) (by 
                    intro j h0 h1; rw [← hq3]
                    by_cases q : j = i
                    · subst q; rw [mup_s]
                    · rw [mup_j _ _ q]; exact hv j h0 (by omega)
                  ) (by intro q h; rw [← hq3, mup_k _ _ _ h]; exact hf q h) (by omega)
  refine v_sub [1, 2, 0] rfl ?_
  exact K2 _ (0) m (by first | assumption | omega) (by intro j h0 h1; omega) (by intro q h; rfl) (Nat.lt_succ_self _)

set_option maxHeartbeats 4000000 in
set_option maxRecDepth 100000 in
theorem ct_Weights_weighCode {lau : Launch} {D : va_G} {cy : Nat → ClassId} {aa ad : Nat → Nat} (hI : wI (wC D cy aa ad)) (m : Mem) (o u t e : Nat) (k kf ks kt kc : Nat) (P c : Int) (hw : WeightsAt o u t e) (hk : RocketAt k kf ks kt kc) (hR : 1 ≤ m k 5 ∧ m k 5 ≤ 3) (hF : FaOk (m kf) (m k 5)) (hP : 1 ≤ P ∧ P ≤ 40) (hc : 0 ≤ c ∧ c < 4913) : MT lau (wC D cy aa ad) yX9_weighCode cX9_weighCode 4 (none) ({ frames := 3, cells := 0, slots := 0, locals := 72 } : Room) m [.ref (aa o), .ref (aa k), .int (iz (P)), .int (iz (c))] (Pv (fun m' => (∀ j : Int, 0 ≤ j → j < 3 → m' u j = unZ c j) ∧ WtIs m' o t e (m kf) (m k 5) P (unZ c) ∧ (∀ q, q ≠ o → q ≠ u → q ≠ t → q ≠ e → m' q = m q))) := by
  refine v_entry hI RX9 (by decide) rfl (Nat.le_of_ble_eq_true rfl) (fun E hE C X => ?_)
  subst hE
  show V E (wC D cy aa ad) 4 m 0 [(0, .ref (aa o)), (1, .ref (aa k)), (2, .int (iz (P))), (3, .int (iz (c)))] []
  have hne : k ≠ t ∧ k ≠ e ∧ kf ≠ t ∧ kf ≠ e ∧ u ≠ t ∧ u ≠ e ∧ t ≠ e := by unfold RocketAt at hk; unfold WeightsAt at hw; omega
  have hne2 : u ≠ o ∧ t ≠ o ∧ e ≠ o ∧ k ≠ o ∧ kf ≠ o ∧ k ≠ u ∧ kf ≠ u := by unfold RocketAt at hk; unfold WeightsAt at hw; omega
  refine v_aload_n C 0 dX9_weighCode_0 rfl ?_
  refine v_iload_n C 3 dX9_weighCode_1 rfl ?_
  refine v_callV (st := []) (n := 1) (q := o) C [.int (iz (c))] (ct_Weights_layCode C.2.2.2.2.2.2.1 m (o) (u) (t) (e) (c) hw (by first | assumption | omega)) (WeightsAt.l0 hw) (WeightsAt.e0 hw _) rfl qw829 qw8 qw920 rfl rfl ⟨Nat.le_of_ble_eq_true rfl, Nat.le_of_ble_eq_true rfl⟩ (by decide +kernel) qw827 qw828 rfl rfl (Nat.le_of_ble_eq_true rfl) dX9_weighCode_2 (fun r m1 hq1 => ?_)
  obtain ⟨rfl, hq1⟩ := hq1
  show V E (wC D cy aa ad) 4 m1 5 [(0, .ref (aa o)), (1, .ref (aa k)), (2, .int (iz (P))), (3, .int (iz (c)))] []
  have hk1 : m1 k = m k := hq1.2 k hne2.2.2.2.2.2.1
  have hkf : m1 kf = m kf := hq1.2 kf hne2.2.2.2.2.2.2
  refine v_aload_n C 0 dX9_weighCode_5 rfl ?_
  refine v_aload_n C 1 dX9_weighCode_6 rfl ?_
  refine v_iload_n C 2 dX9_weighCode_7 rfl ?_
  refine v_callV (st := []) (n := 2) (q := o) C [.ref (aa k), .int (iz (P))] (ct_Weights_weigh C.2.2.2.2.2.2.1 m1 (o) (u) (t) (e) (k) (kf) (ks) (kt) (kc) (P) hw hk (by rw [hk1]; exact hR) (by rw [hk1, hkf]; exact hF) (by first | assumption | omega) (by rw [hk1]; intro j h0 h1; rw [hq1.1 j h0 (by omega)]; exact unZ_rng hc.1 hc.2)) (WeightsAt.l0 hw) (WeightsAt.e0 hw _) rfl qw682 qw8 qw921 rfl rfl ⟨Nat.le_of_ble_eq_true rfl, Nat.le_of_ble_eq_true rfl⟩ (by decide +kernel) qw680 qw681 rfl rfl (Nat.le_of_ble_eq_true rfl) dX9_weighCode_8 (fun r m2 hq2 => ?_)
  obtain ⟨rfl, hq2⟩ := hq2
  show V E (wC D cy aa ad) 4 m2 11 [(0, .ref (aa o)), (1, .ref (aa k)), (2, .int (iz (P))), (3, .int (iz (c)))] []
  refine v_vret C X dX9_weighCode_11 ⟨rfl, ?_⟩
  rw [hk1, hkf] at hq2
  have hu2 : m2 u = m1 u := hq2.2 u hne2.1 hne.2.2.2.2.1 hne.2.2.2.2.2.1
  have hcg : ∀ s : Int, 0 ≤ s → stZ (m kf) (m k 5) P (m1 u) s = stZ (m kf) (m k 5) P (unZ c) s := fun s h0 => stZ_cg fun j h1 h2 => by rw [hq1.1 j (by omega) (by omega)]; exact ⟨rfl, rfl⟩
  refine ⟨fun j h0 h1 => by rw [hu2]; exact hq1.1 j h0 h1, ⟨by rw [hq2.1.1]; exact hcg 0 (by omega), fun s h0 h1 => ?_⟩, fun q h1 h2 h3 h4 => by rw [hq2.2 q h1 h3 h4, hq1.2 q h2]⟩
  have := hq2.1.2 s h0 h1
  rw [hcg s h0, hq1.1 s h0 (by omega)] at this
  exact this

set_option maxHeartbeats 4000000 in
set_option maxRecDepth 100000 in
theorem ct_Weights_pushWithout {lau : Launch} {D : va_G} {cy : Nat → ClassId} {aa ad : Nat → Nat} (hI : wI (wC D cy aa ad)) (m : Mem) (o u t e : Nat) (k kf ks kt kc : Nat) (s out n : Int) (hw : WeightsAt o u t e) (hk : RocketAt k kf ks kt kc) (hn : n ≤ 3) (hs : 0 ≤ s ∧ s < n) (hF : FaOk (m kf) n) (ho : 0 ≤ out ∧ out ≤ m kf (s * 9 + 4)) (ht : 1 ≤ m t s ∧ m t s ≤ 400) : MT lau (wC D cy aa ad) yX9_pushWithout cX9_pushWithout 5 (some .int) ({ frames := 1, cells := 0, slots := 0, locals := 23 } : Room) m [.ref (aa o), .ref (aa k), .int (iz (s)), .int (iz (out))] (Pi (fun z m' => mgZ (m kf) s out (m t s) = z ∧ m = m')) := by
  refine v_entry hI RX9 (by decide) rfl (Nat.le_of_ble_eq_true rfl) (fun E hE C X => ?_)
  subst hE
  show V E (wC D cy aa ad) 5 m 0 [(0, .ref (aa o)), (1, .ref (aa k)), (2, .int (iz (s))), (3, .int (iz (out)))] []
  have f := hF s hs.1 hs.2
  have tq : 0 ≤ m kf (s * 9 + 5) * (m kf (s * 9 + 4) - out) ∧ m kf (s * 9 + 5) * (m kf (s * 9 + 4) - out) ≤ 10000 := by
    have h1 : 0 ≤ m kf (s * 9 + 5) * (m kf (s * 9 + 4) - out) := Int.mul_nonneg (by omega) (by omega)
    have h2 : m kf (s * 9 + 5) * (m kf (s * 9 + 4) - out) ≤ 999 * (m kf (s * 9 + 4) - out) := Int.mul_le_mul_of_nonneg_right (by omega) (by omega)
    omega
  refine v_aload_n C 1 dX9_pushWithout_0 rfl ?_
  refine v_iload_n C 2 dX9_pushWithout_1 rfl ?_
  refine v_iconst (z := 5) C dX9_pushWithout_2 rfl ?_
  refine v_callV (st := []) (n := 2) (q := k) C [.int (iz (s)), .int (iz (5))] (ct_Rocket_fact C.2.2.2.2.2.2.1 m (k) (kf) (ks) (kt) (kc) (s) (5) hk (by first | assumption | omega) (by first | assumption | omega)) (RocketAt.l0 hk) (RocketAt.e0 hk _) rfl qw590 qw15 qw690 rfl rfl ⟨Nat.le_of_ble_eq_true rfl, Nat.le_of_ble_eq_true rfl⟩ (by decide +kernel) qw588 qw589 rfl rfl (Nat.le_of_ble_eq_true rfl) dX9_pushWithout_3 (fun r m1 hq1 => ?_)
  obtain ⟨z1, rfl, rfl, rfl⟩ := hq1
  show V E (wC D cy aa ad) 5 m 6 [(0, .ref (aa o)), (1, .ref (aa k)), (2, .int (iz (s))), (3, .int (iz (out)))] [.int (iz (m kf (s * 9 + 5)))]
  refine v_aload_n C 1 dX9_pushWithout_6 rfl ?_
  refine v_iload_n C 2 dX9_pushWithout_7 rfl ?_
  refine v_iconst (z := 4) C dX9_pushWithout_8 rfl ?_
  refine v_callV (st := [.int (iz (m kf (s * 9 + 5)))]) (n := 2) (q := k) C [.int (iz (s)), .int (iz (4))] (ct_Rocket_fact C.2.2.2.2.2.2.1 m (k) (kf) (ks) (kt) (kc) (s) (4) hk (by first | assumption | omega) (by first | assumption | omega)) (RocketAt.l0 hk) (RocketAt.e0 hk _) rfl qw590 qw15 qw690 rfl rfl ⟨Nat.le_of_ble_eq_true rfl, Nat.le_of_ble_eq_true rfl⟩ (by decide +kernel) qw588 qw589 rfl rfl (Nat.le_of_ble_eq_true rfl) dX9_pushWithout_9 (fun r m2 hq2 => ?_)
  obtain ⟨z2, rfl, rfl, rfl⟩ := hq2
  show V E (wC D cy aa ad) 5 m 12 [(0, .ref (aa o)), (1, .ref (aa k)), (2, .int (iz (s))), (3, .int (iz (out)))] [.int (iz (m kf (s * 9 + 4))), .int (iz (m kf (s * 9 + 5)))]
  refine v_iload_n C 3 dX9_pushWithout_12 rfl ?_
  refine v_isub C dX9_pushWithout_13 ?_
  refine v_imul C dX9_pushWithout_14 ?_
  refine v_istore (L1 := [(4, .int (iz ((m kf (s * 9 + 5)) * ((m kf (s * 9 + 4)) - out)))), (0, .ref (aa o)), (1, .ref (aa k)), (2, .int (iz (s))), (3, .int (iz (out)))]) C dX9_pushWithout_15 (by decide) rfl ?_
  refine v_iload C 0 dX9_pushWithout_17 rfl ?_
  refine v_aload_n C 1 dX9_pushWithout_19 rfl ?_
  refine v_get C o 1 (WeightsAt.l0 hw) (WeightsAt.e0 hw _) rfl inX9 (by decide) rfl qw181 dX9_pushWithout_20 ?_
  refine v_iload_n C 3 dX9_pushWithout_23 rfl ?_
  refine v_callSN (st := [.int (iz ((m kf (s * 9 + 5)) * ((m kf (s * 9 + 4)) - out)))]) (n := 2) C [.ref (aa t), .int (iz (s))] (ct_StageRatios_at C.2.2.2.2.2.2.1 m (t) (3) (s) ⟨(WeightsAt.l2 hw), by decide, (WeightsAt.e2 hw)⟩ (by first | assumption | omega)) qw618 qw1 "StageRatios" (by decide +kernel) rfl rfl ⟨Nat.le_of_ble_eq_true rfl, Nat.le_of_ble_eq_true rfl⟩ (by decide +kernel) qw617 rfl rfl (Nat.le_of_ble_eq_true rfl) dX9_pushWithout_24 (fun r m3 hq3 => ?_)
  obtain ⟨z3, rfl, rfl, rfl⟩ := hq3
  show V E (wC D cy aa ad) 5 m 27 [(4, .int (iz ((m kf (s * 9 + 5)) * ((m kf (s * 9 + 4)) - out)))), (0, .ref (aa o)), (1, .ref (aa k)), (2, .int (iz (s))), (3, .int (iz (out)))] [.int (iz (m t s)), .int (iz ((m kf (s * 9 + 5)) * ((m kf (s * 9 + 4)) - out)))]
  refine v_callS (st := []) (n := 2) C [.int (iz ((m kf (s * 9 + 5)) * ((m kf (s * 9 + 4)) - out))), .int (iz (m t s))] (ct_Weights_hundredfold C.2.2.2.2.2.2.1 m ((m kf (s * 9 + 5)) * ((m kf (s * 9 + 4)) - out)) (m t s) (by first | assumption | omega) (by first | assumption | omega)) qw697 qw8 qw695 rfl rfl ⟨Nat.le_of_ble_eq_true rfl, Nat.le_of_ble_eq_true rfl⟩ (by decide +kernel) qw696 rfl rfl (Nat.le_of_ble_eq_true rfl) dX9_pushWithout_27 (fun r m4 hq4 => ?_)
  obtain ⟨z4, rfl, rfl, rfl⟩ := hq4
  show V E (wC D cy aa ad) 5 m 30 [(4, .int (iz ((m kf (s * 9 + 5)) * ((m kf (s * 9 + 4)) - out)))), (0, .ref (aa o)), (1, .ref (aa k)), (2, .int (iz (s))), (3, .int (iz (out)))] [.int (iz (100 * ((m kf (s * 9 + 5)) * ((m kf (s * 9 + 4)) - out)) / (m t s)))]
  refine v_iret C X rfl dX9_pushWithout_30 ⟨_, rfl, ?_, ?_⟩
  · rfl
  · rfl

set_option maxHeartbeats 4000000 in
set_option maxRecDepth 100000 in
theorem ct_Weights_holdsAt {lau : Launch} {D : va_G} {cy : Nat → ClassId} {aa ad : Nat → Nat} (hI : wI (wC D cy aa ad)) (m : Mem) (o u t e : Nat) (k kf ks kt kc : Nat) (s n : Int) (hw : WeightsAt o u t e) (hk : RocketAt k kf ks kt kc) (hn : n ≤ 3) (hs : 0 ≤ s ∧ s < n) (hF : FaOk (m kf) n) (ht : 1 ≤ m t s ∧ m t s ≤ 400) : MT lau (wC D cy aa ad) yX9_holdsAt cX9_holdsAt 3 (some .boolean) ({ frames := 2, cells := 0, slots := 0, locals := 47 } : Room) m [.ref (aa o), .ref (aa k), .int (iz (s))] (Pi (fun z m' => (1 = z ∧ (hoZ (m kf) s (m t s)) ∧ m = m') ∨ (0 = z ∧ ¬ (hoZ (m kf) s (m t s)) ∧ m = m'))) := by
  refine v_entry hI RX9 (by decide) rfl (Nat.le_of_ble_eq_true rfl) (fun E hE C X => ?_)
  subst hE
  show V E (wC D cy aa ad) 3 m 0 [(0, .ref (aa o)), (1, .ref (aa k)), (2, .int (iz (s)))] []
  have f := hF s hs.1 hs.2
  have hmg : -2147483648 ≤ mgZ (m kf) s (m kf (s * 9 + 8)) (m t s) ∧ mgZ (m kf) s (m kf (s * 9 + 8)) (m t s) ≤ 2147483647 := by
    have h1 : 0 ≤ m kf (s * 9 + 5) * (m kf (s * 9 + 4) - m kf (s * 9 + 8)) := Int.mul_nonneg (by omega) (by omega)
    have h2 : m kf (s * 9 + 5) * (m kf (s * 9 + 4) - m kf (s * 9 + 8)) ≤ 999 * (m kf (s * 9 + 4) - m kf (s * 9 + 8)) := Int.mul_le_mul_of_nonneg_right (by omega) (by omega)
    have h3 : 0 ≤ mgZ (m kf) s (m kf (s * 9 + 8)) (m t s) := Int.ediv_nonneg (by omega) (by omega)
    have h4 : mgZ (m kf) s (m kf (s * 9 + 8)) (m t s) ≤ 100 * (m kf (s * 9 + 5) * (m kf (s * 9 + 4) - m kf (s * 9 + 8))) := Int.ediv_le_self _ (by omega)
    omega
  refine v_aload_n C 0 dX9_holdsAt_0 rfl ?_
  refine v_aload_n C 1 dX9_holdsAt_1 rfl ?_
  refine v_iload_n C 2 dX9_holdsAt_2 rfl ?_
  refine v_aload_n C 1 dX9_holdsAt_3 rfl ?_
  refine v_iload_n C 2 dX9_holdsAt_4 rfl ?_
  refine v_bipush (z := 8) C dX9_holdsAt_5 (by decide) ?_
  refine v_callV (st := [.int (iz (s)), .ref (aa k), .ref (aa o)]) (n := 2) (q := k) C [.int (iz (s)), .int (iz (8))] (ct_Rocket_fact C.2.2.2.2.2.2.1 m (k) (kf) (ks) (kt) (kc) (s) (8) hk (by first | assumption | omega) (by first | assumption | omega)) (RocketAt.l0 hk) (RocketAt.e0 hk _) rfl qw590 qw15 qw690 rfl rfl ⟨Nat.le_of_ble_eq_true rfl, Nat.le_of_ble_eq_true rfl⟩ (by decide +kernel) qw588 qw589 rfl rfl (Nat.le_of_ble_eq_true rfl) dX9_holdsAt_7 (fun r m1 hq1 => ?_)
  obtain ⟨z1, rfl, rfl, rfl⟩ := hq1
  show V E (wC D cy aa ad) 3 m 10 [(0, .ref (aa o)), (1, .ref (aa k)), (2, .int (iz (s)))] [.int (iz (m kf (s * 9 + 8))), .int (iz (s)), .ref (aa k), .ref (aa o)]
  refine v_callV (st := []) (n := 3) (q := o) C [.ref (aa k), .int (iz (s)), .int (iz (m kf (s * 9 + 8)))] (ct_Weights_pushWithout C.2.2.2.2.2.2.1 m (o) (u) (t) (e) (k) (kf) (ks) (kt) (kc) (s) (m kf (s * 9 + 8)) (n) hw hk (by first | assumption | omega) (by first | assumption | omega) (by first | assumption | omega) (by first | assumption | omega) (by first | assumption | omega)) (WeightsAt.l0 hw) (WeightsAt.e0 hw _) rfl qw694 qw8 qw691 rfl rfl ⟨Nat.le_of_ble_eq_true rfl, Nat.le_of_ble_eq_true rfl⟩ (by decide +kernel) qw692 qw693 rfl rfl (Nat.le_of_ble_eq_true rfl) dX9_holdsAt_10 (fun r m2 hq2 => ?_)
  obtain ⟨z2, rfl, rfl, rfl⟩ := hq2
  show V E (wC D cy aa ad) 3 m 13 [(0, .ref (aa o)), (1, .ref (aa k)), (2, .int (iz (s)))] [.int (iz (mgZ (m kf) s (m kf (s * 9 + 8)) (m t s)))]
  refine v_aload_n C 1 dX9_holdsAt_13 rfl ?_
  refine v_iload_n C 2 dX9_holdsAt_14 rfl ?_
  refine v_bipush (z := 7) C dX9_holdsAt_15 (by decide) ?_
  refine v_callV (st := [.int (iz (mgZ (m kf) s (m kf (s * 9 + 8)) (m t s)))]) (n := 2) (q := k) C [.int (iz (s)), .int (iz (7))] (ct_Rocket_fact C.2.2.2.2.2.2.1 m (k) (kf) (ks) (kt) (kc) (s) (7) hk (by first | assumption | omega) (by first | assumption | omega)) (RocketAt.l0 hk) (RocketAt.e0 hk _) rfl qw590 qw15 qw690 rfl rfl ⟨Nat.le_of_ble_eq_true rfl, Nat.le_of_ble_eq_true rfl⟩ (by decide +kernel) qw588 qw589 rfl rfl (Nat.le_of_ble_eq_true rfl) dX9_holdsAt_17 (fun r m3 hq3 => ?_)
  obtain ⟨z3, rfl, rfl, rfl⟩ := hq3
  show V E (wC D cy aa ad) 3 m 20 [(0, .ref (aa o)), (1, .ref (aa k)), (2, .int (iz (s)))] [.int (iz (m kf (s * 9 + 7))), .int (iz (mgZ (m kf) s (m kf (s * 9 + 8)) (m t s)))]
  refine v_icmp_lt (tgt := 27) C dX9_holdsAt_20 (by decide) (by omega) (by omega) (fun c4 => ?_) (fun c4 => ?_)
  · refine v_iconst (z := 0) C dX9_holdsAt_27 rfl ?_
    refine v_iret C X (by decide) dX9_holdsAt_28 ⟨_, rfl, Or.inr ⟨rfl, ?_, ?_⟩⟩
    · unfold hoZ; omega
    · rfl
  · refine v_iconst (z := 1) C dX9_holdsAt_23 rfl ?_
    refine v_goto (tgt := 28) C dX9_holdsAt_24 (by decide) ?_
    refine v_iret C X (by decide) dX9_holdsAt_28 ⟨_, rfl, Or.inl ⟨rfl, ?_, ?_⟩⟩
    · unfold hoZ; omega
    · rfl

set_option maxHeartbeats 4000000 in
set_option maxRecDepth 100000 in
theorem ct_Weights_holdsAll {lau : Launch} {D : va_G} {cy : Nat → ClassId} {aa ad : Nat → Nat} (hI : wI (wC D cy aa ad)) (m : Mem) (o u t e : Nat) (k kf ks kt kc : Nat) (hw : WeightsAt o u t e) (hk : RocketAt k kf ks kt kc) (hR : 1 ≤ m k 5 ∧ m k 5 ≤ 3) (hF : FaOk (m kf) (m k 5)) (ht : ∀ j : Int, 0 ≤ j → j < m k 5 → 1 ≤ m t j ∧ m t j ≤ 400) : MT lau (wC D cy aa ad) yX9_holdsAll cX9_holdsAll 3 (some .boolean) ({ frames := 3, cells := 0, slots := 0, locals := 69 } : Room) m [.ref (aa o), .ref (aa k)] (Pi (fun z m' => (1 = z ∧ (∀ j : Int, 0 ≤ j → j < m k 5 → hoZ (m kf) j (m t j)) ∧ m = m') ∨ (0 = z ∧ ¬ (∀ j : Int, 0 ≤ j → j < m k 5 → hoZ (m kf) j (m t j)) ∧ m = m'))) := by
  refine v_entry hI RX9 (by decide) rfl (Nat.le_of_ble_eq_true rfl) (fun E hE C X => ?_)
  subst hE
  show V E (wC D cy aa ad) 3 m 0 [(0, .ref (aa o)), (1, .ref (aa k))] []
  refine v_iconst (z := 0) C dX9_holdsAll_0 rfl ?_
  refine v_istore_n (L1 := [(2, .int (iz (0))), (0, .ref (aa o)), (1, .ref (aa k))]) C dX9_holdsAll_1 (by decide) rfl ?_
  have K2 : ∀ (nK : Nat) (i : Int) (hi : 0 ≤ i ∧ i ≤ m k 5) (ha : ∀ j : Int, 0 ≤ j → j < i → hoZ (m kf) j (m t j)), (m k 5 - i).toNat < nK → V E (wC D cy aa ad) 3 m 2 [(0, .ref (aa o)), (1, .ref (aa k)), (2, .int (iz (i)))] [] := by
    intro nK
    induction nK with
    | zero => intro i  hi ha hn; exact absurd hn (Nat.not_lt_zero _)
    | succ nK ih2 =>
      intro i  hi ha hn2
      refine v_iload_n C 2 dX9_holdsAll_2 rfl ?_
      refine v_aload_n C 1 dX9_holdsAll_3 rfl ?_
      refine v_get C k 5 (RocketAt.l0 hk) (RocketAt.e0 hk _) rfl inX6 (by decide) rfl qw384 dX9_holdsAll_4 ?_
      refine v_icmp_ge (tgt := 27) C dX9_holdsAll_7 (by decide) (by omega) (by omega) (fun c1 => ?_) (fun c1 => ?_)
      · refine v_iconst (z := 1) C dX9_holdsAll_27 rfl ?_
        refine v_iret C X (by decide) dX9_holdsAll_28 ⟨_, rfl, Or.inl ⟨rfl, ?_, ?_⟩⟩
        · exact fun j h0 h1 => ha j h0 (by omega)
        · rfl
      · refine v_aload_n C 0 dX9_holdsAll_10 rfl ?_
        refine v_aload_n C 1 dX9_holdsAll_11 rfl ?_
        refine v_iload_n C 2 dX9_holdsAll_12 rfl ?_
        refine v_callV (st := []) (n := 2) (q := o) C [.ref (aa k), .int (iz (i))] (ct_Weights_holdsAt C.2.2.2.2.2.2.1 m (o) (u) (t) (e) (k) (kf) (ks) (kt) (kc) (i) (m k 5) hw hk (by first | assumption | omega) (by first | assumption | omega) (by first | assumption | omega) (by exact ht i (by omega) (by omega))) (WeightsAt.l0 hw) (WeightsAt.e0 hw _) rfl qw689 qw8 qw795 rfl rfl ⟨Nat.le_of_ble_eq_true rfl, Nat.le_of_ble_eq_true rfl⟩ (by decide +kernel) qw687 qw688 rfl rfl (Nat.le_of_ble_eq_true rfl) dX9_holdsAll_13 (fun r m2 hq2 => ?_)
        obtain ⟨z2, rfl, ⟨rfl, hq2, rfl⟩ | ⟨rfl, hq2, rfl⟩⟩ := hq2
        · show V E (wC D cy aa ad) 3 m 16 [(0, .ref (aa o)), (1, .ref (aa k)), (2, .int (iz (i)))] [.int (iz (1))]
          refine v_if_ne (tgt := 21) C dX9_holdsAll_16 (by decide) (by omega) (fun c3 => ?_) (fun c3 => by exact absurd c3 (by decide))
          refine v_iinc (L1 := [(2, .int (iz (i + 1))), (0, .ref (aa o)), (1, .ref (aa k))]) C 2 dX9_holdsAll_21 rfl (by decide) rfl ?_
          refine v_goto (tgt := 2) C dX9_holdsAll_24 (by decide) ?_
          refine v_sub [1, 2, 0] rfl ?_
          exact ih2 (i + 1)  (by first | assumption | omega) (by 
                        intro j h0 h1
                        by_cases q : j = i
                        · subst q; exact hq2
                        · exact ha j h0 (by omega)
                      ) (by omega)
        · show V E (wC D cy aa ad) 3 m 16 [(0, .ref (aa o)), (1, .ref (aa k)), (2, .int (iz (i)))] [.int (iz (0))]
          refine v_if_ne (tgt := 21) C dX9_holdsAll_16 (by decide) (by omega) (fun c4 => by exact absurd c4 (by decide)) (fun c4 => ?_)
          refine v_iconst (z := 0) C dX9_holdsAll_19 rfl ?_
          refine v_iret C X (by decide) dX9_holdsAll_20 ⟨_, rfl, Or.inr ⟨rfl, ?_, ?_⟩⟩
          · exact fun h => hq2 (h i (by omega) (by omega))
          · rfl
  refine v_sub [1, 2, 0] rfl ?_
  exact K2 _ (0)  (by first | assumption | omega) (by intro j h0 h1; omega) (Nat.lt_succ_self _)

set_option maxHeartbeats 4000000 in
set_option maxRecDepth 100000 in
theorem ct_Ratio_clear {lau : Launch} {D : va_G} {cy : Nat → ClassId} {aa ad : Nat → Nat} (hI : wI (wC D cy aa ad)) (m : Mem) (ro rb rp rr : Nat) (hr : RatioAt ro rb rp rr) : MT lau (wC D cy aa ad) yX4_clear cX4_clear 1 (none) ({ frames := 0, cells := 0, slots := 0, locals := 0 } : Room) m [.ref (aa ro)] (Pv (fun m' => mup m ro 3 0 = m')) := by
  refine v_entry hI RX4 (by decide) rfl (Nat.le_of_ble_eq_true rfl) (fun E hE C X => ?_)
  subst hE
  show V E (wC D cy aa ad) 1 m 0 [(0, .ref (aa ro))] []
  refine v_aload_n C 0 dX4_clear_0 rfl ?_
  refine v_iconst (z := 0) C dX4_clear_1 rfl ?_
  refine v_put C ro 3 (0) 3 rfl (RatioAt.l0 hr) (RatioAt.e0 hr _) rfl inX4 tyX4 tyX4_ok nmX4 (by decide) qw207 rfl rfl rfl (Nat.le_of_ble_eq_true rfl) (by rw [mup_r]; exact (RatioAt.e0 hr _)) dX4_clear_2 (fun m1 em1 => ?_)
  refine v_vret C X dX4_clear_5 ⟨rfl, ?_⟩
  exact em1.symm

set_option maxHeartbeats 4000000 in
set_option maxRecDepth 100000 in
theorem ct_Ratio_multiply {lau : Launch} {D : va_G} {cy : Nat → ClassId} {aa ad : Nat → Nat} (hI : wI (wC D cy aa ad)) (m : Mem) (ro rb rp rr : Nat) (l : List (Int × Int)) (x y : Int) (hr : RatioAt ro rb rp rr) (hl : RatL m ro rb rp l) (hn : l.length < 8) : MT lau (wC D cy aa ad) yX4_multiply cX4_multiply 3 (none) ({ frames := 1, cells := 0, slots := 0, locals := 22 } : Room) m [.ref (aa ro), .int (iz (x)), .int (iz (y))] (Pv (fun m' => RatL m' ro rb rp (l ++ [(x, y)]) ∧ (∀ q, q ≠ ro → q ≠ rb → q ≠ rp → m' q = m q))) := by
  refine v_entry hI RX4 (by decide) rfl (Nat.le_of_ble_eq_true rfl) (fun E hE C X => ?_)
  subst hE
  show V E (wC D cy aa ad) 3 m 0 [(0, .ref (aa ro)), (1, .int (iz (x))), (2, .int (iz (y)))] []
  have hne : rb ≠ ro ∧ rp ≠ ro ∧ rp ≠ rb ∧ ro ≠ rb ∧ ro ≠ rp ∧ rb ≠ rp := by unfold RatioAt at hr; omega
  have h1 := hl.1
  refine v_aload_n C 0 dX4_multiply_0 rfl ?_
  refine v_get C ro 0 (RatioAt.l0 hr) (RatioAt.e0 hr _) rfl inX4 (by decide) rfl qw204 dX4_multiply_1 ?_
  refine v_aload_n C 0 dX4_multiply_4 rfl ?_
  refine v_get C ro 3 (RatioAt.l0 hr) (RatioAt.e0 hr _) rfl inX4 (by decide) rfl qw207 dX4_multiply_5 ?_
  refine v_iload_n C 1 dX4_multiply_8 rfl ?_
  refine v_callSN (st := []) (n := 3) C [.ref (aa rb), .int (iz (m ro 3)), .int (iz (x))] (ct_StageRatios_put C.2.2.2.2.2.2.1 m (rb) (8) (m ro 3) (x) ⟨(RatioAt.l1 hr), by decide, (RatioAt.e1 hr)⟩ (by first | assumption | omega)) qw494 qw1 "StageRatios" (by decide +kernel) rfl rfl ⟨Nat.le_of_ble_eq_true rfl, Nat.le_of_ble_eq_true rfl⟩ (by decide +kernel) qw493 rfl rfl (Nat.le_of_ble_eq_true rfl) dX4_multiply_9 (fun r m1 hq1 => ?_)
  obtain ⟨rfl, hq1⟩ := hq1
  show V E (wC D cy aa ad) 3 m1 12 [(0, .ref (aa ro)), (1, .int (iz (x))), (2, .int (iz (y)))] []
  have e9 : m1 ro 3 = m ro 3 := by rw [← hq1, mup_k _ _ _ hne.2.2.2.1]
  refine v_aload_n C 0 dX4_multiply_12 rfl ?_
  refine v_get C ro 1 (RatioAt.l0 hr) (RatioAt.e0 hr _) rfl inX4 (by decide) rfl qw205 dX4_multiply_13 ?_
  refine v_aload_n C 0 dX4_multiply_16 rfl ?_
  refine v_get C ro 3 (RatioAt.l0 hr) (RatioAt.e0 hr _) rfl inX4 (by decide) rfl qw207 dX4_multiply_17 ?_
  refine v_iload_n C 2 dX4_multiply_20 rfl ?_
  refine v_callSN (st := []) (n := 3) C [.ref (aa rp), .int (iz (m1 ro 3)), .int (iz (y))] (ct_StageRatios_put C.2.2.2.2.2.2.1 m1 (rp) (8) (m1 ro 3) (y) ⟨(RatioAt.l2 hr), by decide, (RatioAt.e2 hr)⟩ (by first | assumption | omega)) qw494 qw1 "StageRatios" (by decide +kernel) rfl rfl ⟨Nat.le_of_ble_eq_true rfl, Nat.le_of_ble_eq_true rfl⟩ (by decide +kernel) qw493 rfl rfl (Nat.le_of_ble_eq_true rfl) dX4_multiply_21 (fun r m2 hq2 => ?_)
  obtain ⟨rfl, hq2⟩ := hq2
  show V E (wC D cy aa ad) 3 m2 24 [(0, .ref (aa ro)), (1, .int (iz (x))), (2, .int (iz (y)))] []
  have e21 : m2 ro 3 = m ro 3 := by rw [← hq2, mup_k _ _ _ hne.2.2.2.2.1]; exact e9
  refine v_aload_n C 0 dX4_multiply_24 rfl ?_
  refine v_dup C dX4_multiply_25 rfl ?_
  refine v_get C ro 3 (RatioAt.l0 hr) (RatioAt.e0 hr _) rfl inX4 (by decide) rfl qw207 dX4_multiply_26 ?_
  refine v_iconst (z := 1) C dX4_multiply_29 rfl ?_
  refine v_iadd C dX4_multiply_30 ?_
  refine v_put C ro 3 ((m2 ro 3) + 1) 3 rfl (RatioAt.l0 hr) (RatioAt.e0 hr _) rfl inX4 tyX4 tyX4_ok nmX4 (by decide) qw207 rfl rfl rfl (Nat.le_of_ble_eq_true rfl) (by rw [mup_r]; exact (RatioAt.e0 hr _)) dX4_multiply_31 (fun m3 em3 => ?_)
  refine v_vret C X dX4_multiply_34 ⟨rfl, ?_⟩
  have e : m3 = mup (mup (mup m rb (m ro 3) x) rp (m ro 3) y) ro 3 (m ro 3 + 1) := by rw [em3, e21, ← hq2, e9, ← hq1]
  rw [e]
  exact ⟨hl.push hne.1 hne.2.1 hne.2.2.1, fun q h1 h2 h3 => by rw [mup_k _ _ _ h1, mup_k _ _ _ h3, mup_k _ _ _ h2]⟩

set_option maxHeartbeats 4000000 in
set_option maxRecDepth 100000 in
theorem ct_Weights_speedInto {lau : Launch} {D : va_G} {cy : Nat → ClassId} {aa ad : Nat → Nat} (hI : wI (wC D cy aa ad)) (m : Mem) (o u t e : Nat) (k kf ks kt kc : Nat) (ro rb rp rr : Nat) (hw : WeightsAt o u t e) (hk : RocketAt k kf ks kt kc) (hr : RatioAt ro rb rp rr) (hR : 1 ≤ m k 5 ∧ m k 5 ≤ 3) : MT lau (wC D cy aa ad) yX9_speedInto cX9_speedInto 4 (none) ({ frames := 2, cells := 0, slots := 0, locals := 44 } : Room) m [.ref (aa o), .ref (aa k), .ref (aa ro)] (Pv (fun m' => RatL m' ro rb rp (spL (m kf) (m t) (m e) (m k 5).toNat) ∧ (∀ q, q ≠ ro → q ≠ rb → q ≠ rp → m' q = m q))) := by
  refine v_entry hI RX9 (by decide) rfl (Nat.le_of_ble_eq_true rfl) (fun E hE C X => ?_)
  subst hE
  show V E (wC D cy aa ad) 4 m 0 [(0, .ref (aa o)), (1, .ref (aa k)), (2, .ref (aa ro))] []
  have hne : k ≠ ro ∧ k ≠ rb ∧ k ≠ rp ∧ kf ≠ ro ∧ kf ≠ rb ∧ kf ≠ rp ∧ t ≠ ro ∧ t ≠ rb ∧ t ≠ rp ∧ e ≠ ro ∧ e ≠ rb ∧ e ≠ rp := by unfold RatioAt at hr; unfold RocketAt at hk; unfold WeightsAt at hw; omega
  have hne3 : rb ≠ ro ∧ rp ≠ ro := by unfold RatioAt at hr; omega
  refine v_aload_n C 2 dX9_speedInto_0 rfl ?_
  refine v_callV (st := []) (n := 0) (q := ro) C [] (ct_Ratio_clear C.2.2.2.2.2.2.1 m (ro) (rb) (rp) (rr) hr) (RatioAt.l0 hr) (RatioAt.e0 hr _) rfl qw729 qw9 qw726 rfl rfl ⟨Nat.le_of_ble_eq_true rfl, Nat.le_of_ble_eq_true rfl⟩ (by decide +kernel) qw727 qw728 rfl rfl (Nat.le_of_ble_eq_true rfl) dX9_speedInto_1 (fun r m1 hq1 => ?_)
  obtain ⟨rfl, hq1⟩ := hq1
  show V E (wC D cy aa ad) 4 m1 4 [(0, .ref (aa o)), (1, .ref (aa k)), (2, .ref (aa ro))] []
  refine v_iconst (z := 0) C dX9_speedInto_4 rfl ?_
  refine v_istore_n (L1 := [(3, .int (iz (0))), (0, .ref (aa o)), (1, .ref (aa k)), (2, .ref (aa ro))]) C dX9_speedInto_5 (by decide) rfl ?_
  have K6 : ∀ (nK : Nat) (i : Int) (mL : Mem) (hi : 0 ≤ i ∧ i ≤ m k 5) (hl : RatL mL ro rb rp (spL (m kf) (m t) (m e) i.toNat)) (hf : ∀ q, q ≠ ro → q ≠ rb → q ≠ rp → mL q = m q), (m k 5 - i).toNat < nK → V E (wC D cy aa ad) 4 mL 6 [(0, .ref (aa o)), (1, .ref (aa k)), (2, .ref (aa ro)), (3, .int (iz (i)))] [] := by
    intro nK
    induction nK with
    | zero => intro i mL hi hl hf hn; exact absurd hn (Nat.not_lt_zero _)
    | succ nK ih6 =>
      intro i mL hi hl hf hn6
      have hk1 : mL k = m k := hf k hne.1 hne.2.1 hne.2.2.1
      have hk5 : mL k 5 = m k 5 := by rw [hk1]
      have hkf : mL kf = m kf := hf kf hne.2.2.2.1 hne.2.2.2.2.1 hne.2.2.2.2.2.1
      have ht1 : mL t = m t := hf t hne.2.2.2.2.2.2.1 hne.2.2.2.2.2.2.2.1 hne.2.2.2.2.2.2.2.2.1
      have he1 : mL e = m e := hf e hne.2.2.2.2.2.2.2.2.2.1 hne.2.2.2.2.2.2.2.2.2.2.1 hne.2.2.2.2.2.2.2.2.2.2.2
      have hln := spL_len (m kf) (m t) (m e) i.toNat
      refine v_iload_n C 3 dX9_speedInto_6 rfl ?_
      refine v_aload_n C 1 dX9_speedInto_7 rfl ?_
      refine v_get C k 5 (RocketAt.l0 hk) (RocketAt.e0 hk _) rfl inX6 (by decide) rfl qw384 dX9_speedInto_8 ?_
      refine v_icmp_ge (tgt := 57) C dX9_speedInto_11 (by decide) (by omega) (by omega) (fun c2 => ?_) (fun c2 => ?_)
      · refine v_vret C X dX9_speedInto_57 ⟨rfl, ?_⟩
        rw [show i = m k 5 by omega] at hl; exact ⟨hl, hf⟩
      · refine v_aload_n C 2 dX9_speedInto_14 rfl ?_
        refine v_aload_n C 0 dX9_speedInto_15 rfl ?_
        refine v_get C o 1 (WeightsAt.l0 hw) (WeightsAt.e0 hw _) rfl inX9 (by decide) rfl qw181 dX9_speedInto_16 ?_
        refine v_iload_n C 3 dX9_speedInto_19 rfl ?_
        refine v_callSN (st := [.ref (aa ro)]) (n := 2) C [.ref (aa t), .int (iz (i))] (ct_StageRatios_at C.2.2.2.2.2.2.1 mL (t) (3) (i) ⟨(WeightsAt.l2 hw), by decide, (WeightsAt.e2 hw)⟩ (by first | assumption | omega)) qw618 qw1 "StageRatios" (by decide +kernel) rfl rfl ⟨Nat.le_of_ble_eq_true rfl, Nat.le_of_ble_eq_true rfl⟩ (by decide +kernel) qw617 rfl rfl (Nat.le_of_ble_eq_true rfl) dX9_speedInto_20 (fun r m3 hq3 => ?_)
        obtain ⟨z3, rfl, rfl, rfl⟩ := hq3
        show V E (wC D cy aa ad) 4 mL 23 [(0, .ref (aa o)), (1, .ref (aa k)), (2, .ref (aa ro)), (3, .int (iz (i)))] [.int (iz (mL t i)), .ref (aa ro)]
        refine v_aload_n C 1 dX9_speedInto_23 rfl ?_
        refine v_iload_n C 3 dX9_speedInto_24 rfl ?_
        refine v_iconst (z := 0) C dX9_speedInto_25 rfl ?_
        refine v_callV (st := [.int (iz (mL t i)), .ref (aa ro)]) (n := 2) (q := k) C [.int (iz (i)), .int (iz (0))] (ct_Rocket_fact C.2.2.2.2.2.2.1 mL (k) (kf) (ks) (kt) (kc) (i) (0) hk (by first | assumption | omega) (by first | assumption | omega)) (RocketAt.l0 hk) (RocketAt.e0 hk _) rfl qw590 qw15 qw690 rfl rfl ⟨Nat.le_of_ble_eq_true rfl, Nat.le_of_ble_eq_true rfl⟩ (by decide +kernel) qw588 qw589 rfl rfl (Nat.le_of_ble_eq_true rfl) dX9_speedInto_26 (fun r m4 hq4 => ?_)
        obtain ⟨z4, rfl, rfl, rfl⟩ := hq4
        show V E (wC D cy aa ad) 4 mL 29 [(0, .ref (aa o)), (1, .ref (aa k)), (2, .ref (aa ro)), (3, .int (iz (i)))] [.int (iz (mL kf (i * 9 + 0))), .int (iz (mL t i)), .ref (aa ro)]
        refine v_callV (st := []) (n := 2) (q := ro) C [.int (iz (mL t i)), .int (iz (mL kf (i * 9 + 0)))] (ct_Ratio_multiply C.2.2.2.2.2.2.1 mL (ro) (rb) (rp) (rr) (spL (m kf) (m t) (m e) i.toNat) (mL t i) (mL kf (i * 9 + 0)) hr (by exact hl) (by first | assumption | omega)) (RatioAt.l0 hr) (RatioAt.e0 hr _) rfl qw733 qw9 qw730 rfl rfl ⟨Nat.le_of_ble_eq_true rfl, Nat.le_of_ble_eq_true rfl⟩ (by decide +kernel) qw731 qw732 rfl rfl (Nat.le_of_ble_eq_true rfl) dX9_speedInto_29 (fun r m5 hq5 => ?_)
        obtain ⟨rfl, hq5⟩ := hq5
        show V E (wC D cy aa ad) 4 m5 32 [(0, .ref (aa o)), (1, .ref (aa k)), (2, .ref (aa ro)), (3, .int (iz (i)))] []
        have hkf2 : m5 kf = mL kf := hq5.2 kf hne.2.2.2.1 hne.2.2.2.2.1 hne.2.2.2.2.2.1
        have hte2 : m5 e = mL e := hq5.2 e hne.2.2.2.2.2.2.2.2.2.1 hne.2.2.2.2.2.2.2.2.2.2.1 hne.2.2.2.2.2.2.2.2.2.2.2
        refine v_aload_n C 2 dX9_speedInto_32 rfl ?_
        refine v_aload_n C 0 dX9_speedInto_33 rfl ?_
        refine v_get C o 2 (WeightsAt.l0 hw) (WeightsAt.e0 hw _) rfl inX9 (by decide) rfl qw184 dX9_speedInto_34 ?_
        refine v_iload_n C 3 dX9_speedInto_37 rfl ?_
        refine v_callSN (st := [.ref (aa ro)]) (n := 2) C [.ref (aa e), .int (iz (i))] (ct_StageRatios_at C.2.2.2.2.2.2.1 m5 (e) (3) (i) ⟨(WeightsAt.l3 hw), by decide, (WeightsAt.e3 hw)⟩ (by first | assumption | omega)) qw618 qw1 "StageRatios" (by decide +kernel) rfl rfl ⟨Nat.le_of_ble_eq_true rfl, Nat.le_of_ble_eq_true rfl⟩ (by decide +kernel) qw617 rfl rfl (Nat.le_of_ble_eq_true rfl) dX9_speedInto_38 (fun r m6 hq6 => ?_)
        obtain ⟨z6, rfl, rfl, rfl⟩ := hq6
        show V E (wC D cy aa ad) 4 m5 41 [(0, .ref (aa o)), (1, .ref (aa k)), (2, .ref (aa ro)), (3, .int (iz (i)))] [.int (iz (m5 e i)), .ref (aa ro)]
        refine v_aload_n C 1 dX9_speedInto_41 rfl ?_
        refine v_iload_n C 3 dX9_speedInto_42 rfl ?_
        refine v_iconst (z := 0) C dX9_speedInto_43 rfl ?_
        refine v_callV (st := [.int (iz (m5 e i)), .ref (aa ro)]) (n := 2) (q := k) C [.int (iz (i)), .int (iz (0))] (ct_Rocket_fact C.2.2.2.2.2.2.1 m5 (k) (kf) (ks) (kt) (kc) (i) (0) hk (by first | assumption | omega) (by first | assumption | omega)) (RocketAt.l0 hk) (RocketAt.e0 hk _) rfl qw590 qw15 qw690 rfl rfl ⟨Nat.le_of_ble_eq_true rfl, Nat.le_of_ble_eq_true rfl⟩ (by decide +kernel) qw588 qw589 rfl rfl (Nat.le_of_ble_eq_true rfl) dX9_speedInto_44 (fun r m7 hq7 => ?_)
        obtain ⟨z7, rfl, rfl, rfl⟩ := hq7
        show V E (wC D cy aa ad) 4 m5 47 [(0, .ref (aa o)), (1, .ref (aa k)), (2, .ref (aa ro)), (3, .int (iz (i)))] [.int (iz (m5 kf (i * 9 + 0))), .int (iz (m5 e i)), .ref (aa ro)]
        refine v_ineg C dX9_speedInto_47 ?_
        refine v_callV (st := []) (n := 2) (q := ro) C [.int (iz (m5 e i)), .int (iz (-(m5 kf (i * 9 + 0))))] (ct_Ratio_multiply C.2.2.2.2.2.2.1 m5 (ro) (rb) (rp) (rr) (spL (m kf) (m t) (m e) i.toNat ++ [(mL t i, mL kf (i * 9 + 0))]) (m5 e i) (-(m5 kf (i * 9 + 0))) hr (by exact hq5.1) (by rw [List.length_append, hln]; show 2 * i.toNat + 1 < 8; omega)) (RatioAt.l0 hr) (RatioAt.e0 hr _) rfl qw733 qw9 qw730 rfl rfl ⟨Nat.le_of_ble_eq_true rfl, Nat.le_of_ble_eq_true rfl⟩ (by decide +kernel) qw731 qw732 rfl rfl (Nat.le_of_ble_eq_true rfl) dX9_speedInto_48 (fun r m8 hq8 => ?_)
        obtain ⟨rfl, hq8⟩ := hq8
        show V E (wC D cy aa ad) 4 m8 51 [(0, .ref (aa o)), (1, .ref (aa k)), (2, .ref (aa ro)), (3, .int (iz (i)))] []
        refine v_iinc (L1 := [(3, .int (iz (i + 1))), (0, .ref (aa o)), (1, .ref (aa k)), (2, .ref (aa ro))]) C 3 dX9_speedInto_51 rfl (by decide) rfl ?_
        refine v_goto (tgt := 6) C dX9_speedInto_54 (by decide) ?_
        refine v_sub [1, 2, 3, 0] rfl ?_
        exact ih6 (i + 1) m8 (by first | assumption | omega) (by 
                    have e0 : (i + 1).toNat = i.toNat + 1 := by omega
                    have e2 : ((i.toNat : Nat) : Int) = i := by omega
                    rw [e0]
                    show RatL _ ro rb rp (spL (m kf) (m t) (m e) i.toNat ++ _)
                    rw [e2]
                    have := hq8.1
                    rw [hkf2, hte2, hkf, ht1, he1, List.append_assoc] at this
                    exact this
                  ) (by intro q h1 h2 h3; rw [hq8.2 q h1 h2 h3, hq5.2 q h1 h2 h3]; exact hf q h1 h2 h3) (by omega)
  refine v_sub [1, 2, 3, 0] rfl ?_
  exact K6 _ (0) m1 (by first | assumption | omega) (by rw [← hq1]; exact ⟨by rw [mup_s]; rfl, fun i q hq => by cases hq⟩) (by intro q h1 h2 h3; rw [← hq1, mup_k _ _ _ h1]) (Nat.lt_succ_self _)
