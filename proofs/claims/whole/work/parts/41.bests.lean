set_option maxHeartbeats 4000000 in
set_option maxRecDepth 100000 in
theorem ct_StageRatios_least {lau : Launch} {D : va_G} {cy : Nat → ClassId} {aa ad : Nat → Nat} (hI : wI (wC D cy aa ad)) (m : Mem) (k kf ks kt kc : Nat) (k0 : Int) (hci : CI m k kf ks kt kc) (hk0 : -2147483648 ≤ k0 ∧ k0 ≤ 2147483647) : MT lau (wC D cy aa ad) yX10_least cX10_least 3 (some .int) ({ frames := 6, cells := 0, slots := 0, locals := 172 } : Room) m [.ref (aa 0), .int (iz (k0))] (Pi (fun z m' => (QP (qLea (m 0 15) (m kf) (m k) (m 5) k0) m m' z) ∧ CI m' k kf ks kt kc)) := by
  refine v_entry hI RX10 (by decide) rfl (Nat.le_of_ble_eq_true rfl) (fun E hE C X => ?_)
  subst hE
  show V E (wC D cy aa ad) 3 m 0 [(0, .ref (aa 0)), (1, .int (iz (k0)))] []
  obtain ⟨hk, hcu, htd, -⟩ := id hci
  have ht01 : m 0 15 = 0 ∨ m 0 15 = 1 := htd.imp (fun a => a) (fun a => a.1)
  refine v_aload_n C 0 dX10_least_0 rfl ?_
  refine v_get C 0 15 lC0 (eC0 _) rfl inX10 (by decide) rfl qw434 dX10_least_1 ?_
  refine v_if_ne (tgt := 13) C dX10_least_4 (by decide) (by omega) (fun c1 => ?_) (fun c1 => ?_)
  · obtain ⟨hT1, hti⟩ := htd.resolve_left (by omega)
    obtain ⟨hrk, hX, -⟩ := id hti
    obtain ⟨hk5, hF, hup, hlw, hpl, hnf, hfa, -⟩ := id hrk
    have hkk : 73 ≤ k ∧ 73 ≤ kf ∧ 73 ≤ ks ∧ 73 ≤ kt ∧ 73 ≤ kc := by unfold RocketAt at hk; omega
    have hUr := hX.u hF
    have hDv := hX.dv hF hk5
    refine v_iload_n C 1 dX10_least_13 rfl ?_
    refine v_callS (st := []) (n := 1) C [.int (iz (k0))] (ct_StageRatios_isPower C.2.2.2.2.2.2.1 m (k0) (by first | assumption | omega)) qw717 qw1 qw715 rfl rfl ⟨Nat.le_of_ble_eq_true rfl, Nat.le_of_ble_eq_true rfl⟩ (by decide +kernel) qw716 rfl rfl (Nat.le_of_ble_eq_true rfl) dX10_least_14 (fun r m2 hq2 => ?_)
    obtain ⟨z2, rfl, ⟨rfl, hq2, rfl⟩ | ⟨rfl, hq2, rfl⟩⟩ := hq2
    · show V E (wC D cy aa ad) 3 m 17 [(0, .ref (aa 0)), (1, .int (iz (k0)))] [.int (iz (1))]
      refine v_if_ne (tgt := 26) C dX10_least_17 (by decide) (by omega) (fun c3 => ?_) (fun c3 => by exact absurd c3 (by decide))
      refine v_aload_n C 0 dX10_least_26 rfl ?_
      refine v_get C 0 9 lC0 (eC0 _) rfl inX10 (by decide) rfl qw428 dX10_least_27 ?_
      refine v_aload_n C 0 dX10_least_30 rfl ?_
      refine v_get C 0 13 lC0 (eC0 _) rfl inX10 (by decide) rfl qw432 dX10_least_31 ?_
      refine v_st (st1 := [.ref (aa k), .ref (aa 8)]) (by rw [show (m 0 13).toNat = k from by assumption]) ?_
      refine v_aload_n C 0 dX10_least_34 rfl ?_
      refine v_get C 0 2 lC0 (eC0 _) rfl inX10 (by decide) rfl qw421 dX10_least_35 ?_
      refine v_aload_n C 0 dX10_least_38 rfl ?_
      refine v_get C 0 4 lC0 (eC0 _) rfl inX10 (by decide) rfl qw423 dX10_least_39 ?_
      refine v_callV (st := []) (n := 3) (q := 8) C [.ref (aa k), .ref (aa 5), .ref (aa 19)] (ct_Choice_prepare C.2.2.2.2.2.2.1 m (k) (kf) (ks) (kt) (kc) hk (by first | assumption | omega) (by exact hX.1) (by exact hti.2.2.1.1) (by exact hti.2.2.1.2)) lC8 (eC8 _) rfl qw819 qw12 qw816 rfl rfl ⟨Nat.le_of_ble_eq_true rfl, Nat.le_of_ble_eq_true rfl⟩ (by decide +kernel) qw817 qw818 rfl rfl (Nat.le_of_ble_eq_true rfl) dX10_least_42 (fun r m4 hq4 => ?_)
      obtain ⟨rfl, hq4⟩ := hq4
      show V E (wC D cy aa ad) 3 m4 45 [(0, .ref (aa 0)), (1, .int (iz (k0)))] []
      have hvd := hti.vd
      have hLd : LdOk m4 (m kf) (m k) (m 5) := ⟨hq4.1, hq4.2.1⟩
      have hbx : ∀ j : Int, 0 ≤ j → j < 3 → m4 10 j = loX (m 5) j ∧ m4 11 j = hiX (m 5) j := hq4.2.2.1
      have o1 : ∀ q, (q < 8 ∨ (12 ≤ q ∧ q < 15) ∨ (23 ≤ q ∧ q < 39) ∨ 42 ≤ q) → m4 q = m q := hq4.2.2.2
      have hcu1 : (m4 0 13).toNat = k := by rw [o1 0 (by decide)]; exact hcu
      have k1 := o1 k (by omega)
      have kf1 := o1 kf (by omega)
      have e51 := o1 5 (by decide)
      have hlh1 : ∀ j : Int, 0 ≤ j → j < 3 → (0 ≤ m4 10 j ∧ m4 10 j ≤ 16) ∧ (0 ≤ m4 11 j ∧ m4 11 j ≤ 16) := fun j h0 h1 => by rw [(hbx j h0 h1).1, (hbx j h0 h1).2]; exact hvd.bx j h0 h1
      have hce1 := hLd.ce hvd
      have hch1 := hLd.ch hvd
      have hou1 : OuOk m4 (m kf) (m k) (m 5) := hti.2.2.2.1.same (o1 0 (by decide)) (o1 12 (by decide)) (o1 14 (by decide))
      refine v_aload_n C 0 dX10_least_45 rfl ?_
      refine v_get C 0 9 lC0 (eC0 _) rfl inX10 (by decide) rfl qw428 dX10_least_46 ?_
      refine v_iload_n C 1 dX10_least_49 rfl ?_
      refine v_callV (st := []) (n := 1) (q := 8) C [.int (iz (k0))] (ct_Choice_best C.2.2.2.2.2.2.1 m4 (k0) (by first | assumption | omega) (by exact hlh1) (by exact hce1)) lC8 (eC8 _) rfl qw848 qw12 qw845 rfl rfl ⟨Nat.le_of_ble_eq_true rfl, Nat.le_of_ble_eq_true rfl⟩ (by decide +kernel) qw846 qw847 rfl rfl (Nat.le_of_ble_eq_true rfl) dX10_least_50 (fun r m5 hq5 => ?_)
      obtain ⟨z5, rfl, hq5, rfl⟩ := hq5
      show V E (wC D cy aa ad) 3 m4 53 [(0, .ref (aa 0)), (1, .int (iz (k0)))] [.int (iz (z5))]
      have hbe := hLd.be hvd hq2 hbx hq5
      have hzr : -1 ≤ z5 ∧ z5 < 4913 := by rcases hq5 with ⟨y, -⟩ | ⟨y, y2, -⟩ <;> omega
      refine v_istore_n (L1 := [(2, .int (iz (z5))), (0, .ref (aa 0)), (1, .int (iz (k0)))]) C dX10_least_53 (by decide) rfl ?_
      refine v_aload_n C 1 dX10_least_54 rfl ?_
      refine v_iload_n C 0 dX10_least_55 rfl ?_
      refine v_if_ge (tgt := 64) C dX10_least_56 (by decide) (by omega) (fun c6 => ?_) (fun c6 => ?_)
      · refine v_aload_n C 1 dX10_least_64 rfl ?_
        refine v_get C 0 9 lC0 (eC0 _) rfl inX10 (by decide) rfl qw428 dX10_least_65 ?_
        refine v_iload_n C 0 dX10_least_68 rfl ?_
        refine v_callV (st := [.ref (aa 0)]) (n := 1) (q := 8) C [.int (iz (z5))] (ct_Choice_weightOf C.2.2.2.2.2.2.1 m4 (z5) (by exact (hbe.2 (by omega)).1) (by have y := (hbe.2 (by omega)).1; exact ⟨(hbe.2 (by omega)).2.1, (hce1 _ y.1 y.2).2⟩)) lC8 (eC8 _) rfl qw865 qw12 qw866 rfl rfl ⟨Nat.le_of_ble_eq_true rfl, Nat.le_of_ble_eq_true rfl⟩ (by decide +kernel) qw863 qw864 rfl rfl (Nat.le_of_ble_eq_true rfl) dX10_least_69 (fun r m7 hq7 => ?_)
        obtain ⟨z7, rfl, rfl, rfl⟩ := hq7
        show V E (wC D cy aa ad) 3 m4 72 [(2, .int (iz (z5))), (0, .ref (aa 0)), (1, .int (iz (k0)))] [.int (iz (m4 9 z5 / 64)), .ref (aa 0)]
        refine v_callV (st := []) (n := 1) (q := 0) C [.int (iz (m4 9 z5 / 64))] (ct_StageRatios_answer C.2.2.2.2.2.2.1 m4 (m4 9 z5 / 64) ) lC0 (eC0 _) rfl qw640 qw1 qw637 rfl rfl ⟨Nat.le_of_ble_eq_true rfl, Nat.le_of_ble_eq_true rfl⟩ (by decide +kernel) qw639 qp16 rfl rfl (Nat.le_of_ble_eq_true rfl) dX10_least_72 (fun r m8 hq8 => ?_)
        obtain ⟨z8, rfl, rfl, hq8⟩ := hq8
        show V E (wC D cy aa ad) 3 m8 75 [(2, .int (iz (z5))), (0, .ref (aa 0)), (1, .int (iz (k0)))] [.int (iz ((m4 9 z5 / 64)))]
        refine v_iret C X rfl dX10_least_75 ⟨_, rfl, ?_, ?_⟩
        · rw [← hq8]
          refine ⟨0, ?_, by decide, CQ.of3 (fun q h => o1 q (by omega))⟩
          first
            | exact Or.inl ⟨hT1, hq2, rfl, z5, hbe.1, by rw [if_pos (by omega)]⟩
            | exact Or.inl ⟨hT1, hq2, rfl, z5, hbe.1, by rw [if_neg (by omega)]; exact (hbe.2 (by omega)).2.2⟩
        · rw [← hq8]; exact CI.of3 hk hcu hT1 hti (fun q h => o1 q (by omega)) hch1 hou1
      · refine v_bipush (z := -2) C dX10_least_59 (by decide) ?_
        refine v_goto (tgt := 72) C dX10_least_61 (by decide) ?_
        refine v_callV (st := []) (n := 1) (q := 0) C [.int (iz (-2))] (ct_StageRatios_answer C.2.2.2.2.2.2.1 m4 (-2) ) lC0 (eC0 _) rfl qw640 qw1 qw637 rfl rfl ⟨Nat.le_of_ble_eq_true rfl, Nat.le_of_ble_eq_true rfl⟩ (by decide +kernel) qw639 qp16 rfl rfl (Nat.le_of_ble_eq_true rfl) dX10_least_72 (fun r m9 hq9 => ?_)
        obtain ⟨z9, rfl, rfl, hq9⟩ := hq9
        show V E (wC D cy aa ad) 3 m9 75 [(2, .int (iz (z5))), (0, .ref (aa 0)), (1, .int (iz (k0)))] [.int (iz ((-2)))]
        refine v_iret C X rfl dX10_least_75 ⟨_, rfl, ?_, ?_⟩
        · rw [← hq9]
          refine ⟨0, ?_, by decide, CQ.of3 (fun q h => o1 q (by omega))⟩
          first
            | exact Or.inl ⟨hT1, hq2, rfl, z5, hbe.1, by rw [if_pos (by omega)]⟩
            | exact Or.inl ⟨hT1, hq2, rfl, z5, hbe.1, by rw [if_neg (by omega)]; exact (hbe.2 (by omega)).2.2⟩
        · rw [← hq9]; exact CI.of3 hk hcu hT1 hti (fun q h => o1 q (by omega)) hch1 hou1
    · show V E (wC D cy aa ad) 3 m 17 [(0, .ref (aa 0)), (1, .int (iz (k0)))] [.int (iz (0))]
      refine v_if_ne (tgt := 26) C dX10_least_17 (by decide) (by omega) (fun c10 => by exact absurd c10 (by decide)) (fun c10 => ?_)
      refine v_aload_n C 0 dX10_least_20 rfl ?_
      refine v_iconst (z := 2) C dX10_least_21 rfl ?_
      refine v_callV (st := []) (n := 1) (q := 0) C [.int (iz (2))] (ct_StageRatios_refuse C.2.2.2.2.2.2.1 m (2) ) lC0 (eC0 _) rfl qw502 qw1 qw499 rfl rfl ⟨Nat.le_of_ble_eq_true rfl, Nat.le_of_ble_eq_true rfl⟩ (by decide +kernel) qw501 qp0 rfl rfl (Nat.le_of_ble_eq_true rfl) dX10_least_22 (fun r m11 hq11 => ?_)
      obtain ⟨z11, rfl, rfl, hq11⟩ := hq11
      show V E (wC D cy aa ad) 3 m11 25 [(0, .ref (aa 0)), (1, .int (iz (k0)))] [.int (iz (-1))]
      refine v_iret C X rfl dX10_least_25 ⟨_, rfl, ?_, ?_⟩
      · rw [← hq11]
        exact ⟨2, Or.inr (Or.inl ⟨hT1, hq2, rfl, rfl⟩), by decide, CQ.of (fun _ _ => rfl)⟩
      · rw [← hq11]; exact hci.of (fun _ _ => rfl)
  · refine v_aload_n C 0 dX10_least_7 rfl ?_
    refine v_iconst (z := 1) C dX10_least_8 rfl ?_
    refine v_callV (st := []) (n := 1) (q := 0) C [.int (iz (1))] (ct_StageRatios_refuse C.2.2.2.2.2.2.1 m (1) ) lC0 (eC0 _) rfl qw502 qw1 qw499 rfl rfl ⟨Nat.le_of_ble_eq_true rfl, Nat.le_of_ble_eq_true rfl⟩ (by decide +kernel) qw501 qp0 rfl rfl (Nat.le_of_ble_eq_true rfl) dX10_least_9 (fun r m12 hq12 => ?_)
    obtain ⟨z12, rfl, rfl, hq12⟩ := hq12
    show V E (wC D cy aa ad) 3 m12 12 [(0, .ref (aa 0)), (1, .int (iz (k0)))] [.int (iz (-1))]
    refine v_iret C X rfl dX10_least_12 ⟨_, rfl, ?_, ?_⟩
    · rw [← hq12]
      exact ⟨1, Or.inr (Or.inr ⟨by omega, rfl, rfl⟩), by decide, CQ.of (fun _ _ => rfl)⟩
    · rw [← hq12]; exact hci.of (fun _ _ => rfl)

set_option maxHeartbeats 4000000 in
set_option maxRecDepth 100000 in
theorem ct_StageRatios_fuel {lau : Launch} {D : va_G} {cy : Nat → ClassId} {aa ad : Nat → Nat} (hI : wI (wC D cy aa ad)) (m : Mem) (k kf ks kt kc : Nat) (k0 s : Int) (hci : CI m k kf ks kt kc) (hk0 : -2147483648 ≤ k0 ∧ k0 ≤ 2147483647) (hs : -2147483648 ≤ s ∧ s ≤ 2147483647) : MT lau (wC D cy aa ad) yX10_fuel cX10_fuel 4 (some .int) ({ frames := 6, cells := 0, slots := 0, locals := 172 } : Room) m [.ref (aa 0), .int (iz (k0)), .int (iz (s))] (Pi (fun z m' => (QP (qFue (m 0 15) (m kf) (m k) (m 5) k0 s) m m' z) ∧ CI m' k kf ks kt kc)) := by
  refine v_entry hI RX10 (by decide) rfl (Nat.le_of_ble_eq_true rfl) (fun E hE C X => ?_)
  subst hE
  show V E (wC D cy aa ad) 4 m 0 [(0, .ref (aa 0)), (1, .int (iz (k0))), (2, .int (iz (s)))] []
  obtain ⟨hk, hcu, htd, -⟩ := id hci
  have ht01 : m 0 15 = 0 ∨ m 0 15 = 1 := htd.imp (fun a => a) (fun a => a.1)
  refine v_aload_n C 0 dX10_fuel_0 rfl ?_
  refine v_iload_n C 2 dX10_fuel_1 rfl ?_
  refine v_callV (st := []) (n := 1) (q := 0) C [.int (iz (s))] (ct_StageRatios_has C.2.2.2.2.2.2.1 m (k) (kf) (ks) (kt) (kc) (s) (by first | assumption | omega) (by first | assumption | omega) (by first | assumption | omega) (by first | assumption | omega)) lC0 (eC0 _) rfl qw661 qw1 qw658 rfl rfl ⟨Nat.le_of_ble_eq_true rfl, Nat.le_of_ble_eq_true rfl⟩ (by decide +kernel) qw660 qp17 rfl rfl (Nat.le_of_ble_eq_true rfl) dX10_fuel_2 (fun r m1 hq1 => ?_)
  obtain ⟨z1, rfl, ⟨rfl, hq1, rfl⟩ | ⟨rfl, hq1, rfl⟩⟩ := hq1
  · show V E (wC D cy aa ad) 4 m 5 [(0, .ref (aa 0)), (1, .int (iz (k0))), (2, .int (iz (s)))] [.int (iz (1))]
    refine v_if_ne (tgt := 14) C dX10_fuel_5 (by decide) (by omega) (fun c2 => ?_) (fun c2 => by exact absurd c2 (by decide))
    have hhs := hq1
    obtain ⟨hT1, hs0⟩ := id hhs
    obtain ⟨-, hti⟩ := htd.resolve_left (by omega)
    obtain ⟨hrk, hX, -⟩ := id hti
    obtain ⟨hk5, hF, hup, hlw, hpl, hnf, hfa, -⟩ := id hrk
    have hkk : 73 ≤ k ∧ 73 ≤ kf ∧ 73 ≤ ks ∧ 73 ≤ kt ∧ 73 ≤ kc := by unfold RocketAt at hk; omega
    have hUr := hX.u hF
    have hDv := hX.dv hF hk5
    refine v_iload_n C 1 dX10_fuel_14 rfl ?_
    refine v_callS (st := []) (n := 1) C [.int (iz (k0))] (ct_StageRatios_isPower C.2.2.2.2.2.2.1 m (k0) (by first | assumption | omega)) qw717 qw1 qw715 rfl rfl ⟨Nat.le_of_ble_eq_true rfl, Nat.le_of_ble_eq_true rfl⟩ (by decide +kernel) qw716 rfl rfl (Nat.le_of_ble_eq_true rfl) dX10_fuel_15 (fun r m3 hq3 => ?_)
    obtain ⟨z3, rfl, ⟨rfl, hq3, rfl⟩ | ⟨rfl, hq3, rfl⟩⟩ := hq3
    · show V E (wC D cy aa ad) 4 m 18 [(0, .ref (aa 0)), (1, .int (iz (k0))), (2, .int (iz (s)))] [.int (iz (1))]
      refine v_if_ne (tgt := 27) C dX10_fuel_18 (by decide) (by omega) (fun c4 => ?_) (fun c4 => by exact absurd c4 (by decide))
      refine v_aload_n C 0 dX10_fuel_27 rfl ?_
      refine v_get C 0 9 lC0 (eC0 _) rfl inX10 (by decide) rfl qw428 dX10_fuel_28 ?_
      refine v_aload_n C 0 dX10_fuel_31 rfl ?_
      refine v_get C 0 13 lC0 (eC0 _) rfl inX10 (by decide) rfl qw432 dX10_fuel_32 ?_
      refine v_st (st1 := [.ref (aa k), .ref (aa 8)]) (by rw [show (m 0 13).toNat = k from by assumption]) ?_
      refine v_aload_n C 0 dX10_fuel_35 rfl ?_
      refine v_get C 0 2 lC0 (eC0 _) rfl inX10 (by decide) rfl qw421 dX10_fuel_36 ?_
      refine v_aload_n C 0 dX10_fuel_39 rfl ?_
      refine v_get C 0 4 lC0 (eC0 _) rfl inX10 (by decide) rfl qw423 dX10_fuel_40 ?_
      refine v_callV (st := []) (n := 3) (q := 8) C [.ref (aa k), .ref (aa 5), .ref (aa 19)] (ct_Choice_prepare C.2.2.2.2.2.2.1 m (k) (kf) (ks) (kt) (kc) hk (by first | assumption | omega) (by exact hX.1) (by exact hti.2.2.1.1) (by exact hti.2.2.1.2)) lC8 (eC8 _) rfl qw819 qw12 qw816 rfl rfl ⟨Nat.le_of_ble_eq_true rfl, Nat.le_of_ble_eq_true rfl⟩ (by decide +kernel) qw817 qw818 rfl rfl (Nat.le_of_ble_eq_true rfl) dX10_fuel_43 (fun r m5 hq5 => ?_)
      obtain ⟨rfl, hq5⟩ := hq5
      show V E (wC D cy aa ad) 4 m5 46 [(0, .ref (aa 0)), (1, .int (iz (k0))), (2, .int (iz (s)))] []
      have hvd := hti.vd
      have hLd : LdOk m5 (m kf) (m k) (m 5) := ⟨hq5.1, hq5.2.1⟩
      have hbx : ∀ j : Int, 0 ≤ j → j < 3 → m5 10 j = loX (m 5) j ∧ m5 11 j = hiX (m 5) j := hq5.2.2.1
      have o1 : ∀ q, (q < 8 ∨ (12 ≤ q ∧ q < 15) ∨ (23 ≤ q ∧ q < 39) ∨ 42 ≤ q) → m5 q = m q := hq5.2.2.2
      have hcu1 : (m5 0 13).toNat = k := by rw [o1 0 (by decide)]; exact hcu
      have k1 := o1 k (by omega)
      have kf1 := o1 kf (by omega)
      have e51 := o1 5 (by decide)
      have hlh1 : ∀ j : Int, 0 ≤ j → j < 3 → (0 ≤ m5 10 j ∧ m5 10 j ≤ 16) ∧ (0 ≤ m5 11 j ∧ m5 11 j ≤ 16) := fun j h0 h1 => by rw [(hbx j h0 h1).1, (hbx j h0 h1).2]; exact hvd.bx j h0 h1
      have hce1 := hLd.ce hvd
      have hch1 := hLd.ch hvd
      have hou1 : OuOk m5 (m kf) (m k) (m 5) := hti.2.2.2.1.same (o1 0 (by decide)) (o1 12 (by decide)) (o1 14 (by decide))
      refine v_aload_n C 0 dX10_fuel_46 rfl ?_
      refine v_get C 0 9 lC0 (eC0 _) rfl inX10 (by decide) rfl qw428 dX10_fuel_47 ?_
      refine v_iload_n C 1 dX10_fuel_50 rfl ?_
      refine v_callV (st := []) (n := 1) (q := 8) C [.int (iz (k0))] (ct_Choice_best C.2.2.2.2.2.2.1 m5 (k0) (by first | assumption | omega) (by exact hlh1) (by exact hce1)) lC8 (eC8 _) rfl qw848 qw12 qw845 rfl rfl ⟨Nat.le_of_ble_eq_true rfl, Nat.le_of_ble_eq_true rfl⟩ (by decide +kernel) qw846 qw847 rfl rfl (Nat.le_of_ble_eq_true rfl) dX10_fuel_51 (fun r m6 hq6 => ?_)
      obtain ⟨z6, rfl, hq6, rfl⟩ := hq6
      show V E (wC D cy aa ad) 4 m5 54 [(0, .ref (aa 0)), (1, .int (iz (k0))), (2, .int (iz (s)))] [.int (iz (z6))]
      have hbe := hLd.be hvd hq3 hbx hq6
      have hzr : -1 ≤ z6 ∧ z6 < 4913 := by rcases hq6 with ⟨y, -⟩ | ⟨y, y2, -⟩ <;> omega
      refine v_istore_n (L1 := [(3, .int (iz (z6))), (0, .ref (aa 0)), (1, .int (iz (k0))), (2, .int (iz (s)))]) C dX10_fuel_54 (by decide) rfl ?_
      refine v_aload_n C 1 dX10_fuel_55 rfl ?_
      refine v_iload_n C 0 dX10_fuel_56 rfl ?_
      refine v_if_ge (tgt := 65) C dX10_fuel_57 (by decide) (by omega) (fun c7 => ?_) (fun c7 => ?_)
      · refine v_iload_n C 0 dX10_fuel_65 rfl ?_
        refine v_iload_n C 3 dX10_fuel_66 rfl ?_
        refine v_callS (st := [.ref (aa 0)]) (n := 2) C [.int (iz (z6)), .int (iz (s))] (ct_Choice_unitsOf C.2.2.2.2.2.2.1 m5 (z6) (s) (by first | assumption | omega) (by exact ⟨hs0.1, by omega⟩)) qw832 qw12 qw871 rfl rfl ⟨Nat.le_of_ble_eq_true rfl, Nat.le_of_ble_eq_true rfl⟩ (by decide +kernel) qw831 rfl rfl (Nat.le_of_ble_eq_true rfl) dX10_fuel_67 (fun r m8 hq8 => ?_)
        obtain ⟨z8, rfl, rfl, rfl⟩ := hq8
        show V E (wC D cy aa ad) 4 m5 70 [(3, .int (iz (z6))), (0, .ref (aa 0)), (1, .int (iz (k0))), (2, .int (iz (s)))] [.int (iz (unZ z6 s)), .ref (aa 0)]
        refine v_callV (st := []) (n := 1) (q := 0) C [.int (iz (unZ z6 s))] (ct_StageRatios_answer C.2.2.2.2.2.2.1 m5 (unZ z6 s) ) lC0 (eC0 _) rfl qw640 qw1 qw637 rfl rfl ⟨Nat.le_of_ble_eq_true rfl, Nat.le_of_ble_eq_true rfl⟩ (by decide +kernel) qw639 qp16 rfl rfl (Nat.le_of_ble_eq_true rfl) dX10_fuel_70 (fun r m9 hq9 => ?_)
        obtain ⟨z9, rfl, rfl, hq9⟩ := hq9
        show V E (wC D cy aa ad) 4 m9 73 [(3, .int (iz (z6))), (0, .ref (aa 0)), (1, .int (iz (k0))), (2, .int (iz (s)))] [.int (iz ((unZ z6 s)))]
        refine v_iret C X rfl dX10_fuel_73 ⟨_, rfl, ?_, ?_⟩
        · rw [← hq9]
          refine ⟨0, ?_, by decide, CQ.of3 (fun q h => o1 q (by omega))⟩
          first
            | exact Or.inl ⟨hhs, hq3, rfl, z6, hbe.1, by rw [if_pos (by omega)]⟩
            | exact Or.inl ⟨hhs, hq3, rfl, z6, hbe.1, by rw [if_neg (by omega)]⟩
        · rw [← hq9]; exact CI.of3 hk hcu hT1 hti (fun q h => o1 q (by omega)) hch1 hou1
      · refine v_bipush (z := -2) C dX10_fuel_60 (by decide) ?_
        refine v_goto (tgt := 70) C dX10_fuel_62 (by decide) ?_
        refine v_callV (st := []) (n := 1) (q := 0) C [.int (iz (-2))] (ct_StageRatios_answer C.2.2.2.2.2.2.1 m5 (-2) ) lC0 (eC0 _) rfl qw640 qw1 qw637 rfl rfl ⟨Nat.le_of_ble_eq_true rfl, Nat.le_of_ble_eq_true rfl⟩ (by decide +kernel) qw639 qp16 rfl rfl (Nat.le_of_ble_eq_true rfl) dX10_fuel_70 (fun r m10 hq10 => ?_)
        obtain ⟨z10, rfl, rfl, hq10⟩ := hq10
        show V E (wC D cy aa ad) 4 m10 73 [(3, .int (iz (z6))), (0, .ref (aa 0)), (1, .int (iz (k0))), (2, .int (iz (s)))] [.int (iz ((-2)))]
        refine v_iret C X rfl dX10_fuel_73 ⟨_, rfl, ?_, ?_⟩
        · rw [← hq10]
          refine ⟨0, ?_, by decide, CQ.of3 (fun q h => o1 q (by omega))⟩
          first
            | exact Or.inl ⟨hhs, hq3, rfl, z6, hbe.1, by rw [if_pos (by omega)]⟩
            | exact Or.inl ⟨hhs, hq3, rfl, z6, hbe.1, by rw [if_neg (by omega)]⟩
        · rw [← hq10]; exact CI.of3 hk hcu hT1 hti (fun q h => o1 q (by omega)) hch1 hou1
    · show V E (wC D cy aa ad) 4 m 18 [(0, .ref (aa 0)), (1, .int (iz (k0))), (2, .int (iz (s)))] [.int (iz (0))]
      refine v_if_ne (tgt := 27) C dX10_fuel_18 (by decide) (by omega) (fun c11 => by exact absurd c11 (by decide)) (fun c11 => ?_)
      refine v_aload_n C 0 dX10_fuel_21 rfl ?_
      refine v_iconst (z := 2) C dX10_fuel_22 rfl ?_
      refine v_callV (st := []) (n := 1) (q := 0) C [.int (iz (2))] (ct_StageRatios_refuse C.2.2.2.2.2.2.1 m (2) ) lC0 (eC0 _) rfl qw502 qw1 qw499 rfl rfl ⟨Nat.le_of_ble_eq_true rfl, Nat.le_of_ble_eq_true rfl⟩ (by decide +kernel) qw501 qp0 rfl rfl (Nat.le_of_ble_eq_true rfl) dX10_fuel_23 (fun r m12 hq12 => ?_)
      obtain ⟨z12, rfl, rfl, hq12⟩ := hq12
      show V E (wC D cy aa ad) 4 m12 26 [(0, .ref (aa 0)), (1, .int (iz (k0))), (2, .int (iz (s)))] [.int (iz (-1))]
      refine v_iret C X rfl dX10_fuel_26 ⟨_, rfl, ?_, ?_⟩
      · rw [← hq12]
        exact ⟨2, Or.inr (Or.inl ⟨hhs, hq3, rfl, rfl⟩), by decide, CQ.of (fun _ _ => rfl)⟩
      · rw [← hq12]; exact hci.of (fun _ _ => rfl)
  · show V E (wC D cy aa ad) 4 m 5 [(0, .ref (aa 0)), (1, .int (iz (k0))), (2, .int (iz (s)))] [.int (iz (0))]
    refine v_if_ne (tgt := 14) C dX10_fuel_5 (by decide) (by omega) (fun c13 => by exact absurd c13 (by decide)) (fun c13 => ?_)
    refine v_aload_n C 0 dX10_fuel_8 rfl ?_
    refine v_iconst (z := 1) C dX10_fuel_9 rfl ?_
    refine v_callV (st := []) (n := 1) (q := 0) C [.int (iz (1))] (ct_StageRatios_refuse C.2.2.2.2.2.2.1 m (1) ) lC0 (eC0 _) rfl qw502 qw1 qw499 rfl rfl ⟨Nat.le_of_ble_eq_true rfl, Nat.le_of_ble_eq_true rfl⟩ (by decide +kernel) qw501 qp0 rfl rfl (Nat.le_of_ble_eq_true rfl) dX10_fuel_10 (fun r m14 hq14 => ?_)
    obtain ⟨z14, rfl, rfl, hq14⟩ := hq14
    show V E (wC D cy aa ad) 4 m14 13 [(0, .ref (aa 0)), (1, .int (iz (k0))), (2, .int (iz (s)))] [.int (iz (-1))]
    refine v_iret C X rfl dX10_fuel_13 ⟨_, rfl, ?_, ?_⟩
    · rw [← hq14]
      exact ⟨1, Or.inr (Or.inr ⟨hq1, rfl, rfl⟩), by decide, CQ.of (fun _ _ => rfl)⟩
    · rw [← hq14]; exact hci.of (fun _ _ => rfl)

set_option maxHeartbeats 4000000 in
set_option maxRecDepth 100000 in
theorem ct_StageRatios_farthest {lau : Launch} {D : va_G} {cy : Nat → ClassId} {aa ad : Nat → Nat} (hI : wI (wC D cy aa ad)) (m : Mem) (k kf ks kt kc : Nat) (hci : CI m k kf ks kt kc) : MT lau (wC D cy aa ad) yX10_farthest cX10_farthest 1 (some .int) ({ frames := 6, cells := 0, slots := 0, locals := 172 } : Room) m [.ref (aa 0)] (Pi (fun z m' => (QP (qFar (m 0 15) (m kf) (m k) (m 5)) m m' z) ∧ CI m' k kf ks kt kc)) := by
  refine v_entry hI RX10 (by decide) rfl (Nat.le_of_ble_eq_true rfl) (fun E hE C X => ?_)
  subst hE
  show V E (wC D cy aa ad) 1 m 0 [(0, .ref (aa 0))] []
  obtain ⟨hk, hcu, htd, -⟩ := id hci
  have ht01 : m 0 15 = 0 ∨ m 0 15 = 1 := htd.imp (fun a => a) (fun a => a.1)
  refine v_aload_n C 0 dX10_farthest_0 rfl ?_
  refine v_get C 0 15 lC0 (eC0 _) rfl inX10 (by decide) rfl qw434 dX10_farthest_1 ?_
  refine v_if_ne (tgt := 13) C dX10_farthest_4 (by decide) (by omega) (fun c1 => ?_) (fun c1 => ?_)
  · obtain ⟨hT1, hti⟩ := htd.resolve_left (by omega)
    obtain ⟨hrk, hX, -⟩ := id hti
    obtain ⟨hk5, hF, hup, hlw, hpl, hnf, hfa, -⟩ := id hrk
    have hkk : 73 ≤ k ∧ 73 ≤ kf ∧ 73 ≤ ks ∧ 73 ≤ kt ∧ 73 ≤ kc := by unfold RocketAt at hk; omega
    have hUr := hX.u hF
    have hDv := hX.dv hF hk5
    refine v_aload_n C 0 dX10_farthest_13 rfl ?_
    refine v_get C 0 9 lC0 (eC0 _) rfl inX10 (by decide) rfl qw428 dX10_farthest_14 ?_
    refine v_aload_n C 0 dX10_farthest_17 rfl ?_
    refine v_get C 0 13 lC0 (eC0 _) rfl inX10 (by decide) rfl qw432 dX10_farthest_18 ?_
    refine v_st (st1 := [.ref (aa k), .ref (aa 8)]) (by rw [show (m 0 13).toNat = k from by assumption]) ?_
    refine v_aload_n C 0 dX10_farthest_21 rfl ?_
    refine v_get C 0 2 lC0 (eC0 _) rfl inX10 (by decide) rfl qw421 dX10_farthest_22 ?_
    refine v_aload_n C 0 dX10_farthest_25 rfl ?_
    refine v_get C 0 4 lC0 (eC0 _) rfl inX10 (by decide) rfl qw423 dX10_farthest_26 ?_
    refine v_callV (st := []) (n := 3) (q := 8) C [.ref (aa k), .ref (aa 5), .ref (aa 19)] (ct_Choice_prepare C.2.2.2.2.2.2.1 m (k) (kf) (ks) (kt) (kc) hk (by first | assumption | omega) (by exact hX.1) (by exact hti.2.2.1.1) (by exact hti.2.2.1.2)) lC8 (eC8 _) rfl qw819 qw12 qw816 rfl rfl ⟨Nat.le_of_ble_eq_true rfl, Nat.le_of_ble_eq_true rfl⟩ (by decide +kernel) qw817 qw818 rfl rfl (Nat.le_of_ble_eq_true rfl) dX10_farthest_29 (fun r m2 hq2 => ?_)
    obtain ⟨rfl, hq2⟩ := hq2
    show V E (wC D cy aa ad) 1 m2 32 [(0, .ref (aa 0))] []
    have hvd := hti.vd
    have hLd : LdOk m2 (m kf) (m k) (m 5) := ⟨hq2.1, hq2.2.1⟩
    have hbx : ∀ j : Int, 0 ≤ j → j < 3 → m2 10 j = loX (m 5) j ∧ m2 11 j = hiX (m 5) j := hq2.2.2.1
    have o1 : ∀ q, (q < 8 ∨ (12 ≤ q ∧ q < 15) ∨ (23 ≤ q ∧ q < 39) ∨ 42 ≤ q) → m2 q = m q := hq2.2.2.2
    have hcu1 : (m2 0 13).toNat = k := by rw [o1 0 (by decide)]; exact hcu
    have k1 := o1 k (by omega)
    have kf1 := o1 kf (by omega)
    have e51 := o1 5 (by decide)
    have hlh1 : ∀ j : Int, 0 ≤ j → j < 3 → (0 ≤ m2 10 j ∧ m2 10 j ≤ 16) ∧ (0 ≤ m2 11 j ∧ m2 11 j ≤ 16) := fun j h0 h1 => by rw [(hbx j h0 h1).1, (hbx j h0 h1).2]; exact hvd.bx j h0 h1
    have hce1 := hLd.ce hvd
    have hch1 := hLd.ch hvd
    have hou1 : OuOk m2 (m kf) (m k) (m 5) := hti.2.2.2.1.same (o1 0 (by decide)) (o1 12 (by decide)) (o1 14 (by decide))
    refine v_aload_n C 0 dX10_farthest_32 rfl ?_
    refine v_aload_n C 0 dX10_farthest_33 rfl ?_
    refine v_get C 0 9 lC0 (eC0 _) rfl inX10 (by decide) rfl qw428 dX10_farthest_34 ?_
    refine v_callV (st := [.ref (aa 0)]) (n := 0) (q := 8) C [] (ct_Choice_highestPower C.2.2.2.2.2.2.1 m2  (by exact hlh1) (by exact hce1)) lC8 (eC8 _) rfl qw879 qw12 qw876 rfl rfl ⟨Nat.le_of_ble_eq_true rfl, Nat.le_of_ble_eq_true rfl⟩ (by decide +kernel) qw877 qw878 rfl rfl (Nat.le_of_ble_eq_true rfl) dX10_farthest_37 (fun r m3 hq3 => ?_)
    obtain ⟨z3, rfl, hq3, rfl⟩ := hq3
    show V E (wC D cy aa ad) 1 m2 40 [(0, .ref (aa 0))] [.int (iz (z3)), .ref (aa 0)]
    refine v_callV (st := []) (n := 1) (q := 0) C [.int (iz (z3))] (ct_StageRatios_answer C.2.2.2.2.2.2.1 m2 (z3) ) lC0 (eC0 _) rfl qw640 qw1 qw637 rfl rfl ⟨Nat.le_of_ble_eq_true rfl, Nat.le_of_ble_eq_true rfl⟩ (by decide +kernel) qw639 qp16 rfl rfl (Nat.le_of_ble_eq_true rfl) dX10_farthest_40 (fun r m4 hq4 => ?_)
    obtain ⟨z4, rfl, rfl, hq4⟩ := hq4
    show V E (wC D cy aa ad) 1 m4 43 [(0, .ref (aa 0))] [.int (iz (z3))]
    refine v_iret C X rfl dX10_farthest_43 ⟨_, rfl, ?_, ?_⟩
    · rw [← hq4]
      refine ⟨0, ?_, by decide, CQ.of3 (fun q h => o1 q (by omega))⟩
      exact Or.inl ⟨hT1, rfl, hLd.far hvd hbx hq3⟩
    · rw [← hq4]; exact CI.of3 hk hcu hT1 hti (fun q h => o1 q (by omega)) hch1 hou1
  · refine v_aload_n C 0 dX10_farthest_7 rfl ?_
    refine v_iconst (z := 1) C dX10_farthest_8 rfl ?_
    refine v_callV (st := []) (n := 1) (q := 0) C [.int (iz (1))] (ct_StageRatios_refuse C.2.2.2.2.2.2.1 m (1) ) lC0 (eC0 _) rfl qw502 qw1 qw499 rfl rfl ⟨Nat.le_of_ble_eq_true rfl, Nat.le_of_ble_eq_true rfl⟩ (by decide +kernel) qw501 qp0 rfl rfl (Nat.le_of_ble_eq_true rfl) dX10_farthest_9 (fun r m5 hq5 => ?_)
    obtain ⟨z5, rfl, rfl, hq5⟩ := hq5
    show V E (wC D cy aa ad) 1 m5 12 [(0, .ref (aa 0))] [.int (iz (-1))]
    refine v_iret C X rfl dX10_farthest_12 ⟨_, rfl, ?_, ?_⟩
    · rw [← hq5]
      exact ⟨1, Or.inr ⟨by omega, rfl, rfl⟩, by decide, CQ.of (fun _ _ => rfl)⟩
    · rw [← hq5]; exact hci.of (fun _ _ => rfl)

set_option maxHeartbeats 4000000 in
set_option maxRecDepth 100000 in
theorem ct_StageRatios_lifts {lau : Launch} {D : va_G} {cy : Nat → ClassId} {aa ad : Nat → Nat} (hI : wI (wC D cy aa ad)) (m : Mem) (k kf ks kt kc : Nat) (hci : CI m k kf ks kt kc) : MT lau (wC D cy aa ad) yX10_lifts cX10_lifts 1 (some .int) ({ frames := 6, cells := 0, slots := 0, locals := 172 } : Room) m [.ref (aa 0)] (Pi (fun z m' => (QP (qLif (m 0 15) (m kf) (m k) (m 5)) m m' z) ∧ CI m' k kf ks kt kc)) := by
  refine v_entry hI RX10 (by decide) rfl (Nat.le_of_ble_eq_true rfl) (fun E hE C X => ?_)
  subst hE
  show V E (wC D cy aa ad) 1 m 0 [(0, .ref (aa 0))] []
  obtain ⟨hk, hcu, htd, -⟩ := id hci
  have ht01 : m 0 15 = 0 ∨ m 0 15 = 1 := htd.imp (fun a => a) (fun a => a.1)
  refine v_aload_n C 0 dX10_lifts_0 rfl ?_
  refine v_get C 0 15 lC0 (eC0 _) rfl inX10 (by decide) rfl qw434 dX10_lifts_1 ?_
  refine v_if_ne (tgt := 13) C dX10_lifts_4 (by decide) (by omega) (fun c1 => ?_) (fun c1 => ?_)
  · obtain ⟨hT1, hti⟩ := htd.resolve_left (by omega)
    obtain ⟨hrk, hX, -⟩ := id hti
    obtain ⟨hk5, hF, hup, hlw, hpl, hnf, hfa, -⟩ := id hrk
    have hkk : 73 ≤ k ∧ 73 ≤ kf ∧ 73 ≤ ks ∧ 73 ≤ kt ∧ 73 ≤ kc := by unfold RocketAt at hk; omega
    have hUr := hX.u hF
    have hDv := hX.dv hF hk5
    refine v_aload_n C 0 dX10_lifts_13 rfl ?_
    refine v_get C 0 9 lC0 (eC0 _) rfl inX10 (by decide) rfl qw428 dX10_lifts_14 ?_
    refine v_aload_n C 0 dX10_lifts_17 rfl ?_
    refine v_get C 0 13 lC0 (eC0 _) rfl inX10 (by decide) rfl qw432 dX10_lifts_18 ?_
    refine v_st (st1 := [.ref (aa k), .ref (aa 8)]) (by rw [show (m 0 13).toNat = k from by assumption]) ?_
    refine v_aload_n C 0 dX10_lifts_21 rfl ?_
    refine v_get C 0 2 lC0 (eC0 _) rfl inX10 (by decide) rfl qw421 dX10_lifts_22 ?_
    refine v_aload_n C 0 dX10_lifts_25 rfl ?_
    refine v_get C 0 4 lC0 (eC0 _) rfl inX10 (by decide) rfl qw423 dX10_lifts_26 ?_
    refine v_callV (st := []) (n := 3) (q := 8) C [.ref (aa k), .ref (aa 5), .ref (aa 19)] (ct_Choice_prepare C.2.2.2.2.2.2.1 m (k) (kf) (ks) (kt) (kc) hk (by first | assumption | omega) (by exact hX.1) (by exact hti.2.2.1.1) (by exact hti.2.2.1.2)) lC8 (eC8 _) rfl qw819 qw12 qw816 rfl rfl ⟨Nat.le_of_ble_eq_true rfl, Nat.le_of_ble_eq_true rfl⟩ (by decide +kernel) qw817 qw818 rfl rfl (Nat.le_of_ble_eq_true rfl) dX10_lifts_29 (fun r m2 hq2 => ?_)
    obtain ⟨rfl, hq2⟩ := hq2
    show V E (wC D cy aa ad) 1 m2 32 [(0, .ref (aa 0))] []
    have hvd := hti.vd
    have hLd : LdOk m2 (m kf) (m k) (m 5) := ⟨hq2.1, hq2.2.1⟩
    have hbx : ∀ j : Int, 0 ≤ j → j < 3 → m2 10 j = loX (m 5) j ∧ m2 11 j = hiX (m 5) j := hq2.2.2.1
    have o1 : ∀ q, (q < 8 ∨ (12 ≤ q ∧ q < 15) ∨ (23 ≤ q ∧ q < 39) ∨ 42 ≤ q) → m2 q = m q := hq2.2.2.2
    have hcu1 : (m2 0 13).toNat = k := by rw [o1 0 (by decide)]; exact hcu
    have k1 := o1 k (by omega)
    have kf1 := o1 kf (by omega)
    have e51 := o1 5 (by decide)
    have hlh1 : ∀ j : Int, 0 ≤ j → j < 3 → (0 ≤ m2 10 j ∧ m2 10 j ≤ 16) ∧ (0 ≤ m2 11 j ∧ m2 11 j ≤ 16) := fun j h0 h1 => by rw [(hbx j h0 h1).1, (hbx j h0 h1).2]; exact hvd.bx j h0 h1
    have hce1 := hLd.ce hvd
    have hch1 := hLd.ch hvd
    have hou1 : OuOk m2 (m kf) (m k) (m 5) := hti.2.2.2.1.same (o1 0 (by decide)) (o1 12 (by decide)) (o1 14 (by decide))
    refine v_aload_n C 0 dX10_lifts_32 rfl ?_
    refine v_aload_n C 0 dX10_lifts_33 rfl ?_
    refine v_get C 0 9 lC0 (eC0 _) rfl inX10 (by decide) rfl qw428 dX10_lifts_34 ?_
    refine v_aload_n C 0 dX10_lifts_37 rfl ?_
    refine v_get C 0 13 lC0 (eC0 _) rfl inX10 (by decide) rfl qw432 dX10_lifts_38 ?_
    refine v_st (st1 := [.ref (aa k), .ref (aa 8), .ref (aa 0)]) (by rw [show (m2 0 13).toNat = k from by assumption]) ?_
    refine v_aload_n C 0 dX10_lifts_41 rfl ?_
    refine v_get C 0 2 lC0 (eC0 _) rfl inX10 (by decide) rfl qw421 dX10_lifts_42 ?_
    refine v_iconst (z := 1) C dX10_lifts_45 rfl ?_
    refine v_callS (st := [.ref (aa k), .ref (aa 8), .ref (aa 0)]) (n := 2) C [.ref (aa 5), .int (iz (1))] (ct_StageRatios_at C.2.2.2.2.2.2.1 m2 (5) (11) (1) ⟨lC5, by decide, eC5⟩ (by first | assumption | omega)) qw618 qw1 qw653 rfl rfl ⟨Nat.le_of_ble_eq_true rfl, Nat.le_of_ble_eq_true rfl⟩ (by decide +kernel) qw617 rfl rfl (Nat.le_of_ble_eq_true rfl) dX10_lifts_46 (fun r m3 hq3 => ?_)
    obtain ⟨z3, rfl, rfl, rfl⟩ := hq3
    show V E (wC D cy aa ad) 1 m2 49 [(0, .ref (aa 0))] [.int (iz (m2 5 1)), .ref (aa k), .ref (aa 8), .ref (aa 0)]
    refine v_aload_n C 0 dX10_lifts_49 rfl ?_
    refine v_get C 0 4 lC0 (eC0 _) rfl inX10 (by decide) rfl qw423 dX10_lifts_50 ?_
    refine v_callV (st := [.ref (aa 0)]) (n := 3) (q := 8) C [.ref (aa k), .int (iz (m2 5 1)), .ref (aa 19)] (ct_Choice_heaviestLoad C.2.2.2.2.2.2.1 m2 (k) (kf) (ks) (kt) (kc) (m2 5 1) hk (by exact hrk.fr k1 kf1 (o1 ks (by omega)) (o1 kt (by omega)) (o1 kc (by omega))) (by rw [e51]; have := hX.2.1; omega) (by exact hlh1)) lC8 (eC8 _) rfl qw890 qw12 qw887 rfl rfl ⟨Nat.le_of_ble_eq_true rfl, Nat.le_of_ble_eq_true rfl⟩ (by decide +kernel) qw888 qw889 rfl rfl (Nat.le_of_ble_eq_true rfl) dX10_lifts_53 (fun r m4 hq4 => ?_)
    obtain ⟨z4, rfl, hq4, hm4⟩ := hq4
    show V E (wC D cy aa ad) 1 m4 56 [(0, .ref (aa 0))] [.int (iz (z4)), .ref (aa 0)]
    have o2 : ∀ q : Nat, (q < 8 ∨ 73 ≤ q) → m4 q = m q := fun q h => by rw [hm4 q (by omega)]; exact o1 q (by omega)
    have hou2 : OuOk m4 (m kf) (m k) (m 5) := hou1.same (hm4 0 (by omega)) (hm4 12 (by omega)) (hm4 14 (by omega))
    have hch2 : ChOk m4 (m kf) (m k) := by
      unfold ChOk; rw [hm4 8 (by omega), hm4 9 (by omega)]; exact hch1
    refine v_callV (st := []) (n := 1) (q := 0) C [.int (iz (z4))] (ct_StageRatios_answer C.2.2.2.2.2.2.1 m4 (z4) ) lC0 (eC0 _) rfl qw640 qw1 qw637 rfl rfl ⟨Nat.le_of_ble_eq_true rfl, Nat.le_of_ble_eq_true rfl⟩ (by decide +kernel) qw639 qp16 rfl rfl (Nat.le_of_ble_eq_true rfl) dX10_lifts_56 (fun r m5 hq5 => ?_)
    obtain ⟨z5, rfl, rfl, hq5⟩ := hq5
    show V E (wC D cy aa ad) 1 m5 59 [(0, .ref (aa 0))] [.int (iz (z4))]
    refine v_iret C X rfl dX10_lifts_59 ⟨_, rfl, ?_, ?_⟩
    · rw [← hq5]
      refine ⟨0, ?_, by decide, CQ.of3 o2⟩
      rw [kf1, k1, e51] at hq4
      exact Or.inl ⟨hT1, rfl, hq4.cg fun v c _ _ => okL_cn hbx⟩
    · rw [← hq5]; exact CI.of3 hk hcu hT1 hti o2 hch2 hou2
  · refine v_aload_n C 0 dX10_lifts_7 rfl ?_
    refine v_iconst (z := 1) C dX10_lifts_8 rfl ?_
    refine v_callV (st := []) (n := 1) (q := 0) C [.int (iz (1))] (ct_StageRatios_refuse C.2.2.2.2.2.2.1 m (1) ) lC0 (eC0 _) rfl qw502 qw1 qw499 rfl rfl ⟨Nat.le_of_ble_eq_true rfl, Nat.le_of_ble_eq_true rfl⟩ (by decide +kernel) qw501 qp0 rfl rfl (Nat.le_of_ble_eq_true rfl) dX10_lifts_9 (fun r m6 hq6 => ?_)
    obtain ⟨z6, rfl, rfl, hq6⟩ := hq6
    show V E (wC D cy aa ad) 1 m6 12 [(0, .ref (aa 0))] [.int (iz (-1))]
    refine v_iret C X rfl dX10_lifts_12 ⟨_, rfl, ?_, ?_⟩
    · rw [← hq6]
      exact ⟨1, Or.inr ⟨by omega, rfl, rfl⟩, by decide, CQ.of (fun _ _ => rfl)⟩
    · rw [← hq6]; exact hci.of (fun _ _ => rfl)

set_option maxHeartbeats 4000000 in
set_option maxRecDepth 100000 in
theorem ct_StageRatios_ways {lau : Launch} {D : va_G} {cy : Nat → ClassId} {aa ad : Nat → Nat} (hI : wI (wC D cy aa ad)) (m : Mem) (k kf ks kt kc : Nat) (k0 : Int) (hci : CI m k kf ks kt kc) (hk0 : -2147483648 ≤ k0 ∧ k0 ≤ 2147483647) : MT lau (wC D cy aa ad) yX10_ways cX10_ways 2 (some .int) ({ frames := 6, cells := 0, slots := 0, locals := 172 } : Room) m [.ref (aa 0), .int (iz (k0))] (Pi (fun z m' => (QP (qWay (m 0 15) (m kf) (m k) (m 5) k0) m m' z) ∧ CI m' k kf ks kt kc)) := by
  refine v_entry hI RX10 (by decide) rfl (Nat.le_of_ble_eq_true rfl) (fun E hE C X => ?_)
  subst hE
  show V E (wC D cy aa ad) 2 m 0 [(0, .ref (aa 0)), (1, .int (iz (k0)))] []
  obtain ⟨hk, hcu, htd, -⟩ := id hci
  have ht01 : m 0 15 = 0 ∨ m 0 15 = 1 := htd.imp (fun a => a) (fun a => a.1)
  refine v_aload_n C 0 dX10_ways_0 rfl ?_
  refine v_get C 0 15 lC0 (eC0 _) rfl inX10 (by decide) rfl qw434 dX10_ways_1 ?_
  refine v_if_ne (tgt := 13) C dX10_ways_4 (by decide) (by omega) (fun c1 => ?_) (fun c1 => ?_)
  · obtain ⟨hT1, hti⟩ := htd.resolve_left (by omega)
    obtain ⟨hrk, hX, -⟩ := id hti
    obtain ⟨hk5, hF, hup, hlw, hpl, hnf, hfa, -⟩ := id hrk
    have hkk : 73 ≤ k ∧ 73 ≤ kf ∧ 73 ≤ ks ∧ 73 ≤ kt ∧ 73 ≤ kc := by unfold RocketAt at hk; omega
    have hUr := hX.u hF
    have hDv := hX.dv hF hk5
    refine v_iload_n C 1 dX10_ways_13 rfl ?_
    refine v_callS (st := []) (n := 1) C [.int (iz (k0))] (ct_StageRatios_isPower C.2.2.2.2.2.2.1 m (k0) (by first | assumption | omega)) qw717 qw1 qw715 rfl rfl ⟨Nat.le_of_ble_eq_true rfl, Nat.le_of_ble_eq_true rfl⟩ (by decide +kernel) qw716 rfl rfl (Nat.le_of_ble_eq_true rfl) dX10_ways_14 (fun r m2 hq2 => ?_)
    obtain ⟨z2, rfl, ⟨rfl, hq2, rfl⟩ | ⟨rfl, hq2, rfl⟩⟩ := hq2
    · show V E (wC D cy aa ad) 2 m 17 [(0, .ref (aa 0)), (1, .int (iz (k0)))] [.int (iz (1))]
      refine v_if_ne (tgt := 26) C dX10_ways_17 (by decide) (by omega) (fun c3 => ?_) (fun c3 => by exact absurd c3 (by decide))
      refine v_aload_n C 0 dX10_ways_26 rfl ?_
      refine v_get C 0 9 lC0 (eC0 _) rfl inX10 (by decide) rfl qw428 dX10_ways_27 ?_
      refine v_aload_n C 0 dX10_ways_30 rfl ?_
      refine v_get C 0 13 lC0 (eC0 _) rfl inX10 (by decide) rfl qw432 dX10_ways_31 ?_
      refine v_st (st1 := [.ref (aa k), .ref (aa 8)]) (by rw [show (m 0 13).toNat = k from by assumption]) ?_
      refine v_aload_n C 0 dX10_ways_34 rfl ?_
      refine v_get C 0 2 lC0 (eC0 _) rfl inX10 (by decide) rfl qw421 dX10_ways_35 ?_
      refine v_aload_n C 0 dX10_ways_38 rfl ?_
      refine v_get C 0 4 lC0 (eC0 _) rfl inX10 (by decide) rfl qw423 dX10_ways_39 ?_
      refine v_callV (st := []) (n := 3) (q := 8) C [.ref (aa k), .ref (aa 5), .ref (aa 19)] (ct_Choice_prepare C.2.2.2.2.2.2.1 m (k) (kf) (ks) (kt) (kc) hk (by first | assumption | omega) (by exact hX.1) (by exact hti.2.2.1.1) (by exact hti.2.2.1.2)) lC8 (eC8 _) rfl qw819 qw12 qw816 rfl rfl ⟨Nat.le_of_ble_eq_true rfl, Nat.le_of_ble_eq_true rfl⟩ (by decide +kernel) qw817 qw818 rfl rfl (Nat.le_of_ble_eq_true rfl) dX10_ways_42 (fun r m4 hq4 => ?_)
      obtain ⟨rfl, hq4⟩ := hq4
      show V E (wC D cy aa ad) 2 m4 45 [(0, .ref (aa 0)), (1, .int (iz (k0)))] []
      have hvd := hti.vd
      have hLd : LdOk m4 (m kf) (m k) (m 5) := ⟨hq4.1, hq4.2.1⟩
      have hbx : ∀ j : Int, 0 ≤ j → j < 3 → m4 10 j = loX (m 5) j ∧ m4 11 j = hiX (m 5) j := hq4.2.2.1
      have o1 : ∀ q, (q < 8 ∨ (12 ≤ q ∧ q < 15) ∨ (23 ≤ q ∧ q < 39) ∨ 42 ≤ q) → m4 q = m q := hq4.2.2.2
      have hcu1 : (m4 0 13).toNat = k := by rw [o1 0 (by decide)]; exact hcu
      have k1 := o1 k (by omega)
      have kf1 := o1 kf (by omega)
      have e51 := o1 5 (by decide)
      have hlh1 : ∀ j : Int, 0 ≤ j → j < 3 → (0 ≤ m4 10 j ∧ m4 10 j ≤ 16) ∧ (0 ≤ m4 11 j ∧ m4 11 j ≤ 16) := fun j h0 h1 => by rw [(hbx j h0 h1).1, (hbx j h0 h1).2]; exact hvd.bx j h0 h1
      have hce1 := hLd.ce hvd
      have hch1 := hLd.ch hvd
      have hou1 : OuOk m4 (m kf) (m k) (m 5) := hti.2.2.2.1.same (o1 0 (by decide)) (o1 12 (by decide)) (o1 14 (by decide))
      refine v_aload_n C 0 dX10_ways_45 rfl ?_
      refine v_aload_n C 0 dX10_ways_46 rfl ?_
      refine v_get C 0 9 lC0 (eC0 _) rfl inX10 (by decide) rfl qw428 dX10_ways_47 ?_
      refine v_iload_n C 1 dX10_ways_50 rfl ?_
      refine v_callV (st := [.ref (aa 0)]) (n := 1) (q := 8) C [.int (iz (k0))] (ct_Choice_count C.2.2.2.2.2.2.1 m4 (k0) (by first | assumption | omega) (by exact hlh1) (by exact hce1)) lC8 (eC8 _) rfl qw954 qw12 qw951 rfl rfl ⟨Nat.le_of_ble_eq_true rfl, Nat.le_of_ble_eq_true rfl⟩ (by decide +kernel) qw952 qw953 rfl rfl (Nat.le_of_ble_eq_true rfl) dX10_ways_51 (fun r m5 hq5 => ?_)
      obtain ⟨z5, rfl, rfl, rfl⟩ := hq5
      show V E (wC D cy aa ad) 2 m4 54 [(0, .ref (aa 0)), (1, .int (iz (k0)))] [.int (iz (cnP (caB (m4 9) (m4 10) (m4 11) k0) 4913)), .ref (aa 0)]
      refine v_callV (st := []) (n := 1) (q := 0) C [.int (iz (cnP (caB (m4 9) (m4 10) (m4 11) k0) 4913))] (ct_StageRatios_answer C.2.2.2.2.2.2.1 m4 (cnP (caB (m4 9) (m4 10) (m4 11) k0) 4913) ) lC0 (eC0 _) rfl qw640 qw1 qw637 rfl rfl ⟨Nat.le_of_ble_eq_true rfl, Nat.le_of_ble_eq_true rfl⟩ (by decide +kernel) qw639 qp16 rfl rfl (Nat.le_of_ble_eq_true rfl) dX10_ways_54 (fun r m6 hq6 => ?_)
      obtain ⟨z6, rfl, rfl, hq6⟩ := hq6
      show V E (wC D cy aa ad) 2 m6 57 [(0, .ref (aa 0)), (1, .int (iz (k0)))] [.int (iz ((cnP (caB (m4 9) (m4 10) (m4 11) k0) 4913)))]
      refine v_iret C X rfl dX10_ways_57 ⟨_, rfl, ?_, ?_⟩
      · rw [← hq6]
        refine ⟨0, ?_, by decide, CQ.of3 (fun q h => o1 q (by omega))⟩
        exact Or.inl ⟨hT1, hq2, rfl, cnP_cg 4913 fun c h0 h1 => hLd.cd hvd hq2 hbx h0 h1⟩
      · rw [← hq6]; exact CI.of3 hk hcu hT1 hti (fun q h => o1 q (by omega)) hch1 hou1
    · show V E (wC D cy aa ad) 2 m 17 [(0, .ref (aa 0)), (1, .int (iz (k0)))] [.int (iz (0))]
      refine v_if_ne (tgt := 26) C dX10_ways_17 (by decide) (by omega) (fun c7 => by exact absurd c7 (by decide)) (fun c7 => ?_)
      refine v_aload_n C 0 dX10_ways_20 rfl ?_
      refine v_iconst (z := 2) C dX10_ways_21 rfl ?_
      refine v_callV (st := []) (n := 1) (q := 0) C [.int (iz (2))] (ct_StageRatios_refuse C.2.2.2.2.2.2.1 m (2) ) lC0 (eC0 _) rfl qw502 qw1 qw499 rfl rfl ⟨Nat.le_of_ble_eq_true rfl, Nat.le_of_ble_eq_true rfl⟩ (by decide +kernel) qw501 qp0 rfl rfl (Nat.le_of_ble_eq_true rfl) dX10_ways_22 (fun r m8 hq8 => ?_)
      obtain ⟨z8, rfl, rfl, hq8⟩ := hq8
      show V E (wC D cy aa ad) 2 m8 25 [(0, .ref (aa 0)), (1, .int (iz (k0)))] [.int (iz (-1))]
      refine v_iret C X rfl dX10_ways_25 ⟨_, rfl, ?_, ?_⟩
      · rw [← hq8]
        exact ⟨2, Or.inr (Or.inl ⟨hT1, hq2, rfl, rfl⟩), by decide, CQ.of (fun _ _ => rfl)⟩
      · rw [← hq8]; exact hci.of (fun _ _ => rfl)
  · refine v_aload_n C 0 dX10_ways_7 rfl ?_
    refine v_iconst (z := 1) C dX10_ways_8 rfl ?_
    refine v_callV (st := []) (n := 1) (q := 0) C [.int (iz (1))] (ct_StageRatios_refuse C.2.2.2.2.2.2.1 m (1) ) lC0 (eC0 _) rfl qw502 qw1 qw499 rfl rfl ⟨Nat.le_of_ble_eq_true rfl, Nat.le_of_ble_eq_true rfl⟩ (by decide +kernel) qw501 qp0 rfl rfl (Nat.le_of_ble_eq_true rfl) dX10_ways_9 (fun r m9 hq9 => ?_)
    obtain ⟨z9, rfl, rfl, hq9⟩ := hq9
    show V E (wC D cy aa ad) 2 m9 12 [(0, .ref (aa 0)), (1, .int (iz (k0)))] [.int (iz (-1))]
    refine v_iret C X rfl dX10_ways_12 ⟨_, rfl, ?_, ?_⟩
    · rw [← hq9]
      exact ⟨1, Or.inr (Or.inr ⟨by omega, rfl, rfl⟩), by decide, CQ.of (fun _ _ => rfl)⟩
    · rw [← hq9]; exact hci.of (fun _ _ => rfl)

set_option maxHeartbeats 4000000 in
set_option maxRecDepth 100000 in
theorem ct_StageRatios_range {lau : Launch} {D : va_G} {cy : Nat → ClassId} {aa ad : Nat → Nat} (hI : wI (wC D cy aa ad)) (m : Mem) (k kf ks kt kc : Nat) (k0 s up : Int) (hci : CI m k kf ks kt kc) (hk0 : -2147483648 ≤ k0 ∧ k0 ≤ 2147483647) (hs : -2147483648 ≤ s ∧ s ≤ 2147483647) (hu : up = 0 ∨ up = 1) : MT lau (wC D cy aa ad) yX10_range cX10_range 4 (some .int) ({ frames := 6, cells := 0, slots := 0, locals := 172 } : Room) m [.ref (aa 0), .int (iz (k0)), .int (iz (s)), .int (iz (up))] (Pi (fun z m' => (QP (qRan (m 0 15) (m kf) (m k) (m 5) k0 s up) m m' z) ∧ CI m' k kf ks kt kc)) := by
  refine v_entry hI RX10 (by decide) rfl (Nat.le_of_ble_eq_true rfl) (fun E hE C X => ?_)
  subst hE
  show V E (wC D cy aa ad) 4 m 0 [(0, .ref (aa 0)), (1, .int (iz (k0))), (2, .int (iz (s))), (3, .int (iz (up)))] []
  obtain ⟨hk, hcu, htd, -⟩ := id hci
  have ht01 : m 0 15 = 0 ∨ m 0 15 = 1 := htd.imp (fun a => a) (fun a => a.1)
  refine v_aload_n C 0 dX10_range_0 rfl ?_
  refine v_iload_n C 2 dX10_range_1 rfl ?_
  refine v_callV (st := []) (n := 1) (q := 0) C [.int (iz (s))] (ct_StageRatios_has C.2.2.2.2.2.2.1 m (k) (kf) (ks) (kt) (kc) (s) (by first | assumption | omega) (by first | assumption | omega) (by first | assumption | omega) (by first | assumption | omega)) lC0 (eC0 _) rfl qw661 qw1 qw658 rfl rfl ⟨Nat.le_of_ble_eq_true rfl, Nat.le_of_ble_eq_true rfl⟩ (by decide +kernel) qw660 qp17 rfl rfl (Nat.le_of_ble_eq_true rfl) dX10_range_2 (fun r m1 hq1 => ?_)
  obtain ⟨z1, rfl, ⟨rfl, hq1, rfl⟩ | ⟨rfl, hq1, rfl⟩⟩ := hq1
  · show V E (wC D cy aa ad) 4 m 5 [(0, .ref (aa 0)), (1, .int (iz (k0))), (2, .int (iz (s))), (3, .int (iz (up)))] [.int (iz (1))]
    refine v_if_ne (tgt := 14) C dX10_range_5 (by decide) (by omega) (fun c2 => ?_) (fun c2 => by exact absurd c2 (by decide))
    have hhs := hq1
    obtain ⟨hT1, hs0⟩ := id hhs
    obtain ⟨-, hti⟩ := htd.resolve_left (by omega)
    obtain ⟨hrk, hX, -⟩ := id hti
    obtain ⟨hk5, hF, hup, hlw, hpl, hnf, hfa, -⟩ := id hrk
    have hkk : 73 ≤ k ∧ 73 ≤ kf ∧ 73 ≤ ks ∧ 73 ≤ kt ∧ 73 ≤ kc := by unfold RocketAt at hk; omega
    have hUr := hX.u hF
    have hDv := hX.dv hF hk5
    refine v_iload_n C 1 dX10_range_14 rfl ?_
    refine v_callS (st := []) (n := 1) C [.int (iz (k0))] (ct_StageRatios_isPower C.2.2.2.2.2.2.1 m (k0) (by first | assumption | omega)) qw717 qw1 qw715 rfl rfl ⟨Nat.le_of_ble_eq_true rfl, Nat.le_of_ble_eq_true rfl⟩ (by decide +kernel) qw716 rfl rfl (Nat.le_of_ble_eq_true rfl) dX10_range_15 (fun r m3 hq3 => ?_)
    obtain ⟨z3, rfl, ⟨rfl, hq3, rfl⟩ | ⟨rfl, hq3, rfl⟩⟩ := hq3
    · show V E (wC D cy aa ad) 4 m 18 [(0, .ref (aa 0)), (1, .int (iz (k0))), (2, .int (iz (s))), (3, .int (iz (up)))] [.int (iz (1))]
      refine v_if_ne (tgt := 27) C dX10_range_18 (by decide) (by omega) (fun c4 => ?_) (fun c4 => by exact absurd c4 (by decide))
      refine v_aload_n C 0 dX10_range_27 rfl ?_
      refine v_get C 0 9 lC0 (eC0 _) rfl inX10 (by decide) rfl qw428 dX10_range_28 ?_
      refine v_aload_n C 0 dX10_range_31 rfl ?_
      refine v_get C 0 13 lC0 (eC0 _) rfl inX10 (by decide) rfl qw432 dX10_range_32 ?_
      refine v_st (st1 := [.ref (aa k), .ref (aa 8)]) (by rw [show (m 0 13).toNat = k from by assumption]) ?_
      refine v_aload_n C 0 dX10_range_35 rfl ?_
      refine v_get C 0 2 lC0 (eC0 _) rfl inX10 (by decide) rfl qw421 dX10_range_36 ?_
      refine v_aload_n C 0 dX10_range_39 rfl ?_
      refine v_get C 0 4 lC0 (eC0 _) rfl inX10 (by decide) rfl qw423 dX10_range_40 ?_
      refine v_callV (st := []) (n := 3) (q := 8) C [.ref (aa k), .ref (aa 5), .ref (aa 19)] (ct_Choice_prepare C.2.2.2.2.2.2.1 m (k) (kf) (ks) (kt) (kc) hk (by first | assumption | omega) (by exact hX.1) (by exact hti.2.2.1.1) (by exact hti.2.2.1.2)) lC8 (eC8 _) rfl qw819 qw12 qw816 rfl rfl ⟨Nat.le_of_ble_eq_true rfl, Nat.le_of_ble_eq_true rfl⟩ (by decide +kernel) qw817 qw818 rfl rfl (Nat.le_of_ble_eq_true rfl) dX10_range_43 (fun r m5 hq5 => ?_)
      obtain ⟨rfl, hq5⟩ := hq5
      show V E (wC D cy aa ad) 4 m5 46 [(0, .ref (aa 0)), (1, .int (iz (k0))), (2, .int (iz (s))), (3, .int (iz (up)))] []
      have hvd := hti.vd
      have hLd : LdOk m5 (m kf) (m k) (m 5) := ⟨hq5.1, hq5.2.1⟩
      have hbx : ∀ j : Int, 0 ≤ j → j < 3 → m5 10 j = loX (m 5) j ∧ m5 11 j = hiX (m 5) j := hq5.2.2.1
      have o1 : ∀ q, (q < 8 ∨ (12 ≤ q ∧ q < 15) ∨ (23 ≤ q ∧ q < 39) ∨ 42 ≤ q) → m5 q = m q := hq5.2.2.2
      have hcu1 : (m5 0 13).toNat = k := by rw [o1 0 (by decide)]; exact hcu
      have k1 := o1 k (by omega)
      have kf1 := o1 kf (by omega)
      have e51 := o1 5 (by decide)
      have hlh1 : ∀ j : Int, 0 ≤ j → j < 3 → (0 ≤ m5 10 j ∧ m5 10 j ≤ 16) ∧ (0 ≤ m5 11 j ∧ m5 11 j ≤ 16) := fun j h0 h1 => by rw [(hbx j h0 h1).1, (hbx j h0 h1).2]; exact hvd.bx j h0 h1
      have hce1 := hLd.ce hvd
      have hch1 := hLd.ch hvd
      have hou1 : OuOk m5 (m kf) (m k) (m 5) := hti.2.2.2.1.same (o1 0 (by decide)) (o1 12 (by decide)) (o1 14 (by decide))
      refine v_aload_n C 0 dX10_range_46 rfl ?_
      refine v_aload_n C 0 dX10_range_47 rfl ?_
      refine v_get C 0 9 lC0 (eC0 _) rfl inX10 (by decide) rfl qw428 dX10_range_48 ?_
      refine v_iload_n C 1 dX10_range_51 rfl ?_
      refine v_iload_n C 2 dX10_range_52 rfl ?_
      refine v_iload_n C 3 dX10_range_53 rfl ?_
      refine v_callV (st := [.ref (aa 0)]) (n := 3) (q := 8) C [.int (iz (k0)), .int (iz (s)), .int (iz (up))] (ct_Choice_extreme C.2.2.2.2.2.2.1 m5 (k0) (s) (up) (by first | assumption | omega) (by exact ⟨hs0.1, by omega⟩) (by first | assumption | omega) (by exact hlh1) (by exact hce1)) lC8 (eC8 _) rfl qw946 qw12 qw943 rfl rfl ⟨Nat.le_of_ble_eq_true rfl, Nat.le_of_ble_eq_true rfl⟩ (by decide +kernel) qw944 qw945 rfl rfl (Nat.le_of_ble_eq_true rfl) dX10_range_54 (fun r m6 hq6 => ?_)
      obtain ⟨z6, rfl, hq6, rfl⟩ := hq6
      show V E (wC D cy aa ad) 4 m5 57 [(0, .ref (aa 0)), (1, .int (iz (k0))), (2, .int (iz (s))), (3, .int (iz (up)))] [.int (iz (z6)), .ref (aa 0)]
      refine v_callV (st := []) (n := 1) (q := 0) C [.int (iz (z6))] (ct_StageRatios_answer C.2.2.2.2.2.2.1 m5 (z6) ) lC0 (eC0 _) rfl qw640 qw1 qw637 rfl rfl ⟨Nat.le_of_ble_eq_true rfl, Nat.le_of_ble_eq_true rfl⟩ (by decide +kernel) qw639 qp16 rfl rfl (Nat.le_of_ble_eq_true rfl) dX10_range_57 (fun r m7 hq7 => ?_)
      obtain ⟨z7, rfl, rfl, hq7⟩ := hq7
      show V E (wC D cy aa ad) 4 m7 60 [(0, .ref (aa 0)), (1, .int (iz (k0))), (2, .int (iz (s))), (3, .int (iz (up)))] [.int (iz (z6))]
      refine v_iret C X rfl dX10_range_60 ⟨_, rfl, ?_, ?_⟩
      · rw [← hq7]
        refine ⟨0, ?_, by decide, CQ.of3 (fun q h => o1 q (by omega))⟩
        exact Or.inl ⟨hhs, hq3, rfl, fun y => (hq6.1 y).cg (fun c h0 h1 => hLd.cd hvd hq3 hbx h0 h1) (fun c _ _ _ => rfl), fun y => (hq6.2 y).cg (fun c h0 h1 => hLd.cd hvd hq3 hbx h0 h1) (fun c _ _ _ => rfl)⟩
      · rw [← hq7]; exact CI.of3 hk hcu hT1 hti (fun q h => o1 q (by omega)) hch1 hou1
    · show V E (wC D cy aa ad) 4 m 18 [(0, .ref (aa 0)), (1, .int (iz (k0))), (2, .int (iz (s))), (3, .int (iz (up)))] [.int (iz (0))]
      refine v_if_ne (tgt := 27) C dX10_range_18 (by decide) (by omega) (fun c8 => by exact absurd c8 (by decide)) (fun c8 => ?_)
      refine v_aload_n C 0 dX10_range_21 rfl ?_
      refine v_iconst (z := 2) C dX10_range_22 rfl ?_
      refine v_callV (st := []) (n := 1) (q := 0) C [.int (iz (2))] (ct_StageRatios_refuse C.2.2.2.2.2.2.1 m (2) ) lC0 (eC0 _) rfl qw502 qw1 qw499 rfl rfl ⟨Nat.le_of_ble_eq_true rfl, Nat.le_of_ble_eq_true rfl⟩ (by decide +kernel) qw501 qp0 rfl rfl (Nat.le_of_ble_eq_true rfl) dX10_range_23 (fun r m9 hq9 => ?_)
      obtain ⟨z9, rfl, rfl, hq9⟩ := hq9
      show V E (wC D cy aa ad) 4 m9 26 [(0, .ref (aa 0)), (1, .int (iz (k0))), (2, .int (iz (s))), (3, .int (iz (up)))] [.int (iz (-1))]
      refine v_iret C X rfl dX10_range_26 ⟨_, rfl, ?_, ?_⟩
      · rw [← hq9]
        exact ⟨2, Or.inr (Or.inl ⟨hhs, hq3, rfl, rfl⟩), by decide, CQ.of (fun _ _ => rfl)⟩
      · rw [← hq9]; exact hci.of (fun _ _ => rfl)
  · show V E (wC D cy aa ad) 4 m 5 [(0, .ref (aa 0)), (1, .int (iz (k0))), (2, .int (iz (s))), (3, .int (iz (up)))] [.int (iz (0))]
    refine v_if_ne (tgt := 14) C dX10_range_5 (by decide) (by omega) (fun c10 => by exact absurd c10 (by decide)) (fun c10 => ?_)
    refine v_aload_n C 0 dX10_range_8 rfl ?_
    refine v_iconst (z := 1) C dX10_range_9 rfl ?_
    refine v_callV (st := []) (n := 1) (q := 0) C [.int (iz (1))] (ct_StageRatios_refuse C.2.2.2.2.2.2.1 m (1) ) lC0 (eC0 _) rfl qw502 qw1 qw499 rfl rfl ⟨Nat.le_of_ble_eq_true rfl, Nat.le_of_ble_eq_true rfl⟩ (by decide +kernel) qw501 qp0 rfl rfl (Nat.le_of_ble_eq_true rfl) dX10_range_10 (fun r m11 hq11 => ?_)
    obtain ⟨z11, rfl, rfl, hq11⟩ := hq11
    show V E (wC D cy aa ad) 4 m11 13 [(0, .ref (aa 0)), (1, .int (iz (k0))), (2, .int (iz (s))), (3, .int (iz (up)))] [.int (iz (-1))]
    refine v_iret C X rfl dX10_range_13 ⟨_, rfl, ?_, ?_⟩
    · rw [← hq11]
      exact ⟨1, Or.inr (Or.inr ⟨hq1, rfl, rfl⟩), by decide, CQ.of (fun _ _ => rfl)⟩
    · rw [← hq11]; exact hci.of (fun _ _ => rfl)

set_option maxHeartbeats 4000000 in
set_option maxRecDepth 100000 in
theorem ct_StageRatios_needs {lau : Launch} {D : va_G} {cy : Nat → ClassId} {aa ad : Nat → Nat} (hI : wI (wC D cy aa ad)) (m : Mem) (k kf ks kt kc : Nat) (s : Int) (hci : CI m k kf ks kt kc) (hs : -2147483648 ≤ s ∧ s ≤ 2147483647) : MT lau (wC D cy aa ad) yX10_needs cX10_needs 4 (some .int) ({ frames := 6, cells := 0, slots := 0, locals := 172 } : Room) m [.ref (aa 0), .int (iz (s))] (Pi (fun z m' => (QP (qNee (m 0 15) (m kf) (m k) (m 5) s) m m' z) ∧ CI m' k kf ks kt kc)) := by
  refine v_entry hI RX10 (by decide) rfl (Nat.le_of_ble_eq_true rfl) (fun E hE C X => ?_)
  subst hE
  show V E (wC D cy aa ad) 4 m 0 [(0, .ref (aa 0)), (1, .int (iz (s)))] []
  obtain ⟨hk, hcu, htd, -⟩ := id hci
  have ht01 : m 0 15 = 0 ∨ m 0 15 = 1 := htd.imp (fun a => a) (fun a => a.1)
  refine v_aload_n C 0 dX10_needs_0 rfl ?_
  refine v_iload_n C 1 dX10_needs_1 rfl ?_
  refine v_callV (st := []) (n := 1) (q := 0) C [.int (iz (s))] (ct_StageRatios_has C.2.2.2.2.2.2.1 m (k) (kf) (ks) (kt) (kc) (s) (by first | assumption | omega) (by first | assumption | omega) (by first | assumption | omega) (by first | assumption | omega)) lC0 (eC0 _) rfl qw661 qw1 qw658 rfl rfl ⟨Nat.le_of_ble_eq_true rfl, Nat.le_of_ble_eq_true rfl⟩ (by decide +kernel) qw660 qp17 rfl rfl (Nat.le_of_ble_eq_true rfl) dX10_needs_2 (fun r m1 hq1 => ?_)
  obtain ⟨z1, rfl, ⟨rfl, hq1, rfl⟩ | ⟨rfl, hq1, rfl⟩⟩ := hq1
  · show V E (wC D cy aa ad) 4 m 5 [(0, .ref (aa 0)), (1, .int (iz (s)))] [.int (iz (1))]
    refine v_if_ne (tgt := 14) C dX10_needs_5 (by decide) (by omega) (fun c2 => ?_) (fun c2 => by exact absurd c2 (by decide))
    have hhs := hq1
    obtain ⟨hT1, hs0⟩ := id hhs
    obtain ⟨-, hti⟩ := htd.resolve_left (by omega)
    obtain ⟨hrk, hX, -⟩ := id hti
    obtain ⟨hk5, hF, hup, hlw, hpl, hnf, hfa, -⟩ := id hrk
    have hkk : 73 ≤ k ∧ 73 ≤ kf ∧ 73 ≤ ks ∧ 73 ≤ kt ∧ 73 ≤ kc := by unfold RocketAt at hk; omega
    have hUr := hX.u hF
    have hDv := hX.dv hF hk5
    refine v_aload_n C 0 dX10_needs_14 rfl ?_
    refine v_get C 0 9 lC0 (eC0 _) rfl inX10 (by decide) rfl qw428 dX10_needs_15 ?_
    refine v_aload_n C 0 dX10_needs_18 rfl ?_
    refine v_get C 0 13 lC0 (eC0 _) rfl inX10 (by decide) rfl qw432 dX10_needs_19 ?_
    refine v_st (st1 := [.ref (aa k), .ref (aa 8)]) (by rw [show (m 0 13).toNat = k from by assumption]) ?_
    refine v_aload_n C 0 dX10_needs_22 rfl ?_
    refine v_get C 0 2 lC0 (eC0 _) rfl inX10 (by decide) rfl qw421 dX10_needs_23 ?_
    refine v_aload_n C 0 dX10_needs_26 rfl ?_
    refine v_get C 0 4 lC0 (eC0 _) rfl inX10 (by decide) rfl qw423 dX10_needs_27 ?_
    refine v_callV (st := []) (n := 3) (q := 8) C [.ref (aa k), .ref (aa 5), .ref (aa 19)] (ct_Choice_prepare C.2.2.2.2.2.2.1 m (k) (kf) (ks) (kt) (kc) hk (by first | assumption | omega) (by exact hX.1) (by exact hti.2.2.1.1) (by exact hti.2.2.1.2)) lC8 (eC8 _) rfl qw819 qw12 qw816 rfl rfl ⟨Nat.le_of_ble_eq_true rfl, Nat.le_of_ble_eq_true rfl⟩ (by decide +kernel) qw817 qw818 rfl rfl (Nat.le_of_ble_eq_true rfl) dX10_needs_30 (fun r m3 hq3 => ?_)
    obtain ⟨rfl, hq3⟩ := hq3
    show V E (wC D cy aa ad) 4 m3 33 [(0, .ref (aa 0)), (1, .int (iz (s)))] []
    have hvd := hti.vd
    have hLd : LdOk m3 (m kf) (m k) (m 5) := ⟨hq3.1, hq3.2.1⟩
    have hbx : ∀ j : Int, 0 ≤ j → j < 3 → m3 10 j = loX (m 5) j ∧ m3 11 j = hiX (m 5) j := hq3.2.2.1
    have o1 : ∀ q, (q < 8 ∨ (12 ≤ q ∧ q < 15) ∨ (23 ≤ q ∧ q < 39) ∨ 42 ≤ q) → m3 q = m q := hq3.2.2.2
    have hcu1 : (m3 0 13).toNat = k := by rw [o1 0 (by decide)]; exact hcu
    have k1 := o1 k (by omega)
    have kf1 := o1 kf (by omega)
    have e51 := o1 5 (by decide)
    have hlh1 : ∀ j : Int, 0 ≤ j → j < 3 → (0 ≤ m3 10 j ∧ m3 10 j ≤ 16) ∧ (0 ≤ m3 11 j ∧ m3 11 j ≤ 16) := fun j h0 h1 => by rw [(hbx j h0 h1).1, (hbx j h0 h1).2]; exact hvd.bx j h0 h1
    have hce1 := hLd.ce hvd
    have hch1 := hLd.ch hvd
    have hou1 : OuOk m3 (m kf) (m k) (m 5) := hti.2.2.2.1.same (o1 0 (by decide)) (o1 12 (by decide)) (o1 14 (by decide))
    have hp1 := hX.2.1
    have hkp : kPw (m 5 1) := ⟨by omega, by omega⟩
    refine v_aload_n C 0 dX10_needs_33 rfl ?_
    refine v_get C 0 9 lC0 (eC0 _) rfl inX10 (by decide) rfl qw428 dX10_needs_34 ?_
    refine v_aload_n C 0 dX10_needs_37 rfl ?_
    refine v_get C 0 2 lC0 (eC0 _) rfl inX10 (by decide) rfl qw421 dX10_needs_38 ?_
    refine v_iconst (z := 1) C dX10_needs_41 rfl ?_
    refine v_callS (st := [.ref (aa 8)]) (n := 2) C [.ref (aa 5), .int (iz (1))] (ct_StageRatios_at C.2.2.2.2.2.2.1 m3 (5) (11) (1) ⟨lC5, by decide, eC5⟩ (by first | assumption | omega)) qw618 qw1 qw653 rfl rfl ⟨Nat.le_of_ble_eq_true rfl, Nat.le_of_ble_eq_true rfl⟩ (by decide +kernel) qw617 rfl rfl (Nat.le_of_ble_eq_true rfl) dX10_needs_42 (fun r m4 hq4 => ?_)
    obtain ⟨z4, rfl, rfl, rfl⟩ := hq4
    show V E (wC D cy aa ad) 4 m3 45 [(0, .ref (aa 0)), (1, .int (iz (s)))] [.int (iz (m3 5 1)), .ref (aa 8)]
    refine v_callV (st := []) (n := 1) (q := 8) C [.int (iz (m3 5 1))] (ct_Choice_best C.2.2.2.2.2.2.1 m3 (m3 5 1) (by rw [e51]; omega) (by exact hlh1) (by exact hce1)) lC8 (eC8 _) rfl qw848 qw12 qw845 rfl rfl ⟨Nat.le_of_ble_eq_true rfl, Nat.le_of_ble_eq_true rfl⟩ (by decide +kernel) qw846 qw847 rfl rfl (Nat.le_of_ble_eq_true rfl) dX10_needs_45 (fun r m5 hq5 => ?_)
    obtain ⟨z5, rfl, hq5, rfl⟩ := hq5
    show V E (wC D cy aa ad) 4 m3 48 [(0, .ref (aa 0)), (1, .int (iz (s)))] [.int (iz (z5))]
    rw [e51] at hq5
    have hbe := hLd.be hvd hkp hbx hq5
    have hzr : -1 ≤ z5 ∧ z5 < 4913 := by rcases hq5 with ⟨y, -⟩ | ⟨y, y2, -⟩ <;> omega
    refine v_istore_n (L1 := [(2, .int (iz (z5))), (0, .ref (aa 0)), (1, .int (iz (s)))]) C dX10_needs_48 (by decide) rfl ?_
    refine v_aload_n C 1 dX10_needs_49 rfl ?_
    refine v_get C 0 9 lC0 (eC0 _) rfl inX10 (by decide) rfl qw428 dX10_needs_50 ?_
    refine v_iload_n C 2 dX10_needs_53 rfl ?_
    refine v_iconst (z := 0) C dX10_needs_54 rfl ?_
    refine v_iconst (z := 0) C dX10_needs_55 rfl ?_
    refine v_callV (st := []) (n := 3) (q := 8) C [.int (iz (s)), .int (iz (0)), .int (iz (0))] (ct_Choice_bound C.2.2.2.2.2.2.1 m3 (s) (0) (0) (by exact ⟨hs0.1, by omega⟩)) lC8 (eC8 _) rfl qw824 qw12 qw895 rfl rfl ⟨Nat.le_of_ble_eq_true rfl, Nat.le_of_ble_eq_true rfl⟩ (by decide +kernel) qw822 qw823 rfl rfl (Nat.le_of_ble_eq_true rfl) dX10_needs_56 (fun r m6 hq6 => ?_)
    obtain ⟨rfl, hq6⟩ := hq6
    show V E (wC D cy aa ad) 4 m6 59 [(2, .int (iz (z5))), (0, .ref (aa 0)), (1, .int (iz (s)))] []
    have o56 : ∀ q : Nat, q ≠ 10 → q ≠ 11 → m6 q = m3 q := fun q h1 h2 => by rw [← hq6, mup_k _ _ _ h2, mup_k _ _ _ h1]
    have e9 := o56 9 (by decide) (by decide)
    have e52 : m6 5 = m 5 := by rw [o56 5 (by decide) (by decide), e51]
    have hb2 : ∀ j : Int, 0 ≤ j → j < 3 → m6 10 j = noX (loX (m 5)) s j ∧ m6 11 j = noX (hiX (m 5)) s j := fun j h0 h1 => by
      unfold noX; rw [← hq6, mup_r, mup_k _ _ _ (show (10 : Nat) ≠ 11 by decide), mup_k _ _ _ (show (11 : Nat) ≠ 10 by decide), mup_r]
      by_cases e : j = s
      · rw [if_pos e, if_pos e]; exact ⟨if_pos e, if_pos e⟩
      · rw [if_neg e, if_neg e]; exact ⟨(if_neg e).trans (hbx j h0 h1).1, (if_neg e).trans (hbx j h0 h1).2⟩
    have hlh2 : ∀ j : Int, 0 ≤ j → j < 3 → (0 ≤ m6 10 j ∧ m6 10 j ≤ 16) ∧ (0 ≤ m6 11 j ∧ m6 11 j ≤ 16) := fun j h0 h1 => by
      rw [(hb2 j h0 h1).1, (hb2 j h0 h1).2]; have := hvd.bx j h0 h1
      unfold noX; split <;> omega
    have hLd2 : LdOk m6 (m kf) (m k) (m 5) := by unfold LdOk; rw [e9, o56 8 (by decide) (by decide)]; exact hLd
    have hch2 := hLd2.ch hvd
    have hou2 : OuOk m6 (m kf) (m k) (m 5) := hou1.same (o56 0 (by decide) (by decide)) (o56 12 (by decide) (by decide)) (o56 14 (by decide) (by decide))
    have o2 : ∀ q : Nat, (q < 8 ∨ 73 ≤ q) → m6 q = m q := fun q h => by rw [o56 q (by omega) (by omega)]; exact o1 q (by omega)
    refine v_aload_n C 1 dX10_needs_59 rfl ?_
    refine v_get C 0 9 lC0 (eC0 _) rfl inX10 (by decide) rfl qw428 dX10_needs_60 ?_
    refine v_aload_n C 1 dX10_needs_63 rfl ?_
    refine v_get C 0 2 lC0 (eC0 _) rfl inX10 (by decide) rfl qw421 dX10_needs_64 ?_
    refine v_iconst (z := 1) C dX10_needs_67 rfl ?_
    refine v_callS (st := [.ref (aa 8)]) (n := 2) C [.ref (aa 5), .int (iz (1))] (ct_StageRatios_at C.2.2.2.2.2.2.1 m6 (5) (11) (1) ⟨lC5, by decide, eC5⟩ (by first | assumption | omega)) qw618 qw1 qw653 rfl rfl ⟨Nat.le_of_ble_eq_true rfl, Nat.le_of_ble_eq_true rfl⟩ (by decide +kernel) qw617 rfl rfl (Nat.le_of_ble_eq_true rfl) dX10_needs_68 (fun r m7 hq7 => ?_)
    obtain ⟨z7, rfl, rfl, rfl⟩ := hq7
    show V E (wC D cy aa ad) 4 m6 71 [(2, .int (iz (z5))), (0, .ref (aa 0)), (1, .int (iz (s)))] [.int (iz (m6 5 1)), .ref (aa 8)]
    refine v_callV (st := []) (n := 1) (q := 8) C [.int (iz (m6 5 1))] (ct_Choice_best C.2.2.2.2.2.2.1 m6 (m6 5 1) (by rw [e52]; omega) (by exact hlh2) (by rw [e9]; exact hce1)) lC8 (eC8 _) rfl qw848 qw12 qw845 rfl rfl ⟨Nat.le_of_ble_eq_true rfl, Nat.le_of_ble_eq_true rfl⟩ (by decide +kernel) qw846 qw847 rfl rfl (Nat.le_of_ble_eq_true rfl) dX10_needs_71 (fun r m8 hq8 => ?_)
    obtain ⟨z8, rfl, hq8, rfl⟩ := hq8
    show V E (wC D cy aa ad) 4 m6 74 [(2, .int (iz (z5))), (0, .ref (aa 0)), (1, .int (iz (s)))] [.int (iz (z8))]
    rw [e52] at hq8
    have hbe2 := hLd2.be hvd hkp hb2 hq8
    have hzr2 : -1 ≤ z8 ∧ z8 < 4913 := by rcases hq8 with ⟨y, -⟩ | ⟨y, y2, -⟩ <;> omega
    refine v_istore_n (L1 := [(3, .int (iz (z8))), (2, .int (iz (z5))), (0, .ref (aa 0)), (1, .int (iz (s)))]) C dX10_needs_74 (by decide) rfl ?_
    refine v_iload_n C 1 dX10_needs_75 rfl ?_
    refine v_if_lt (tgt := 83) C dX10_needs_76 (by decide) (by omega) (fun c9 => ?_) (fun c9 => ?_)
    · refine v_aload_n C 2 dX10_needs_83 rfl ?_
      refine v_bipush (z := -2) C dX10_needs_84 (by decide) ?_
      refine v_callV (st := []) (n := 1) (q := 0) C [.int (iz (-2))] (ct_StageRatios_answer C.2.2.2.2.2.2.1 m6 (-2) ) lC0 (eC0 _) rfl qw640 qw1 qw637 rfl rfl ⟨Nat.le_of_ble_eq_true rfl, Nat.le_of_ble_eq_true rfl⟩ (by decide +kernel) qw639 qp16 rfl rfl (Nat.le_of_ble_eq_true rfl) dX10_needs_86 (fun r m10 hq10 => ?_)
      obtain ⟨z10, rfl, rfl, hq10⟩ := hq10
      show V E (wC D cy aa ad) 4 m10 89 [(3, .int (iz (z8))), (2, .int (iz (z5))), (0, .ref (aa 0)), (1, .int (iz (s)))] [.int (iz ((-2)))]
      refine v_iret C X rfl dX10_needs_89 ⟨_, rfl, ?_, ?_⟩
      · rw [← hq10]
        refine ⟨0, ?_, by decide, CQ.of3 o2⟩
        exact Or.inl ⟨hhs, rfl, z5, z8, hbe.1, hbe2.1, by rw [if_pos (by omega)]⟩
      · rw [← hq10]; exact CI.of3 hk hcu hT1 hti o2 hch2 hou2
    · refine v_iload_n C 0 dX10_needs_79 rfl ?_
      refine v_if_ge (tgt := 90) C dX10_needs_80 (by decide) (by omega) (fun c11 => ?_) (fun c11 => ?_)
      · refine v_aload_n C 2 dX10_needs_90 rfl ?_
        refine v_aload_n C 2 dX10_needs_91 rfl ?_
        refine v_get C 0 9 lC0 (eC0 _) rfl inX10 (by decide) rfl qw428 dX10_needs_92 ?_
        refine v_iload_n C 0 dX10_needs_95 rfl ?_
        refine v_callV (st := [.ref (aa 0)]) (n := 1) (q := 8) C [.int (iz (z8))] (ct_Choice_weightOf C.2.2.2.2.2.2.1 m6 (z8) (by exact (hbe2.2 (by omega)).1) (by have y := (hbe2.2 (by omega)).1; exact ⟨(hbe2.2 (by omega)).2.1, by rw [e9]; exact (hce1 _ y.1 y.2).2⟩)) lC8 (eC8 _) rfl qw865 qw12 qw866 rfl rfl ⟨Nat.le_of_ble_eq_true rfl, Nat.le_of_ble_eq_true rfl⟩ (by decide +kernel) qw863 qw864 rfl rfl (Nat.le_of_ble_eq_true rfl) dX10_needs_96 (fun r m12 hq12 => ?_)
        obtain ⟨z12, rfl, rfl, rfl⟩ := hq12
        show V E (wC D cy aa ad) 4 m6 99 [(3, .int (iz (z8))), (2, .int (iz (z5))), (0, .ref (aa 0)), (1, .int (iz (s)))] [.int (iz (m6 9 z8 / 64)), .ref (aa 0)]
        refine v_aload_n C 2 dX10_needs_99 rfl ?_
        refine v_get C 0 9 lC0 (eC0 _) rfl inX10 (by decide) rfl qw428 dX10_needs_100 ?_
        refine v_iload_n C 1 dX10_needs_103 rfl ?_
        refine v_callV (st := [.int (iz (m6 9 z8 / 64)), .ref (aa 0)]) (n := 1) (q := 8) C [.int (iz (z5))] (ct_Choice_weightOf C.2.2.2.2.2.2.1 m6 (z5) (by exact (hbe.2 (by omega)).1) (by have y := (hbe.2 (by omega)).1; rw [e9]; exact ⟨(hbe.2 (by omega)).2.1, (hce1 _ y.1 y.2).2⟩)) lC8 (eC8 _) rfl qw865 qw12 qw866 rfl rfl ⟨Nat.le_of_ble_eq_true rfl, Nat.le_of_ble_eq_true rfl⟩ (by decide +kernel) qw863 qw864 rfl rfl (Nat.le_of_ble_eq_true rfl) dX10_needs_104 (fun r m13 hq13 => ?_)
        obtain ⟨z13, rfl, rfl, rfl⟩ := hq13
        show V E (wC D cy aa ad) 4 m6 107 [(3, .int (iz (z8))), (2, .int (iz (z5))), (0, .ref (aa 0)), (1, .int (iz (s)))] [.int (iz (m6 9 z5 / 64)), .int (iz (m6 9 z8 / 64)), .ref (aa 0)]
        refine v_isub C dX10_needs_107 ?_
        refine v_callV (st := []) (n := 1) (q := 0) C [.int (iz ((m6 9 z8 / 64) - (m6 9 z5 / 64)))] (ct_StageRatios_answer C.2.2.2.2.2.2.1 m6 ((m6 9 z8 / 64) - (m6 9 z5 / 64)) ) lC0 (eC0 _) rfl qw640 qw1 qw637 rfl rfl ⟨Nat.le_of_ble_eq_true rfl, Nat.le_of_ble_eq_true rfl⟩ (by decide +kernel) qw639 qp16 rfl rfl (Nat.le_of_ble_eq_true rfl) dX10_needs_108 (fun r m14 hq14 => ?_)
        obtain ⟨z14, rfl, rfl, hq14⟩ := hq14
        show V E (wC D cy aa ad) 4 m14 111 [(3, .int (iz (z8))), (2, .int (iz (z5))), (0, .ref (aa 0)), (1, .int (iz (s)))] [.int (iz (((m6 9 z8 / 64) - (m6 9 z5 / 64))))]
        refine v_iret C X rfl dX10_needs_111 ⟨_, rfl, ?_, ?_⟩
        · rw [← hq14]
          refine ⟨0, ?_, by decide, CQ.of3 o2⟩
          exact Or.inl ⟨hhs, rfl, z5, z8, hbe.1, hbe2.1, by rw [if_neg (by omega), (hbe2.2 (by omega)).2.2, ← (hbe.2 (by omega)).2.2, e9]⟩
        · rw [← hq14]; exact CI.of3 hk hcu hT1 hti o2 hch2 hou2
      · refine v_aload_n C 2 dX10_needs_83 rfl ?_
        refine v_bipush (z := -2) C dX10_needs_84 (by decide) ?_
        refine v_callV (st := []) (n := 1) (q := 0) C [.int (iz (-2))] (ct_StageRatios_answer C.2.2.2.2.2.2.1 m6 (-2) ) lC0 (eC0 _) rfl qw640 qw1 qw637 rfl rfl ⟨Nat.le_of_ble_eq_true rfl, Nat.le_of_ble_eq_true rfl⟩ (by decide +kernel) qw639 qp16 rfl rfl (Nat.le_of_ble_eq_true rfl) dX10_needs_86 (fun r m15 hq15 => ?_)
        obtain ⟨z15, rfl, rfl, hq15⟩ := hq15
        show V E (wC D cy aa ad) 4 m15 89 [(3, .int (iz (z8))), (2, .int (iz (z5))), (0, .ref (aa 0)), (1, .int (iz (s)))] [.int (iz ((-2)))]
        refine v_iret C X rfl dX10_needs_89 ⟨_, rfl, ?_, ?_⟩
        · rw [← hq15]
          refine ⟨0, ?_, by decide, CQ.of3 o2⟩
          exact Or.inl ⟨hhs, rfl, z5, z8, hbe.1, hbe2.1, by rw [if_pos (by omega)]⟩
        · rw [← hq15]; exact CI.of3 hk hcu hT1 hti o2 hch2 hou2
  · show V E (wC D cy aa ad) 4 m 5 [(0, .ref (aa 0)), (1, .int (iz (s)))] [.int (iz (0))]
    refine v_if_ne (tgt := 14) C dX10_needs_5 (by decide) (by omega) (fun c16 => by exact absurd c16 (by decide)) (fun c16 => ?_)
    refine v_aload_n C 0 dX10_needs_8 rfl ?_
    refine v_iconst (z := 1) C dX10_needs_9 rfl ?_
    refine v_callV (st := []) (n := 1) (q := 0) C [.int (iz (1))] (ct_StageRatios_refuse C.2.2.2.2.2.2.1 m (1) ) lC0 (eC0 _) rfl qw502 qw1 qw499 rfl rfl ⟨Nat.le_of_ble_eq_true rfl, Nat.le_of_ble_eq_true rfl⟩ (by decide +kernel) qw501 qp0 rfl rfl (Nat.le_of_ble_eq_true rfl) dX10_needs_10 (fun r m17 hq17 => ?_)
    obtain ⟨z17, rfl, rfl, hq17⟩ := hq17
    show V E (wC D cy aa ad) 4 m17 13 [(0, .ref (aa 0)), (1, .int (iz (s)))] [.int (iz (-1))]
    refine v_iret C X rfl dX10_needs_13 ⟨_, rfl, ?_, ?_⟩
    · rw [← hq17]
      exact ⟨1, Or.inr ⟨hq1, rfl, rfl⟩, by decide, CQ.of (fun _ _ => rfl)⟩
    · rw [← hq17]; exact hci.of (fun _ _ => rfl)
