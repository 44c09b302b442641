theorem cmZ_rng (l k : List (Int × Int)) : -1 ≤ cmZ l k ∧ cmZ l k ≤ 1 := by
  unfold cmZ; split
  · omega
  · split <;> omega
set_option maxHeartbeats 4000000 in
set_option maxRecDepth 100000 in
theorem ct_StageRatios_fronts {lau : Launch} {D : va_G} {cy : Nat → ClassId} {aa ad : Nat → Nat} (hI : wI (wC D cy aa ad)) (m : Mem) (k kf ks kt kc : Nat) (hci : CI m k kf ks kt kc) : MT lau (wC D cy aa ad) yX10_fronts cX10_fronts 1 (some .int) ({ frames := 6, cells := 0, slots := 0, locals := 172 } : Room) m [.ref (aa 0)] (Pi (fun z m' => (QP (qFrs (m 0 15) (m kf) (m k) (m 5)) m m' z) ∧ CI m' k kf ks kt kc)) := by
  refine v_entry hI RX10 (by decide) rfl (Nat.le_of_ble_eq_true rfl) (fun E hE C X => ?_)
  subst hE
  show V E (wC D cy aa ad) 1 m 0 [(0, .ref (aa 0))] []
  obtain ⟨hk, hcu, htd, -⟩ := id hci
  have ht01 : m 0 15 = 0 ∨ m 0 15 = 1 := htd.imp (fun a => a) (fun a => a.1)
  refine v_aload_n C 0 dX10_fronts_0 rfl ?_
  refine v_get C 0 15 lC0 (eC0 _) rfl inX10 (by decide) rfl qw434 dX10_fronts_1 ?_
  refine v_if_ne (tgt := 13) C dX10_fronts_4 (by decide) (by omega) (fun c1 => ?_) (fun c1 => ?_)
  · obtain ⟨hT1, hti⟩ := htd.resolve_left (by omega)
    obtain ⟨hrk, hX, -⟩ := id hti
    obtain ⟨hk5, hF, hup, hlw, hpl, hnf, hfa, -⟩ := id hrk
    have hkk : 73 ≤ k ∧ 73 ≤ kf ∧ 73 ≤ ks ∧ 73 ≤ kt ∧ 73 ≤ kc := by unfold RocketAt at hk; omega
    have hUr := hX.u hF
    have hDv := hX.dv hF hk5
    refine v_aload_n C 0 dX10_fronts_13 rfl ?_
    refine v_get C 0 9 lC0 (eC0 _) rfl inX10 (by decide) rfl qw428 dX10_fronts_14 ?_
    refine v_aload_n C 0 dX10_fronts_17 rfl ?_
    refine v_get C 0 13 lC0 (eC0 _) rfl inX10 (by decide) rfl qw432 dX10_fronts_18 ?_
    refine v_st (st1 := [.ref (aa k), .ref (aa 8)]) (by rw [show (m 0 13).toNat = k from by assumption]) ?_
    refine v_aload_n C 0 dX10_fronts_21 rfl ?_
    refine v_get C 0 2 lC0 (eC0 _) rfl inX10 (by decide) rfl qw421 dX10_fronts_22 ?_
    refine v_aload_n C 0 dX10_fronts_25 rfl ?_
    refine v_get C 0 4 lC0 (eC0 _) rfl inX10 (by decide) rfl qw423 dX10_fronts_26 ?_
    refine v_callV (st := []) (n := 3) (q := 8) C [.ref (aa k), .ref (aa 5), .ref (aa 19)] (ct_Choice_prepare C.2.2.2.2.2.2.1 m (k) (kf) (ks) (kt) (kc) hk (by first | assumption | omega) (by exact hX.1) (by exact hti.2.2.1.1) (by exact hti.2.2.1.2)) lC8 (eC8 _) rfl qw819 qw12 qw816 rfl rfl ⟨Nat.le_of_ble_eq_true rfl, Nat.le_of_ble_eq_true rfl⟩ (by decide +kernel) qw817 qw818 rfl rfl (Nat.le_of_ble_eq_true rfl) dX10_fronts_29 (fun r m2 hq2 => ?_)
    obtain ⟨rfl, hq2⟩ := hq2
    show V E (wC D cy aa ad) 1 m2 32 [(0, .ref (aa 0))] []
    have hvd := hti.vd
    have hLd : LdOk m2 (m kf) (m k) (m 5) := ⟨hq2.1, hq2.2.1⟩
    have hbx : ∀ j : Int, 0 ≤ j → j < 3 → m2 10 j = loX (m 5) j ∧ m2 11 j = hiX (m 5) j := hq2.2.2.1
    have o1 : ∀ q, (q < 8 ∨ (12 ≤ q ∧ q < 15) ∨ (23 ≤ q ∧ q < 39) ∨ 42 ≤ q) → m2 q = m q := hq2.2.2.2
    have hcu1 : (m2 0 13).toNat = k := by rw [o1 0 (by decide)]; exact hcu
    have k1 := o1 k (by omega)
    have kf1 := o1 kf (by omega)
    have e51 := o1 5 (by decide)
    have hlh1 : ∀ j : Int, 0 ≤ j → j < 3 → (0 ≤ m2 10 j ∧ m2 10 j ≤ 16) ∧ (0 ≤ m2 11 j ∧ m2 11 j ≤ 16) := fun j h0 h1 => by rw [(hbx j h0 h1).1, (hbx j h0 h1).2]; exact hvd.bx j h0 h1
    have hce1 := hLd.ce hvd
    have hch1 := hLd.ch hvd
    have hou1 : OuOk m2 (m kf) (m k) (m 5) := hti.2.2.2.1.same (o1 0 (by decide)) (o1 12 (by decide)) (o1 14 (by decide))
    have e10 := o1 0 (by decide)
    refine v_aload_n C 0 dX10_fronts_32 rfl ?_
    refine v_get C 0 10 lC0 (eC0 _) rfl inX10 (by decide) rfl qw429 dX10_fronts_33 ?_
    refine v_aload_n C 0 dX10_fronts_36 rfl ?_
    refine v_get C 0 13 lC0 (eC0 _) rfl inX10 (by decide) rfl qw432 dX10_fronts_37 ?_
    refine v_st (st1 := [.ref (aa k), .ref (aa 12)]) (by rw [show (m2 0 13).toNat = k from by assumption]) ?_
    refine v_aload_n C 0 dX10_fronts_40 rfl ?_
    refine v_get C 0 2 lC0 (eC0 _) rfl inX10 (by decide) rfl qw421 dX10_fronts_41 ?_
    refine v_iconst (z := 0) C dX10_fronts_44 rfl ?_
    refine v_callS (st := [.ref (aa k), .ref (aa 12)]) (n := 2) C [.ref (aa 5), .int (iz (0))] (ct_StageRatios_at C.2.2.2.2.2.2.1 m2 (5) (11) (0) ⟨lC5, by decide, eC5⟩ (by first | assumption | omega)) qw618 qw1 qw653 rfl rfl ⟨Nat.le_of_ble_eq_true rfl, Nat.le_of_ble_eq_true rfl⟩ (by decide +kernel) qw617 rfl rfl (Nat.le_of_ble_eq_true rfl) dX10_fronts_45 (fun r m3 hq3 => ?_)
    obtain ⟨z3, rfl, rfl, rfl⟩ := hq3
    show V E (wC D cy aa ad) 1 m2 48 [(0, .ref (aa 0))] [.int (iz (m2 5 0)), .ref (aa k), .ref (aa 12)]
    refine v_aload_n C 0 dX10_fronts_48 rfl ?_
    refine v_get C 0 17 lC0 (eC0 _) rfl inX10 (by decide) rfl qw436 dX10_fronts_49 ?_
    refine v_callV (st := []) (n := 3) (q := 12) C [.ref (aa k), .int (iz (m2 5 0)), .int (iz (m2 0 17))] (ct_Front_draw C.2.2.2.2.2.2.1 m2 (k) (kf) (ks) (kt) (kc) (m2 5 0) (m2 0 17) hk (by exact hrk.fr k1 kf1 (o1 ks (by omega)) (o1 kt (by omega)) (o1 kc (by omega))) (by rw [e51]; exact hX.1) (by rw [e10]; have := hti.2.2.2.2.2; omega) (by rw [o1 12 (by decide)]; have := hti.2.2.2.1.1; have := hti.2.2.2.2.2; omega) (by rw [k1, kf1, e51]; exact hLd.2) (by exact hlh1) (by rw [k1, kf1, e51, e10, o1 12 (by decide), o1 14 (by decide), cnA_cg hbx]; exact hti.2.2.2.1.2)) lC12 (eC12 _) rfl qw903 qw13 qw900 rfl rfl ⟨Nat.le_of_ble_eq_true rfl, Nat.le_of_ble_eq_true rfl⟩ (by decide +kernel) qw901 qw902 rfl rfl (Nat.le_of_ble_eq_true rfl) dX10_fronts_52 (fun r m4 hq4 => ?_)
    obtain ⟨rfl, hq4⟩ := hq4
    show V E (wC D cy aa ad) 1 m4 55 [(0, .ref (aa 0))] []
    rw [k1, kf1, e51, e10, cnA_cg hbx] at hq4
    have o2 : ∀ q : Nat, (q < 12 ∨ 73 ≤ q) → m4 q = m2 q := fun q h => hq4.2.2 q (by omega)
    have o12 : ∀ q : Nat, (q < 8 ∨ 73 ≤ q) → m4 q = m q := fun q h => by rw [o2 q (by omega)]; exact o1 q (by omega)
    have hLd2 : LdOk m4 (m kf) (m k) (m 5) := by unfold LdOk; rw [o2 8 (by omega), o2 9 (by omega)]; exact hLd
    have hch2 := hLd2.ch hvd
    have hce2 := hLd2.ce hvd
    have hou2 : OuOk m4 (m kf) (m k) (m 5) := by
      refine ⟨?_, fun _ => hq4.2.1⟩
      rw [hq4.1, o12 0 (by omega)]; have := hti.2.2.2.2.2; omega
    have hcu2 : (m4 0 13).toNat = k := by rw [o12 0 (by decide)]; exact hcu
    obtain ⟨l, hl1, hl2, hl3⟩ := hq4.2.1
    have hll : l.length ≤ 400 := by obtain ⟨bm, -, rfl⟩ := id hl1; exact frL_len _ _ 400
    have hmem : ∀ q ∈ l, (0 ≤ q ∧ q < 4913) ∧ cnA (m kf) (m k 5) (m 5 0) (loX (m 5)) (hiX (m 5)) q := by obtain ⟨bm, hb, rfl⟩ := id hl1; exact fun q hq => frL_codes hb (by decide) hq
    have hgm : ∀ q ∈ l, (0 ≤ q ∧ q < 4913) ∧ 0 ≤ m4 9 q := fun q hq => ⟨(hmem q hq).1, ((hLd2.2 q (hmem q hq).1.1 (hmem q hq).1.2).cn hF hk5 hX.1 (hmem q hq).1.1 (hmem q hq).1.2).mpr (hmem q hq).2 |>.1⟩
    refine v_aload_n C 0 dX10_fronts_55 rfl ?_
    refine v_aload_n C 0 dX10_fronts_56 rfl ?_
    refine v_get C 0 10 lC0 (eC0 _) rfl inX10 (by decide) rfl qw429 dX10_fronts_57 ?_
    refine v_get C 12 2 lC12 (eC12 _) rfl inX3 (by decide) rfl qw284 dX10_fronts_60 ?_
    refine v_callV (st := []) (n := 1) (q := 0) C [.int (iz (m4 12 2))] (ct_StageRatios_answer C.2.2.2.2.2.2.1 m4 (m4 12 2) ) lC0 (eC0 _) rfl qw640 qw1 qw637 rfl rfl ⟨Nat.le_of_ble_eq_true rfl, Nat.le_of_ble_eq_true rfl⟩ (by decide +kernel) qw639 qp16 rfl rfl (Nat.le_of_ble_eq_true rfl) dX10_fronts_63 (fun r m5 hq5 => ?_)
    obtain ⟨z5, rfl, rfl, hq5⟩ := hq5
    show V E (wC D cy aa ad) 1 m5 66 [(0, .ref (aa 0))] [.int (iz ((m4 12 2)))]
    refine v_iret C X rfl dX10_fronts_66 ⟨_, rfl, ?_, ?_⟩
    · rw [← hq5]
      refine ⟨0, ?_, by decide, CQ.of3 o12⟩
      exact Or.inl ⟨hT1, rfl, l, hl1, hl2⟩
    · rw [← hq5]; exact CI.of3 hk hcu hT1 hti o12 hch2 hou2
  · refine v_aload_n C 0 dX10_fronts_7 rfl ?_
    refine v_iconst (z := 1) C dX10_fronts_8 rfl ?_
    refine v_callV (st := []) (n := 1) (q := 0) C [.int (iz (1))] (ct_StageRatios_refuse C.2.2.2.2.2.2.1 m (1) ) lC0 (eC0 _) rfl qw502 qw1 qw499 rfl rfl ⟨Nat.le_of_ble_eq_true rfl, Nat.le_of_ble_eq_true rfl⟩ (by decide +kernel) qw501 qp0 rfl rfl (Nat.le_of_ble_eq_true rfl) dX10_fronts_9 (fun r m6 hq6 => ?_)
    obtain ⟨z6, rfl, rfl, hq6⟩ := hq6
    show V E (wC D cy aa ad) 1 m6 12 [(0, .ref (aa 0))] [.int (iz (-1))]
    refine v_iret C X rfl dX10_fronts_12 ⟨_, rfl, ?_, ?_⟩
    · rw [← hq6]
      exact ⟨1, Or.inr ⟨by omega, rfl, rfl⟩, by decide, CQ.of (fun _ _ => rfl)⟩
    · rw [← hq6]; exact hci.of (fun _ _ => rfl)

set_option maxHeartbeats 4000000 in
set_option maxRecDepth 100000 in
theorem ct_StageRatios_front {lau : Launch} {D : va_G} {cy : Nat → ClassId} {aa ad : Nat → Nat} (hI : wI (wC D cy aa ad)) (m : Mem) (k kf ks kt kc : Nat) (i w : Int) (hci : CI m k kf ks kt kc) (hi : -2147483648 ≤ i ∧ i ≤ 2147483647) (hw : -2147483648 ≤ w ∧ w ≤ 2147483647) : MT lau (wC D cy aa ad) yX10_front cX10_front 4 (some .int) ({ frames := 6, cells := 0, slots := 0, locals := 172 } : Room) m [.ref (aa 0), .int (iz (i)), .int (iz (w))] (Pi (fun z m' => (QP (qFro (m 0 15) (m kf) (m k) (m 5) i w) m m' z) ∧ CI m' k kf ks kt kc)) := by
  refine v_entry hI RX10 (by decide) rfl (Nat.le_of_ble_eq_true rfl) (fun E hE C X => ?_)
  subst hE
  show V E (wC D cy aa ad) 4 m 0 [(0, .ref (aa 0)), (1, .int (iz (i))), (2, .int (iz (w)))] []
  obtain ⟨hk, hcu, htd, -⟩ := id hci
  have ht01 : m 0 15 = 0 ∨ m 0 15 = 1 := htd.imp (fun a => a) (fun a => a.1)
  refine v_aload_n C 0 dX10_front_0 rfl ?_
  refine v_get C 0 15 lC0 (eC0 _) rfl inX10 (by decide) rfl qw434 dX10_front_1 ?_
  refine v_if_eq (tgt := 20) C dX10_front_4 (by decide) (by omega) (fun c1 => ?_) (fun c1 => ?_)
  · refine v_aload_n C 0 dX10_front_20 rfl ?_
    refine v_iconst (z := 1) C dX10_front_21 rfl ?_
    refine v_callV (st := []) (n := 1) (q := 0) C [.int (iz (1))] (ct_StageRatios_refuse C.2.2.2.2.2.2.1 m (1) ) lC0 (eC0 _) rfl qw502 qw1 qw499 rfl rfl ⟨Nat.le_of_ble_eq_true rfl, Nat.le_of_ble_eq_true rfl⟩ (by decide +kernel) qw501 qp0 rfl rfl (Nat.le_of_ble_eq_true rfl) dX10_front_22 (fun r m2 hq2 => ?_)
    obtain ⟨z2, rfl, rfl, hq2⟩ := hq2
    show V E (wC D cy aa ad) 4 m2 25 [(0, .ref (aa 0)), (1, .int (iz (i))), (2, .int (iz (w)))] [.int (iz (-1))]
    refine v_iret C X rfl dX10_front_25 ⟨_, rfl, ?_, ?_⟩
    · rw [← hq2]
      exact ⟨1, Or.inr ⟨fun l h => by omega, rfl, rfl⟩, by decide, CQ.of (fun _ _ => rfl)⟩
    · rw [← hq2]; exact hci.of (fun _ _ => rfl)
  · refine v_iload_n C 1 dX10_front_7 rfl ?_
    refine v_if_lt (tgt := 20) C dX10_front_8 (by decide) (by omega) (fun c3 => ?_) (fun c3 => ?_)
    · refine v_aload_n C 0 dX10_front_20 rfl ?_
      refine v_iconst (z := 1) C dX10_front_21 rfl ?_
      refine v_callV (st := []) (n := 1) (q := 0) C [.int (iz (1))] (ct_StageRatios_refuse C.2.2.2.2.2.2.1 m (1) ) lC0 (eC0 _) rfl qw502 qw1 qw499 rfl rfl ⟨Nat.le_of_ble_eq_true rfl, Nat.le_of_ble_eq_true rfl⟩ (by decide +kernel) qw501 qp0 rfl rfl (Nat.le_of_ble_eq_true rfl) dX10_front_22 (fun r m4 hq4 => ?_)
      obtain ⟨z4, rfl, rfl, hq4⟩ := hq4
      show V E (wC D cy aa ad) 4 m4 25 [(0, .ref (aa 0)), (1, .int (iz (i))), (2, .int (iz (w)))] [.int (iz (-1))]
      refine v_iret C X rfl dX10_front_25 ⟨_, rfl, ?_, ?_⟩
      · rw [← hq4]
        exact ⟨1, Or.inr ⟨fun l h => by omega, rfl, rfl⟩, by decide, CQ.of (fun _ _ => rfl)⟩
      · rw [← hq4]; exact hci.of (fun _ _ => rfl)
    · refine v_iload_n C 2 dX10_front_11 rfl ?_
      refine v_if_lt (tgt := 20) C dX10_front_12 (by decide) (by omega) (fun c5 => ?_) (fun c5 => ?_)
      · refine v_aload_n C 0 dX10_front_20 rfl ?_
        refine v_iconst (z := 1) C dX10_front_21 rfl ?_
        refine v_callV (st := []) (n := 1) (q := 0) C [.int (iz (1))] (ct_StageRatios_refuse C.2.2.2.2.2.2.1 m (1) ) lC0 (eC0 _) rfl qw502 qw1 qw499 rfl rfl ⟨Nat.le_of_ble_eq_true rfl, Nat.le_of_ble_eq_true rfl⟩ (by decide +kernel) qw501 qp0 rfl rfl (Nat.le_of_ble_eq_true rfl) dX10_front_22 (fun r m6 hq6 => ?_)
        obtain ⟨z6, rfl, rfl, hq6⟩ := hq6
        show V E (wC D cy aa ad) 4 m6 25 [(0, .ref (aa 0)), (1, .int (iz (i))), (2, .int (iz (w)))] [.int (iz (-1))]
        refine v_iret C X rfl dX10_front_25 ⟨_, rfl, ?_, ?_⟩
        · rw [← hq6]
          exact ⟨1, Or.inr ⟨fun l h => by omega, rfl, rfl⟩, by decide, CQ.of (fun _ _ => rfl)⟩
        · rw [← hq6]; exact hci.of (fun _ _ => rfl)
      · refine v_iload_n C 2 dX10_front_15 rfl ?_
        refine v_iconst (z := 4) C dX10_front_16 rfl ?_
        refine v_icmp_le (tgt := 26) C dX10_front_17 (by decide) (by omega) (by omega) (fun c7 => ?_) (fun c7 => ?_)
        · obtain ⟨hT1, hti⟩ := htd.resolve_left (by omega)
          obtain ⟨hrk, hX, -⟩ := id hti
          obtain ⟨hk5, hF, hup, hlw, hpl, hnf, hfa, -⟩ := id hrk
          have hkk : 73 ≤ k ∧ 73 ≤ kf ∧ 73 ≤ ks ∧ 73 ≤ kt ∧ 73 ≤ kc := by unfold RocketAt at hk; omega
          have hUr := hX.u hF
          have hDv := hX.dv hF hk5
          refine v_aload_n C 0 dX10_front_26 rfl ?_
          refine v_get C 0 9 lC0 (eC0 _) rfl inX10 (by decide) rfl qw428 dX10_front_27 ?_
          refine v_aload_n C 0 dX10_front_30 rfl ?_
          refine v_get C 0 13 lC0 (eC0 _) rfl inX10 (by decide) rfl qw432 dX10_front_31 ?_
          refine v_st (st1 := [.ref (aa k), .ref (aa 8)]) (by rw [show (m 0 13).toNat = k from by assumption]) ?_
          refine v_aload_n C 0 dX10_front_34 rfl ?_
          refine v_get C 0 2 lC0 (eC0 _) rfl inX10 (by decide) rfl qw421 dX10_front_35 ?_
          refine v_aload_n C 0 dX10_front_38 rfl ?_
          refine v_get C 0 4 lC0 (eC0 _) rfl inX10 (by decide) rfl qw423 dX10_front_39 ?_
          refine v_callV (st := []) (n := 3) (q := 8) C [.ref (aa k), .ref (aa 5), .ref (aa 19)] (ct_Choice_prepare C.2.2.2.2.2.2.1 m (k) (kf) (ks) (kt) (kc) hk (by first | assumption | omega) (by exact hX.1) (by exact hti.2.2.1.1) (by exact hti.2.2.1.2)) lC8 (eC8 _) rfl qw819 qw12 qw816 rfl rfl ⟨Nat.le_of_ble_eq_true rfl, Nat.le_of_ble_eq_true rfl⟩ (by decide +kernel) qw817 qw818 rfl rfl (Nat.le_of_ble_eq_true rfl) dX10_front_42 (fun r m8 hq8 => ?_)
          obtain ⟨rfl, hq8⟩ := hq8
          show V E (wC D cy aa ad) 4 m8 45 [(0, .ref (aa 0)), (1, .int (iz (i))), (2, .int (iz (w)))] []
          have hvd := hti.vd
          have hLd : LdOk m8 (m kf) (m k) (m 5) := ⟨hq8.1, hq8.2.1⟩
          have hbx : ∀ j : Int, 0 ≤ j → j < 3 → m8 10 j = loX (m 5) j ∧ m8 11 j = hiX (m 5) j := hq8.2.2.1
          have o1 : ∀ q, (q < 8 ∨ (12 ≤ q ∧ q < 15) ∨ (23 ≤ q ∧ q < 39) ∨ 42 ≤ q) → m8 q = m q := hq8.2.2.2
          have hcu1 : (m8 0 13).toNat = k := by rw [o1 0 (by decide)]; exact hcu
          have k1 := o1 k (by omega)
          have kf1 := o1 kf (by omega)
          have e51 := o1 5 (by decide)
          have hlh1 : ∀ j : Int, 0 ≤ j → j < 3 → (0 ≤ m8 10 j ∧ m8 10 j ≤ 16) ∧ (0 ≤ m8 11 j ∧ m8 11 j ≤ 16) := fun j h0 h1 => by rw [(hbx j h0 h1).1, (hbx j h0 h1).2]; exact hvd.bx j h0 h1
          have hce1 := hLd.ce hvd
          have hch1 := hLd.ch hvd
          have hou1 : OuOk m8 (m kf) (m k) (m 5) := hti.2.2.2.1.same (o1 0 (by decide)) (o1 12 (by decide)) (o1 14 (by decide))
          have e10 := o1 0 (by decide)
          refine v_aload_n C 0 dX10_front_45 rfl ?_
          refine v_get C 0 10 lC0 (eC0 _) rfl inX10 (by decide) rfl qw429 dX10_front_46 ?_
          refine v_aload_n C 0 dX10_front_49 rfl ?_
          refine v_get C 0 13 lC0 (eC0 _) rfl inX10 (by decide) rfl qw432 dX10_front_50 ?_
          refine v_st (st1 := [.ref (aa k), .ref (aa 12)]) (by rw [show (m8 0 13).toNat = k from by assumption]) ?_
          refine v_aload_n C 0 dX10_front_53 rfl ?_
          refine v_get C 0 2 lC0 (eC0 _) rfl inX10 (by decide) rfl qw421 dX10_front_54 ?_
          refine v_iconst (z := 0) C dX10_front_57 rfl ?_
          refine v_callS (st := [.ref (aa k), .ref (aa 12)]) (n := 2) C [.ref (aa 5), .int (iz (0))] (ct_StageRatios_at C.2.2.2.2.2.2.1 m8 (5) (11) (0) ⟨lC5, by decide, eC5⟩ (by first | assumption | omega)) qw618 qw1 qw653 rfl rfl ⟨Nat.le_of_ble_eq_true rfl, Nat.le_of_ble_eq_true rfl⟩ (by decide +kernel) qw617 rfl rfl (Nat.le_of_ble_eq_true rfl) dX10_front_58 (fun r m9 hq9 => ?_)
          obtain ⟨z9, rfl, rfl, rfl⟩ := hq9
          show V E (wC D cy aa ad) 4 m8 61 [(0, .ref (aa 0)), (1, .int (iz (i))), (2, .int (iz (w)))] [.int (iz (m8 5 0)), .ref (aa k), .ref (aa 12)]
          refine v_aload_n C 0 dX10_front_61 rfl ?_
          refine v_get C 0 17 lC0 (eC0 _) rfl inX10 (by decide) rfl qw436 dX10_front_62 ?_
          refine v_callV (st := []) (n := 3) (q := 12) C [.ref (aa k), .int (iz (m8 5 0)), .int (iz (m8 0 17))] (ct_Front_draw C.2.2.2.2.2.2.1 m8 (k) (kf) (ks) (kt) (kc) (m8 5 0) (m8 0 17) hk (by exact hrk.fr k1 kf1 (o1 ks (by omega)) (o1 kt (by omega)) (o1 kc (by omega))) (by rw [e51]; exact hX.1) (by rw [e10]; have := hti.2.2.2.2.2; omega) (by rw [o1 12 (by decide)]; have := hti.2.2.2.1.1; have := hti.2.2.2.2.2; omega) (by rw [k1, kf1, e51]; exact hLd.2) (by exact hlh1) (by rw [k1, kf1, e51, e10, o1 12 (by decide), o1 14 (by decide), cnA_cg hbx]; exact hti.2.2.2.1.2)) lC12 (eC12 _) rfl qw903 qw13 qw900 rfl rfl ⟨Nat.le_of_ble_eq_true rfl, Nat.le_of_ble_eq_true rfl⟩ (by decide +kernel) qw901 qw902 rfl rfl (Nat.le_of_ble_eq_true rfl) dX10_front_65 (fun r m10 hq10 => ?_)
          obtain ⟨rfl, hq10⟩ := hq10
          show V E (wC D cy aa ad) 4 m10 68 [(0, .ref (aa 0)), (1, .int (iz (i))), (2, .int (iz (w)))] []
          rw [k1, kf1, e51, e10, cnA_cg hbx] at hq10
          have o2 : ∀ q : Nat, (q < 12 ∨ 73 ≤ q) → m10 q = m8 q := fun q h => hq10.2.2 q (by omega)
          have o12 : ∀ q : Nat, (q < 8 ∨ 73 ≤ q) → m10 q = m q := fun q h => by rw [o2 q (by omega)]; exact o1 q (by omega)
          have hLd2 : LdOk m10 (m kf) (m k) (m 5) := by unfold LdOk; rw [o2 8 (by omega), o2 9 (by omega)]; exact hLd
          have hch2 := hLd2.ch hvd
          have hce2 := hLd2.ce hvd
          have hou2 : OuOk m10 (m kf) (m k) (m 5) := by
            refine ⟨?_, fun _ => hq10.2.1⟩
            rw [hq10.1, o12 0 (by omega)]; have := hti.2.2.2.2.2; omega
          have hcu2 : (m10 0 13).toNat = k := by rw [o12 0 (by decide)]; exact hcu
          obtain ⟨l, hl1, hl2, hl3⟩ := hq10.2.1
          have hll : l.length ≤ 400 := by obtain ⟨bm, -, rfl⟩ := id hl1; exact frL_len _ _ 400
          have hmem : ∀ q ∈ l, (0 ≤ q ∧ q < 4913) ∧ cnA (m kf) (m k 5) (m 5 0) (loX (m 5)) (hiX (m 5)) q := by obtain ⟨bm, hb, rfl⟩ := id hl1; exact fun q hq => frL_codes hb (by decide) hq
          have hgm : ∀ q ∈ l, (0 ≤ q ∧ q < 4913) ∧ 0 ≤ m10 9 q := fun q hq => ⟨(hmem q hq).1, ((hLd2.2 q (hmem q hq).1.1 (hmem q hq).1.2).cn hF hk5 hX.1 (hmem q hq).1.1 (hmem q hq).1.2).mpr (hmem q hq).2 |>.1⟩
          have k2 : m10 k = m k := o12 k (by omega)
          have k25 : m10 k 5 = m k 5 := by rw [k2]
          refine v_iload_n C 1 dX10_front_68 rfl ?_
          refine v_aload_n C 0 dX10_front_69 rfl ?_
          refine v_get C 0 10 lC0 (eC0 _) rfl inX10 (by decide) rfl qw429 dX10_front_70 ?_
          refine v_get C 12 2 lC12 (eC12 _) rfl inX3 (by decide) rfl qw284 dX10_front_73 ?_
          refine v_icmp_lt (tgt := 85) C dX10_front_76 (by decide) (by omega) (by omega) (fun c11 => ?_) (fun c11 => ?_)
          · obtain ⟨q0, hq0⟩ : ∃ q, l[i.toNat]? = some q := ⟨_, List.getElem?_eq_getElem (by omega)⟩
            have eq0 : m10 14 i = q0 := by have := hl3 _ q0 hq0; rwa [show ((i.toNat : Nat) : Int) = i by omega] at this
            have hm0 := hgm q0 (List.mem_of_getElem? hq0)
            rw [← eq0] at hm0
            have hce0 := hce2 _ hm0.1.1 hm0.1.2
            have hpo := (hLd2.2 _ hm0.1.1 hm0.1.2).pos hm0.2
            refine v_aload_n C 0 dX10_front_85 rfl ?_
            refine v_get C 0 10 lC0 (eC0 _) rfl inX10 (by decide) rfl qw429 dX10_front_86 ?_
            refine v_get C 12 1 lC12 (eC12 _) rfl inX3 (by decide) rfl qw282 dX10_front_89 ?_
            refine v_iload_n C 1 dX10_front_92 rfl ?_
            refine v_callS (st := []) (n := 2) C [.ref (aa 14), .int (iz (i))] (ct_StageRatios_at C.2.2.2.2.2.2.1 m10 (14) (400) (i) ⟨lC14, by decide, eC14⟩ (by first | assumption | omega)) qw618 qw1 qw653 rfl rfl ⟨Nat.le_of_ble_eq_true rfl, Nat.le_of_ble_eq_true rfl⟩ (by decide +kernel) qw617 rfl rfl (Nat.le_of_ble_eq_true rfl) dX10_front_93 (fun r m12 hq12 => ?_)
            obtain ⟨z12, rfl, rfl, rfl⟩ := hq12
            show V E (wC D cy aa ad) 4 m10 96 [(0, .ref (aa 0)), (1, .int (iz (i))), (2, .int (iz (w)))] [.int (iz (m10 14 i))]
            refine v_istore_n (L1 := [(3, .int (iz (m10 14 i))), (0, .ref (aa 0)), (1, .int (iz (i))), (2, .int (iz (w)))]) C dX10_front_96 (by decide) rfl ?_
            refine v_iload_n C 3 dX10_front_97 rfl ?_
            refine v_if_ne (tgt := 114) C dX10_front_98 (by decide) (by omega) (fun c13 => ?_) (fun c13 => ?_)
            · refine v_iload_n C 3 dX10_front_114 rfl ?_
              refine v_iconst (z := 1) C dX10_front_115 rfl ?_
              refine v_icmp_ne (tgt := 132) C dX10_front_116 (by decide) (by omega) (by omega) (fun c14 => ?_) (fun c14 => ?_)
              · refine v_aload_n C 1 dX10_front_132 rfl ?_
                refine v_iload_n C 3 dX10_front_133 rfl ?_
                refine v_iconst (z := 2) C dX10_front_134 rfl ?_
                refine v_isub C dX10_front_135 ?_
                refine v_aload_n C 1 dX10_front_136 rfl ?_
                refine v_get C 0 13 lC0 (eC0 _) rfl inX10 (by decide) rfl qw432 dX10_front_137 ?_
                refine v_st (st1 := [.ref (aa k), .int (iz (w - 2)), .ref (aa 0)]) (by rw [show (m10 0 13).toNat = k from by assumption]) ?_
                refine v_get C k 5 (RocketAt.l0 hk) (RocketAt.e0 hk _) rfl inX6 (by decide) rfl qw387 dX10_front_140 ?_
                refine v_icmp_ge (tgt := 156) C dX10_front_143 (by decide) (by omega) (by omega) (fun c15 => ?_) (fun c15 => ?_)
                · refine v_bipush (z := -2) C dX10_front_156 (by decide) ?_
                  refine v_callV (st := []) (n := 1) (q := 0) C [.int (iz (-2))] (ct_StageRatios_answer C.2.2.2.2.2.2.1 m10 (-2) ) lC0 (eC0 _) rfl qw640 qw1 qw637 rfl rfl ⟨Nat.le_of_ble_eq_true rfl, Nat.le_of_ble_eq_true rfl⟩ (by decide +kernel) qw639 qp16 rfl rfl (Nat.le_of_ble_eq_true rfl) dX10_front_158 (fun r m16 hq16 => ?_)
                  obtain ⟨z16, rfl, rfl, hq16⟩ := hq16
                  show V E (wC D cy aa ad) 4 m16 161 [(3, .int (iz (m10 14 i))), (0, .ref (aa 0)), (1, .int (iz (i))), (2, .int (iz (w)))] [.int (iz ((-2)))]
                  refine v_iret C X rfl dX10_front_161 ⟨_, rfl, ?_, ?_⟩
                  · rw [← hq16]
                    refine ⟨0, ?_, by decide, CQ.of3 o12⟩
                    exact Or.inl ⟨l, ⟨hT1, ⟨by omega, by omega⟩, by omega, by omega⟩, hl1, rfl, q0, hq0, fun h => by first | omega | (rw [← eq0]; omega), fun h => by first | omega | (rw [← eq0]; omega), fun h => by first | omega | (first | (rw [if_pos (by omega), ← eq0]) | (rw [if_neg (by omega)]))⟩
                  · rw [← hq16]; exact CI.of3 hk hcu hT1 hti o12 hch2 hou2
                · refine v_iload_n C 0 dX10_front_146 rfl ?_
                  refine v_iload_n C 3 dX10_front_147 rfl ?_
                  refine v_iconst (z := 2) C dX10_front_148 rfl ?_
                  refine v_isub C dX10_front_149 ?_
                  refine v_callS (st := [.ref (aa 0)]) (n := 2) C [.int (iz (m10 14 i)), .int (iz (w - 2))] (ct_Choice_unitsOf C.2.2.2.2.2.2.1 m10 (m10 14 i) (w - 2) (by exact hm0.1) (by omega)) qw832 qw12 qw871 rfl rfl ⟨Nat.le_of_ble_eq_true rfl, Nat.le_of_ble_eq_true rfl⟩ (by decide +kernel) qw831 rfl rfl (Nat.le_of_ble_eq_true rfl) dX10_front_150 (fun r m17 hq17 => ?_)
                  obtain ⟨z17, rfl, rfl, rfl⟩ := hq17
                  show V E (wC D cy aa ad) 4 m10 153 [(3, .int (iz (m10 14 i))), (0, .ref (aa 0)), (1, .int (iz (i))), (2, .int (iz (w)))] [.int (iz (unZ (m10 14 i) (w - 2))), .ref (aa 0)]
                  refine v_goto (tgt := 158) C dX10_front_153 (by decide) ?_
                  refine v_callV (st := []) (n := 1) (q := 0) C [.int (iz (unZ (m10 14 i) (w - 2)))] (ct_StageRatios_answer C.2.2.2.2.2.2.1 m10 (unZ (m10 14 i) (w - 2)) ) lC0 (eC0 _) rfl qw640 qw1 qw637 rfl rfl ⟨Nat.le_of_ble_eq_true rfl, Nat.le_of_ble_eq_true rfl⟩ (by decide +kernel) qw639 qp16 rfl rfl (Nat.le_of_ble_eq_true rfl) dX10_front_158 (fun r m18 hq18 => ?_)
                  obtain ⟨z18, rfl, rfl, hq18⟩ := hq18
                  show V E (wC D cy aa ad) 4 m18 161 [(3, .int (iz (m10 14 i))), (0, .ref (aa 0)), (1, .int (iz (i))), (2, .int (iz (w)))] [.int (iz ((unZ (m10 14 i) (w - 2))))]
                  refine v_iret C X rfl dX10_front_161 ⟨_, rfl, ?_, ?_⟩
                  · rw [← hq18]
                    refine ⟨0, ?_, by decide, CQ.of3 o12⟩
                    exact Or.inl ⟨l, ⟨hT1, ⟨by omega, by omega⟩, by omega, by omega⟩, hl1, rfl, q0, hq0, fun h => by first | omega | (rw [← eq0]; omega), fun h => by first | omega | (rw [← eq0]; omega), fun h => by first | omega | (first | (rw [if_pos (by omega), ← eq0]) | (rw [if_neg (by omega)]))⟩
                  · rw [← hq18]; exact CI.of3 hk hcu hT1 hti o12 hch2 hou2
              · refine v_aload_n C 1 dX10_front_119 rfl ?_
                refine v_aload_n C 1 dX10_front_120 rfl ?_
                refine v_get C 0 9 lC0 (eC0 _) rfl inX10 (by decide) rfl qw428 dX10_front_121 ?_
                refine v_iload_n C 0 dX10_front_124 rfl ?_
                refine v_callV (st := [.ref (aa 0)]) (n := 1) (q := 8) C [.int (iz (m10 14 i))] (ct_Choice_powerOf C.2.2.2.2.2.2.1 m10 (m10 14 i) (by exact hm0.1) (by exact ⟨hm0.2, hce0.2⟩)) lC8 (eC8 _) rfl qw861 qw12 qw929 rfl rfl ⟨Nat.le_of_ble_eq_true rfl, Nat.le_of_ble_eq_true rfl⟩ (by decide +kernel) qw859 qw860 rfl rfl (Nat.le_of_ble_eq_true rfl) dX10_front_125 (fun r m19 hq19 => ?_)
                obtain ⟨z19, rfl, rfl, rfl⟩ := hq19
                show V E (wC D cy aa ad) 4 m10 128 [(3, .int (iz (m10 14 i))), (0, .ref (aa 0)), (1, .int (iz (i))), (2, .int (iz (w)))] [.int (iz (m10 9 (m10 14 i) % 64)), .ref (aa 0)]
                refine v_callV (st := []) (n := 1) (q := 0) C [.int (iz (m10 9 (m10 14 i) % 64))] (ct_StageRatios_answer C.2.2.2.2.2.2.1 m10 (m10 9 (m10 14 i) % 64) ) lC0 (eC0 _) rfl qw640 qw1 qw637 rfl rfl ⟨Nat.le_of_ble_eq_true rfl, Nat.le_of_ble_eq_true rfl⟩ (by decide +kernel) qw639 qp16 rfl rfl (Nat.le_of_ble_eq_true rfl) dX10_front_128 (fun r m20 hq20 => ?_)
                obtain ⟨z20, rfl, rfl, hq20⟩ := hq20
                show V E (wC D cy aa ad) 4 m20 131 [(3, .int (iz (m10 14 i))), (0, .ref (aa 0)), (1, .int (iz (i))), (2, .int (iz (w)))] [.int (iz ((m10 9 (m10 14 i) % 64)))]
                refine v_iret C X rfl dX10_front_131 ⟨_, rfl, ?_, ?_⟩
                · rw [← hq20]
                  refine ⟨0, ?_, by decide, CQ.of3 o12⟩
                  exact Or.inl ⟨l, ⟨hT1, ⟨by omega, by omega⟩, by omega, by omega⟩, hl1, rfl, q0, hq0, fun h => by first | omega | (rw [← eq0]; omega), fun h => by first | omega | (rw [← eq0]; exact hpo.2.2.1), fun h => by first | omega | omega⟩
                · rw [← hq20]; exact CI.of3 hk hcu hT1 hti o12 hch2 hou2
            · refine v_aload_n C 1 dX10_front_101 rfl ?_
              refine v_aload_n C 1 dX10_front_102 rfl ?_
              refine v_get C 0 9 lC0 (eC0 _) rfl inX10 (by decide) rfl qw428 dX10_front_103 ?_
              refine v_iload_n C 0 dX10_front_106 rfl ?_
              refine v_callV (st := [.ref (aa 0)]) (n := 1) (q := 8) C [.int (iz (m10 14 i))] (ct_Choice_weightOf C.2.2.2.2.2.2.1 m10 (m10 14 i) (by exact hm0.1) (by exact ⟨hm0.2, hce0.2⟩)) lC8 (eC8 _) rfl qw865 qw12 qw866 rfl rfl ⟨Nat.le_of_ble_eq_true rfl, Nat.le_of_ble_eq_true rfl⟩ (by decide +kernel) qw863 qw864 rfl rfl (Nat.le_of_ble_eq_true rfl) dX10_front_107 (fun r m21 hq21 => ?_)
              obtain ⟨z21, rfl, rfl, rfl⟩ := hq21
              show V E (wC D cy aa ad) 4 m10 110 [(3, .int (iz (m10 14 i))), (0, .ref (aa 0)), (1, .int (iz (i))), (2, .int (iz (w)))] [.int (iz (m10 9 (m10 14 i) / 64)), .ref (aa 0)]
              refine v_callV (st := []) (n := 1) (q := 0) C [.int (iz (m10 9 (m10 14 i) / 64))] (ct_StageRatios_answer C.2.2.2.2.2.2.1 m10 (m10 9 (m10 14 i) / 64) ) lC0 (eC0 _) rfl qw640 qw1 qw637 rfl rfl ⟨Nat.le_of_ble_eq_true rfl, Nat.le_of_ble_eq_true rfl⟩ (by decide +kernel) qw639 qp16 rfl rfl (Nat.le_of_ble_eq_true rfl) dX10_front_110 (fun r m22 hq22 => ?_)
              obtain ⟨z22, rfl, rfl, hq22⟩ := hq22
              show V E (wC D cy aa ad) 4 m22 113 [(3, .int (iz (m10 14 i))), (0, .ref (aa 0)), (1, .int (iz (i))), (2, .int (iz (w)))] [.int (iz ((m10 9 (m10 14 i) / 64)))]
              refine v_iret C X rfl dX10_front_113 ⟨_, rfl, ?_, ?_⟩
              · rw [← hq22]
                refine ⟨0, ?_, by decide, CQ.of3 o12⟩
                exact Or.inl ⟨l, ⟨hT1, ⟨by omega, by omega⟩, by omega, by omega⟩, hl1, rfl, q0, hq0, fun h => by first | omega | (rw [← eq0]; exact hpo.2.2.2), fun h => by first | omega | (rw [← eq0]; omega), fun h => by first | omega | omega⟩
              · rw [← hq22]; exact CI.of3 hk hcu hT1 hti o12 hch2 hou2
          · refine v_aload_n C 0 dX10_front_79 rfl ?_
            refine v_iconst (z := 1) C dX10_front_80 rfl ?_
            refine v_callV (st := []) (n := 1) (q := 0) C [.int (iz (1))] (ct_StageRatios_refuse C.2.2.2.2.2.2.1 m10 (1) ) lC0 (eC0 _) rfl qw502 qw1 qw499 rfl rfl ⟨Nat.le_of_ble_eq_true rfl, Nat.le_of_ble_eq_true rfl⟩ (by decide +kernel) qw501 qp0 rfl rfl (Nat.le_of_ble_eq_true rfl) dX10_front_81 (fun r m23 hq23 => ?_)
            obtain ⟨z23, rfl, rfl, hq23⟩ := hq23
            show V E (wC D cy aa ad) 4 m23 84 [(0, .ref (aa 0)), (1, .int (iz (i))), (2, .int (iz (w)))] [.int (iz (-1))]
            refine v_iret C X rfl dX10_front_84 ⟨_, rfl, ?_, ?_⟩
            · rw [← hq23]
              refine ⟨1, ?_, by decide, CQ.of3 o12⟩
              exact Or.inr ⟨fun l2 h h2 => by rw [FrIs.eq h2 hl1] at h; omega, rfl, rfl⟩
            · rw [← hq23]; exact CI.of3 hk hcu hT1 hti o12 hch2 hou2
        · refine v_aload_n C 0 dX10_front_20 rfl ?_
          refine v_iconst (z := 1) C dX10_front_21 rfl ?_
          refine v_callV (st := []) (n := 1) (q := 0) C [.int (iz (1))] (ct_StageRatios_refuse C.2.2.2.2.2.2.1 m (1) ) lC0 (eC0 _) rfl qw502 qw1 qw499 rfl rfl ⟨Nat.le_of_ble_eq_true rfl, Nat.le_of_ble_eq_true rfl⟩ (by decide +kernel) qw501 qp0 rfl rfl (Nat.le_of_ble_eq_true rfl) dX10_front_22 (fun r m24 hq24 => ?_)
          obtain ⟨z24, rfl, rfl, hq24⟩ := hq24
          show V E (wC D cy aa ad) 4 m24 25 [(0, .ref (aa 0)), (1, .int (iz (i))), (2, .int (iz (w)))] [.int (iz (-1))]
          refine v_iret C X rfl dX10_front_25 ⟨_, rfl, ?_, ?_⟩
          · rw [← hq24]
            exact ⟨1, Or.inr ⟨fun l h => by omega, rfl, rfl⟩, by decide, CQ.of (fun _ _ => rfl)⟩
          · rw [← hq24]; exact hci.of (fun _ _ => rfl)

set_option maxHeartbeats 4000000 in
set_option maxRecDepth 100000 in
theorem ct_StageRatios_beaten {lau : Launch} {D : va_G} {cy : Nat → ClassId} {aa ad : Nat → Nat} (hI : wI (wC D cy aa ad)) (m : Mem) (k kf ks kt kc : Nat) (hci : CI m k kf ks kt kc) : MT lau (wC D cy aa ad) yX10_beaten cX10_beaten 5 (some .int) ({ frames := 6, cells := 0, slots := 0, locals := 172 } : Room) m [.ref (aa 0)] (Pi (fun z m' => (QP (qBea (m 0 15) (m kf) (m k) (m 5)) m m' z) ∧ CI m' k kf ks kt kc)) := by
  refine v_entry hI RX10 (by decide) rfl (Nat.le_of_ble_eq_true rfl) (fun E hE C X => ?_)
  subst hE
  show V E (wC D cy aa ad) 5 m 0 [(0, .ref (aa 0))] []
  obtain ⟨hk, hcu, htd, -⟩ := id hci
  have ht01 : m 0 15 = 0 ∨ m 0 15 = 1 := htd.imp (fun a => a) (fun a => a.1)
  refine v_aload_n C 0 dX10_beaten_0 rfl ?_
  refine v_get C 0 15 lC0 (eC0 _) rfl inX10 (by decide) rfl qw434 dX10_beaten_1 ?_
  refine v_if_ne (tgt := 13) C dX10_beaten_4 (by decide) (by omega) (fun c1 => ?_) (fun c1 => ?_)
  · obtain ⟨hT1, hti⟩ := htd.resolve_left (by omega)
    obtain ⟨hrk, hX, -⟩ := id hti
    obtain ⟨hk5, hF, hup, hlw, hpl, hnf, hfa, -⟩ := id hrk
    have hkk : 73 ≤ k ∧ 73 ≤ kf ∧ 73 ≤ ks ∧ 73 ≤ kt ∧ 73 ≤ kc := by unfold RocketAt at hk; omega
    have hUr := hX.u hF
    have hDv := hX.dv hF hk5
    refine v_aload_n C 0 dX10_beaten_13 rfl ?_
    refine v_get C 0 9 lC0 (eC0 _) rfl inX10 (by decide) rfl qw428 dX10_beaten_14 ?_
    refine v_aload_n C 0 dX10_beaten_17 rfl ?_
    refine v_get C 0 13 lC0 (eC0 _) rfl inX10 (by decide) rfl qw432 dX10_beaten_18 ?_
    refine v_st (st1 := [.ref (aa k), .ref (aa 8)]) (by rw [show (m 0 13).toNat = k from by assumption]) ?_
    refine v_aload_n C 0 dX10_beaten_21 rfl ?_
    refine v_get C 0 2 lC0 (eC0 _) rfl inX10 (by decide) rfl qw421 dX10_beaten_22 ?_
    refine v_aload_n C 0 dX10_beaten_25 rfl ?_
    refine v_get C 0 4 lC0 (eC0 _) rfl inX10 (by decide) rfl qw423 dX10_beaten_26 ?_
    refine v_callV (st := []) (n := 3) (q := 8) C [.ref (aa k), .ref (aa 5), .ref (aa 19)] (ct_Choice_prepare C.2.2.2.2.2.2.1 m (k) (kf) (ks) (kt) (kc) hk (by first | assumption | omega) (by exact hX.1) (by exact hti.2.2.1.1) (by exact hti.2.2.1.2)) lC8 (eC8 _) rfl qw819 qw12 qw816 rfl rfl ⟨Nat.le_of_ble_eq_true rfl, Nat.le_of_ble_eq_true rfl⟩ (by decide +kernel) qw817 qw818 rfl rfl (Nat.le_of_ble_eq_true rfl) dX10_beaten_29 (fun r m2 hq2 => ?_)
    obtain ⟨rfl, hq2⟩ := hq2
    show V E (wC D cy aa ad) 5 m2 32 [(0, .ref (aa 0))] []
    have hvd := hti.vd
    have hLd : LdOk m2 (m kf) (m k) (m 5) := ⟨hq2.1, hq2.2.1⟩
    have hbx : ∀ j : Int, 0 ≤ j → j < 3 → m2 10 j = loX (m 5) j ∧ m2 11 j = hiX (m 5) j := hq2.2.2.1
    have o1 : ∀ q, (q < 8 ∨ (12 ≤ q ∧ q < 15) ∨ (23 ≤ q ∧ q < 39) ∨ 42 ≤ q) → m2 q = m q := hq2.2.2.2
    have hcu1 : (m2 0 13).toNat = k := by rw [o1 0 (by decide)]; exact hcu
    have k1 := o1 k (by omega)
    have kf1 := o1 kf (by omega)
    have e51 := o1 5 (by decide)
    have hlh1 : ∀ j : Int, 0 ≤ j → j < 3 → (0 ≤ m2 10 j ∧ m2 10 j ≤ 16) ∧ (0 ≤ m2 11 j ∧ m2 11 j ≤ 16) := fun j h0 h1 => by rw [(hbx j h0 h1).1, (hbx j h0 h1).2]; exact hvd.bx j h0 h1
    have hce1 := hLd.ce hvd
    have hch1 := hLd.ch hvd
    have hou1 : OuOk m2 (m kf) (m k) (m 5) := hti.2.2.2.1.same (o1 0 (by decide)) (o1 12 (by decide)) (o1 14 (by decide))
    have e10 := o1 0 (by decide)
    refine v_aload_n C 0 dX10_beaten_32 rfl ?_
    refine v_get C 0 10 lC0 (eC0 _) rfl inX10 (by decide) rfl qw429 dX10_beaten_33 ?_
    refine v_aload_n C 0 dX10_beaten_36 rfl ?_
    refine v_get C 0 13 lC0 (eC0 _) rfl inX10 (by decide) rfl qw432 dX10_beaten_37 ?_
    refine v_st (st1 := [.ref (aa k), .ref (aa 12)]) (by rw [show (m2 0 13).toNat = k from by assumption]) ?_
    refine v_aload_n C 0 dX10_beaten_40 rfl ?_
    refine v_get C 0 2 lC0 (eC0 _) rfl inX10 (by decide) rfl qw421 dX10_beaten_41 ?_
    refine v_iconst (z := 0) C dX10_beaten_44 rfl ?_
    refine v_callS (st := [.ref (aa k), .ref (aa 12)]) (n := 2) C [.ref (aa 5), .int (iz (0))] (ct_StageRatios_at C.2.2.2.2.2.2.1 m2 (5) (11) (0) ⟨lC5, by decide, eC5⟩ (by first | assumption | omega)) qw618 qw1 qw653 rfl rfl ⟨Nat.le_of_ble_eq_true rfl, Nat.le_of_ble_eq_true rfl⟩ (by decide +kernel) qw617 rfl rfl (Nat.le_of_ble_eq_true rfl) dX10_beaten_45 (fun r m3 hq3 => ?_)
    obtain ⟨z3, rfl, rfl, rfl⟩ := hq3
    show V E (wC D cy aa ad) 5 m2 48 [(0, .ref (aa 0))] [.int (iz (m2 5 0)), .ref (aa k), .ref (aa 12)]
    refine v_aload_n C 0 dX10_beaten_48 rfl ?_
    refine v_get C 0 17 lC0 (eC0 _) rfl inX10 (by decide) rfl qw436 dX10_beaten_49 ?_
    refine v_callV (st := []) (n := 3) (q := 12) C [.ref (aa k), .int (iz (m2 5 0)), .int (iz (m2 0 17))] (ct_Front_draw C.2.2.2.2.2.2.1 m2 (k) (kf) (ks) (kt) (kc) (m2 5 0) (m2 0 17) hk (by exact hrk.fr k1 kf1 (o1 ks (by omega)) (o1 kt (by omega)) (o1 kc (by omega))) (by rw [e51]; exact hX.1) (by rw [e10]; have := hti.2.2.2.2.2; omega) (by rw [o1 12 (by decide)]; have := hti.2.2.2.1.1; have := hti.2.2.2.2.2; omega) (by rw [k1, kf1, e51]; exact hLd.2) (by exact hlh1) (by rw [k1, kf1, e51, e10, o1 12 (by decide), o1 14 (by decide), cnA_cg hbx]; exact hti.2.2.2.1.2)) lC12 (eC12 _) rfl qw903 qw13 qw900 rfl rfl ⟨Nat.le_of_ble_eq_true rfl, Nat.le_of_ble_eq_true rfl⟩ (by decide +kernel) qw901 qw902 rfl rfl (Nat.le_of_ble_eq_true rfl) dX10_beaten_52 (fun r m4 hq4 => ?_)
    obtain ⟨rfl, hq4⟩ := hq4
    show V E (wC D cy aa ad) 5 m4 55 [(0, .ref (aa 0))] []
    rw [k1, kf1, e51, e10, cnA_cg hbx] at hq4
    have o2 : ∀ q : Nat, (q < 12 ∨ 73 ≤ q) → m4 q = m2 q := fun q h => hq4.2.2 q (by omega)
    have o12 : ∀ q : Nat, (q < 8 ∨ 73 ≤ q) → m4 q = m q := fun q h => by rw [o2 q (by omega)]; exact o1 q (by omega)
    have hLd2 : LdOk m4 (m kf) (m k) (m 5) := by unfold LdOk; rw [o2 8 (by omega), o2 9 (by omega)]; exact hLd
    have hch2 := hLd2.ch hvd
    have hce2 := hLd2.ce hvd
    have hou2 : OuOk m4 (m kf) (m k) (m 5) := by
      refine ⟨?_, fun _ => hq4.2.1⟩
      rw [hq4.1, o12 0 (by omega)]; have := hti.2.2.2.2.2; omega
    have hcu2 : (m4 0 13).toNat = k := by rw [o12 0 (by decide)]; exact hcu
    obtain ⟨l, hl1, hl2, hl3⟩ := hq4.2.1
    have hll : l.length ≤ 400 := by obtain ⟨bm, -, rfl⟩ := id hl1; exact frL_len _ _ 400
    have hmem : ∀ q ∈ l, (0 ≤ q ∧ q < 4913) ∧ cnA (m kf) (m k 5) (m 5 0) (loX (m 5)) (hiX (m 5)) q := by obtain ⟨bm, hb, rfl⟩ := id hl1; exact fun q hq => frL_codes hb (by decide) hq
    have hgm : ∀ q ∈ l, (0 ≤ q ∧ q < 4913) ∧ 0 ≤ m4 9 q := fun q hq => ⟨(hmem q hq).1, ((hLd2.2 q (hmem q hq).1.1 (hmem q hq).1.2).cn hF hk5 hX.1 (hmem q hq).1.1 (hmem q hq).1.2).mpr (hmem q hq).2 |>.1⟩
    have k2 : m4 k = m k := o12 k (by omega)
    have kf2 : m4 kf = m kf := o12 kf (by omega)
    have e52 : m4 5 = m 5 := o12 5 (by omega)
    have hti2 : TI m4 k kf ks kt kc := hti.fr hk (fun j _ => by rw [o12 0 (by decide)]) (fun q h => o12 q (by omega)) hch2 hou2
    refine v_aload_n C 0 dX10_beaten_55 rfl ?_
    refine v_callV (st := []) (n := 0) (q := 0) C [] (ct_StageRatios_weighAsItIs C.2.2.2.2.2.2.1 m4 (k) (kf) (ks) (kt) (kc) (by first | assumption | omega) (by first | assumption | omega) (by first | assumption | omega)) lC0 (eC0 _) rfl qw674 qw1 qw671 rfl rfl ⟨Nat.le_of_ble_eq_true rfl, Nat.le_of_ble_eq_true rfl⟩ (by decide +kernel) qw673 qp18 rfl rfl (Nat.le_of_ble_eq_true rfl) dX10_beaten_56 (fun r m5 hq5 => ?_)
    obtain ⟨rfl, hq5⟩ := hq5
    show V E (wC D cy aa ad) 5 m5 59 [(0, .ref (aa 0))] []
    have hW := hq5.1
    rw [kf2, k2, e52] at hW
    have o3 : ∀ q : Nat, (q < 19 ∨ 23 ≤ q) → m5 q = m4 q := hq5.2.2
    have k3 : m5 k = m k := by rw [o3 k (by omega), k2]
    have kf3 : m5 kf = m kf := by rw [o3 kf (by omega), kf2]
    have hcu3 : (m5 0 13).toNat = k := by rw [o3 0 (by decide)]; exact hcu2
    refine v_aload_n C 0 dX10_beaten_59 rfl ?_
    refine v_get C 0 4 lC0 (eC0 _) rfl inX10 (by decide) rfl qw423 dX10_beaten_60 ?_
    refine v_aload_n C 0 dX10_beaten_63 rfl ?_
    refine v_get C 0 13 lC0 (eC0 _) rfl inX10 (by decide) rfl qw432 dX10_beaten_64 ?_
    refine v_st (st1 := [.ref (aa k), .ref (aa 19)]) (by rw [show (m5 0 13).toNat = k from by assumption]) ?_
    refine v_aload_n C 0 dX10_beaten_67 rfl ?_
    refine v_get C 0 6 lC0 (eC0 _) rfl inX10 (by decide) rfl qw425 dX10_beaten_68 ?_
    refine v_callV (st := []) (n := 2) (q := 19) C [.ref (aa k), .ref (aa 31)] (ct_Weights_speedInto C.2.2.2.2.2.2.1 m5 (19) (20) (21) (22) (k) (kf) (ks) (kt) (kc) (31) (32) (33) (34) (by unfold WeightsAt; decide) hk (by unfold RatioAt; decide) (by rw [k3]; exact hk5)) lC19 (eC19 _) rfl qw725 qw8 qw722 rfl rfl ⟨Nat.le_of_ble_eq_true rfl, Nat.le_of_ble_eq_true rfl⟩ (by decide +kernel) qw723 qw724 rfl rfl (Nat.le_of_ble_eq_true rfl) dX10_beaten_71 (fun r m6 hq6 => ?_)
    obtain ⟨rfl, hq6⟩ := hq6
    show V E (wC D cy aa ad) 5 m6 74 [(0, .ref (aa 0))] []
    have zq := hq6.1
    rw [k3, kf3, hW.spT] at zq
    have o4 : ∀ q : Nat, (q < 31 ∨ 34 ≤ q) → m6 q = m5 q := fun q h => hq6.2 q (by omega) (by omega) (by omega)
    have o24 : ∀ q : Nat, (q < 19 ∨ (23 ≤ q ∧ q < 31) ∨ 34 ≤ q) → m6 q = m4 q := fun q h => by rw [o4 q (by omega), o3 q (by omega)]
    have e193 : m6 19 3 = stX (m kf) (m k) (m 5) 0 := by rw [o4 19 (by omega)]; exact hW.1
    obtain ⟨al1, al2, al3, al4, al5⟩ := hDv.al hF
    have hsr := stZ_rng (s := 0) hF hk5.2 hX.1 hDv.2.2 (by omega) (by omega)
    have hsr2 : 1 ≤ stX (m kf) (m k) (m 5) 0 ∧ stX (m kf) (m k) (m 5) 0 ≤ 358 := hsr
    refine v_iconst (z := 0) C dX10_beaten_74 rfl ?_
    refine v_istore_n (L1 := [(1, .int (iz (0))), (0, .ref (aa 0))]) C dX10_beaten_75 (by decide) rfl ?_
    have K76 : ∀ (nK : Nat) (i : Int) (mI : Mem) (hi : 0 ≤ i ∧ i ≤ l.length) (hno : ∀ (j : Nat) (c : Int), (j : Int) < i → l[j]? = some c → ¬ btX (m kf) (m k) (m 5) c) (fJ : ∀ q : Nat, (q < 15 ∨ 38 ≤ q ∧ q < 43 ∨ 73 ≤ q) → mI q = m4 q) (fI3 : ∀ q : Nat, (19 ≤ q ∧ q < 23 ∨ 31 ≤ q ∧ q < 34) → mI q = m6 q), (l.length - i).toNat < nK → V E (wC D cy aa ad) 5 mI 76 [(0, .ref (aa 0)), (1, .int (iz (i)))] [] := by
      intro nK
      induction nK with
      | zero => intro i mI hi hno fJ fI3 hn; exact absurd hn (Nat.not_lt_zero _)
      | succ nK ih76 =>
        intro i mI hi hno fJ fI3 hn76
        have fI : ∀ q : Nat, (q < 8 ∨ 73 ≤ q) → mI q = m q := fun q h => by rw [fJ q (by omega)]; exact o12 q h
        have kI := fI k (by omega)
        have kfI := fI kf (by omega)
        have e5I := fI 5 (by omega)
        have hcuI : (mI 0 13).toNat = k := by rw [fI 0 (by decide)]; exact hcu
        have e2I : mI 12 2 = l.length := by rw [fJ 12 (by omega)]; exact hl2
        have hchI : ChOk mI (m kf) (m k) := by unfold ChOk; rw [fJ 8 (by omega), fJ 9 (by omega)]; exact hch2
        have houI : OuOk mI (m kf) (m k) (m 5) := hou2.same (fJ 0 (by omega)) (fJ 12 (by omega)) (fJ 14 (by omega))
        have e193I : mI 19 3 = stX (m kf) (m k) (m 5) 0 := by rw [fI3 19 (by omega)]; exact e193
        refine v_iload_n C 1 dX10_beaten_76 rfl ?_
        refine v_aload_n C 0 dX10_beaten_77 rfl ?_
        refine v_get C 0 10 lC0 (eC0 _) rfl inX10 (by decide) rfl qw429 dX10_beaten_78 ?_
        refine v_get C 12 2 lC12 (eC12 _) rfl inX3 (by decide) rfl qw284 dX10_beaten_81 ?_
        refine v_icmp_ge (tgt := 198) C dX10_beaten_84 (by decide) (by omega) (by omega) (fun c7 => ?_) (fun c7 => ?_)
        · refine v_aload_n C 0 dX10_beaten_198 rfl ?_
          refine v_iconst (z := 0) C dX10_beaten_199 rfl ?_
          refine v_callV (st := []) (n := 1) (q := 0) C [.int (iz (0))] (ct_StageRatios_answer C.2.2.2.2.2.2.1 mI (0) ) lC0 (eC0 _) rfl qw640 qw1 qw637 rfl rfl ⟨Nat.le_of_ble_eq_true rfl, Nat.le_of_ble_eq_true rfl⟩ (by decide +kernel) qw639 qp16 rfl rfl (Nat.le_of_ble_eq_true rfl) dX10_beaten_200 (fun r m8 hq8 => ?_)
          obtain ⟨z8, rfl, rfl, hq8⟩ := hq8
          show V E (wC D cy aa ad) 5 m8 203 [(0, .ref (aa 0)), (1, .int (iz (i)))] [.int (iz (0))]
          refine v_iret C X rfl dX10_beaten_203 ⟨_, rfl, ?_, ?_⟩
          · rw [← hq8]
            refine ⟨0, ?_, by decide, CQ.of3 fI⟩
            exact Or.inl ⟨hT1, rfl, l, hl1, Or.inr ⟨rfl, fun c hc hb => by
              obtain ⟨j, hj1, hj2⟩ := List.mem_iff_getElem.mp hc
              exact hno j c (by omega) (by rw [← hj2]; exact List.getElem?_eq_getElem hj1) hb⟩⟩
          · rw [← hq8]; exact CI.of3 hk hcu hT1 hti fI hchI houI
        · refine v_aload_n C 0 dX10_beaten_87 rfl ?_
          refine v_get C 0 10 lC0 (eC0 _) rfl inX10 (by decide) rfl qw429 dX10_beaten_88 ?_
          refine v_get C 12 1 lC12 (eC12 _) rfl inX3 (by decide) rfl qw282 dX10_beaten_91 ?_
          refine v_iload_n C 1 dX10_beaten_94 rfl ?_
          refine v_callS (st := []) (n := 2) C [.ref (aa 14), .int (iz (i))] (ct_StageRatios_at C.2.2.2.2.2.2.1 mI (14) (400) (i) ⟨lC14, by decide, eC14⟩ (by first | assumption | omega)) qw618 qw1 qw653 rfl rfl ⟨Nat.le_of_ble_eq_true rfl, Nat.le_of_ble_eq_true rfl⟩ (by decide +kernel) qw617 rfl rfl (Nat.le_of_ble_eq_true rfl) dX10_beaten_95 (fun r m9 hq9 => ?_)
          obtain ⟨z9, rfl, rfl, rfl⟩ := hq9
          show V E (wC D cy aa ad) 5 mI 98 [(0, .ref (aa 0)), (1, .int (iz (i)))] [.int (iz (mI 14 i))]
          obtain ⟨q0, hq0⟩ : ∃ q, l[i.toNat]? = some q := ⟨_, List.getElem?_eq_getElem (by omega)⟩
          have eq0 : mI 14 i = q0 := by have := hl3 _ q0 hq0; rw [show ((i.toNat : Nat) : Int) = i by omega] at this; rw [fJ 14 (by omega)]; exact this
          have hm0 := hgm q0 (List.mem_of_getElem? hq0)
          rw [← eq0] at hm0
          have hce0 := hce2 _ hm0.1.1 hm0.1.2
          have hpo := (hLd2.2 _ hm0.1.1 hm0.1.2).pos hm0.2
          have e9I : mI 9 = m4 9 := fJ 9 (by omega)
          refine v_istore_n (L1 := [(2, .int (iz (mI 14 i))), (0, .ref (aa 0)), (1, .int (iz (i)))]) C dX10_beaten_98 (by decide) rfl ?_
          refine v_aload_n C 1 dX10_beaten_99 rfl ?_
          refine v_get C 0 4 lC0 (eC0 _) rfl inX10 (by decide) rfl qw423 dX10_beaten_100 ?_
          refine v_get C 19 3 lC19 (eC19 _) rfl inX9 (by decide) rfl qw188 dX10_beaten_103 ?_
          refine v_aload_n C 1 dX10_beaten_106 rfl ?_
          refine v_get C 0 9 lC0 (eC0 _) rfl inX10 (by decide) rfl qw428 dX10_beaten_107 ?_
          refine v_iload_n C 0 dX10_beaten_110 rfl ?_
          refine v_callV (st := [.int (iz (mI 19 3))]) (n := 1) (q := 8) C [.int (iz (mI 14 i))] (ct_Choice_weightOf C.2.2.2.2.2.2.1 mI (mI 14 i) (by exact hm0.1) (by rw [e9I]; exact ⟨hm0.2, hce0.2⟩)) lC8 (eC8 _) rfl qw865 qw12 qw866 rfl rfl ⟨Nat.le_of_ble_eq_true rfl, Nat.le_of_ble_eq_true rfl⟩ (by decide +kernel) qw863 qw864 rfl rfl (Nat.le_of_ble_eq_true rfl) dX10_beaten_111 (fun r m10 hq10 => ?_)
          obtain ⟨z10, rfl, rfl, rfl⟩ := hq10
          show V E (wC D cy aa ad) 5 mI 114 [(2, .int (iz (mI 14 i))), (0, .ref (aa 0)), (1, .int (iz (i)))] [.int (iz (mI 9 (mI 14 i) / 64)), .int (iz (mI 19 3))]
          have hw9 : mI 9 (mI 14 i) / 64 = weA (m kf) (m k 5) (m 5 0) (mI 14 i) := by rw [e9I]; exact hpo.2.2.2
          have hw9r : 0 ≤ mI 9 (mI 14 i) / 64 ∧ mI 9 (mI 14 i) / 64 ≤ 30000 := by rw [e9I]; omega
          refine v_isub C dX10_beaten_114 ?_
          refine v_istore_n (L1 := [(3, .int (iz ((mI 19 3) - (mI 9 (mI 14 i) / 64)))), (2, .int (iz (mI 14 i))), (0, .ref (aa 0)), (1, .int (iz (i)))]) C dX10_beaten_115 (by decide) rfl ?_
          refine v_aload_n C 2 dX10_beaten_116 rfl ?_
          refine v_get C 0 5 lC0 (eC0 _) rfl inX10 (by decide) rfl qw424 dX10_beaten_117 ?_
          refine v_aload_n C 2 dX10_beaten_120 rfl ?_
          refine v_get C 0 13 lC0 (eC0 _) rfl inX10 (by decide) rfl qw432 dX10_beaten_121 ?_
          refine v_st (st1 := [.ref (aa k), .ref (aa 23)]) (by rw [show (mI 0 13).toNat = k from by assumption]) ?_
          refine v_aload_n C 2 dX10_beaten_124 rfl ?_
          refine v_get C 0 2 lC0 (eC0 _) rfl inX10 (by decide) rfl qw421 dX10_beaten_125 ?_
          refine v_iconst (z := 0) C dX10_beaten_128 rfl ?_
          refine v_callS (st := [.ref (aa k), .ref (aa 23)]) (n := 2) C [.ref (aa 5), .int (iz (0))] (ct_StageRatios_at C.2.2.2.2.2.2.1 mI (5) (11) (0) ⟨lC5, by decide, eC5⟩ (by first | assumption | omega)) qw618 qw1 qw653 rfl rfl ⟨Nat.le_of_ble_eq_true rfl, Nat.le_of_ble_eq_true rfl⟩ (by decide +kernel) qw617 rfl rfl (Nat.le_of_ble_eq_true rfl) dX10_beaten_129 (fun r m11 hq11 => ?_)
          obtain ⟨z11, rfl, rfl, rfl⟩ := hq11
          show V E (wC D cy aa ad) 5 mI 132 [(3, .int (iz ((mI 19 3) - (mI 9 (mI 14 i) / 64)))), (2, .int (iz (mI 14 i))), (0, .ref (aa 0)), (1, .int (iz (i)))] [.int (iz (mI 5 0)), .ref (aa k), .ref (aa 23)]
          refine v_iload_n C 1 dX10_beaten_132 rfl ?_
          refine v_callV (st := []) (n := 3) (q := 23) C [.ref (aa k), .int (iz (mI 5 0)), .int (iz (mI 14 i))] (ct_Weights_weighCode C.2.2.2.2.2.2.1 mI (23) (24) (25) (26) (k) (kf) (ks) (kt) (kc) (mI 5 0) (mI 14 i) (by unfold WeightsAt; decide) hk (by rw [kI]; exact hk5) (by rw [kI, kfI]; exact hF) (by rw [e5I]; exact hX.1) (by exact hm0.1)) lC23 (eC23 _) rfl qw919 qw8 qw934 rfl rfl ⟨Nat.le_of_ble_eq_true rfl, Nat.le_of_ble_eq_true rfl⟩ (by decide +kernel) qw917 qw918 rfl rfl (Nat.le_of_ble_eq_true rfl) dX10_beaten_133 (fun r m12 hq12 => ?_)
          obtain ⟨rfl, hq12⟩ := hq12
          show V E (wC D cy aa ad) 5 m12 136 [(3, .int (iz ((mI 19 3) - (mI 9 (mI 14 i) / 64)))), (2, .int (iz (mI 14 i))), (0, .ref (aa 0)), (1, .int (iz (i)))] []
          have w2 := hq12.2.1
          rw [kI, kfI, e5I] at w2
          have o133 : ∀ q : Nat, (q < 23 ∨ 27 ≤ q) → m12 q = mI q := fun q h => hq12.2.2 q (by omega) (by omega) (by omega) (by omega)
          have k133 : m12 k = m k := by rw [o133 k (by omega), kI]
          have kf133 : m12 kf = m kf := by rw [o133 kf (by omega), kfI]
          have hcu133 : (m12 0 13).toNat = k := by rw [o133 0 (by decide)]; exact hcuI
          refine v_aload_n C 2 dX10_beaten_136 rfl ?_
          refine v_get C 0 5 lC0 (eC0 _) rfl inX10 (by decide) rfl qw424 dX10_beaten_137 ?_
          refine v_aload_n C 2 dX10_beaten_140 rfl ?_
          refine v_get C 0 13 lC0 (eC0 _) rfl inX10 (by decide) rfl qw432 dX10_beaten_141 ?_
          refine v_st (st1 := [.ref (aa k), .ref (aa 23)]) (by rw [show (m12 0 13).toNat = k from by assumption]) ?_
          refine v_aload_n C 2 dX10_beaten_144 rfl ?_
          refine v_get C 0 7 lC0 (eC0 _) rfl inX10 (by decide) rfl qw426 dX10_beaten_145 ?_
          refine v_callV (st := []) (n := 2) (q := 23) C [.ref (aa k), .ref (aa 35)] (ct_Weights_speedInto C.2.2.2.2.2.2.1 m12 (23) (24) (25) (26) (k) (kf) (ks) (kt) (kc) (35) (36) (37) (38) (by unfold WeightsAt; decide) hk (by unfold RatioAt; decide) (by rw [k133]; exact hk5)) lC23 (eC23 _) rfl qw725 qw8 qw722 rfl rfl ⟨Nat.le_of_ble_eq_true rfl, Nat.le_of_ble_eq_true rfl⟩ (by decide +kernel) qw723 qw724 rfl rfl (Nat.le_of_ble_eq_true rfl) dX10_beaten_148 (fun r m13 hq13 => ?_)
          obtain ⟨rfl, hq13⟩ := hq13
          show V E (wC D cy aa ad) 5 m13 151 [(3, .int (iz ((mI 19 3) - (mI 9 (mI 14 i) / 64)))), (2, .int (iz (mI 14 i))), (0, .ref (aa 0)), (1, .int (iz (i)))] []
          have z2 := hq13.1
          rw [k133, kf133, w2.spT] at z2
          have o148 : ∀ q : Nat, (q < 35 ∨ 38 ≤ q) → m13 q = m12 q := fun q h => hq13.2 q (by omega) (by omega) (by omega)
          obtain ⟨bl1, bl2, bl3, bl4, bl5⟩ := (un_dv hk5 hX.1 hm0.1.1 hm0.1.2).al hF
          have zqI : RatL mI 31 32 33 (spT (m kf) (m k 5) (m 5 0) (uX (m 5))) := zq.fr (fI3 31 (by omega)) (fI3 32 (by omega)) (fI3 33 (by omega))
          refine v_aload_n C 2 dX10_beaten_151 rfl ?_
          refine v_get C 0 8 lC0 (eC0 _) rfl inX10 (by decide) rfl qw427 dX10_beaten_152 ?_
          refine v_aload_n C 2 dX10_beaten_155 rfl ?_
          refine v_get C 0 7 lC0 (eC0 _) rfl inX10 (by decide) rfl qw426 dX10_beaten_156 ?_
          refine v_aload_n C 2 dX10_beaten_159 rfl ?_
          refine v_get C 0 6 lC0 (eC0 _) rfl inX10 (by decide) rfl qw425 dX10_beaten_160 ?_
          refine v_callV (st := []) (n := 2) (q := 7) C [.ref (aa 35), .ref (aa 31)] (ct_Scale_compare C.2.2.2.2.2.2.1 m13 (35) (36) (37) (38) (31) (32) (33) (34) (spT (m kf) (m k 5) (m 5 0) (unZ (mI 14 i))) (spT (m kf) (m k 5) (m 5 0) (uX (m 5))) (by unfold RatioAt; decide) (by unfold RatioAt; decide) (by exact z2) (by exact zqI.fr (by rw [o148 31 (by omega), o133 31 (by omega)]) (by rw [o148 32 (by omega), o133 32 (by omega)]) (by rw [o148 33 (by omega), o133 33 (by omega)])) (by exact bl1) (by exact al1) (by exact bl2) (by exact le_560 bl3) (by exact le_560 (Int.le_trans bl5 bl3)) (by exact al2) (by exact le_560 al3) (by exact le_560 (Int.le_trans al5 al3)) (by exact lt_768 (by omega) (by omega) bl3 (Int.le_trans al5 al3)) (by exact lt_768 (by omega) (by omega) (Int.le_trans bl5 bl3) al3)) lC7 (eC7 _) rfl qw811 qw10 qw808 rfl rfl ⟨Nat.le_of_ble_eq_true rfl, Nat.le_of_ble_eq_true rfl⟩ (by decide +kernel) qw809 qw810 rfl rfl (Nat.le_of_ble_eq_true rfl) dX10_beaten_163 (fun r m14 hq14 => ?_)
          obtain ⟨z14, rfl, rfl, hq14⟩ := hq14
          show V E (wC D cy aa ad) 5 m14 166 [(3, .int (iz ((mI 19 3) - (mI 9 (mI 14 i) / 64)))), (2, .int (iz (mI 14 i))), (0, .ref (aa 0)), (1, .int (iz (i)))] [.int (iz ((if numL (spT (m kf) (m k 5) (m 5 0) (uX (m 5))) * denL (spT (m kf) (m k 5) (m 5 0) (unZ (mI 14 i))) < numL (spT (m kf) (m k 5) (m 5 0) (unZ (mI 14 i))) * denL (spT (m kf) (m k 5) (m 5 0) (uX (m 5))) then 1 else if numL (spT (m kf) (m k 5) (m 5 0) (unZ (mI 14 i))) * denL (spT (m kf) (m k 5) (m 5 0) (uX (m 5))) < numL (spT (m kf) (m k 5) (m 5 0) (uX (m 5))) * denL (spT (m kf) (m k 5) (m 5 0) (unZ (mI 14 i))) then -1 else 0)))]
          refine v_st (st1 := [.int (iz (cmZ (spT (m kf) (m k 5) (m 5 0) (unZ (mI 14 i))) (spT (m kf) (m k 5) (m 5 0) (uX (m 5)))))]) (by rfl) ?_
          have hcr := cmZ_rng (spT (m kf) (m k 5) (m 5 0) (unZ (mI 14 i))) (spT (m kf) (m k 5) (m 5 0) (uX (m 5)))
          have fIX : ∀ q : Nat, (q < 15 ∨ (27 ≤ q ∧ q < 35) ∨ 38 ≤ q) → m14 q = mI q := fun q h => by rw [hq14 q (by omega) (by omega) (by omega) (by omega), o148 q (by omega), o133 q (by omega)]
          have fI19 : m14 19 = mI 19 := by rw [hq14 19 (by omega) (by omega) (by omega) (by omega), o148 19 (by omega), o133 19 (by omega)]
          refine v_istore (L1 := [(4, .int (iz (cmZ (spT (m kf) (m k 5) (m 5 0) (unZ (mI 14 i))) (spT (m kf) (m k 5) (m 5 0) (uX (m 5)))))), (3, .int (iz ((mI 19 3) - (mI 9 (mI 14 i) / 64)))), (2, .int (iz (mI 14 i))), (0, .ref (aa 0)), (1, .int (iz (i)))]) C dX10_beaten_166 (by decide) rfl ?_
          have K192 : ∀  (hno2 : ∀ (j : Nat) (c : Int), (j : Int) < i + 1 → l[j]? = some c → ¬ btX (m kf) (m k) (m 5) c) (fJ2 : ∀ q : Nat, (q < 15 ∨ 38 ≤ q ∧ q < 43 ∨ 73 ≤ q) → m14 q = m4 q) (fI32 : ∀ q : Nat, (19 ≤ q ∧ q < 23 ∨ 31 ≤ q ∧ q < 34) → m14 q = m6 q), V E (wC D cy aa ad) 5 m14 192 [(0, .ref (aa 0)), (1, .int (iz (i)))] [] := by
            intro   hno2 fJ2 fI32
            refine v_iinc (L1 := [(1, .int (iz (i + 1))), (0, .ref (aa 0))]) C 1 dX10_beaten_192 rfl (by decide) rfl ?_
            refine v_goto (tgt := 76) C dX10_beaten_195 (by decide) ?_
            refine v_sub [1, 0] rfl ?_
            exact ih76 (i + 1) m14 (by omega) (by exact hno2) (by exact fJ2) (by exact fI32) (by omega)
          refine v_iload_n C 1 dX10_beaten_168 rfl ?_
          refine v_if_lt (tgt := 192) C dX10_beaten_169 (by decide) (by omega) (fun c15 => ?_) (fun c15 => ?_)
          · refine v_sub [3, 4] rfl ?_
            exact K192    (by 
                            intro j c hj hc hb
                            by_cases e : (j : Int) = i
                            · have ec : c = q0 := by rw [show j = i.toNat by omega, hq0] at hc; exact (Option.some.inj hc).symm
                              subst ec
                              unfold btX at hb; rw [← eq0, ← hw9, ← e193I] at hb
                              omega
                            · exact hno j c (by omega) hc hb
                          ) (by intro q h; rw [fIX q (by omega)]; exact fJ q h) (by 
                            intro q h
                            rw [show m14 q = mI q from by rw [hq14 q (by omega) (by omega) (by omega) (by omega), o148 q (by omega), o133 q (by omega)]]; exact fI3 q h
                          )
          · refine v_iload C 0 dX10_beaten_172 rfl ?_
            refine v_if_lt (tgt := 192) C dX10_beaten_174 (by decide) (by omega) (fun c16 => ?_) (fun c16 => ?_)
            · refine v_sub [3, 4] rfl ?_
              exact K192    (by 
                                intro j c hj hc hb
                                by_cases e : (j : Int) = i
                                · have ec : c = q0 := by rw [show j = i.toNat by omega, hq0] at hc; exact (Option.some.inj hc).symm
                                  subst ec
                                  unfold btX at hb; rw [← eq0, ← hw9, ← e193I] at hb
                                  omega
                                · exact hno j c (by omega) hc hb
                              ) (by intro q h; rw [fIX q (by omega)]; exact fJ q h) (by 
                                intro q h
                                rw [show m14 q = mI q from by rw [hq14 q (by omega) (by omega) (by omega) (by omega), o148 q (by omega), o133 q (by omega)]]; exact fI3 q h
                              )
            · refine v_iload_n C 1 dX10_beaten_177 rfl ?_
              refine v_if_gt (tgt := 186) C dX10_beaten_178 (by decide) (by omega) (fun c17 => ?_) (fun c17 => ?_)
              · have hbt : btX (m kf) (m k) (m 5) q0 := by
                  unfold btX; rw [← eq0, ← hw9, ← e193I]
                  exact ⟨by omega, by omega, by omega⟩
                have fI2 : ∀ q : Nat, (q < 8 ∨ 73 ≤ q) → m14 q = m q := fun q h => by rw [fIX q (by omega)]; exact fI q h
                have hchI2 : ChOk m14 (m kf) (m k) := by unfold ChOk; rw [fIX 8 (by omega), fIX 9 (by omega)]; exact hchI
                have houI2 : OuOk m14 (m kf) (m k) (m 5) := houI.same (fIX 0 (by omega)) (fIX 12 (by omega)) (fIX 14 (by omega))
                refine v_aload_n C 3 dX10_beaten_186 rfl ?_
                refine v_iconst (z := 1) C dX10_beaten_187 rfl ?_
                refine v_callV (st := []) (n := 1) (q := 0) C [.int (iz (1))] (ct_StageRatios_answer C.2.2.2.2.2.2.1 m14 (1) ) lC0 (eC0 _) rfl qw640 qw1 qw637 rfl rfl ⟨Nat.le_of_ble_eq_true rfl, Nat.le_of_ble_eq_true rfl⟩ (by decide +kernel) qw639 qp16 rfl rfl (Nat.le_of_ble_eq_true rfl) dX10_beaten_188 (fun r m18 hq18 => ?_)
                obtain ⟨z18, rfl, rfl, hq18⟩ := hq18
                show V E (wC D cy aa ad) 5 m18 191 [(4, .int (iz (cmZ (spT (m kf) (m k 5) (m 5 0) (unZ (mI 14 i))) (spT (m kf) (m k 5) (m 5 0) (uX (m 5)))))), (3, .int (iz ((mI 19 3) - (mI 9 (mI 14 i) / 64)))), (2, .int (iz (mI 14 i))), (0, .ref (aa 0)), (1, .int (iz (i)))] [.int (iz (1))]
                refine v_iret C X rfl dX10_beaten_191 ⟨_, rfl, ?_, ?_⟩
                · rw [← hq18]
                  refine ⟨0, ?_, by decide, CQ.of3 fI2⟩
                  exact Or.inl ⟨hT1, rfl, l, hl1, Or.inl ⟨rfl, q0, List.mem_of_getElem? hq0, hbt⟩⟩
                · rw [← hq18]; exact CI.of3 hk hcu hT1 hti fI2 hchI2 houI2
              · refine v_iload C 0 dX10_beaten_181 rfl ?_
                refine v_if_le (tgt := 192) C dX10_beaten_183 (by decide) (by omega) (fun c19 => ?_) (fun c19 => ?_)
                · refine v_sub [3, 4] rfl ?_
                  exact K192    (by 
                                        intro j c hj hc hb
                                        by_cases e : (j : Int) = i
                                        · have ec : c = q0 := by rw [show j = i.toNat by omega, hq0] at hc; exact (Option.some.inj hc).symm
                                          subst ec
                                          unfold btX at hb; rw [← eq0, ← hw9, ← e193I] at hb
                                          omega
                                        · exact hno j c (by omega) hc hb
                                      ) (by intro q h; rw [fIX q (by omega)]; exact fJ q h) (by 
                                        intro q h
                                        rw [show m14 q = mI q from by rw [hq14 q (by omega) (by omega) (by omega) (by omega), o148 q (by omega), o133 q (by omega)]]; exact fI3 q h
                                      )
                · have hbt : btX (m kf) (m k) (m 5) q0 := by
                    unfold btX; rw [← eq0, ← hw9, ← e193I]
                    exact ⟨by omega, by omega, by omega⟩
                  have fI2 : ∀ q : Nat, (q < 8 ∨ 73 ≤ q) → m14 q = m q := fun q h => by rw [fIX q (by omega)]; exact fI q h
                  have hchI2 : ChOk m14 (m kf) (m k) := by unfold ChOk; rw [fIX 8 (by omega), fIX 9 (by omega)]; exact hchI
                  have houI2 : OuOk m14 (m kf) (m k) (m 5) := houI.same (fIX 0 (by omega)) (fIX 12 (by omega)) (fIX 14 (by omega))
                  refine v_aload_n C 3 dX10_beaten_186 rfl ?_
                  refine v_iconst (z := 1) C dX10_beaten_187 rfl ?_
                  refine v_callV (st := []) (n := 1) (q := 0) C [.int (iz (1))] (ct_StageRatios_answer C.2.2.2.2.2.2.1 m14 (1) ) lC0 (eC0 _) rfl qw640 qw1 qw637 rfl rfl ⟨Nat.le_of_ble_eq_true rfl, Nat.le_of_ble_eq_true rfl⟩ (by decide +kernel) qw639 qp16 rfl rfl (Nat.le_of_ble_eq_true rfl) dX10_beaten_188 (fun r m20 hq20 => ?_)
                  obtain ⟨z20, rfl, rfl, hq20⟩ := hq20
                  show V E (wC D cy aa ad) 5 m20 191 [(4, .int (iz (cmZ (spT (m kf) (m k 5) (m 5 0) (unZ (mI 14 i))) (spT (m kf) (m k 5) (m 5 0) (uX (m 5)))))), (3, .int (iz ((mI 19 3) - (mI 9 (mI 14 i) / 64)))), (2, .int (iz (mI 14 i))), (0, .ref (aa 0)), (1, .int (iz (i)))] [.int (iz (1))]
                  refine v_iret C X rfl dX10_beaten_191 ⟨_, rfl, ?_, ?_⟩
                  · rw [← hq20]
                    refine ⟨0, ?_, by decide, CQ.of3 fI2⟩
                    exact Or.inl ⟨hT1, rfl, l, hl1, Or.inl ⟨rfl, q0, List.mem_of_getElem? hq0, hbt⟩⟩
                  · rw [← hq20]; exact CI.of3 hk hcu hT1 hti fI2 hchI2 houI2
    refine v_sub [1, 0] rfl ?_
    exact K76 _ (0) m6 (by first | assumption | omega) (by intro j c h; omega) (by intro q h; exact o24 q (by omega)) (by intro q _; rfl) (Nat.lt_succ_self _)
  · refine v_aload_n C 0 dX10_beaten_7 rfl ?_
    refine v_iconst (z := 1) C dX10_beaten_8 rfl ?_
    refine v_callV (st := []) (n := 1) (q := 0) C [.int (iz (1))] (ct_StageRatios_refuse C.2.2.2.2.2.2.1 m (1) ) lC0 (eC0 _) rfl qw502 qw1 qw499 rfl rfl ⟨Nat.le_of_ble_eq_true rfl, Nat.le_of_ble_eq_true rfl⟩ (by decide +kernel) qw501 qp0 rfl rfl (Nat.le_of_ble_eq_true rfl) dX10_beaten_9 (fun r m21 hq21 => ?_)
    obtain ⟨z21, rfl, rfl, hq21⟩ := hq21
    show V E (wC D cy aa ad) 5 m21 12 [(0, .ref (aa 0))] [.int (iz (-1))]
    refine v_iret C X rfl dX10_beaten_12 ⟨_, rfl, ?_, ?_⟩
    · rw [← hq21]
      exact ⟨1, Or.inr ⟨by omega, rfl, rfl⟩, by decide, CQ.of (fun _ _ => rfl)⟩
    · rw [← hq21]; exact hci.of (fun _ _ => rfl)
