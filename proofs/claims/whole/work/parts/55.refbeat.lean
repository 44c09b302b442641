set_option maxHeartbeats 4000000 in
set_option maxRecDepth 100000 in
theorem ct_StageRatiosModel_needs {lau : Launch} {D : va_G} {cy : Nat → ClassId} {aa ad : Nat → Nat} (hI : wI (wR D cy aa ad)) (m : Mem) (fa Af Bf Cf Rr Xx : Int → Int) (s : Int) (hT : TT m fa Af Bf Cf Rr Xx) (hs : -2147483648 ≤ s ∧ s ≤ 2147483647) : MT lau (wR D cy aa ad) yX11_needs cX11_needs 3 (some .int) ({ frames := 7, cells := 0, slots := 0, locals := 155 } : Room) m [.ref (aa 0), .int (iz (s))] (Pi (fun z m' => (RP (qNee (m 0 20) fa Rr Xx s) m m' z) ∧ True)) := by
  refine v_entry hI RX11 (by decide) rfl (Nat.le_of_ble_eq_true rfl) (fun E hE C X => ?_)
  subst hE
  show V E (wR D cy aa ad) 3 m 0 [(0, .ref (aa 0)), (1, .int (iz (s)))] []
  refine v_aload_n C 0 dX11_needs_0 rfl ?_
  refine v_iconst (z := 0) C dX11_needs_1 rfl ?_
  refine v_put C 0 0 (0) 0 rfl lR0 (eR0 _) rfl inX11 tyX11 tyX11_ok nmX11 (by decide) qw1140 rfl rfl rfl (Nat.le_of_ble_eq_true rfl) (by rw [mup_r]; exact (eR0 _)) dX11_needs_2 (fun m1 em1 => ?_)
  have fk2 : FK m m1 := by rw [em1]; exact FK.up 0 0 (by unfold CKj; omega)
  have hT2 := fk2.tt hT
  have e20 : m1 0 20 = m 0 20 := fk2.1 20 (Or.inr (Or.inl rfl))
  have ht01 : m 0 20 = 0 ∨ m 0 20 = 1 := hT.imp (fun a => a) (fun a => a.1)
  refine v_aload_n C 0 dX11_needs_5 rfl ?_
  refine v_iload_n C 1 dX11_needs_6 rfl ?_
  refine v_callV (st := []) (n := 1) (q := 0) C [.int (iz (s))] (ct_StageRatiosModel_isStage C.2.2.2.2.2.2.1 m1 (fa) (Af) (Bf) (Cf) (Rr) (Xx) (s) (by exact hT2) (by first | assumption | omega)) lR0 (eR0 _) rfl qw1464 qw16 qw1461 rfl rfl ⟨Nat.le_of_ble_eq_true rfl, Nat.le_of_ble_eq_true rfl⟩ (by decide +kernel) qw1463 qp57 rfl rfl (Nat.le_of_ble_eq_true rfl) dX11_needs_7 (fun r m2 hq2 => ?_)
  obtain ⟨z2, rfl, ⟨rfl, hq2, rfl⟩ | ⟨rfl, hq2, rfl⟩⟩ := hq2
  · show V E (wR D cy aa ad) 3 m1 10 [(0, .ref (aa 0)), (1, .int (iz (s)))] [.int (iz (1))]
    rw [e20] at hq2
    obtain ⟨hT1, hs0⟩ := id hq2
    obtain ⟨-, hg0⟩ := hT.resolve_left (by omega)
    have hg := fk2.rt hg0
    obtain ⟨⟨r11, r8, r9, r10, r12⟩, r1, r2, r6, hvd, hfo⟩ := id hg
    obtain ⟨hn, hF, hup, hlw, hX⟩ := id hvd
    have hp1 := hX.2.1
    have hkp : kPw (Xx 1) := ⟨by omega, by omega⟩
    refine v_if_ne (tgt := 19) C dX11_needs_10 (by decide) (by omega) (fun c3 => ?_) (fun c3 => by exact absurd c3 (by decide))
    refine v_aload_n C 0 dX11_needs_19 rfl ?_
    refine v_callV (st := []) (n := 0) (q := 0) C [] (ct_StageRatiosModel_laysBox C.2.2.2.2.2.2.1 m1 (fa) (Af) (Bf) (Cf) (Rr) (Xx) (by first | assumption | omega)) lR0 (eR0 _) rfl qw1590 qw16 qw1587 rfl rfl ⟨Nat.le_of_ble_eq_true rfl, Nat.le_of_ble_eq_true rfl⟩ (by decide +kernel) qw1589 qp78 rfl rfl (Nat.le_of_ble_eq_true rfl) dX11_needs_20 (fun r m4 hq4 => ?_)
    obtain ⟨rfl, hq4⟩ := hq4
    show V E (wR D cy aa ad) 3 m4 23 [(0, .ref (aa 0)), (1, .int (iz (s)))] []
    have fk3 := fk2.tr (show FK _ m4 from ⟨fun j hj => hq4.2.2.2.1 j (by unfold CKj at hj; omega), fun q hq => hq4.2.2.2.2 q (by omega) (by omega) (by omega) (by omega)⟩)
    have hg3 := fk3.rt hg0
    have hbx3 := hq4.1
    have hat3 := hq4.2.1
    have h343 := hq4.2.2.1
    have hfb := first_box (lo := loX Xx) (hi := hiX Xx) (fun j j0 j1 => (hbx3 j j0 j1).2.2)
    have hwo : ∀ c : Int, inB (loX Xx) (hiX Xx) c → woM fa (Rr 5) (unZ c) := fun c h => in_wo hvd h
    have e61 : m4 6 1 = Xx 1 := hg3.2.2.2.1 1 (by decide) (by decide)
    refine v_aload_n C 0 dX11_needs_23 rfl ?_
    refine v_aload_n C 0 dX11_needs_24 rfl ?_
    refine v_get C 0 21 lR0 (eR0 _) rfl inX11 (by decide) rfl qw1161 dX11_needs_25 ?_
    refine v_iconst (z := 1) C dX11_needs_28 rfl ?_
    refine v_iald C 6 lR6 (eR6 _) (by decide) (by omega) dX11_needs_29 ?_
    refine v_callV (st := []) (n := 1) (q := 0) C [.int (iz (m4 6 1))] (ct_StageRatiosModel_laysBest C.2.2.2.2.2.2.1 m4 (fa) (Af) (Bf) (Cf) (Rr) (Xx) (loX Xx) (hiX Xx) (Xx 0) (cdZ (loX Xx)) (m4 6 1) (by exact hg3) (by exact hbx3) (by exact hat3) (by exact hfb.2) (by exact h343) (by exact hX.1) (by rw [e61]; exact hkp)) lR0 (eR0 _) rfl qw1594 qw16 qw1591 rfl rfl ⟨Nat.le_of_ble_eq_true rfl, Nat.le_of_ble_eq_true rfl⟩ (by decide +kernel) qw1593 qp79 rfl rfl (Nat.le_of_ble_eq_true rfl) dX11_needs_30 (fun r m5 hq5 => ?_)
    obtain ⟨rfl, hq5⟩ := hq5
    show V E (wR D cy aa ad) 3 m5 33 [(0, .ref (aa 0)), (1, .int (iz (s)))] []
    rw [e61] at hq5
    obtain ⟨bq, hbq, hbm⟩ := hq5.1
    have fk4 := fk3.tr (show FK _ m5 from ⟨fun j hj => hq5.2.1 j (by unfold CKj at hj; omega) (by unfold CKj at hj; omega) (by unfold CKj at hj; omega), fun q hq => hq5.2.2 q (by omega) (by omega) (by omega) (by omega) (by omega)⟩)
    have hbe : beA fa Rr Xx (loX Xx) (hiX Xx) (Xx 1) bq := hbq.cg (fun c _ _ => pc_cd (hwo c)) (fun _ _ _ _ => rfl)
    have hbr : bq = -1 ∨ (0 ≤ bq ∧ bq < 4913) := by
      rcases hbq with ⟨y, -⟩ | ⟨y, y2, -⟩
      · exact Or.inl y
      · exact Or.inr ⟨y, y2⟩
    have hg4 := fk4.rt hg0
    have hb43 : m5 0 43 = -2 ∧ bq = -1 ∨ (1 ≤ m5 0 43 ∧ m5 0 43 ≤ 358 ∧ 0 ≤ bq ∧ m5 0 43 = weA fa (Rr 5) (Xx 0) bq) := by
      rcases hbm with y | y
      · exact Or.inl ⟨y.2, y.1⟩
      · have := we_rng hF hn hX.1 y.1 (show bq < 4913 by omega)
        rw [y.2.1]; exact Or.inr ⟨this.1, this.2, y.1, rfl⟩
    refine v_aload_n C 0 dX11_needs_33 rfl ?_
    refine v_get C 0 43 lR0 (eR0 _) rfl inX11 (by decide) rfl qw1183 dX11_needs_34 ?_
    refine v_istore_n (L1 := [(2, .int (iz (m5 0 43))), (0, .ref (aa 0)), (1, .int (iz (s)))]) C dX11_needs_37 (by decide) rfl ?_
    refine v_aload_n C 1 dX11_needs_38 rfl ?_
    refine v_callV (st := []) (n := 0) (q := 0) C [] (ct_StageRatiosModel_laysBox C.2.2.2.2.2.2.1 m5 (fa) (Af) (Bf) (Cf) (Rr) (Xx) (by exact hg4)) lR0 (eR0 _) rfl qw1590 qw16 qw1587 rfl rfl ⟨Nat.le_of_ble_eq_true rfl, Nat.le_of_ble_eq_true rfl⟩ (by decide +kernel) qw1589 qp78 rfl rfl (Nat.le_of_ble_eq_true rfl) dX11_needs_39 (fun r m6 hq6 => ?_)
    obtain ⟨rfl, hq6⟩ := hq6
    show V E (wR D cy aa ad) 3 m6 42 [(2, .int (iz (m5 0 43))), (0, .ref (aa 0)), (1, .int (iz (s)))] []
    have fk5 := fk4.tr (show FK _ m6 from ⟨fun j hj => hq6.2.2.2.1 j (by unfold CKj at hj; omega), fun q hq => hq6.2.2.2.2 q (by omega) (by omega) (by omega) (by omega)⟩)
    refine v_aload_n C 1 dX11_needs_42 rfl ?_
    refine v_get C 0 40 lR0 (eR0 _) rfl inX11 (by decide) rfl qw1180 dX11_needs_43 ?_
    refine v_iload_n C 2 dX11_needs_46 rfl ?_
    refine v_iconst (z := 0) C dX11_needs_47 rfl ?_
    refine v_iast C 13 lR13 eR13 (by decide) (by omega) dX11_needs_48 (fun m7 em7 => ?_)
    refine v_aload_n C 1 dX11_needs_49 rfl ?_
    refine v_get C 0 41 lR0 (eR0 _) rfl inX11 (by decide) rfl qw1181 dX11_needs_50 ?_
    refine v_iload_n C 2 dX11_needs_53 rfl ?_
    refine v_iconst (z := 0) C dX11_needs_54 rfl ?_
    refine v_iast C 14 lR14 eR14 (by decide) (by omega) dX11_needs_55 (fun m8 em8 => ?_)
    refine v_aload_n C 1 dX11_needs_56 rfl ?_
    refine v_get C 0 33 lR0 (eR0 _) rfl inX11 (by decide) rfl qw1173 dX11_needs_57 ?_
    refine v_iload_n C 2 dX11_needs_60 rfl ?_
    refine v_iconst (z := 0) C dX11_needs_61 rfl ?_
    refine v_iast C 9 lR9 eR9 (by decide) (by omega) dX11_needs_62 (fun m9 em9 => ?_)
    have fk6 : FK m m9 := ((fk5.tr (show FK _ m7 from by rw [em7]; exact FK.ce 13 s 0 (by decide))).tr (show FK _ m8 from by rw [em8]; exact FK.ce 14 s 0 (by decide))).tr (show FK _ m9 from by rw [em9]; exact FK.ce 9 s 0 (by decide))
    have hg6 := fk6.rt hg0
    have e62 : m9 6 1 = Xx 1 := hg6.2.2.2.1 1 (by decide) (by decide)
    have h9x : ∀ j : Int, 0 ≤ j → j < 3 → m6 9 j = loX Xx j := fun j j0 j1 => by rw [hq6.2.1.2.2 j j0 j1]; exact (unZ_cd (U := loX Xx) (fun j j0 j1 => by have := (hq6.1 j j0 j1).2.2; omega)).2 j j0 j1
    have hbx6 : BxOk m9 (noX (loX Xx) s) (noX (hiX Xx) s) := fun j j0 j1 => by
      have y := hq6.1 j j0 j1
      rw [em9, mup_k _ _ _ (show (13 : Nat) ≠ 9 by decide), mup_k _ _ _ (show (14 : Nat) ≠ 9 by decide), em8, mup_k _ _ _ (show (13 : Nat) ≠ 14 by decide), mup_r, em7, mup_r, mup_k _ _ _ (show (14 : Nat) ≠ 13 by decide)]
      unfold noX
      by_cases e : j = s
      · rw [if_pos e, if_pos e]; exact ⟨if_pos e, if_pos e, by omega, by omega, by omega⟩
      · rw [if_neg e, if_neg e]; exact ⟨(if_neg e).trans y.1, (if_neg e).trans y.2.1, y.2.2⟩
    have hfb6 := first_box (lo := noX (loX Xx) s) (hi := noX (hiX Xx) s) (fun j j0 j1 => (hbx6 j j0 j1).2.2)
    have hu6 := unZ_cd (U := noX (loX Xx) s) (fun j j0 j1 => by have := (hbx6 j j0 j1).2.2; omega)
    have hat6 : AtC m9 (noX (loX Xx) s) (noX (hiX Xx) s) (cdZ (noX (loX Xx) s)) := ⟨hu6.1, hfb6.1, fun j j0 j1 => by
      rw [hu6.2 j j0 j1, em9, mup_r]
      unfold noX
      by_cases e : j = s
      · rw [if_pos e]; exact if_pos e
      · rw [if_neg e]; refine (if_neg e).trans ?_
        rw [em8, mup_k _ _ _ (by decide), em7, mup_k _ _ _ (by decide)]; exact h9x j j0 j1⟩
    have h346 : m9 0 34 = Xx 0 := by rw [em9, mup_k _ _ _ (by decide), em8, mup_k _ _ _ (by decide), em7, mup_k _ _ _ (by decide)]; exact hq6.2.2.1
    have hwo6 : ∀ c : Int, inB (noX (loX Xx) s) (noX (hiX Xx) s) c → woM fa (Rr 5) (unZ c) := fun c h t t0 t1 => by
      have a := h t t0 t1
      have b := hX.2.2 t t0 t1
      have d := hbx3 t t0 t1
      unfold noX hiX at a; unfold mstZ at b
      split at a <;> omega
    refine v_aload_n C 1 dX11_needs_63 rfl ?_
    refine v_aload_n C 1 dX11_needs_64 rfl ?_
    refine v_get C 0 21 lR0 (eR0 _) rfl inX11 (by decide) rfl qw1161 dX11_needs_65 ?_
    refine v_iconst (z := 1) C dX11_needs_68 rfl ?_
    refine v_iald C 6 lR6 (eR6 _) (by decide) (by omega) dX11_needs_69 ?_
    refine v_callV (st := []) (n := 1) (q := 0) C [.int (iz (m9 6 1))] (ct_StageRatiosModel_laysBest C.2.2.2.2.2.2.1 m9 (fa) (Af) (Bf) (Cf) (Rr) (Xx) (noX (loX Xx) s) (noX (hiX Xx) s) (Xx 0) (cdZ (noX (loX Xx) s)) (m9 6 1) (by exact hg6) (by exact hbx6) (by exact hat6) (by exact hfb6.2) (by exact h346) (by exact hX.1) (by rw [e62]; exact hkp)) lR0 (eR0 _) rfl qw1594 qw16 qw1591 rfl rfl ⟨Nat.le_of_ble_eq_true rfl, Nat.le_of_ble_eq_true rfl⟩ (by decide +kernel) qw1593 qp79 rfl rfl (Nat.le_of_ble_eq_true rfl) dX11_needs_70 (fun r m10 hq10 => ?_)
    obtain ⟨rfl, hq10⟩ := hq10
    show V E (wR D cy aa ad) 3 m10 73 [(2, .int (iz (m5 0 43))), (0, .ref (aa 0)), (1, .int (iz (s)))] []
    rw [e62] at hq10
    obtain ⟨bp, hbp, hbn⟩ := hq10.1
    have fk7 := fk6.tr (show FK _ m10 from ⟨fun j hj => hq10.2.1 j (by unfold CKj at hj; omega) (by unfold CKj at hj; omega) (by unfold CKj at hj; omega), fun q hq => hq10.2.2 q (by omega) (by omega) (by omega) (by omega) (by omega)⟩)
    have hbe2 : beA fa Rr Xx (noX (loX Xx) s) (noX (hiX Xx) s) (Xx 1) bp := hbp.cg (fun c _ _ => pc_cd (hwo6 c)) (fun _ _ _ _ => rfl)
    have hb70 : m10 0 43 = -2 ∧ bp = -1 ∨ (1 ≤ m10 0 43 ∧ m10 0 43 ≤ 358 ∧ 0 ≤ bp ∧ m10 0 43 = weA fa (Rr 5) (Xx 0) bp) := by
      rcases hbn with y | y
      · exact Or.inl ⟨y.2, y.1⟩
      · have hbr2 : bp < 4913 := by rcases hbp with ⟨w, -⟩ | ⟨-, w, -⟩ <;> omega
        have := we_rng hF hn hX.1 y.1 hbr2
        rw [y.2.1]; exact Or.inr ⟨this.1, this.2, y.1, rfl⟩
    refine v_aload_n C 1 dX11_needs_73 rfl ?_
    refine v_iload_n C 0 dX11_needs_74 rfl ?_
    refine v_bipush (z := -2) C dX11_needs_75 (by decide) ?_
    refine v_icmp_eq (tgt := 89) C dX11_needs_77 (by decide) (by omega) (by omega) (fun c11 => ?_) (fun c11 => ?_)
    · refine v_bipush (z := -2) C dX11_needs_89 (by decide) ?_
      refine v_goto (tgt := 100) C dX11_needs_91 (by decide) ?_
      refine v_callV (st := []) (n := 1) (q := 0) C [.int (iz (-2))] (ct_StageRatiosModel_good C.2.2.2.2.2.2.1 m10 (-2) ) lR0 (eR0 _) rfl qw1444 qw16 qw1441 rfl rfl ⟨Nat.le_of_ble_eq_true rfl, Nat.le_of_ble_eq_true rfl⟩ (by decide +kernel) qw1443 qp56 rfl rfl (Nat.le_of_ble_eq_true rfl) dX11_needs_100 (fun r m12 hq12 => ?_)
      obtain ⟨z12, rfl, rfl, hq12⟩ := hq12
      show V E (wR D cy aa ad) 3 m12 103 [(2, .int (iz (m5 0 43))), (0, .ref (aa 0)), (1, .int (iz (s)))] [.int (iz ((-2)))]
      refine v_iret C X rfl dX11_needs_103 ⟨_, rfl, ?_, ?_⟩
      · rw [← hq12]
        refine RP.mk fk7 ?_ (by decide : (0 : Int) ≠ 4)
        refine Or.inl ⟨hq2, rfl, bq, bp, hbe, hbe2, ?_⟩
        first
          | (rw [if_pos (by omega)])
          | (rw [if_neg (by omega)]; omega)
      · trivial
    · refine v_aload_n C 1 dX11_needs_80 rfl ?_
      refine v_get C 0 43 lR0 (eR0 _) rfl inX11 (by decide) rfl qw1183 dX11_needs_81 ?_
      refine v_bipush (z := -2) C dX11_needs_84 (by decide) ?_
      refine v_icmp_ne (tgt := 94) C dX11_needs_86 (by decide) (by omega) (by omega) (fun c13 => ?_) (fun c13 => ?_)
      · refine v_aload_n C 1 dX11_needs_94 rfl ?_
        refine v_get C 0 43 lR0 (eR0 _) rfl inX11 (by decide) rfl qw1183 dX11_needs_95 ?_
        refine v_iload_n C 0 dX11_needs_98 rfl ?_
        refine v_isub C dX11_needs_99 ?_
        refine v_callV (st := []) (n := 1) (q := 0) C [.int (iz ((m10 0 43) - (m5 0 43)))] (ct_StageRatiosModel_good C.2.2.2.2.2.2.1 m10 ((m10 0 43) - (m5 0 43)) ) lR0 (eR0 _) rfl qw1444 qw16 qw1441 rfl rfl ⟨Nat.le_of_ble_eq_true rfl, Nat.le_of_ble_eq_true rfl⟩ (by decide +kernel) qw1443 qp56 rfl rfl (Nat.le_of_ble_eq_true rfl) dX11_needs_100 (fun r m14 hq14 => ?_)
        obtain ⟨z14, rfl, rfl, hq14⟩ := hq14
        show V E (wR D cy aa ad) 3 m14 103 [(2, .int (iz (m5 0 43))), (0, .ref (aa 0)), (1, .int (iz (s)))] [.int (iz (((m10 0 43) - (m5 0 43))))]
        refine v_iret C X rfl dX11_needs_103 ⟨_, rfl, ?_, ?_⟩
        · rw [← hq14]
          refine RP.mk fk7 ?_ (by decide : (0 : Int) ≠ 4)
          refine Or.inl ⟨hq2, rfl, bq, bp, hbe, hbe2, ?_⟩
          first
            | (rw [if_pos (by omega)])
            | (rw [if_neg (by omega)]; omega)
        · trivial
      · refine v_bipush (z := -2) C dX11_needs_89 (by decide) ?_
        refine v_goto (tgt := 100) C dX11_needs_91 (by decide) ?_
        refine v_callV (st := []) (n := 1) (q := 0) C [.int (iz (-2))] (ct_StageRatiosModel_good C.2.2.2.2.2.2.1 m10 (-2) ) lR0 (eR0 _) rfl qw1444 qw16 qw1441 rfl rfl ⟨Nat.le_of_ble_eq_true rfl, Nat.le_of_ble_eq_true rfl⟩ (by decide +kernel) qw1443 qp56 rfl rfl (Nat.le_of_ble_eq_true rfl) dX11_needs_100 (fun r m15 hq15 => ?_)
        obtain ⟨z15, rfl, rfl, hq15⟩ := hq15
        show V E (wR D cy aa ad) 3 m15 103 [(2, .int (iz (m5 0 43))), (0, .ref (aa 0)), (1, .int (iz (s)))] [.int (iz ((-2)))]
        refine v_iret C X rfl dX11_needs_103 ⟨_, rfl, ?_, ?_⟩
        · rw [← hq15]
          refine RP.mk fk7 ?_ (by decide : (0 : Int) ≠ 4)
          refine Or.inl ⟨hq2, rfl, bq, bp, hbe, hbe2, ?_⟩
          first
            | (rw [if_pos (by omega)])
            | (rw [if_neg (by omega)]; omega)
        · trivial
  · show V E (wR D cy aa ad) 3 m1 10 [(0, .ref (aa 0)), (1, .int (iz (s)))] [.int (iz (0))]
    refine v_if_ne (tgt := 19) C dX11_needs_10 (by decide) (by omega) (fun c16 => by exact absurd c16 (by decide)) (fun c16 => ?_)
    refine v_aload_n C 0 dX11_needs_13 rfl ?_
    refine v_iconst (z := 1) C dX11_needs_14 rfl ?_
    refine v_callV (st := []) (n := 1) (q := 0) C [.int (iz (1))] (ct_StageRatiosModel_refused C.2.2.2.2.2.2.1 m1 (1) ) lR0 (eR0 _) rfl qw1340 qw16 qw1337 rfl rfl ⟨Nat.le_of_ble_eq_true rfl, Nat.le_of_ble_eq_true rfl⟩ (by decide +kernel) qw1339 qp36 rfl rfl (Nat.le_of_ble_eq_true rfl) dX11_needs_15 (fun r m17 hq17 => ?_)
    obtain ⟨z17, rfl, rfl, hq17⟩ := hq17
    show V E (wR D cy aa ad) 3 m17 18 [(0, .ref (aa 0)), (1, .int (iz (s)))] [.int (iz (-1))]
    refine v_iret C X rfl dX11_needs_18 ⟨_, rfl, ?_, ?_⟩
    · rw [← hq17]
      refine RP.mk fk2 ?_ (by decide)
      exact Or.inr ⟨e20 ▸ hq2, rfl, rfl⟩
    · trivial

set_option maxHeartbeats 4000000 in
set_option maxRecDepth 100000 in
theorem ct_StageRatiosModel_richer {lau : Launch} {D : va_G} {cy : Nat → ClassId} {aa ad : Nat → Nat} (hI : wI (wR D cy aa ad)) (m : Mem) (fa Af Bf Cf Rr Xx : Int → Int) (s w : Int) (hT : TT m fa Af Bf Cf Rr Xx) (hs : -2147483648 ≤ s ∧ s ≤ 2147483647) (hw : -2147483648 ≤ w ∧ w ≤ 2147483647) : MT lau (wR D cy aa ad) yX11_richer cX11_richer 4 (some .int) ({ frames := 4, cells := 0, slots := 0, locals := 88 } : Room) m [.ref (aa 0), .int (iz (s)), .int (iz (w))] (Pi (fun z m' => (RP (qRic (m 0 20) fa Rr Xx s w) m m' z) ∧ True)) := by
  refine v_entry hI RX11 (by decide) rfl (Nat.le_of_ble_eq_true rfl) (fun E hE C X => ?_)
  subst hE
  show V E (wR D cy aa ad) 4 m 0 [(0, .ref (aa 0)), (1, .int (iz (s))), (2, .int (iz (w)))] []
  refine v_aload_n C 0 dX11_richer_0 rfl ?_
  refine v_iconst (z := 0) C dX11_richer_1 rfl ?_
  refine v_put C 0 0 (0) 0 rfl lR0 (eR0 _) rfl inX11 tyX11 tyX11_ok nmX11 (by decide) qw1140 rfl rfl rfl (Nat.le_of_ble_eq_true rfl) (by rw [mup_r]; exact (eR0 _)) dX11_richer_2 (fun m1 em1 => ?_)
  have fk2 : FK m m1 := by rw [em1]; exact FK.up 0 0 (by unfold CKj; omega)
  have hT2 := fk2.tt hT
  have e20 : m1 0 20 = m 0 20 := fk2.1 20 (Or.inr (Or.inl rfl))
  have ht01 : m 0 20 = 0 ∨ m 0 20 = 1 := hT.imp (fun a => a) (fun a => a.1)
  refine v_aload_n C 0 dX11_richer_5 rfl ?_
  refine v_iload_n C 1 dX11_richer_6 rfl ?_
  refine v_callV (st := []) (n := 1) (q := 0) C [.int (iz (s))] (ct_StageRatiosModel_isStage C.2.2.2.2.2.2.1 m1 (fa) (Af) (Bf) (Cf) (Rr) (Xx) (s) (by exact hT2) (by first | assumption | omega)) lR0 (eR0 _) rfl qw1464 qw16 qw1461 rfl rfl ⟨Nat.le_of_ble_eq_true rfl, Nat.le_of_ble_eq_true rfl⟩ (by decide +kernel) qw1463 qp57 rfl rfl (Nat.le_of_ble_eq_true rfl) dX11_richer_7 (fun r m2 hq2 => ?_)
  obtain ⟨z2, rfl, ⟨rfl, hq2, rfl⟩ | ⟨rfl, hq2, rfl⟩⟩ := hq2
  · show V E (wR D cy aa ad) 4 m1 10 [(0, .ref (aa 0)), (1, .int (iz (s))), (2, .int (iz (w)))] [.int (iz (1))]
    rw [e20] at hq2
    refine v_if_eq (tgt := 26) C dX11_richer_10 (by decide) (by omega) (fun c3 => by exact absurd c3 (by decide)) (fun c3 => ?_)
    refine v_aload_n C 0 dX11_richer_13 rfl ?_
    refine v_iload_n C 2 dX11_richer_14 rfl ?_
    refine v_callV (st := []) (n := 1) (q := 0) C [.int (iz (w))] (ct_StageRatiosModel_isStage C.2.2.2.2.2.2.1 m1 (fa) (Af) (Bf) (Cf) (Rr) (Xx) (w) (by exact hT2) (by first | assumption | omega)) lR0 (eR0 _) rfl qw1464 qw16 qw1461 rfl rfl ⟨Nat.le_of_ble_eq_true rfl, Nat.le_of_ble_eq_true rfl⟩ (by decide +kernel) qw1463 qp57 rfl rfl (Nat.le_of_ble_eq_true rfl) dX11_richer_15 (fun r m4 hq4 => ?_)
    obtain ⟨z4, rfl, ⟨rfl, hq4, rfl⟩ | ⟨rfl, hq4, rfl⟩⟩ := hq4
    · show V E (wR D cy aa ad) 4 m1 18 [(0, .ref (aa 0)), (1, .int (iz (s))), (2, .int (iz (w)))] [.int (iz (1))]
      rw [e20] at hq4
      refine v_if_eq (tgt := 26) C dX11_richer_18 (by decide) (by omega) (fun c5 => by exact absurd c5 (by decide)) (fun c5 => ?_)
      refine v_iload_n C 1 dX11_richer_21 rfl ?_
      refine v_iload_n C 2 dX11_richer_22 rfl ?_
      refine v_icmp_ne (tgt := 35) C dX11_richer_23 (by decide) (by omega) (by omega) (fun c6 => ?_) (fun c6 => ?_)
      · obtain ⟨hT1, hs0⟩ := id hq2
        obtain ⟨-, hs2⟩ := id hq4
        obtain ⟨-, hg0⟩ := hT.resolve_left (by omega)
        have hg := fk2.rt hg0
        obtain ⟨⟨r11, r8, r9, r10, r12⟩, r1, r2, r6, hvd, hfo⟩ := id hg
        obtain ⟨hn, hF, hup, hlw, hX⟩ := id hvd
        have hUr := hX.u hF
        have hu1 := hUr s hs0.1 (by omega)
        have hu2 := hUr w hs2.1 (by omega)
        have e6s : m1 6 (2 + s) = Xx (2 + s) := r6 _ (by omega) (by omega)
        have e6w : m1 6 (2 + w) = Xx (2 + w) := r6 _ (by omega) (by omega)
        have hfs := hF s hs0.1 hs0.2
        have hfw := hF w hs2.1 hs2.2
        have hm1 := (hX.2.2 s hs0.1 (by omega)).1
        have hm2 := (hX.2.2 w hs2.1 (by omega)).1
        have hms1 : mstZ fa (Rr 5) s = fa (s * 9 + 3) := if_pos hs0.2
        have hms2 : mstZ fa (Rr 5) w = fa (w * 9 + 3) := if_pos hs2.2
        refine v_aload_n C 0 dX11_richer_35 rfl ?_
        refine v_get C 0 21 lR0 (eR0 _) rfl inX11 (by decide) rfl qw1161 dX11_richer_36 ?_
        refine v_iconst (z := 2) C dX11_richer_39 rfl ?_
        refine v_iload_n C 1 dX11_richer_40 rfl ?_
        refine v_iadd C dX11_richer_41 ?_
        refine v_iald C 6 lR6 (eR6 _) (by decide) (by omega) dX11_richer_42 ?_
        refine v_aload_n C 0 dX11_richer_43 rfl ?_
        refine v_iload_n C 1 dX11_richer_44 rfl ?_
        refine v_iconst (z := 3) C dX11_richer_45 rfl ?_
        refine v_callV (st := [.int (iz (m1 6 (2 + s)))]) (n := 2) (q := 0) C [.int (iz (s)), .int (iz (3))] (ct_StageRatiosModel_told C.2.2.2.2.2.2.1 m1 (fa) (Af) (Bf) (Cf) (Rr) (Xx) (s) (3) (by first | assumption | omega) (by first | assumption | omega) (by first | assumption | omega)) lR0 (eR0 _) rfl qw1440 qw16 qw1437 rfl rfl ⟨Nat.le_of_ble_eq_true rfl, Nat.le_of_ble_eq_true rfl⟩ (by decide +kernel) qw1439 qp55 rfl rfl (Nat.le_of_ble_eq_true rfl) dX11_richer_46 (fun r m7 hq7 => ?_)
        obtain ⟨z7, rfl, rfl, rfl⟩ := hq7
        show V E (wR D cy aa ad) 4 m1 49 [(0, .ref (aa 0)), (1, .int (iz (s))), (2, .int (iz (w)))] [.int (iz (fa (s * 9 + 3))), .int (iz (m1 6 (2 + s)))]
        refine v_icmp_eq (tgt := 69) C dX11_richer_49 (by decide) (by omega) (by omega) (fun c8 => ?_) (fun c8 => ?_)
        · refine v_aload_n C 0 dX11_richer_69 rfl ?_
          refine v_iconst (z := 5) C dX11_richer_70 rfl ?_
          refine v_callV (st := []) (n := 1) (q := 0) C [.int (iz (5))] (ct_StageRatiosModel_refused C.2.2.2.2.2.2.1 m1 (5) ) lR0 (eR0 _) rfl qw1340 qw16 qw1337 rfl rfl ⟨Nat.le_of_ble_eq_true rfl, Nat.le_of_ble_eq_true rfl⟩ (by decide +kernel) qw1339 qp36 rfl rfl (Nat.le_of_ble_eq_true rfl) dX11_richer_71 (fun r m9 hq9 => ?_)
          obtain ⟨z9, rfl, rfl, hq9⟩ := hq9
          show V E (wR D cy aa ad) 4 m9 74 [(0, .ref (aa 0)), (1, .int (iz (s))), (2, .int (iz (w)))] [.int (iz (-1))]
          refine v_pop C dX11_richer_74 rfl ?_
          refine v_bipush (z := -2) C dX11_richer_75 (by decide) ?_
          refine v_iret C X rfl dX11_richer_77 ⟨_, rfl, ?_, ?_⟩
          · rw [← hq9]
            exact RP.mk fk2 (Or.inr (Or.inl ⟨⟨hq2, hq4, by omega⟩, by unfold uX at hu1 hu2; omega, rfl, rfl⟩)) (by decide)
          · trivial
        · refine v_aload_n C 0 dX11_richer_52 rfl ?_
          refine v_get C 0 21 lR0 (eR0 _) rfl inX11 (by decide) rfl qw1161 dX11_richer_53 ?_
          refine v_iconst (z := 2) C dX11_richer_56 rfl ?_
          refine v_iload_n C 2 dX11_richer_57 rfl ?_
          refine v_iadd C dX11_richer_58 ?_
          refine v_iald C 6 lR6 (eR6 _) (by decide) (by omega) dX11_richer_59 ?_
          refine v_aload_n C 0 dX11_richer_60 rfl ?_
          refine v_iload_n C 2 dX11_richer_61 rfl ?_
          refine v_iconst (z := 3) C dX11_richer_62 rfl ?_
          refine v_callV (st := [.int (iz (m1 6 (2 + w)))]) (n := 2) (q := 0) C [.int (iz (w)), .int (iz (3))] (ct_StageRatiosModel_told C.2.2.2.2.2.2.1 m1 (fa) (Af) (Bf) (Cf) (Rr) (Xx) (w) (3) (by first | assumption | omega) (by first | assumption | omega) (by first | assumption | omega)) lR0 (eR0 _) rfl qw1440 qw16 qw1437 rfl rfl ⟨Nat.le_of_ble_eq_true rfl, Nat.le_of_ble_eq_true rfl⟩ (by decide +kernel) qw1439 qp55 rfl rfl (Nat.le_of_ble_eq_true rfl) dX11_richer_63 (fun r m10 hq10 => ?_)
          obtain ⟨z10, rfl, rfl, rfl⟩ := hq10
          show V E (wR D cy aa ad) 4 m1 66 [(0, .ref (aa 0)), (1, .int (iz (s))), (2, .int (iz (w)))] [.int (iz (fa (w * 9 + 3))), .int (iz (m1 6 (2 + w)))]
          refine v_icmp_ne (tgt := 78) C dX11_richer_66 (by decide) (by omega) (by omega) (fun c11 => ?_) (fun c11 => ?_)
          · refine v_aload_n C 0 dX11_richer_78 rfl ?_
            refine v_callV (st := []) (n := 0) (q := 0) C [] (ct_StageRatiosModel_laysOwn C.2.2.2.2.2.2.1 m1 (fa) (Af) (Bf) (Cf) (Rr) (Xx) (by first | assumption | omega)) lR0 (eR0 _) rfl qw1476 qw16 qw1473 rfl rfl ⟨Nat.le_of_ble_eq_true rfl, Nat.le_of_ble_eq_true rfl⟩ (by decide +kernel) qw1475 qp59 rfl rfl (Nat.le_of_ble_eq_true rfl) dX11_richer_79 (fun r m12 hq12 => ?_)
            obtain ⟨rfl, hq12⟩ := hq12
            show V E (wR D cy aa ad) 4 m12 82 [(0, .ref (aa 0)), (1, .int (iz (s))), (2, .int (iz (w)))] []
            have fk3 := fk2.tr (show FK _ m12 from ⟨fun j hj => hq12.2.1 j (by unfold CKj at hj; omega), fun q hq => hq12.2.2 q (by omega) (by omega)⟩)
            have hg3 := fk3.rt hg0
            have hd3 := hq12.1
            have hDv := hd3.2.2
            have hstr := fun (j : Int) (h0 : 0 ≤ j) (h1 : j ≤ Rr 5) => stZ_rng (s := j) hF hn.2 hDv.2.1 hDv.2.2 h0 h1
            have hUr := hX.u hF
            have dv1 := u1_dv hX hF hn (s := s) (by omega)
            have dv2 := u1_dv hX hF hn (s := w) (by omega)
            have al1 := dv1.al hF
            have al2 := dv2.al hF
            have hs2p := dv2.sp hF
            have hb2 := fun (c : Nat) (hc : (c : Int) ≤ Rr 5) => spL_b c (fun t h0 h1 => hs2p t h0 (by omega))
            refine v_aload_n C 0 dX11_richer_82 rfl ?_
            refine v_get C 0 33 lR0 (eR0 _) rfl inX11 (by decide) rfl qw1173 dX11_richer_83 ?_
            refine v_iload_n C 1 dX11_richer_86 rfl ?_
            refine v_dup2 C dX11_richer_87 rfl rfl ?_
            refine v_iald C 9 lR9 (eR9 _) (by decide) (by omega) dX11_richer_88 ?_
            refine v_iconst (z := 1) C dX11_richer_89 rfl ?_
            refine v_iadd C dX11_richer_90 ?_
            refine v_iast C 9 lR9 eR9 (by decide) (by omega) dX11_richer_91 (fun m13 em13 => ?_)
            have hd4 : DT m13 (Rr 5) (Xx 0) (u1X Xx s) := ⟨by rw [em13, mup_k _ _ _ (by decide)]; exact hd3.1, fun j j0 j1 => by
              unfold u1X; rw [em13, mup_r]
              by_cases e : j = s
              · rw [if_pos e]; refine (if_pos e).trans ?_; rw [hd3.2.1 s hs0.1 (by omega), e]; rfl
              · rw [if_neg e]; exact (if_neg e).trans (hd3.2.1 j j0 j1), dv1⟩
            have fk4 := fk3.tr (show FK _ m13 from by rw [em13]; exact FK.ce 9 _ _ (by decide))
            have hg4 := fk4.rt hg0
            refine v_aload_n C 0 dX11_richer_92 rfl ?_
            refine v_callV (st := []) (n := 0) (q := 0) C [] (ct_StageRatiosModel_laysSpeed C.2.2.2.2.2.2.1 m13 (fa) (Af) (Bf) (Cf) (Rr) (Xx) (Xx 0) (u1X Xx s) (by exact hg4) (by exact hd4)) lR0 (eR0 _) rfl qw1516 qw16 qw1513 rfl rfl ⟨Nat.le_of_ble_eq_true rfl, Nat.le_of_ble_eq_true rfl⟩ (by decide +kernel) qw1515 qp65 rfl rfl (Nat.le_of_ble_eq_true rfl) dX11_richer_93 (fun r m14 hq14 => ?_)
            obtain ⟨rfl, hq14⟩ := hq14
            show V E (wR D cy aa ad) 4 m14 96 [(0, .ref (aa 0)), (1, .int (iz (s))), (2, .int (iz (w)))] []
            have fk5 := fk4.tr (FK.fb hq14.2)
            refine v_aload_n C 0 dX11_richer_96 rfl ?_
            refine v_get C 0 33 lR0 (eR0 _) rfl inX11 (by decide) rfl qw1173 dX11_richer_97 ?_
            refine v_iload_n C 1 dX11_richer_100 rfl ?_
            refine v_dup2 C dX11_richer_101 rfl rfl ?_
            refine v_iald C 9 lR9 (eR9 _) (by decide) (by omega) dX11_richer_102 ?_
            refine v_iconst (z := 1) C dX11_richer_103 rfl ?_
            refine v_isub C dX11_richer_104 ?_
            refine v_iast C 9 lR9 eR9 (by decide) (by omega) dX11_richer_105 (fun m15 em15 => ?_)
            refine v_aload_n C 0 dX11_richer_106 rfl ?_
            refine v_get C 0 33 lR0 (eR0 _) rfl inX11 (by decide) rfl qw1173 dX11_richer_107 ?_
            refine v_iload_n C 2 dX11_richer_110 rfl ?_
            refine v_dup2 C dX11_richer_111 rfl rfl ?_
            refine v_iald C 9 lR9 (eR9 _) (by decide) (by omega) dX11_richer_112 ?_
            refine v_iconst (z := 1) C dX11_richer_113 rfl ?_
            refine v_iadd C dX11_richer_114 ?_
            refine v_iast C 9 lR9 eR9 (by decide) (by omega) dX11_richer_115 (fun m16 em16 => ?_)
            have fk6 := (fk5.tr (show FK _ m15 from by rw [em15]; exact FK.ce 9 _ _ (by decide))).tr (show FK _ m16 from by rw [em16]; exact FK.ce 9 _ _ (by decide))
            have hg6 := fk6.rt hg0
            have hd6 : DT m16 (Rr 5) (Xx 0) (u1X Xx w) := by
              refine ⟨by rw [em16, mup_k _ _ _ (by decide), em15, mup_k _ _ _ (by decide), hq14.2.1 34 (by decide) (by decide)]; exact hd4.1, fun j j0 j1 => ?_, dv2⟩
              have h93 : ∀ j : Int, 0 ≤ j → j < 3 → m14 9 j = u1X Xx s j := fun j j0 j1 => by rw [hq14.2.2 9 (by decide) (by decide) (by decide)]; exact hd4.2.1 j j0 j1
              have h105 : ∀ j : Int, 0 ≤ j → j < 3 → m15 9 j = Xx (2 + j) := fun j j0 j1 => by
                have y := h93 j j0 j1
                unfold u1X at y
                rw [em15, mup_r]
                by_cases e : j = s
                · refine (if_pos e).trans ?_; rw [if_pos e] at y; rw [← e, y]; omega
                · rw [if_neg e] at y; exact (if_neg e).trans y
              unfold u1X; rw [em16, mup_r]
              by_cases e : j = w
              · rw [if_pos e]; refine (if_pos e).trans ?_; rw [← e, h105 j j0 j1]
              · rw [if_neg e]; exact (if_neg e).trans (h105 j j0 j1)
            have hw6 : BW2 m16 (numL (spT fa (Rr 5) (Xx 0) (u1X Xx s))) (denL (spT fa (Rr 5) (Xx 0) (u1X Xx s))) := ⟨hq14.1.1.fr (by rw [em16, mup_k _ _ _ (by decide), em15, mup_k _ _ _ (by decide)]) (by rw [em16, mup_k _ _ _ (by decide), em15, mup_k _ _ _ (by decide)]), hq14.1.2.fr (by rw [em16, mup_k _ _ _ (by decide), em15, mup_k _ _ _ (by decide)]) (by rw [em16, mup_k _ _ _ (by decide), em15, mup_k _ _ _ (by decide)])⟩
            refine v_iconst (z := 0) C dX11_richer_116 rfl ?_
            refine v_istore_n (L1 := [(3, .int (iz (0))), (0, .ref (aa 0)), (1, .int (iz (s))), (2, .int (iz (w)))]) C dX11_richer_117 (by decide) rfl ?_
            have K118 : ∀ (nK : Nat) (i : Int) (mM : Mem) (hi : 0 ≤ i ∧ i ≤ Rr 5) (h3 : BW2 mM (numL (spT fa (Rr 5) (Xx 0) (u1X Xx s)) * denL (spL fa (stZ fa (Rr 5) (Xx 0) (u1X Xx w)) (fun j9 => stZ fa (Rr 5) (Xx 0) (u1X Xx w) j9 - u1X Xx w j9) i.toNat)) (denL (spT fa (Rr 5) (Xx 0) (u1X Xx s)) * numL (spL fa (stZ fa (Rr 5) (Xx 0) (u1X Xx w)) (fun j9 => stZ fa (Rr 5) (Xx 0) (u1X Xx w) j9 - u1X Xx w j9) i.toNat))) (hfM : FBm m16 mM), (Rr 5 - i).toNat < nK → V E (wR D cy aa ad) 4 mM 118 [(0, .ref (aa 0)), (1, .int (iz (s))), (2, .int (iz (w))), (3, .int (iz (i)))] [] := by
              intro nK
              induction nK with
              | zero => intro i mM hi h3 hfM hn; exact absurd hn (Nat.not_lt_zero _)
              | succ nK ih118 =>
                intro i mM hi h3 hfM hn118
                have hgM := hfM.rt hg6
                have hdM := hfM.dt hd6
                have n11 : mM 0 11 = Rr 5 := hgM.1.1
                have e3 : (i + 1).toNat = i.toNat + 1 := by omega
                have e4 : ((i.toNat : Nat) : Int) = i := by omega
                have b1 := hb2 i.toNat (by omega)
                have m1_ := mul_1 (show 1 ≤ numL (spT fa (Rr 5) (Xx 0) (u1X Xx s)) by omega) b1.1.1
                have m2_ := mul_1 al1.2.2.2.1 (show 1 ≤ numL (spL fa (stZ fa (Rr 5) (Xx 0) (u1X Xx w)) (fun j9 => stZ fa (Rr 5) (Xx 0) (u1X Xx w) j9 - u1X Xx w j9) i.toNat) by omega)
                refine v_iload_n C 3 dX11_richer_118 rfl ?_
                refine v_aload_n C 0 dX11_richer_119 rfl ?_
                refine v_get C 0 11 lR0 (eR0 _) rfl inX11 (by decide) rfl qw1151 dX11_richer_120 ?_
                refine v_icmp_ge (tgt := 159) C dX11_richer_123 (by decide) (by omega) (by omega) (fun c17 => ?_) (fun c17 => ?_)
                · refine v_aload_n C 0 dX11_richer_159 rfl ?_
                  refine v_aload_n C 0 dX11_richer_160 rfl ?_
                  refine v_callV (st := [.ref (aa 0)]) (n := 0) (q := 0) C [] (ct_StageRatiosModel_compares C.2.2.2.2.2.2.1 mM (numL (spT fa (Rr 5) (Xx 0) (u1X Xx s)) * denL (spT fa (Rr 5) (Xx 0) (u1X Xx w))) (denL (spT fa (Rr 5) (Xx 0) (u1X Xx s)) * numL (spT fa (Rr 5) (Xx 0) (u1X Xx w))) (by rw [show i.toNat = (Rr 5).toNat by omega] at h3; exact h3)) lR0 (eR0 _) rfl qw1541 qw16 qw1538 rfl rfl ⟨Nat.le_of_ble_eq_true rfl, Nat.le_of_ble_eq_true rfl⟩ (by decide +kernel) qw1540 qp71 rfl rfl (Nat.le_of_ble_eq_true rfl) dX11_richer_161 (fun r m18 hq18 => ?_)
                  obtain ⟨z18, rfl, rfl, rfl⟩ := hq18
                  show V E (wR D cy aa ad) 4 mM 164 [(0, .ref (aa 0)), (1, .int (iz (s))), (2, .int (iz (w))), (3, .int (iz (i)))] [.int (iz ((if (denL (spT fa (Rr 5) (Xx 0) (u1X Xx s)) * numL (spT fa (Rr 5) (Xx 0) (u1X Xx w))) < (numL (spT fa (Rr 5) (Xx 0) (u1X Xx s)) * denL (spT fa (Rr 5) (Xx 0) (u1X Xx w))) then 1 else if (numL (spT fa (Rr 5) (Xx 0) (u1X Xx s)) * denL (spT fa (Rr 5) (Xx 0) (u1X Xx w))) < (denL (spT fa (Rr 5) (Xx 0) (u1X Xx s)) * numL (spT fa (Rr 5) (Xx 0) (u1X Xx w))) then -1 else 0))), .ref (aa 0)]
                  refine v_callV (st := []) (n := 1) (q := 0) C [.int (iz ((if (denL (spT fa (Rr 5) (Xx 0) (u1X Xx s)) * numL (spT fa (Rr 5) (Xx 0) (u1X Xx w))) < (numL (spT fa (Rr 5) (Xx 0) (u1X Xx s)) * denL (spT fa (Rr 5) (Xx 0) (u1X Xx w))) then 1 else if (numL (spT fa (Rr 5) (Xx 0) (u1X Xx s)) * denL (spT fa (Rr 5) (Xx 0) (u1X Xx w))) < (denL (spT fa (Rr 5) (Xx 0) (u1X Xx s)) * numL (spT fa (Rr 5) (Xx 0) (u1X Xx w))) then -1 else 0)))] (ct_StageRatiosModel_good C.2.2.2.2.2.2.1 mM ((if (denL (spT fa (Rr 5) (Xx 0) (u1X Xx s)) * numL (spT fa (Rr 5) (Xx 0) (u1X Xx w))) < (numL (spT fa (Rr 5) (Xx 0) (u1X Xx s)) * denL (spT fa (Rr 5) (Xx 0) (u1X Xx w))) then 1 else if (numL (spT fa (Rr 5) (Xx 0) (u1X Xx s)) * denL (spT fa (Rr 5) (Xx 0) (u1X Xx w))) < (denL (spT fa (Rr 5) (Xx 0) (u1X Xx s)) * numL (spT fa (Rr 5) (Xx 0) (u1X Xx w))) then -1 else 0)) ) lR0 (eR0 _) rfl qw1444 qw16 qw1441 rfl rfl ⟨Nat.le_of_ble_eq_true rfl, Nat.le_of_ble_eq_true rfl⟩ (by decide +kernel) qw1443 qp56 rfl rfl (Nat.le_of_ble_eq_true rfl) dX11_richer_164 (fun r m19 hq19 => ?_)
                  obtain ⟨z19, rfl, rfl, hq19⟩ := hq19
                  show V E (wR D cy aa ad) 4 m19 167 [(0, .ref (aa 0)), (1, .int (iz (s))), (2, .int (iz (w))), (3, .int (iz (i)))] [.int (iz (((if (denL (spT fa (Rr 5) (Xx 0) (u1X Xx s)) * numL (spT fa (Rr 5) (Xx 0) (u1X Xx w))) < (numL (spT fa (Rr 5) (Xx 0) (u1X Xx s)) * denL (spT fa (Rr 5) (Xx 0) (u1X Xx w))) then 1 else if (numL (spT fa (Rr 5) (Xx 0) (u1X Xx s)) * denL (spT fa (Rr 5) (Xx 0) (u1X Xx w))) < (denL (spT fa (Rr 5) (Xx 0) (u1X Xx s)) * numL (spT fa (Rr 5) (Xx 0) (u1X Xx w))) then -1 else 0))))]
                  refine v_iret C X rfl dX11_richer_167 ⟨_, rfl, ?_, ?_⟩
                  · rw [← hq19]
                    refine RP.mk (fk6.tr (FK.fb hfM)) (Or.inl ⟨⟨hq2, hq4, by omega⟩, ⟨by omega, by omega⟩, rfl, ?_⟩) (by decide : (0 : Int) ≠ 4)
                    unfold cmZ; rw [Int.mul_comm (numL (spT fa (Rr 5) (Xx 0) (u1X Xx w)))]
                  · trivial
                · have e9 : mM 9 i = u1X Xx w i := hdM.2.1 i (by omega) (by omega)
                  have hsi := hs2p i (by omega) (by omega)
                  have hfi := hF i (by omega) (by omega)
                  dsimp only at hsi
                  refine v_aload_n C 0 dX11_richer_126 rfl ?_
                  refine v_aload_n C 0 dX11_richer_127 rfl ?_
                  refine v_iload_n C 3 dX11_richer_128 rfl ?_
                  refine v_callV (st := [.ref (aa 0)]) (n := 1) (q := 0) C [.int (iz (i))] (ct_StageRatiosModel_start C.2.2.2.2.2.2.1 mM (fa) (Af) (Bf) (Cf) (Rr) (Xx) (Xx 0) (u1X Xx w) (i) (by exact hgM) (by exact hdM) (by first | assumption | omega)) lR0 (eR0 _) rfl qw1480 qw16 qw1477 rfl rfl ⟨Nat.le_of_ble_eq_true rfl, Nat.le_of_ble_eq_true rfl⟩ (by decide +kernel) qw1479 qp60 rfl rfl (Nat.le_of_ble_eq_true rfl) dX11_richer_129 (fun r m20 hq20 => ?_)
                  obtain ⟨z20, rfl, rfl, rfl⟩ := hq20
                  show V E (wR D cy aa ad) 4 mM 132 [(0, .ref (aa 0)), (1, .int (iz (s))), (2, .int (iz (w))), (3, .int (iz (i)))] [.int (iz (stZ fa (Rr 5) (Xx 0) (u1X Xx w) i)), .ref (aa 0)]
                  refine v_aload_n C 0 dX11_richer_132 rfl ?_
                  refine v_get C 0 33 lR0 (eR0 _) rfl inX11 (by decide) rfl qw1173 dX11_richer_133 ?_
                  refine v_iload_n C 3 dX11_richer_136 rfl ?_
                  refine v_iald C 9 lR9 (eR9 _) (by decide) (by omega) dX11_richer_137 ?_
                  refine v_isub C dX11_richer_138 ?_
                  refine v_aload_n C 0 dX11_richer_139 rfl ?_
                  refine v_iload_n C 3 dX11_richer_140 rfl ?_
                  refine v_callV (st := [.int (iz ((stZ fa (Rr 5) (Xx 0) (u1X Xx w) i) - (mM 9 i))), .ref (aa 0)]) (n := 1) (q := 0) C [.int (iz (i))] (ct_StageRatiosModel_start C.2.2.2.2.2.2.1 mM (fa) (Af) (Bf) (Cf) (Rr) (Xx) (Xx 0) (u1X Xx w) (i) (by exact hgM) (by exact hdM) (by first | assumption | omega)) lR0 (eR0 _) rfl qw1480 qw16 qw1477 rfl rfl ⟨Nat.le_of_ble_eq_true rfl, Nat.le_of_ble_eq_true rfl⟩ (by decide +kernel) qw1479 qp60 rfl rfl (Nat.le_of_ble_eq_true rfl) dX11_richer_141 (fun r m21 hq21 => ?_)
                  obtain ⟨z21, rfl, rfl, rfl⟩ := hq21
                  show V E (wR D cy aa ad) 4 mM 144 [(0, .ref (aa 0)), (1, .int (iz (s))), (2, .int (iz (w))), (3, .int (iz (i)))] [.int (iz (stZ fa (Rr 5) (Xx 0) (u1X Xx w) i)), .int (iz ((stZ fa (Rr 5) (Xx 0) (u1X Xx w) i) - (mM 9 i))), .ref (aa 0)]
                  refine v_aload_n C 0 dX11_richer_144 rfl ?_
                  refine v_iload_n C 3 dX11_richer_145 rfl ?_
                  refine v_iconst (z := 0) C dX11_richer_146 rfl ?_
                  refine v_callV (st := [.int (iz (stZ fa (Rr 5) (Xx 0) (u1X Xx w) i)), .int (iz ((stZ fa (Rr 5) (Xx 0) (u1X Xx w) i) - (mM 9 i))), .ref (aa 0)]) (n := 2) (q := 0) C [.int (iz (i)), .int (iz (0))] (ct_StageRatiosModel_told C.2.2.2.2.2.2.1 mM (fa) (Af) (Bf) (Cf) (Rr) (Xx) (i) (0) (by exact hgM) (by first | assumption | omega) (by first | assumption | omega)) lR0 (eR0 _) rfl qw1440 qw16 qw1437 rfl rfl ⟨Nat.le_of_ble_eq_true rfl, Nat.le_of_ble_eq_true rfl⟩ (by decide +kernel) qw1439 qp55 rfl rfl (Nat.le_of_ble_eq_true rfl) dX11_richer_147 (fun r m22 hq22 => ?_)
                  obtain ⟨z22, rfl, rfl, rfl⟩ := hq22
                  show V E (wR D cy aa ad) 4 mM 150 [(0, .ref (aa 0)), (1, .int (iz (s))), (2, .int (iz (w))), (3, .int (iz (i)))] [.int (iz (fa (i * 9 + 0))), .int (iz (stZ fa (Rr 5) (Xx 0) (u1X Xx w) i)), .int (iz ((stZ fa (Rr 5) (Xx 0) (u1X Xx w) i) - (mM 9 i))), .ref (aa 0)]
                  refine v_callV (st := []) (n := 3) (q := 0) C [.int (iz ((stZ fa (Rr 5) (Xx 0) (u1X Xx w) i) - (mM 9 i))), .int (iz (stZ fa (Rr 5) (Xx 0) (u1X Xx w) i)), .int (iz (fa (i * 9 + 0)))] (ct_StageRatiosModel_times C.2.2.2.2.2.2.1 mM ((stZ fa (Rr 5) (Xx 0) (u1X Xx w) i) - (mM 9 i)) (stZ fa (Rr 5) (Xx 0) (u1X Xx w) i) (fa (i * 9 + 0)) (numL (spT fa (Rr 5) (Xx 0) (u1X Xx s)) * denL (spL fa (stZ fa (Rr 5) (Xx 0) (u1X Xx w)) (fun j9 => stZ fa (Rr 5) (Xx 0) (u1X Xx w) j9 - u1X Xx w j9) i.toNat)) (denL (spT fa (Rr 5) (Xx 0) (u1X Xx s)) * numL (spL fa (stZ fa (Rr 5) (Xx 0) (u1X Xx w)) (fun j9 => stZ fa (Rr 5) (Xx 0) (u1X Xx w) j9 - u1X Xx w j9) i.toNat)) (by rw [e9]; omega) (by omega) (by omega) (by exact h3) (by omega) (by omega) (by have c1 := hb2 (i.toNat + 1) (by omega); rw [spL_den (by rw [e4]; omega), e4] at c1; rw [e9, Int.mul_assoc]; exact lt_208 (by omega) al1.2.2.1 (Int.mul_nonneg (by omega) (Int.pow_nonneg (by omega))) (Int.le_trans c1.1.2 (Int.le_trans c1.2.1 (p104 (by omega))))) (by have c1 := hb2 (i.toNat + 1) (by omega); rw [spL_num (by rw [e4]; omega), e4] at c1; rw [Int.mul_assoc]; exact lt_208 (by omega) (Int.le_trans al1.2.2.2.2 al1.2.2.1) (Int.mul_nonneg (by omega) (Int.pow_nonneg (by omega))) (Int.le_trans c1.2.1 (p104 (by omega))))) lR0 (eR0 _) rfl qw1524 qw16 qw1521 rfl rfl ⟨Nat.le_of_ble_eq_true rfl, Nat.le_of_ble_eq_true rfl⟩ (by decide +kernel) qw1523 qp67 rfl rfl (Nat.le_of_ble_eq_true rfl) dX11_richer_150 (fun r m23 hq23 => ?_)
                  obtain ⟨rfl, hq23⟩ := hq23
                  show V E (wR D cy aa ad) 4 m23 153 [(0, .ref (aa 0)), (1, .int (iz (s))), (2, .int (iz (w))), (3, .int (iz (i)))] []
                  refine v_iinc (L1 := [(3, .int (iz (i + 1))), (0, .ref (aa 0)), (1, .int (iz (s))), (2, .int (iz (w)))]) C 3 dX11_richer_153 rfl (by decide) rfl ?_
                  refine v_goto (tgt := 118) C dX11_richer_156 (by decide) ?_
                  refine v_sub [1, 2, 3, 0] rfl ?_
                  exact ih118 (i + 1) m23 (by omega) (by rw [e3, spL_num (by rw [e4]; omega), spL_den (by rw [e4]; omega), e4, ← Int.mul_assoc, ← Int.mul_assoc]; rw [e9] at hq23; exact hq23.1) (by exact hfM.tr hq23.2) (by omega)
            refine v_sub [1, 2, 3, 0] rfl ?_
            exact K118 _ (0) m16 (by omega) (by 
                            show BW2 m16 (numL (spT fa (Rr 5) (Xx 0) (u1X Xx s)) * 1) (denL (spT fa (Rr 5) (Xx 0) (u1X Xx s)) * 1)
                            rw [Int.mul_one, Int.mul_one]; exact hw6
                          ) (by exact ⟨fun _ _ _ => rfl, fun _ _ _ _ => rfl⟩) (Nat.lt_succ_self _)
          · refine v_aload_n C 0 dX11_richer_69 rfl ?_
            refine v_iconst (z := 5) C dX11_richer_70 rfl ?_
            refine v_callV (st := []) (n := 1) (q := 0) C [.int (iz (5))] (ct_StageRatiosModel_refused C.2.2.2.2.2.2.1 m1 (5) ) lR0 (eR0 _) rfl qw1340 qw16 qw1337 rfl rfl ⟨Nat.le_of_ble_eq_true rfl, Nat.le_of_ble_eq_true rfl⟩ (by decide +kernel) qw1339 qp36 rfl rfl (Nat.le_of_ble_eq_true rfl) dX11_richer_71 (fun r m24 hq24 => ?_)
            obtain ⟨z24, rfl, rfl, hq24⟩ := hq24
            show V E (wR D cy aa ad) 4 m24 74 [(0, .ref (aa 0)), (1, .int (iz (s))), (2, .int (iz (w)))] [.int (iz (-1))]
            refine v_pop C dX11_richer_74 rfl ?_
            refine v_bipush (z := -2) C dX11_richer_75 (by decide) ?_
            refine v_iret C X rfl dX11_richer_77 ⟨_, rfl, ?_, ?_⟩
            · rw [← hq24]
              exact RP.mk fk2 (Or.inr (Or.inl ⟨⟨hq2, hq4, by omega⟩, by unfold uX at hu1 hu2; omega, rfl, rfl⟩)) (by decide)
            · trivial
      · have hbad : ¬ (hsS (m 0 20) Rr s ∧ hsS (m 0 20) Rr w ∧ s ≠ w) := fun h => h.2.2 (by omega)
        refine v_aload_n C 0 dX11_richer_26 rfl ?_
        refine v_iconst (z := 1) C dX11_richer_27 rfl ?_
        refine v_callV (st := []) (n := 1) (q := 0) C [.int (iz (1))] (ct_StageRatiosModel_refused C.2.2.2.2.2.2.1 m1 (1) ) lR0 (eR0 _) rfl qw1340 qw16 qw1337 rfl rfl ⟨Nat.le_of_ble_eq_true rfl, Nat.le_of_ble_eq_true rfl⟩ (by decide +kernel) qw1339 qp36 rfl rfl (Nat.le_of_ble_eq_true rfl) dX11_richer_28 (fun r m25 hq25 => ?_)
        obtain ⟨z25, rfl, rfl, hq25⟩ := hq25
        show V E (wR D cy aa ad) 4 m25 31 [(0, .ref (aa 0)), (1, .int (iz (s))), (2, .int (iz (w)))] [.int (iz (-1))]
        refine v_pop C dX11_richer_31 rfl ?_
        refine v_bipush (z := -2) C dX11_richer_32 (by decide) ?_
        refine v_iret C X rfl dX11_richer_34 ⟨_, rfl, ?_, ?_⟩
        · rw [← hq25]
          exact RP.mk fk2 (Or.inr (Or.inr ⟨hbad, rfl, rfl⟩)) (by decide)
        · trivial
    · show V E (wR D cy aa ad) 4 m1 18 [(0, .ref (aa 0)), (1, .int (iz (s))), (2, .int (iz (w)))] [.int (iz (0))]
      rw [e20] at hq4
      have hbad : ¬ (hsS (m 0 20) Rr s ∧ hsS (m 0 20) Rr w ∧ s ≠ w) := fun h => hq4 h.2.1
      refine v_if_eq (tgt := 26) C dX11_richer_18 (by decide) (by omega) (fun c26 => ?_) (fun c26 => by exact absurd c26 (by decide))
      refine v_aload_n C 0 dX11_richer_26 rfl ?_
      refine v_iconst (z := 1) C dX11_richer_27 rfl ?_
      refine v_callV (st := []) (n := 1) (q := 0) C [.int (iz (1))] (ct_StageRatiosModel_refused C.2.2.2.2.2.2.1 m1 (1) ) lR0 (eR0 _) rfl qw1340 qw16 qw1337 rfl rfl ⟨Nat.le_of_ble_eq_true rfl, Nat.le_of_ble_eq_true rfl⟩ (by decide +kernel) qw1339 qp36 rfl rfl (Nat.le_of_ble_eq_true rfl) dX11_richer_28 (fun r m27 hq27 => ?_)
      obtain ⟨z27, rfl, rfl, hq27⟩ := hq27
      show V E (wR D cy aa ad) 4 m27 31 [(0, .ref (aa 0)), (1, .int (iz (s))), (2, .int (iz (w)))] [.int (iz (-1))]
      refine v_pop C dX11_richer_31 rfl ?_
      refine v_bipush (z := -2) C dX11_richer_32 (by decide) ?_
      refine v_iret C X rfl dX11_richer_34 ⟨_, rfl, ?_, ?_⟩
      · rw [← hq27]
        exact RP.mk fk2 (Or.inr (Or.inr ⟨hbad, rfl, rfl⟩)) (by decide)
      · trivial
  · show V E (wR D cy aa ad) 4 m1 10 [(0, .ref (aa 0)), (1, .int (iz (s))), (2, .int (iz (w)))] [.int (iz (0))]
    rw [e20] at hq2
    have hbad : ¬ (hsS (m 0 20) Rr s ∧ hsS (m 0 20) Rr w ∧ s ≠ w) := fun h => hq2 h.1
    refine v_if_eq (tgt := 26) C dX11_richer_10 (by decide) (by omega) (fun c28 => ?_) (fun c28 => by exact absurd c28 (by decide))
    refine v_aload_n C 0 dX11_richer_26 rfl ?_
    refine v_iconst (z := 1) C dX11_richer_27 rfl ?_
    refine v_callV (st := []) (n := 1) (q := 0) C [.int (iz (1))] (ct_StageRatiosModel_refused C.2.2.2.2.2.2.1 m1 (1) ) lR0 (eR0 _) rfl qw1340 qw16 qw1337 rfl rfl ⟨Nat.le_of_ble_eq_true rfl, Nat.le_of_ble_eq_true rfl⟩ (by decide +kernel) qw1339 qp36 rfl rfl (Nat.le_of_ble_eq_true rfl) dX11_richer_28 (fun r m29 hq29 => ?_)
    obtain ⟨z29, rfl, rfl, hq29⟩ := hq29
    show V E (wR D cy aa ad) 4 m29 31 [(0, .ref (aa 0)), (1, .int (iz (s))), (2, .int (iz (w)))] [.int (iz (-1))]
    refine v_pop C dX11_richer_31 rfl ?_
    refine v_bipush (z := -2) C dX11_richer_32 (by decide) ?_
    refine v_iret C X rfl dX11_richer_34 ⟨_, rfl, ?_, ?_⟩
    · rw [← hq29]
      exact RP.mk fk2 (Or.inr (Or.inr ⟨hbad, rfl, rfl⟩)) (by decide)
    · trivial

set_option maxHeartbeats 4000000 in
set_option maxRecDepth 100000 in
theorem ct_StageRatiosModel_fronts {lau : Launch} {D : va_G} {cy : Nat → ClassId} {aa ad : Nat → Nat} (hI : wI (wR D cy aa ad)) (m : Mem) (fa Af Bf Cf Rr Xx : Int → Int) (hT : TT m fa Af Bf Cf Rr Xx) : MT lau (wR D cy aa ad) yX11_fronts cX11_fronts 1 (some .int) ({ frames := 7, cells := 0, slots := 0, locals := 153 } : Room) m [.ref (aa 0)] (Pi (fun z m' => (RP (qFrs (m 0 20) fa Rr Xx) m m' z) ∧ True)) := by
  refine v_entry hI RX11 (by decide) rfl (Nat.le_of_ble_eq_true rfl) (fun E hE C X => ?_)
  subst hE
  show V E (wR D cy aa ad) 1 m 0 [(0, .ref (aa 0))] []
  refine v_aload_n C 0 dX11_fronts_0 rfl ?_
  refine v_iconst (z := 0) C dX11_fronts_1 rfl ?_
  refine v_put C 0 0 (0) 0 rfl lR0 (eR0 _) rfl inX11 tyX11 tyX11_ok nmX11 (by decide) qw1140 rfl rfl rfl (Nat.le_of_ble_eq_true rfl) (by rw [mup_r]; exact (eR0 _)) dX11_fronts_2 (fun m1 em1 => ?_)
  have fk2 : FK m m1 := by rw [em1]; exact FK.up 0 0 (by unfold CKj; omega)
  have hT2 := fk2.tt hT
  have e20 : m1 0 20 = m 0 20 := fk2.1 20 (Or.inr (Or.inl rfl))
  have ht01 : m 0 20 = 0 ∨ m 0 20 = 1 := hT.imp (fun a => a) (fun a => a.1)
  refine v_aload_n C 0 dX11_fronts_5 rfl ?_
  refine v_get C 0 20 lR0 (eR0 _) rfl inX11 (by decide) rfl qw1160 dX11_fronts_6 ?_
  refine v_if_ne (tgt := 18) C dX11_fronts_9 (by decide) (by omega) (fun c2 => ?_) (fun c2 => ?_)
  · obtain ⟨hT1, hg0⟩ := hT.resolve_left (by omega)
    have hg := fk2.rt hg0
    obtain ⟨⟨r11, r8, r9, r10, r12⟩, r1, r2, r6, hvd, hfo⟩ := id hg
    obtain ⟨hn, hF, hup, hlw, hX⟩ := id hvd
    refine v_aload_n C 0 dX11_fronts_18 rfl ?_
    refine v_callV (st := []) (n := 0) (q := 0) C [] (ct_StageRatiosModel_laysFront C.2.2.2.2.2.2.1 m1 (fa) (Af) (Bf) (Cf) (Rr) (Xx) (by first | assumption | omega)) lR0 (eR0 _) rfl qw1638 qw16 qw1635 rfl rfl ⟨Nat.le_of_ble_eq_true rfl, Nat.le_of_ble_eq_true rfl⟩ (by decide +kernel) qw1637 qp83 rfl rfl (Nat.le_of_ble_eq_true rfl) dX11_fronts_19 (fun r m3 hq3 => ?_)
    obtain ⟨rfl, hq3⟩ := hq3
    show V E (wR D cy aa ad) 1 m3 22 [(0, .ref (aa 0))] []
    obtain ⟨bm, l, hbm, hl, h51, h343, hlq⟩ := hq3.1
    have fk3 := fk2.tr (show FK _ m3 from ⟨fun j hj => hq3.2.1 j (by unfold CKj at hj; omega) (by unfold CKj at hj; omega) (by unfold CKj at hj; omega) (by unfold CKj at hj; omega), fun q hq => hq3.2.2 q (by omega) (by omega) (by omega) (by omega) (by omega) (by omega) (by omega) (by omega) (by omega) (by omega)⟩)
    have hg3 := fk3.rt hg0
    have hcnE : ∀ c : Int, (inB (loX Xx) (hiX Xx) c ∧ hoA fa (Rr 5) (Xx 0) (unZ c)) ↔ cnA fa (Rr 5) (Xx 0) (loX Xx) (hiX Xx) c := fun c => ⟨fun y => ⟨y.1, in_wo hvd y.1, y.2⟩, fun y => ⟨y.1, y.2.2⟩⟩
    have hbm2 : BmOk (cnA fa (Rr 5) (Xx 0) (loX Xx) (hiX Xx)) (weA fa (Rr 5) (Xx 0)) (fsA fa (Rr 5) (Xx 0)) 4913 512 bm := hbm.cg (fun c _ _ => hcnE c) (fun _ _ _ _ => rfl)
    have hl4 : frL (fsA fa (Rr 5) (Xx 0)) bm 512 = frL (fsA fa (Rr 5) (Xx 0)) bm 400 := frL_to (by decide) (fun x x0 x1 => by
      rcases hbm2 x (by omega) (by omega) with ⟨y, -⟩ | ⟨y, -, y2, -⟩
      · omega
      · have := we_rng hF hn hX.1 y.1 y.2; omega)
    have hfx : frX fa Rr Xx l := ⟨bm, fun x x0 x1 => hbm2 x x0 (by omega), by rw [hl, hl4]⟩
    have hmem : ∀ q ∈ l, (0 ≤ q ∧ q < 4913) ∧ cnA fa (Rr 5) (Xx 0) (loX Xx) (hiX Xx) q := fun q hq => frL_codes (fun x x0 x1 => hbm2 x x0 (by omega)) (Nat.le_refl 400) (by rw [← hl4, ← hl]; exact hq)
    have hll : l.length ≤ 512 := by rw [hl]; exact frL_len _ _ 512
    have hsrt : ∀ (i j : Nat) (a b : Int), i < j → l[i]? = some a → l[j]? = some b → weA fa (Rr 5) (Xx 0) a < weA fa (Rr 5) (Xx 0) b := by rw [hl]; exact frL_sort hbm2 512 (by decide)
    refine v_aload_n C 0 dX11_fronts_22 rfl ?_
    refine v_aload_n C 0 dX11_fronts_23 rfl ?_
    refine v_get C 0 51 lR0 (eR0 _) rfl inX11 (by decide) rfl qw1191 dX11_fronts_24 ?_
    refine v_callV (st := []) (n := 1) (q := 0) C [.int (iz (m3 0 51))] (ct_StageRatiosModel_good C.2.2.2.2.2.2.1 m3 (m3 0 51) ) lR0 (eR0 _) rfl qw1444 qw16 qw1441 rfl rfl ⟨Nat.le_of_ble_eq_true rfl, Nat.le_of_ble_eq_true rfl⟩ (by decide +kernel) qw1443 qp56 rfl rfl (Nat.le_of_ble_eq_true rfl) dX11_fronts_27 (fun r m4 hq4 => ?_)
    obtain ⟨z4, rfl, rfl, hq4⟩ := hq4
    show V E (wR D cy aa ad) 1 m4 30 [(0, .ref (aa 0))] [.int (iz ((m3 0 51)))]
    refine v_iret C X rfl dX11_fronts_30 ⟨_, rfl, ?_, ?_⟩
    · rw [← hq4]
      refine RP.mk fk3 ?_ (by decide)
      exact Or.inl ⟨hT1, rfl, l, hfx, h51⟩
    · trivial
  · refine v_aload_n C 0 dX11_fronts_12 rfl ?_
    refine v_iconst (z := 1) C dX11_fronts_13 rfl ?_
    refine v_callV (st := []) (n := 1) (q := 0) C [.int (iz (1))] (ct_StageRatiosModel_refused C.2.2.2.2.2.2.1 m1 (1) ) lR0 (eR0 _) rfl qw1340 qw16 qw1337 rfl rfl ⟨Nat.le_of_ble_eq_true rfl, Nat.le_of_ble_eq_true rfl⟩ (by decide +kernel) qw1339 qp36 rfl rfl (Nat.le_of_ble_eq_true rfl) dX11_fronts_14 (fun r m5 hq5 => ?_)
    obtain ⟨z5, rfl, rfl, hq5⟩ := hq5
    show V E (wR D cy aa ad) 1 m5 17 [(0, .ref (aa 0))] [.int (iz (-1))]
    refine v_iret C X rfl dX11_fronts_17 ⟨_, rfl, ?_, ?_⟩
    · rw [← hq5]
      refine RP.mk fk2 ?_ (by decide)
      exact Or.inr ⟨by omega, rfl, rfl⟩
    · trivial

set_option maxHeartbeats 4000000 in
set_option maxRecDepth 100000 in
theorem ct_StageRatiosModel_front {lau : Launch} {D : va_G} {cy : Nat → ClassId} {aa ad : Nat → Nat} (hI : wI (wR D cy aa ad)) (m : Mem) (fa Af Bf Cf Rr Xx : Int → Int) (i w : Int) (hT : TT m fa Af Bf Cf Rr Xx) (hi : -2147483648 ≤ i ∧ i ≤ 2147483647) (hw : -2147483648 ≤ w ∧ w ≤ 2147483647) : MT lau (wR D cy aa ad) yX11_front cX11_front 3 (some .int) ({ frames := 7, cells := 0, slots := 0, locals := 153 } : Room) m [.ref (aa 0), .int (iz (i)), .int (iz (w))] (Pi (fun z m' => (RP (qFro (m 0 20) fa Rr Xx i w) m m' z) ∧ True)) := by
  refine v_entry hI RX11 (by decide) rfl (Nat.le_of_ble_eq_true rfl) (fun E hE C X => ?_)
  subst hE
  show V E (wR D cy aa ad) 3 m 0 [(0, .ref (aa 0)), (1, .int (iz (i))), (2, .int (iz (w)))] []
  refine v_aload_n C 0 dX11_front_0 rfl ?_
  refine v_iconst (z := 0) C dX11_front_1 rfl ?_
  refine v_put C 0 0 (0) 0 rfl lR0 (eR0 _) rfl inX11 tyX11 tyX11_ok nmX11 (by decide) qw1140 rfl rfl rfl (Nat.le_of_ble_eq_true rfl) (by rw [mup_r]; exact (eR0 _)) dX11_front_2 (fun m1 em1 => ?_)
  have fk2 : FK m m1 := by rw [em1]; exact FK.up 0 0 (by unfold CKj; omega)
  have hT2 := fk2.tt hT
  have e20 : m1 0 20 = m 0 20 := fk2.1 20 (Or.inr (Or.inl rfl))
  have ht01 : m 0 20 = 0 ∨ m 0 20 = 1 := hT.imp (fun a => a) (fun a => a.1)
  refine v_aload_n C 0 dX11_front_5 rfl ?_
  refine v_get C 0 20 lR0 (eR0 _) rfl inX11 (by decide) rfl qw1160 dX11_front_6 ?_
  refine v_if_eq (tgt := 21) C dX11_front_9 (by decide) (by omega) (fun c2 => ?_) (fun c2 => ?_)
  · refine v_aload_n C 0 dX11_front_21 rfl ?_
    refine v_iconst (z := 1) C dX11_front_22 rfl ?_
    refine v_callV (st := []) (n := 1) (q := 0) C [.int (iz (1))] (ct_StageRatiosModel_refused C.2.2.2.2.2.2.1 m1 (1) ) lR0 (eR0 _) rfl qw1340 qw16 qw1337 rfl rfl ⟨Nat.le_of_ble_eq_true rfl, Nat.le_of_ble_eq_true rfl⟩ (by decide +kernel) qw1339 qp36 rfl rfl (Nat.le_of_ble_eq_true rfl) dX11_front_23 (fun r m3 hq3 => ?_)
    obtain ⟨z3, rfl, rfl, hq3⟩ := hq3
    show V E (wR D cy aa ad) 3 m3 26 [(0, .ref (aa 0)), (1, .int (iz (i))), (2, .int (iz (w)))] [.int (iz (-1))]
    refine v_iret C X rfl dX11_front_26 ⟨_, rfl, ?_, ?_⟩
    · rw [← hq3]
      refine RP.mk fk2 ?_ (by decide)
      exact Or.inr ⟨fun l h => by omega, rfl, rfl⟩
    · trivial
  · obtain ⟨hT1, hg0⟩ := hT.resolve_left (by omega)
    have hg := fk2.rt hg0
    obtain ⟨⟨r11, r8, r9, r10, r12⟩, r1, r2, r6, hvd, hfo⟩ := id hg
    obtain ⟨hn, hF, hup, hlw, hX⟩ := id hvd
    refine v_iload_n C 2 dX11_front_12 rfl ?_
    refine v_iconst (z := 0) C dX11_front_13 rfl ?_
    refine v_iconst (z := 4) C dX11_front_14 rfl ?_
    refine v_callS (st := []) (n := 3) C [.int (iz (w)), .int (iz (0)), .int (iz (4))] (ct_StageRatiosModel_in C.2.2.2.2.2.2.1 m1 (w) (0) (4) (by first | assumption | omega) (by first | assumption | omega) (by first | assumption | omega)) qw1355 qw16 qw1353 rfl rfl ⟨Nat.le_of_ble_eq_true rfl, Nat.le_of_ble_eq_true rfl⟩ (by decide +kernel) qw1354 rfl rfl (Nat.le_of_ble_eq_true rfl) dX11_front_15 (fun r m4 hq4 => ?_)
    obtain ⟨z4, rfl, ⟨rfl, hq4, rfl⟩ | ⟨rfl, hq4, rfl⟩⟩ := hq4
    · show V E (wR D cy aa ad) 3 m1 18 [(0, .ref (aa 0)), (1, .int (iz (i))), (2, .int (iz (w)))] [.int (iz (1))]
      refine v_if_ne (tgt := 27) C dX11_front_18 (by decide) (by omega) (fun c5 => ?_) (fun c5 => by exact absurd c5 (by decide))
      refine v_aload_n C 0 dX11_front_27 rfl ?_
      refine v_callV (st := []) (n := 0) (q := 0) C [] (ct_StageRatiosModel_laysFront C.2.2.2.2.2.2.1 m1 (fa) (Af) (Bf) (Cf) (Rr) (Xx) (by first | assumption | omega)) lR0 (eR0 _) rfl qw1638 qw16 qw1635 rfl rfl ⟨Nat.le_of_ble_eq_true rfl, Nat.le_of_ble_eq_true rfl⟩ (by decide +kernel) qw1637 qp83 rfl rfl (Nat.le_of_ble_eq_true rfl) dX11_front_28 (fun r m6 hq6 => ?_)
      obtain ⟨rfl, hq6⟩ := hq6
      show V E (wR D cy aa ad) 3 m6 31 [(0, .ref (aa 0)), (1, .int (iz (i))), (2, .int (iz (w)))] []
      obtain ⟨bm, l, hbm, hl, h51, h343, hlq⟩ := hq6.1
      have fk3 := fk2.tr (show FK _ m6 from ⟨fun j hj => hq6.2.1 j (by unfold CKj at hj; omega) (by unfold CKj at hj; omega) (by unfold CKj at hj; omega) (by unfold CKj at hj; omega), fun q hq => hq6.2.2 q (by omega) (by omega) (by omega) (by omega) (by omega) (by omega) (by omega) (by omega) (by omega) (by omega)⟩)
      have hg3 := fk3.rt hg0
      have hcnE : ∀ c : Int, (inB (loX Xx) (hiX Xx) c ∧ hoA fa (Rr 5) (Xx 0) (unZ c)) ↔ cnA fa (Rr 5) (Xx 0) (loX Xx) (hiX Xx) c := fun c => ⟨fun y => ⟨y.1, in_wo hvd y.1, y.2⟩, fun y => ⟨y.1, y.2.2⟩⟩
      have hbm2 : BmOk (cnA fa (Rr 5) (Xx 0) (loX Xx) (hiX Xx)) (weA fa (Rr 5) (Xx 0)) (fsA fa (Rr 5) (Xx 0)) 4913 512 bm := hbm.cg (fun c _ _ => hcnE c) (fun _ _ _ _ => rfl)
      have hl4 : frL (fsA fa (Rr 5) (Xx 0)) bm 512 = frL (fsA fa (Rr 5) (Xx 0)) bm 400 := frL_to (by decide) (fun x x0 x1 => by
        rcases hbm2 x (by omega) (by omega) with ⟨y, -⟩ | ⟨y, -, y2, -⟩
        · omega
        · have := we_rng hF hn hX.1 y.1 y.2; omega)
      have hfx : frX fa Rr Xx l := ⟨bm, fun x x0 x1 => hbm2 x x0 (by omega), by rw [hl, hl4]⟩
      have hmem : ∀ q ∈ l, (0 ≤ q ∧ q < 4913) ∧ cnA fa (Rr 5) (Xx 0) (loX Xx) (hiX Xx) q := fun q hq => frL_codes (fun x x0 x1 => hbm2 x x0 (by omega)) (Nat.le_refl 400) (by rw [← hl4, ← hl]; exact hq)
      have hll : l.length ≤ 512 := by rw [hl]; exact frL_len _ _ 512
      have hsrt : ∀ (i j : Nat) (a b : Int), i < j → l[i]? = some a → l[j]? = some b → weA fa (Rr 5) (Xx 0) a < weA fa (Rr 5) (Xx 0) b := by rw [hl]; exact frL_sort hbm2 512 (by decide)
      refine v_iload_n C 1 dX11_front_31 rfl ?_
      refine v_iconst (z := 0) C dX11_front_32 rfl ?_
      refine v_aload_n C 0 dX11_front_33 rfl ?_
      refine v_get C 0 51 lR0 (eR0 _) rfl inX11 (by decide) rfl qw1191 dX11_front_34 ?_
      refine v_iconst (z := 1) C dX11_front_37 rfl ?_
      refine v_isub C dX11_front_38 ?_
      refine v_callS (st := []) (n := 3) C [.int (iz (i)), .int (iz (0)), .int (iz ((m6 0 51) - 1))] (ct_StageRatiosModel_in C.2.2.2.2.2.2.1 m6 (i) (0) ((m6 0 51) - 1) (by first | assumption | omega) (by first | assumption | omega) (by first | assumption | omega)) qw1355 qw16 qw1353 rfl rfl ⟨Nat.le_of_ble_eq_true rfl, Nat.le_of_ble_eq_true rfl⟩ (by decide +kernel) qw1354 rfl rfl (Nat.le_of_ble_eq_true rfl) dX11_front_39 (fun r m7 hq7 => ?_)
      obtain ⟨z7, rfl, ⟨rfl, hq7, rfl⟩ | ⟨rfl, hq7, rfl⟩⟩ := hq7
      · show V E (wR D cy aa ad) 3 m6 42 [(0, .ref (aa 0)), (1, .int (iz (i))), (2, .int (iz (w)))] [.int (iz (1))]
        refine v_if_ne (tgt := 51) C dX11_front_42 (by decide) (by omega) (fun c8 => ?_) (fun c8 => by exact absurd c8 (by decide))
        obtain ⟨q0, hq0⟩ : ∃ q, l[i.toNat]? = some q := ⟨_, List.getElem?_eq_getElem (by omega)⟩
        have hq1 := hlq _ q0 hq0
        rw [show ((i.toNat : Nat) : Int) = i by omega] at hq1
        have hm0 := hmem q0 (List.mem_of_getElem? hq0)
        have hw0 := we_rng hF hn hX.1 hm0.1.1 hm0.1.2
        refine v_iload_n C 2 dX11_front_51 rfl ?_
        refine v_if_ne (tgt := 66) C dX11_front_52 (by decide) (by omega) (fun c9 => ?_) (fun c9 => ?_)
        · refine v_aload_n C 0 dX11_front_66 rfl ?_
          refine v_aload_n C 0 dX11_front_67 rfl ?_
          refine v_get C 0 47 lR0 (eR0 _) rfl inX11 (by decide) rfl qw1187 dX11_front_68 ?_
          refine v_iconst (z := 3) C dX11_front_71 rfl ?_
          refine v_aload_n C 0 dX11_front_72 rfl ?_
          refine v_get C 0 48 lR0 (eR0 _) rfl inX11 (by decide) rfl qw1188 dX11_front_73 ?_
          refine v_iload_n C 1 dX11_front_76 rfl ?_
          refine v_iald C 17 lR17 (eR17 _) (by decide) (by omega) dX11_front_77 ?_
          refine v_imul C dX11_front_78 ?_
          refine v_callV (st := []) (n := 2) (q := 0) C [.ref (aa 16), .int (iz (3 * (m6 17 i)))] (ct_StageRatiosModel_takes C.2.2.2.2.2.2.1 m6 (16) (1536) (3 * (m6 17 i)) ⟨lR16, by decide, eR16⟩ (by decide) (by rw [hq1.1]; omega)) lR0 (eR0 _) rfl qw1650 qw16 qw1647 rfl rfl ⟨Nat.le_of_ble_eq_true rfl, Nat.le_of_ble_eq_true rfl⟩ (by decide +kernel) qw1649 qp86 rfl rfl (Nat.le_of_ble_eq_true rfl) dX11_front_79 (fun r m10 hq10 => ?_)
          obtain ⟨rfl, hq10⟩ := hq10
          show V E (wR D cy aa ad) 3 m10 82 [(0, .ref (aa 0)), (1, .int (iz (i))), (2, .int (iz (w)))] []
          have fk4 := fk3.tr (show FK _ m10 from ⟨fun j _ => by rw [hq10.2 0 (by decide)], fun q hq => hq10.2 q (by omega)⟩)
          have hg4 := fk4.rt hg0
          have l11 : m10 0 11 = Rr 5 := hg4.1.1
          have h9q : ∀ j : Int, 0 ≤ j → j < 3 → m10 9 j = unZ q0 j := fun j j0 j1 => by rw [hq10.1 j j0 j1, hq1.1]; exact hq1.2 j j0 j1
          refine v_iload_n C 2 dX11_front_82 rfl ?_
          refine v_iconst (z := 1) C dX11_front_83 rfl ?_
          refine v_icmp_le (tgt := 115) C dX11_front_84 (by decide) (by omega) (by omega) (fun c11 => ?_) (fun c11 => ?_)
          · have hw1 : w = 1 := by omega
            have hd4 : DT m10 (Rr 5) (Xx 0) (unZ q0) := ⟨by rw [hq10.2 0 (by decide)]; exact h343, h9q, un_dv hn hX.1 hm0.1.1 hm0.1.2⟩
            have al := hd4.2.2.al hF
            refine v_aload_n C 0 dX11_front_115 rfl ?_
            refine v_callV (st := []) (n := 0) (q := 0) C [] (ct_StageRatiosModel_laysSpeed C.2.2.2.2.2.2.1 m10 (fa) (Af) (Bf) (Cf) (Rr) (Xx) (Xx 0) (unZ q0) (by exact hg4) (by exact hd4)) lR0 (eR0 _) rfl qw1516 qw16 qw1513 rfl rfl ⟨Nat.le_of_ble_eq_true rfl, Nat.le_of_ble_eq_true rfl⟩ (by decide +kernel) qw1515 qp65 rfl rfl (Nat.le_of_ble_eq_true rfl) dX11_front_116 (fun r m12 hq12 => ?_)
            obtain ⟨rfl, hq12⟩ := hq12
            show V E (wR D cy aa ad) 3 m12 119 [(0, .ref (aa 0)), (1, .int (iz (i))), (2, .int (iz (w)))] []
            refine v_aload_n C 0 dX11_front_119 rfl ?_
            refine v_aload_n C 0 dX11_front_120 rfl ?_
            refine v_callV (st := [.ref (aa 0)]) (n := 0) (q := 0) C [] (ct_StageRatiosModel_greatestBy C.2.2.2.2.2.2.1 m12 (fa) (Af) (Bf) (Cf) (Rr) (Xx) (numL (spT fa (Rr 5) (Xx 0) (unZ q0))) (denL (spT fa (Rr 5) (Xx 0) (unZ q0))) (by exact hq12.2.rt hg4) (by exact hq12.1) (by exact ⟨by omega, le_2200 al.2.2.1⟩) (by exact ⟨al.2.2.2.1, le_2200 (Int.le_trans al.2.2.2.2 al.2.2.1)⟩)) lR0 (eR0 _) rfl qw1549 qw16 qw1546 rfl rfl ⟨Nat.le_of_ble_eq_true rfl, Nat.le_of_ble_eq_true rfl⟩ (by decide +kernel) qw1548 qp72 rfl rfl (Nat.le_of_ble_eq_true rfl) dX11_front_121 (fun r m13 hq13 => ?_)
            obtain ⟨z13, rfl, hq13, hm13⟩ := hq13
            show V E (wR D cy aa ad) 3 m13 124 [(0, .ref (aa 0)), (1, .int (iz (i))), (2, .int (iz (w)))] [.int (iz (z13)), .ref (aa 0)]
            refine v_callV (st := []) (n := 1) (q := 0) C [.int (iz (z13))] (ct_StageRatiosModel_good C.2.2.2.2.2.2.1 m13 (z13) ) lR0 (eR0 _) rfl qw1444 qw16 qw1441 rfl rfl ⟨Nat.le_of_ble_eq_true rfl, Nat.le_of_ble_eq_true rfl⟩ (by decide +kernel) qw1443 qp56 rfl rfl (Nat.le_of_ble_eq_true rfl) dX11_front_124 (fun r m14 hq14 => ?_)
            obtain ⟨z14, rfl, rfl, hq14⟩ := hq14
            show V E (wR D cy aa ad) 3 m14 127 [(0, .ref (aa 0)), (1, .int (iz (i))), (2, .int (iz (w)))] [.int (iz (z13))]
            refine v_iret C X rfl dX11_front_127 ⟨_, rfl, ?_, ?_⟩
            · rw [← hq14]
              refine RP.mk ((fk4.tr (FK.fb hq12.2)).tr (FK.fb hm13)) ?_ (by decide)
              exact Or.inl ⟨l, ⟨hT1, ⟨by omega, by omega⟩, by omega, by omega⟩, hfx, rfl, q0, hq0, fun h => by first | omega | omega, fun h => by first | omega | exact hq13, fun h => by first | omega | omega⟩
            · trivial
          · refine v_aload_n C 0 dX11_front_87 rfl ?_
            refine v_iload_n C 2 dX11_front_88 rfl ?_
            refine v_iconst (z := 2) C dX11_front_89 rfl ?_
            refine v_isub C dX11_front_90 ?_
            refine v_aload_n C 0 dX11_front_91 rfl ?_
            refine v_get C 0 11 lR0 (eR0 _) rfl inX11 (by decide) rfl qw1151 dX11_front_92 ?_
            refine v_icmp_ge (tgt := 109) C dX11_front_95 (by decide) (by omega) (by omega) (fun c15 => ?_) (fun c15 => ?_)
            · refine v_bipush (z := -2) C dX11_front_109 (by decide) ?_
              refine v_callV (st := []) (n := 1) (q := 0) C [.int (iz (-2))] (ct_StageRatiosModel_good C.2.2.2.2.2.2.1 m10 (-2) ) lR0 (eR0 _) rfl qw1444 qw16 qw1441 rfl rfl ⟨Nat.le_of_ble_eq_true rfl, Nat.le_of_ble_eq_true rfl⟩ (by decide +kernel) qw1443 qp56 rfl rfl (Nat.le_of_ble_eq_true rfl) dX11_front_111 (fun r m16 hq16 => ?_)
              obtain ⟨z16, rfl, rfl, hq16⟩ := hq16
              show V E (wR D cy aa ad) 3 m16 114 [(0, .ref (aa 0)), (1, .int (iz (i))), (2, .int (iz (w)))] [.int (iz ((-2)))]
              refine v_iret C X rfl dX11_front_114 ⟨_, rfl, ?_, ?_⟩
              · rw [← hq16]
                refine RP.mk fk4 ?_ (by decide)
                exact Or.inl ⟨l, ⟨hT1, ⟨by omega, by omega⟩, by omega, by omega⟩, hfx, rfl, q0, hq0, fun h => by first | omega | omega, fun h => by first | omega | omega, fun h => by first | omega | (first | (rw [if_pos (by omega), e9q]) | (rw [if_neg (by omega)]))⟩
              · trivial
            · have e9q : m10 9 (w - 2) = unZ q0 (w - 2) := h9q _ (by omega) (by omega)
              refine v_aload_n C 0 dX11_front_98 rfl ?_
              refine v_get C 0 33 lR0 (eR0 _) rfl inX11 (by decide) rfl qw1173 dX11_front_99 ?_
              refine v_iload_n C 2 dX11_front_102 rfl ?_
              refine v_iconst (z := 2) C dX11_front_103 rfl ?_
              refine v_isub C dX11_front_104 ?_
              refine v_iald C 9 lR9 (eR9 _) (by decide) (by omega) dX11_front_105 ?_
              refine v_goto (tgt := 111) C dX11_front_106 (by decide) ?_
              refine v_callV (st := []) (n := 1) (q := 0) C [.int (iz (m10 9 (w - 2)))] (ct_StageRatiosModel_good C.2.2.2.2.2.2.1 m10 (m10 9 (w - 2)) ) lR0 (eR0 _) rfl qw1444 qw16 qw1441 rfl rfl ⟨Nat.le_of_ble_eq_true rfl, Nat.le_of_ble_eq_true rfl⟩ (by decide +kernel) qw1443 qp56 rfl rfl (Nat.le_of_ble_eq_true rfl) dX11_front_111 (fun r m17 hq17 => ?_)
              obtain ⟨z17, rfl, rfl, hq17⟩ := hq17
              show V E (wR D cy aa ad) 3 m17 114 [(0, .ref (aa 0)), (1, .int (iz (i))), (2, .int (iz (w)))] [.int (iz ((m10 9 (w - 2))))]
              refine v_iret C X rfl dX11_front_114 ⟨_, rfl, ?_, ?_⟩
              · rw [← hq17]
                refine RP.mk fk4 ?_ (by decide)
                exact Or.inl ⟨l, ⟨hT1, ⟨by omega, by omega⟩, by omega, by omega⟩, hfx, rfl, q0, hq0, fun h => by first | omega | omega, fun h => by first | omega | omega, fun h => by first | omega | (first | (rw [if_pos (by omega), e9q]) | (rw [if_neg (by omega)]))⟩
              · trivial
        · refine v_aload_n C 0 dX11_front_55 rfl ?_
          refine v_aload_n C 0 dX11_front_56 rfl ?_
          refine v_get C 0 48 lR0 (eR0 _) rfl inX11 (by decide) rfl qw1188 dX11_front_57 ?_
          refine v_iload_n C 1 dX11_front_60 rfl ?_
          refine v_iald C 17 lR17 (eR17 _) (by decide) (by omega) dX11_front_61 ?_
          refine v_callV (st := []) (n := 1) (q := 0) C [.int (iz (m6 17 i))] (ct_StageRatiosModel_good C.2.2.2.2.2.2.1 m6 (m6 17 i) ) lR0 (eR0 _) rfl qw1444 qw16 qw1441 rfl rfl ⟨Nat.le_of_ble_eq_true rfl, Nat.le_of_ble_eq_true rfl⟩ (by decide +kernel) qw1443 qp56 rfl rfl (Nat.le_of_ble_eq_true rfl) dX11_front_62 (fun r m18 hq18 => ?_)
          obtain ⟨z18, rfl, rfl, hq18⟩ := hq18
          show V E (wR D cy aa ad) 3 m18 65 [(0, .ref (aa 0)), (1, .int (iz (i))), (2, .int (iz (w)))] [.int (iz ((m6 17 i)))]
          refine v_iret C X rfl dX11_front_65 ⟨_, rfl, ?_, ?_⟩
          · rw [← hq18]
            refine RP.mk fk3 ?_ (by decide)
            exact Or.inl ⟨l, ⟨hT1, ⟨by omega, by omega⟩, by omega, by omega⟩, hfx, rfl, q0, hq0, fun h => by first | omega | exact hq1.1, fun h => by first | omega | omega, fun h => by first | omega | omega⟩
          · trivial
      · show V E (wR D cy aa ad) 3 m6 42 [(0, .ref (aa 0)), (1, .int (iz (i))), (2, .int (iz (w)))] [.int (iz (0))]
        refine v_if_ne (tgt := 51) C dX11_front_42 (by decide) (by omega) (fun c19 => by exact absurd c19 (by decide)) (fun c19 => ?_)
        refine v_aload_n C 0 dX11_front_45 rfl ?_
        refine v_iconst (z := 1) C dX11_front_46 rfl ?_
        refine v_callV (st := []) (n := 1) (q := 0) C [.int (iz (1))] (ct_StageRatiosModel_refused C.2.2.2.2.2.2.1 m6 (1) ) lR0 (eR0 _) rfl qw1340 qw16 qw1337 rfl rfl ⟨Nat.le_of_ble_eq_true rfl, Nat.le_of_ble_eq_true rfl⟩ (by decide +kernel) qw1339 qp36 rfl rfl (Nat.le_of_ble_eq_true rfl) dX11_front_47 (fun r m20 hq20 => ?_)
        obtain ⟨z20, rfl, rfl, hq20⟩ := hq20
        show V E (wR D cy aa ad) 3 m20 50 [(0, .ref (aa 0)), (1, .int (iz (i))), (2, .int (iz (w)))] [.int (iz (-1))]
        refine v_iret C X rfl dX11_front_50 ⟨_, rfl, ?_, ?_⟩
        · rw [← hq20]
          refine RP.mk fk3 ?_ (by decide)
          exact Or.inr ⟨fun l2 h h2 => by rw [FrIs.eq h2 hfx] at h; omega, rfl, rfl⟩
        · trivial
    · show V E (wR D cy aa ad) 3 m1 18 [(0, .ref (aa 0)), (1, .int (iz (i))), (2, .int (iz (w)))] [.int (iz (0))]
      refine v_if_ne (tgt := 27) C dX11_front_18 (by decide) (by omega) (fun c21 => by exact absurd c21 (by decide)) (fun c21 => ?_)
      refine v_aload_n C 0 dX11_front_21 rfl ?_
      refine v_iconst (z := 1) C dX11_front_22 rfl ?_
      refine v_callV (st := []) (n := 1) (q := 0) C [.int (iz (1))] (ct_StageRatiosModel_refused C.2.2.2.2.2.2.1 m1 (1) ) lR0 (eR0 _) rfl qw1340 qw16 qw1337 rfl rfl ⟨Nat.le_of_ble_eq_true rfl, Nat.le_of_ble_eq_true rfl⟩ (by decide +kernel) qw1339 qp36 rfl rfl (Nat.le_of_ble_eq_true rfl) dX11_front_23 (fun r m22 hq22 => ?_)
      obtain ⟨z22, rfl, rfl, hq22⟩ := hq22
      show V E (wR D cy aa ad) 3 m22 26 [(0, .ref (aa 0)), (1, .int (iz (i))), (2, .int (iz (w)))] [.int (iz (-1))]
      refine v_iret C X rfl dX11_front_26 ⟨_, rfl, ?_, ?_⟩
      · rw [← hq22]
        refine RP.mk fk2 ?_ (by decide)
        exact Or.inr ⟨fun l h => by omega, rfl, rfl⟩
      · trivial

set_option maxHeartbeats 4000000 in
set_option maxRecDepth 100000 in
theorem ct_StageRatiosModel_beaten {lau : Launch} {D : va_G} {cy : Nat → ClassId} {aa ad : Nat → Nat} (hI : wI (wR D cy aa ad)) (m : Mem) (fa Af Bf Cf Rr Xx : Int → Int) (hT : TT m fa Af Bf Cf Rr Xx) : MT lau (wR D cy aa ad) yX11_beaten cX11_beaten 5 (some .int) ({ frames := 7, cells := 0, slots := 0, locals := 153 } : Room) m [.ref (aa 0)] (Pi (fun z m' => (RP (qBea (m 0 20) fa Rr Xx) m m' z) ∧ True)) := by
  refine v_entry hI RX11 (by decide) rfl (Nat.le_of_ble_eq_true rfl) (fun E hE C X => ?_)
  subst hE
  show V E (wR D cy aa ad) 5 m 0 [(0, .ref (aa 0))] []
  refine v_aload_n C 0 dX11_beaten_0 rfl ?_
  refine v_iconst (z := 0) C dX11_beaten_1 rfl ?_
  refine v_put C 0 0 (0) 0 rfl lR0 (eR0 _) rfl inX11 tyX11 tyX11_ok nmX11 (by decide) qw1140 rfl rfl rfl (Nat.le_of_ble_eq_true rfl) (by rw [mup_r]; exact (eR0 _)) dX11_beaten_2 (fun m1 em1 => ?_)
  have fk2 : FK m m1 := by rw [em1]; exact FK.up 0 0 (by unfold CKj; omega)
  have hT2 := fk2.tt hT
  have e20 : m1 0 20 = m 0 20 := fk2.1 20 (Or.inr (Or.inl rfl))
  have ht01 : m 0 20 = 0 ∨ m 0 20 = 1 := hT.imp (fun a => a) (fun a => a.1)
  refine v_aload_n C 0 dX11_beaten_5 rfl ?_
  refine v_get C 0 20 lR0 (eR0 _) rfl inX11 (by decide) rfl qw1160 dX11_beaten_6 ?_
  refine v_if_ne (tgt := 18) C dX11_beaten_9 (by decide) (by omega) (fun c2 => ?_) (fun c2 => ?_)
  · obtain ⟨hT1, hg0⟩ := hT.resolve_left (by omega)
    have hg := fk2.rt hg0
    obtain ⟨⟨r11, r8, r9, r10, r12⟩, r1, r2, r6, hvd, hfo⟩ := id hg
    obtain ⟨hn, hF, hup, hlw, hX⟩ := id hvd
    refine v_aload_n C 0 dX11_beaten_18 rfl ?_
    refine v_callV (st := []) (n := 0) (q := 0) C [] (ct_StageRatiosModel_laysFront C.2.2.2.2.2.2.1 m1 (fa) (Af) (Bf) (Cf) (Rr) (Xx) (by first | assumption | omega)) lR0 (eR0 _) rfl qw1638 qw16 qw1635 rfl rfl ⟨Nat.le_of_ble_eq_true rfl, Nat.le_of_ble_eq_true rfl⟩ (by decide +kernel) qw1637 qp83 rfl rfl (Nat.le_of_ble_eq_true rfl) dX11_beaten_19 (fun r m3 hq3 => ?_)
    obtain ⟨rfl, hq3⟩ := hq3
    show V E (wR D cy aa ad) 5 m3 22 [(0, .ref (aa 0))] []
    obtain ⟨bm, l, hbm, hl, h51, h343, hlq⟩ := hq3.1
    have fk3 := fk2.tr (show FK _ m3 from ⟨fun j hj => hq3.2.1 j (by unfold CKj at hj; omega) (by unfold CKj at hj; omega) (by unfold CKj at hj; omega) (by unfold CKj at hj; omega), fun q hq => hq3.2.2 q (by omega) (by omega) (by omega) (by omega) (by omega) (by omega) (by omega) (by omega) (by omega) (by omega)⟩)
    have hg3 := fk3.rt hg0
    have hcnE : ∀ c : Int, (inB (loX Xx) (hiX Xx) c ∧ hoA fa (Rr 5) (Xx 0) (unZ c)) ↔ cnA fa (Rr 5) (Xx 0) (loX Xx) (hiX Xx) c := fun c => ⟨fun y => ⟨y.1, in_wo hvd y.1, y.2⟩, fun y => ⟨y.1, y.2.2⟩⟩
    have hbm2 : BmOk (cnA fa (Rr 5) (Xx 0) (loX Xx) (hiX Xx)) (weA fa (Rr 5) (Xx 0)) (fsA fa (Rr 5) (Xx 0)) 4913 512 bm := hbm.cg (fun c _ _ => hcnE c) (fun _ _ _ _ => rfl)
    have hl4 : frL (fsA fa (Rr 5) (Xx 0)) bm 512 = frL (fsA fa (Rr 5) (Xx 0)) bm 400 := frL_to (by decide) (fun x x0 x1 => by
      rcases hbm2 x (by omega) (by omega) with ⟨y, -⟩ | ⟨y, -, y2, -⟩
      · omega
      · have := we_rng hF hn hX.1 y.1 y.2; omega)
    have hfx : frX fa Rr Xx l := ⟨bm, fun x x0 x1 => hbm2 x x0 (by omega), by rw [hl, hl4]⟩
    have hmem : ∀ q ∈ l, (0 ≤ q ∧ q < 4913) ∧ cnA fa (Rr 5) (Xx 0) (loX Xx) (hiX Xx) q := fun q hq => frL_codes (fun x x0 x1 => hbm2 x x0 (by omega)) (Nat.le_refl 400) (by rw [← hl4, ← hl]; exact hq)
    have hll : l.length ≤ 512 := by rw [hl]; exact frL_len _ _ 512
    have hsrt : ∀ (i j : Nat) (a b : Int), i < j → l[i]? = some a → l[j]? = some b → weA fa (Rr 5) (Xx 0) a < weA fa (Rr 5) (Xx 0) b := by rw [hl]; exact frL_sort hbm2 512 (by decide)
    refine v_aload_n C 0 dX11_beaten_22 rfl ?_
    refine v_callV (st := []) (n := 0) (q := 0) C [] (ct_StageRatiosModel_laysOwn C.2.2.2.2.2.2.1 m3 (fa) (Af) (Bf) (Cf) (Rr) (Xx) (by exact hg3)) lR0 (eR0 _) rfl qw1476 qw16 qw1473 rfl rfl ⟨Nat.le_of_ble_eq_true rfl, Nat.le_of_ble_eq_true rfl⟩ (by decide +kernel) qw1475 qp59 rfl rfl (Nat.le_of_ble_eq_true rfl) dX11_beaten_23 (fun r m4 hq4 => ?_)
    obtain ⟨rfl, hq4⟩ := hq4
    show V E (wR D cy aa ad) 5 m4 26 [(0, .ref (aa 0))] []
    have fk4 := fk3.tr (show FK _ m4 from ⟨fun j hj => hq4.2.1 j (by unfold CKj at hj; omega), fun q hq => hq4.2.2 q (by omega) (by omega)⟩)
    have hg4 := fk4.rt hg0
    have hd4 := hq4.1
    have hDv := hd4.2.2
    have hUr := hX.u hF
    refine v_aload_n C 0 dX11_beaten_26 rfl ?_
    refine v_aload_n C 0 dX11_beaten_27 rfl ?_
    refine v_get C 0 49 lR0 (eR0 _) rfl inX11 (by decide) rfl qw1189 dX11_beaten_28 ?_
    refine v_iconst (z := 0) C dX11_beaten_31 rfl ?_
    refine v_callV (st := []) (n := 2) (q := 0) C [.ref (aa 18), .int (iz (0))] (ct_StageRatiosModel_puts C.2.2.2.2.2.2.1 m4 (18) (3) (0) ⟨lR18, by decide, eR18⟩ (by decide) (by decide)) lR0 (eR0 _) rfl qw1642 qw16 qw1639 rfl rfl ⟨Nat.le_of_ble_eq_true rfl, Nat.le_of_ble_eq_true rfl⟩ (by decide +kernel) qw1641 qp84 rfl rfl (Nat.le_of_ble_eq_true rfl) dX11_beaten_32 (fun r m5 hq5 => ?_)
    obtain ⟨rfl, hq5⟩ := hq5
    show V E (wR D cy aa ad) 5 m5 35 [(0, .ref (aa 0))] []
    have fk5 := fk4.tr (show FK _ m5 from ⟨fun j _ => by rw [hq5.2 0 (by decide)], fun q hq => hq5.2 q (by omega)⟩)
    have hg5 := fk5.rt hg0
    have hd5 := hd4.fr (m1 := m5) (by rw [hq5.2 0 (by decide)]) (hq5.2 9 (by decide))
    have hr18 : ∀ j : Int, 0 ≤ j → j < 3 → m5 18 (0 + j) = uX Xx j := fun j j0 j1 => by rw [hq5.1, if_pos (by omega), show 0 + j - 0 = j by omega]; exact hd4.2.1 j j0 j1
    have e51 : m5 0 51 = l.length := by rw [hq5.2 0 (by decide), hq4.2.1 51 (by decide)]; exact h51
    have e17 : m5 17 = m3 17 := by rw [hq5.2 17 (by decide), hq4.2.2 17 (by decide) (by decide)]
    have e16 : m5 16 = m3 16 := by rw [hq5.2 16 (by decide), hq4.2.2 16 (by decide) (by decide)]
    have hsr := stZ_rng (s := 0) hF hn.2 hDv.2.1 hDv.2.2 (by omega) (by omega)
    refine v_aload_n C 0 dX11_beaten_35 rfl ?_
    refine v_iconst (z := 0) C dX11_beaten_36 rfl ?_
    refine v_callV (st := []) (n := 1) (q := 0) C [.int (iz (0))] (ct_StageRatiosModel_start C.2.2.2.2.2.2.1 m5 (fa) (Af) (Bf) (Cf) (Rr) (Xx) (Xx 0) (uX Xx) (0) (by exact hg5) (by exact hd5) (by first | assumption | omega)) lR0 (eR0 _) rfl qw1480 qw16 qw1477 rfl rfl ⟨Nat.le_of_ble_eq_true rfl, Nat.le_of_ble_eq_true rfl⟩ (by decide +kernel) qw1479 qp60 rfl rfl (Nat.le_of_ble_eq_true rfl) dX11_beaten_37 (fun r m6 hq6 => ?_)
    obtain ⟨z6, rfl, rfl, rfl⟩ := hq6
    show V E (wR D cy aa ad) 5 m5 40 [(0, .ref (aa 0))] [.int (iz (stZ fa (Rr 5) (Xx 0) (uX Xx) 0))]
    refine v_istore_n (L1 := [(1, .int (iz (stZ fa (Rr 5) (Xx 0) (uX Xx) 0))), (0, .ref (aa 0))]) C dX11_beaten_40 (by decide) rfl ?_
    refine v_iconst (z := 0) C dX11_beaten_41 rfl ?_
    refine v_istore_n (L1 := [(2, .int (iz (0))), (1, .int (iz (stZ fa (Rr 5) (Xx 0) (uX Xx) 0))), (0, .ref (aa 0))]) C dX11_beaten_42 (by decide) rfl ?_
    refine v_iconst (z := 0) C dX11_beaten_43 rfl ?_
    refine v_istore_n (L1 := [(3, .int (iz (0))), (2, .int (iz (0))), (1, .int (iz (stZ fa (Rr 5) (Xx 0) (uX Xx) 0))), (0, .ref (aa 0))]) C dX11_beaten_44 (by decide) rfl ?_
    have K45 : ∀ (nK : Nat) (b : Int) (i : Int) (mL : Mem) (hi : 0 ≤ i ∧ i ≤ l.length) (hb01 : b = 0 ∨ b = 1) (hbt : (b = 1 ∧ ∃ c, c ∈ l ∧ btX fa Rr Xx c) ∨ (b = 0 ∧ ∀ (j : Nat) (c : Int), (j : Int) < i → l[j]? = some c → ¬ btX fa Rr Xx c)) (f0 : ∀ j : Int, j ≠ 37 → j ≠ 38 → mL 0 j = m5 0 j) (fq : ∀ q : Nat, q ≠ 0 → q ≠ 9 → q ≠ 10 → q ≠ 11 → mL q = m5 q), (l.length - i).toNat < nK → V E (wR D cy aa ad) 5 mL 45 [(0, .ref (aa 0)), (1, .int (iz (stZ fa (Rr 5) (Xx 0) (uX Xx) 0))), (2, .int (iz (b))), (3, .int (iz (i)))] [] := by
      intro nK
      induction nK with
      | zero => intro b i mL hi hb01 hbt f0 fq hn; exact absurd hn (Nat.not_lt_zero _)
      | succ nK ih45 =>
        intro b i mL hi hb01 hbt f0 fq hn45
        have fkL := fk5.tr (show FK _ mL from ⟨fun j hj => f0 j (by unfold CKj at hj; omega) (by unfold CKj at hj; omega), fun q hq => fq q (by omega) (by omega) (by omega) (by omega)⟩)
        have hgL := fkL.rt hg0
        have f51 : mL 0 51 = l.length := by rw [f0 51 (by decide) (by decide)]; exact e51
        have f17 : mL 17 = m3 17 := by rw [fq 17 (by decide) (by decide) (by decide) (by decide)]; exact e17
        refine v_iload_n C 3 dX11_beaten_45 rfl ?_
        refine v_aload_n C 0 dX11_beaten_46 rfl ?_
        refine v_get C 0 51 lR0 (eR0 _) rfl inX11 (by decide) rfl qw1191 dX11_beaten_47 ?_
        refine v_icmp_ge (tgt := 122) C dX11_beaten_50 (by decide) (by omega) (by omega) (fun c7 => ?_) (fun c7 => ?_)
        · have hend : ∀ (j : Nat) (c : Int), i ≤ (j : Int) → l[j]? = some c → ¬ btX fa Rr Xx c := fun j c hj hc hb => by
            have := (List.getElem?_eq_some_iff.mp hc).1; omega
          refine v_aload_n C 0 dX11_beaten_122 rfl ?_
          refine v_iload_n C 2 dX11_beaten_123 rfl ?_
          refine v_if_eq (tgt := 131) C dX11_beaten_124 (by decide) (by omega) (fun c8 => ?_) (fun c8 => ?_)
          · refine v_iconst (z := 0) C dX11_beaten_131 rfl ?_
            refine v_callV (st := []) (n := 1) (q := 0) C [.int (iz (0))] (ct_StageRatiosModel_good C.2.2.2.2.2.2.1 mL (0) ) lR0 (eR0 _) rfl qw1444 qw16 qw1441 rfl rfl ⟨Nat.le_of_ble_eq_true rfl, Nat.le_of_ble_eq_true rfl⟩ (by decide +kernel) qw1443 qp56 rfl rfl (Nat.le_of_ble_eq_true rfl) dX11_beaten_132 (fun r m9 hq9 => ?_)
            obtain ⟨z9, rfl, rfl, hq9⟩ := hq9
            show V E (wR D cy aa ad) 5 m9 135 [(0, .ref (aa 0)), (1, .int (iz (stZ fa (Rr 5) (Xx 0) (uX Xx) 0))), (2, .int (iz (b))), (3, .int (iz (i)))] [.int (iz (0))]
            refine v_iret C X rfl dX11_beaten_135 ⟨_, rfl, ?_, ?_⟩
            · rw [← hq9]
              refine RP.mk fkL ?_ (by decide : (0 : Int) ≠ 4)
              rcases hbt with ⟨y, c, c1, c2⟩ | ⟨y, y2⟩
              · first
                  | (exfalso; omega)
                  | exact Or.inl ⟨hT1, rfl, l, hfx, Or.inl ⟨rfl, c, c1, c2⟩⟩
              · first
                  | (exfalso; omega)
                  | (refine Or.inl ⟨hT1, rfl, l, hfx, Or.inr ⟨rfl, fun c hc hb => ?_⟩⟩
                     obtain ⟨j, hj1, hj2⟩ := List.mem_iff_getElem.mp hc
                     have hj3 : l[j]? = some c := by rw [← hj2]; exact List.getElem?_eq_getElem hj1
                     by_cases e : (j : Int) < i
                     · exact y2 j c e hj3 hb
                     · exact hend j c (by omega) hj3 hb)
            · trivial
          · refine v_iconst (z := 1) C dX11_beaten_127 rfl ?_
            refine v_goto (tgt := 132) C dX11_beaten_128 (by decide) ?_
            refine v_callV (st := []) (n := 1) (q := 0) C [.int (iz (1))] (ct_StageRatiosModel_good C.2.2.2.2.2.2.1 mL (1) ) lR0 (eR0 _) rfl qw1444 qw16 qw1441 rfl rfl ⟨Nat.le_of_ble_eq_true rfl, Nat.le_of_ble_eq_true rfl⟩ (by decide +kernel) qw1443 qp56 rfl rfl (Nat.le_of_ble_eq_true rfl) dX11_beaten_132 (fun r m10 hq10 => ?_)
            obtain ⟨z10, rfl, rfl, hq10⟩ := hq10
            show V E (wR D cy aa ad) 5 m10 135 [(0, .ref (aa 0)), (1, .int (iz (stZ fa (Rr 5) (Xx 0) (uX Xx) 0))), (2, .int (iz (b))), (3, .int (iz (i)))] [.int (iz (1))]
            refine v_iret C X rfl dX11_beaten_135 ⟨_, rfl, ?_, ?_⟩
            · rw [← hq10]
              refine RP.mk fkL ?_ (by decide : (0 : Int) ≠ 4)
              rcases hbt with ⟨y, c, c1, c2⟩ | ⟨y, y2⟩
              · first
                  | (exfalso; omega)
                  | exact Or.inl ⟨hT1, rfl, l, hfx, Or.inl ⟨rfl, c, c1, c2⟩⟩
              · first
                  | (exfalso; omega)
                  | (refine Or.inl ⟨hT1, rfl, l, hfx, Or.inr ⟨rfl, fun c hc hb => ?_⟩⟩
                     obtain ⟨j, hj1, hj2⟩ := List.mem_iff_getElem.mp hc
                     have hj3 : l[j]? = some c := by rw [← hj2]; exact List.getElem?_eq_getElem hj1
                     by_cases e : (j : Int) < i
                     · exact y2 j c e hj3 hb
                     · exact hend j c (by omega) hj3 hb)
            · trivial
        · refine v_aload_n C 0 dX11_beaten_53 rfl ?_
          refine v_get C 0 48 lR0 (eR0 _) rfl inX11 (by decide) rfl qw1188 dX11_beaten_54 ?_
          refine v_iload_n C 3 dX11_beaten_57 rfl ?_
          obtain ⟨q0, hq0⟩ : ∃ q, l[i.toNat]? = some q := ⟨_, List.getElem?_eq_getElem (by omega)⟩
          have hq1 := hlq _ q0 hq0
          rw [show ((i.toNat : Nat) : Int) = i by omega] at hq1
          have hm0 := hmem q0 (List.mem_of_getElem? hq0)
          have hw0 := we_rng hF hn hX.1 hm0.1.1 hm0.1.2
          have eL : mL 17 i = weA fa (Rr 5) (Xx 0) q0 := by rw [f17]; exact hq1.1
          refine v_iald C 17 lR17 (eR17 _) (by decide) (by omega) dX11_beaten_58 ?_
          refine v_iload_n C 1 dX11_beaten_59 rfl ?_
          refine v_icmp_gt (tgt := 122) C dX11_beaten_60 (by decide) (by omega) (by omega) (fun c11 => ?_) (fun c11 => ?_)
          · have hend : ∀ (j : Nat) (c : Int), i ≤ (j : Int) → l[j]? = some c → ¬ btX fa Rr Xx c := fun j c hj hc hb => by
              have hb1 : weA fa (Rr 5) (Xx 0) c ≤ stZ fa (Rr 5) (Xx 0) (uX Xx) 0 := hb.1
              by_cases e : (j : Int) = i
              · have ec : c = q0 := by rw [show j = i.toNat by omega, hq0] at hc; exact (Option.some.inj hc).symm
                rw [ec] at hb1; omega
              · have := hsrt i.toNat j q0 c (by omega) hq0 hc; omega
            refine v_aload_n C 0 dX11_beaten_122 rfl ?_
            refine v_iload_n C 2 dX11_beaten_123 rfl ?_
            refine v_if_eq (tgt := 131) C dX11_beaten_124 (by decide) (by omega) (fun c12 => ?_) (fun c12 => ?_)
            · refine v_iconst (z := 0) C dX11_beaten_131 rfl ?_
              refine v_callV (st := []) (n := 1) (q := 0) C [.int (iz (0))] (ct_StageRatiosModel_good C.2.2.2.2.2.2.1 mL (0) ) lR0 (eR0 _) rfl qw1444 qw16 qw1441 rfl rfl ⟨Nat.le_of_ble_eq_true rfl, Nat.le_of_ble_eq_true rfl⟩ (by decide +kernel) qw1443 qp56 rfl rfl (Nat.le_of_ble_eq_true rfl) dX11_beaten_132 (fun r m13 hq13 => ?_)
              obtain ⟨z13, rfl, rfl, hq13⟩ := hq13
              show V E (wR D cy aa ad) 5 m13 135 [(0, .ref (aa 0)), (1, .int (iz (stZ fa (Rr 5) (Xx 0) (uX Xx) 0))), (2, .int (iz (b))), (3, .int (iz (i)))] [.int (iz (0))]
              refine v_iret C X rfl dX11_beaten_135 ⟨_, rfl, ?_, ?_⟩
              · rw [← hq13]
                refine RP.mk fkL ?_ (by decide : (0 : Int) ≠ 4)
                rcases hbt with ⟨y, c, c1, c2⟩ | ⟨y, y2⟩
                · first
                    | (exfalso; omega)
                    | exact Or.inl ⟨hT1, rfl, l, hfx, Or.inl ⟨rfl, c, c1, c2⟩⟩
                · first
                    | (exfalso; omega)
                    | (refine Or.inl ⟨hT1, rfl, l, hfx, Or.inr ⟨rfl, fun c hc hb => ?_⟩⟩
                       obtain ⟨j, hj1, hj2⟩ := List.mem_iff_getElem.mp hc
                       have hj3 : l[j]? = some c := by rw [← hj2]; exact List.getElem?_eq_getElem hj1
                       by_cases e : (j : Int) < i
                       · exact y2 j c e hj3 hb
                       · exact hend j c (by omega) hj3 hb)
              · trivial
            · refine v_iconst (z := 1) C dX11_beaten_127 rfl ?_
              refine v_goto (tgt := 132) C dX11_beaten_128 (by decide) ?_
              refine v_callV (st := []) (n := 1) (q := 0) C [.int (iz (1))] (ct_StageRatiosModel_good C.2.2.2.2.2.2.1 mL (1) ) lR0 (eR0 _) rfl qw1444 qw16 qw1441 rfl rfl ⟨Nat.le_of_ble_eq_true rfl, Nat.le_of_ble_eq_true rfl⟩ (by decide +kernel) qw1443 qp56 rfl rfl (Nat.le_of_ble_eq_true rfl) dX11_beaten_132 (fun r m14 hq14 => ?_)
              obtain ⟨z14, rfl, rfl, hq14⟩ := hq14
              show V E (wR D cy aa ad) 5 m14 135 [(0, .ref (aa 0)), (1, .int (iz (stZ fa (Rr 5) (Xx 0) (uX Xx) 0))), (2, .int (iz (b))), (3, .int (iz (i)))] [.int (iz (1))]
              refine v_iret C X rfl dX11_beaten_135 ⟨_, rfl, ?_, ?_⟩
              · rw [← hq14]
                refine RP.mk fkL ?_ (by decide : (0 : Int) ≠ 4)
                rcases hbt with ⟨y, c, c1, c2⟩ | ⟨y, y2⟩
                · first
                    | (exfalso; omega)
                    | exact Or.inl ⟨hT1, rfl, l, hfx, Or.inl ⟨rfl, c, c1, c2⟩⟩
                · first
                    | (exfalso; omega)
                    | (refine Or.inl ⟨hT1, rfl, l, hfx, Or.inr ⟨rfl, fun c hc hb => ?_⟩⟩
                       obtain ⟨j, hj1, hj2⟩ := List.mem_iff_getElem.mp hc
                       have hj3 : l[j]? = some c := by rw [← hj2]; exact List.getElem?_eq_getElem hj1
                       by_cases e : (j : Int) < i
                       · exact y2 j c e hj3 hb
                       · exact hend j c (by omega) hj3 hb)
              · trivial
          · refine v_aload_n C 0 dX11_beaten_63 rfl ?_
            refine v_aload_n C 0 dX11_beaten_64 rfl ?_
            refine v_get C 0 47 lR0 (eR0 _) rfl inX11 (by decide) rfl qw1187 dX11_beaten_65 ?_
            refine v_iconst (z := 3) C dX11_beaten_68 rfl ?_
            refine v_aload_n C 0 dX11_beaten_69 rfl ?_
            refine v_get C 0 48 lR0 (eR0 _) rfl inX11 (by decide) rfl qw1188 dX11_beaten_70 ?_
            refine v_iload_n C 3 dX11_beaten_73 rfl ?_
            refine v_iald C 17 lR17 (eR17 _) (by decide) (by omega) dX11_beaten_74 ?_
            refine v_imul C dX11_beaten_75 ?_
            refine v_aload_n C 0 dX11_beaten_76 rfl ?_
            refine v_get C 0 49 lR0 (eR0 _) rfl inX11 (by decide) rfl qw1189 dX11_beaten_77 ?_
            refine v_iconst (z := 0) C dX11_beaten_80 rfl ?_
            refine v_callV (st := []) (n := 4) (q := 0) C [.ref (aa 16), .int (iz (3 * (mL 17 i))), .ref (aa 18), .int (iz (0))] (ct_StageRatiosModel_comparesSpeeds C.2.2.2.2.2.2.1 mL (fa) (Af) (Bf) (Cf) (Rr) (Xx) (16) (1536) (18) (3) (3 * (mL 17 i)) (0) (Xx 0) (unZ q0) (uX Xx) (by exact hgL) ⟨lR16, by decide, eR16⟩ ⟨lR18, by decide, eR18⟩ (by decide) (by decide) (by omega) (by decide) (by rw [f0 34 (by decide) (by decide)]; exact hd5.1) (by exact un_dv hn hX.1 hm0.1.1 hm0.1.2) (by exact hDv) (by intro j j0 j1; rw [eL, fq 16 (by decide) (by decide) (by decide) (by decide), e16]; exact hq1.2 j j0 j1) (by intro j j0 j1; rw [fq 18 (by decide) (by decide) (by decide) (by decide)]; exact hr18 j j0 j1)) lR0 (eR0 _) rfl qw1646 qw16 qw1643 rfl rfl ⟨Nat.le_of_ble_eq_true rfl, Nat.le_of_ble_eq_true rfl⟩ (by decide +kernel) qw1645 qp85 rfl rfl (Nat.le_of_ble_eq_true rfl) dX11_beaten_81 (fun r m15 hq15 => ?_)
            obtain ⟨z15, rfl, rfl, hq15⟩ := hq15
            show V E (wR D cy aa ad) 5 m15 84 [(0, .ref (aa 0)), (1, .int (iz (stZ fa (Rr 5) (Xx 0) (uX Xx) 0))), (2, .int (iz (b))), (3, .int (iz (i)))] [.int (iz (cmZ (spT fa (Rr 5) (Xx 0) (unZ q0)) (spT fa (Rr 5) (Xx 0) (uX Xx))))]
            have hcr := cmZ_rng (spT fa (Rr 5) (Xx 0) (unZ q0)) (spT fa (Rr 5) (Xx 0) (uX Xx))
            have e17b : m15 17 i = weA fa (Rr 5) (Xx 0) q0 := by rw [hq15.2.2 17 (by decide) (by decide) (by decide) (by decide)]; exact eL
            have hbx0 : btX fa Rr Xx q0 ↔ (weA fa (Rr 5) (Xx 0) q0 ≤ stZ fa (Rr 5) (Xx 0) (uX Xx) 0 ∧ 0 ≤ cmZ (spT fa (Rr 5) (Xx 0) (unZ q0)) (spT fa (Rr 5) (Xx 0) (uX Xx)) ∧ (weA fa (Rr 5) (Xx 0) q0 < stZ fa (Rr 5) (Xx 0) (uX Xx) 0 ∨ 0 < cmZ (spT fa (Rr 5) (Xx 0) (unZ q0)) (spT fa (Rr 5) (Xx 0) (uX Xx)))) := Iff.rfl
            have K115 : ∀ (b2 : Int) (hb012 : b2 = 0 ∨ b2 = 1) (hbt2 : (b2 = 1 ∧ ∃ c, c ∈ l ∧ btX fa Rr Xx c) ∨ (b2 = 0 ∧ ∀ (j : Nat) (c : Int), (j : Int) < i + 1 → l[j]? = some c → ¬ btX fa Rr Xx c)), V E (wR D cy aa ad) 5 m15 115 [(0, .ref (aa 0)), (1, .int (iz (stZ fa (Rr 5) (Xx 0) (uX Xx) 0))), (3, .int (iz (i)))] [.int (iz (b2))] := by
              intro b2  hb012 hbt2
              refine v_istore_n (L1 := [(2, .int (iz (b2))), (0, .ref (aa 0)), (1, .int (iz (stZ fa (Rr 5) (Xx 0) (uX Xx) 0))), (3, .int (iz (i)))]) C dX11_beaten_115 (by decide) rfl ?_
              refine v_iinc (L1 := [(3, .int (iz (i + 1))), (2, .int (iz (b2))), (0, .ref (aa 0)), (1, .int (iz (stZ fa (Rr 5) (Xx 0) (uX Xx) 0)))]) C 3 dX11_beaten_116 rfl (by decide) rfl ?_
              refine v_goto (tgt := 45) C dX11_beaten_119 (by decide) ?_
              refine v_sub [2, 3, 1, 0] rfl ?_
              exact ih45 (b2) (i + 1) m15 (by omega) (by exact hb012) (by exact hbt2) (by intro j a1 a2; rw [hq15.2.1 j a1 a2]; exact f0 j a1 a2) (by intro q a1 a2 a3 a4; rw [hq15.2.2 q a1 a2 a3 a4]; exact fq q a1 a2 a3 a4) (by omega)
            refine v_istore (L1 := [(4, .int (iz (cmZ (spT fa (Rr 5) (Xx 0) (unZ q0)) (spT fa (Rr 5) (Xx 0) (uX Xx))))), (0, .ref (aa 0)), (1, .int (iz (stZ fa (Rr 5) (Xx 0) (uX Xx) 0))), (2, .int (iz (b))), (3, .int (iz (i)))]) C dX11_beaten_84 (by decide) rfl ?_
            refine v_iload_n C 3 dX11_beaten_86 rfl ?_
            refine v_if_ne (tgt := 110) C dX11_beaten_87 (by decide) (by omega) (fun c16 => ?_) (fun c16 => ?_)
            · refine v_iconst (z := 1) C dX11_beaten_110 rfl ?_
              refine v_goto (tgt := 115) C dX11_beaten_111 (by decide) ?_
              refine v_sub [1, 2, 4] rfl ?_
              exact K115  (1)  (by omega) (by 
                                first
                                  | (rcases hbt with ⟨y, y2⟩ | ⟨y, -⟩
                                     · exact Or.inl ⟨rfl, y2⟩
                                     · omega)
                                  | exact Or.inl ⟨rfl, q0, List.mem_of_getElem? hq0, hbx0.mpr ⟨by omega, by omega, by omega⟩⟩
                                  | (rcases hbt with ⟨y, y2⟩ | ⟨y, y2⟩
                                     · omega
                                     · refine Or.inr ⟨rfl, fun j c hj hc hb => ?_⟩
                                       by_cases e : (j : Int) = i
                                       · have ec : c = q0 := by rw [show j = i.toNat by omega, hq0] at hc; exact (Option.some.inj hc).symm
                                         rw [ec] at hb; have := hbx0.mp hb; omega
                                       · exact y2 j c (by omega) hc hb)
                              )
            · refine v_iload C 0 dX11_beaten_90 rfl ?_
              refine v_if_gt (tgt := 110) C dX11_beaten_92 (by decide) (by omega) (fun c17 => ?_) (fun c17 => ?_)
              · refine v_iconst (z := 1) C dX11_beaten_110 rfl ?_
                refine v_goto (tgt := 115) C dX11_beaten_111 (by decide) ?_
                refine v_sub [1, 2, 4] rfl ?_
                exact K115  (1)  (by omega) (by 
                                    first
                                      | (rcases hbt with ⟨y, y2⟩ | ⟨y, -⟩
                                         · exact Or.inl ⟨rfl, y2⟩
                                         · omega)
                                      | exact Or.inl ⟨rfl, q0, List.mem_of_getElem? hq0, hbx0.mpr ⟨by omega, by omega, by omega⟩⟩
                                      | (rcases hbt with ⟨y, y2⟩ | ⟨y, y2⟩
                                         · omega
                                         · refine Or.inr ⟨rfl, fun j c hj hc hb => ?_⟩
                                           by_cases e : (j : Int) = i
                                           · have ec : c = q0 := by rw [show j = i.toNat by omega, hq0] at hc; exact (Option.some.inj hc).symm
                                             rw [ec] at hb; have := hbx0.mp hb; omega
                                           · exact y2 j c (by omega) hc hb)
                                  )
              · refine v_iload C 0 dX11_beaten_95 rfl ?_
                refine v_if_ne (tgt := 114) C dX11_beaten_97 (by decide) (by omega) (fun c18 => ?_) (fun c18 => ?_)
                · refine v_iconst (z := 0) C dX11_beaten_114 rfl ?_
                  refine v_sub [1, 2, 4] rfl ?_
                  exact K115  (0)  (by omega) (by 
                                        first
                                          | (rcases hbt with ⟨y, y2⟩ | ⟨y, -⟩
                                             · exact Or.inl ⟨rfl, y2⟩
                                             · omega)
                                          | exact Or.inl ⟨rfl, q0, List.mem_of_getElem? hq0, hbx0.mpr ⟨by omega, by omega, by omega⟩⟩
                                          | (rcases hbt with ⟨y, y2⟩ | ⟨y, y2⟩
                                             · omega
                                             · refine Or.inr ⟨rfl, fun j c hj hc hb => ?_⟩
                                               by_cases e : (j : Int) = i
                                               · have ec : c = q0 := by rw [show j = i.toNat by omega, hq0] at hc; exact (Option.some.inj hc).symm
                                                 rw [ec] at hb; have := hbx0.mp hb; omega
                                               · exact y2 j c (by omega) hc hb)
                                      )
                · refine v_aload_n C 1 dX11_beaten_100 rfl ?_
                  refine v_get C 0 48 lR0 (eR0 _) rfl inX11 (by decide) rfl qw1188 dX11_beaten_101 ?_
                  refine v_iload_n C 4 dX11_beaten_104 rfl ?_
                  refine v_iald C 17 lR17 (eR17 _) (by decide) (by omega) dX11_beaten_105 ?_
                  refine v_iload_n C 2 dX11_beaten_106 rfl ?_
                  refine v_icmp_ge (tgt := 114) C dX11_beaten_107 (by decide) (by omega) (by omega) (fun c19 => ?_) (fun c19 => ?_)
                  · refine v_iconst (z := 0) C dX11_beaten_114 rfl ?_
                    refine v_sub [1, 2, 4] rfl ?_
                    exact K115  (0)  (by omega) (by 
                                            first
                                              | (rcases hbt with ⟨y, y2⟩ | ⟨y, -⟩
                                                 · exact Or.inl ⟨rfl, y2⟩
                                                 · omega)
                                              | exact Or.inl ⟨rfl, q0, List.mem_of_getElem? hq0, hbx0.mpr ⟨by omega, by omega, by omega⟩⟩
                                              | (rcases hbt with ⟨y, y2⟩ | ⟨y, y2⟩
                                                 · omega
                                                 · refine Or.inr ⟨rfl, fun j c hj hc hb => ?_⟩
                                                   by_cases e : (j : Int) = i
                                                   · have ec : c = q0 := by rw [show j = i.toNat by omega, hq0] at hc; exact (Option.some.inj hc).symm
                                                     rw [ec] at hb; have := hbx0.mp hb; omega
                                                   · exact y2 j c (by omega) hc hb)
                                          )
                  · refine v_iconst (z := 1) C dX11_beaten_110 rfl ?_
                    refine v_goto (tgt := 115) C dX11_beaten_111 (by decide) ?_
                    refine v_sub [1, 2, 4] rfl ?_
                    exact K115  (1)  (by omega) (by 
                                            first
                                              | (rcases hbt with ⟨y, y2⟩ | ⟨y, -⟩
                                                 · exact Or.inl ⟨rfl, y2⟩
                                                 · omega)
                                              | exact Or.inl ⟨rfl, q0, List.mem_of_getElem? hq0, hbx0.mpr ⟨by omega, by omega, by omega⟩⟩
                                              | (rcases hbt with ⟨y, y2⟩ | ⟨y, y2⟩
                                                 · omega
                                                 · refine Or.inr ⟨rfl, fun j c hj hc hb => ?_⟩
                                                   by_cases e : (j : Int) = i
                                                   · have ec : c = q0 := by rw [show j = i.toNat by omega, hq0] at hc; exact (Option.some.inj hc).symm
                                                     rw [ec] at hb; have := hbx0.mp hb; omega
                                                   · exact y2 j c (by omega) hc hb)
                                          )
    refine v_sub [3, 2, 1, 0] rfl ?_
    exact K45 _ (0) (0) m5 (by omega) (by omega) (by exact Or.inr ⟨rfl, fun j c h => by omega⟩) (by intro j _ _; rfl) (by intro q _ _ _ _; rfl) (Nat.lt_succ_self _)
  · refine v_aload_n C 0 dX11_beaten_12 rfl ?_
    refine v_iconst (z := 1) C dX11_beaten_13 rfl ?_
    refine v_callV (st := []) (n := 1) (q := 0) C [.int (iz (1))] (ct_StageRatiosModel_refused C.2.2.2.2.2.2.1 m1 (1) ) lR0 (eR0 _) rfl qw1340 qw16 qw1337 rfl rfl ⟨Nat.le_of_ble_eq_true rfl, Nat.le_of_ble_eq_true rfl⟩ (by decide +kernel) qw1339 qp36 rfl rfl (Nat.le_of_ble_eq_true rfl) dX11_beaten_14 (fun r m20 hq20 => ?_)
    obtain ⟨z20, rfl, rfl, hq20⟩ := hq20
    show V E (wR D cy aa ad) 5 m20 17 [(0, .ref (aa 0))] [.int (iz (-1))]
    refine v_iret C X rfl dX11_beaten_17 ⟨_, rfl, ?_, ?_⟩
    · rw [← hq20]
      refine RP.mk fk2 ?_ (by decide)
      exact Or.inr ⟨by omega, rfl, rfl⟩
    · trivial
