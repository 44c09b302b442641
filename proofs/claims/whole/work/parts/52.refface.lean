def FK (m m1 : Mem) : Prop := (∀ j : Int, CKj j → m1 0 j = m 0 j) ∧ ∀ q : Nat, (q = 1 ∨ q = 2 ∨ q = 6 ∨ q = 7 ∨ q = 8) → m1 q = m q
theorem FK.rf (m : Mem) : FK m m := ⟨fun _ _ => rfl, fun _ _ => rfl⟩
theorem FK.tr {m m1 m2 : Mem} (h : FK m m1) (k : FK m1 m2) : FK m m2 := ⟨fun j hj => by rw [k.1 j hj, h.1 j hj], fun q hq => by rw [k.2 q hq, h.2 q hq]⟩
theorem FK.rt {m m1 : Mem} {fa A B Cn R X : Int → Int} (k : FK m m1) (h : RT m fa A B Cn R X) : RT m1 fa A B Cn R X := h.fr k.1 (k.2 1 (by decide)) (k.2 2 (by decide)) (k.2 6 (by decide))
theorem FK.up {m : Mem} (j v : Int) (hj : ¬ CKj j) : FK m (mup m 0 j v) := ⟨fun i hi => by rw [mup_j _ _ (fun e => hj (by rw [← e]; exact hi))], fun q hq => by rw [mup_k _ _ _ (by omega)]⟩
theorem FK.ce {m : Mem} (q : Nat) (j v : Int) (hq : q ≠ 0 ∧ q ≠ 1 ∧ q ≠ 2 ∧ q ≠ 6 ∧ q ≠ 7 ∧ q ≠ 8) : FK m (mup m q j v) := ⟨fun i _ => by rw [mup_k _ _ _ (Ne.symm hq.1)], fun k hk => by rw [mup_k _ _ _ (by omega)]⟩
theorem FK.fb {m m1 : Mem} (h : FBm m m1) : FK m m1 := ⟨fun j hj => h.1 j (by unfold CKj at hj; omega) (by unfold CKj at hj; omega), fun q hq => h.2 q (by omega) (by omega) (by omega)⟩
def TT (m : Mem) (fa A B Cn R X : Int → Int) : Prop := m 0 20 = 0 ∨ (m 0 20 = 1 ∧ RT m fa A B Cn R X)
theorem FK.tt {m m1 : Mem} {fa A B Cn R X : Int → Int} (k : FK m m1) (h : TT m fa A B Cn R X) : TT m1 fa A B Cn R X := by
  unfold TT; rw [k.1 20 (Or.inr (Or.inl rfl))]; exact h.imp (fun a => a) (fun a => ⟨a.1, k.rt a.2⟩)
theorem RP.mk {B : Int → Int → Prop} {m m1 : Mem} {z t : Int} (k : FK m m1) (b : B t z) (ht : t ≠ 4) : RP B m (mup (mup m1 0 1 t) 0 2 (-1)) z := ⟨t, b, ht, RQ.of k.1 k.2⟩
theorem in_wo {fa R X : Int → Int} {c : Int} (h : VdOk fa R X) (hb : inB (loX X) (hiX X) c) : woM fa (R 5) (unZ c) := fun s h0 h1 => by
  have a := hb s h0 h1
  have b := h.2.2.2.2.2.2 s h0 h1
  unfold mstZ at b; unfold hiX at a; omega
theorem pc_cd {fa R X lo hi : Int → Int} {k c : Int} (hw : inB lo hi c → woM fa (R 5) (unZ c)) : pcA fa (R 5) (R 2) (R 3) (X 0) lo hi k c ↔ cdA fa R X lo hi k c := by
  unfold pcA cdA cnA
  exact ⟨fun a => ⟨⟨a.1, hw a.1, a.2.1⟩, a.2.2⟩, fun a => ⟨a.1.1, a.1.2.2, a.2⟩⟩
set_option maxHeartbeats 4000000 in
set_option maxRecDepth 100000 in
theorem ct_StageRatiosModel_about {lau : Launch} {D : va_G} {cy : Nat → ClassId} {aa ad : Nat → Nat} (hI : wI (wR D cy aa ad)) (m : Mem) (fa Af Bf Cf Rr Xx : Int → Int) (w : Int) (hT : TT m fa Af Bf Cf Rr Xx) (hw : -2147483648 ≤ w ∧ w ≤ 2147483647) : MT lau (wR D cy aa ad) yX11_about cX11_about 2 (some .int) ({ frames := 1, cells := 0, slots := 0, locals := 21 } : Room) m [.ref (aa 0), .int (iz (w))] (Pi (fun z m' => (RP (qAbo (m 0 20) Rr Xx w) m m' z) ∧ True)) := by
  refine v_entry hI RX11 (by decide) rfl (Nat.le_of_ble_eq_true rfl) (fun E hE C X => ?_)
  subst hE
  show V E (wR D cy aa ad) 2 m 0 [(0, .ref (aa 0)), (1, .int (iz (w)))] []
  refine v_aload_n C 0 dX11_about_0 rfl ?_
  refine v_iconst (z := 0) C dX11_about_1 rfl ?_
  refine v_put C 0 0 (0) 0 rfl lR0 (eR0 _) rfl inX11 tyX11 tyX11_ok nmX11 (by decide) qw1140 rfl rfl rfl (Nat.le_of_ble_eq_true rfl) (by rw [mup_r]; exact (eR0 _)) dX11_about_2 (fun m1 em1 => ?_)
  have fk2 : FK m m1 := by rw [em1]; exact FK.up 0 0 (by unfold CKj; omega)
  have hT2 := fk2.tt hT
  have e20 : m1 0 20 = m 0 20 := fk2.1 20 (Or.inr (Or.inl rfl))
  have ht01 : m 0 20 = 0 ∨ m 0 20 = 1 := hT.imp (fun a => a) (fun a => a.1)
  refine v_aload_n C 0 dX11_about_5 rfl ?_
  refine v_get C 0 20 lR0 (eR0 _) rfl inX11 (by decide) rfl qw1160 dX11_about_6 ?_
  refine v_if_ne (tgt := 18) C dX11_about_9 (by decide) (by omega) (fun c2 => ?_) (fun c2 => ?_)
  · obtain ⟨hT1, hg0⟩ := hT.resolve_left (by omega)
    have hg := fk2.rt hg0
    obtain ⟨⟨r11, r8, r9, r10, r12⟩, r1, r2, r6, hvd, hfo⟩ := id hg
    obtain ⟨hn, hF, hup, hlw, hX⟩ := id hvd
    refine v_iload_n C 1 dX11_about_18 rfl ?_
    refine v_table C dX11_about_19 (by omega) (fun tgt ht c3 => ?_) (fun tgt off c3a c3b ho ht => ?_) ⟨127, by decide⟩ (fun ha hb => ?_)
    · obtain rfl : tgt = 127 := by omega
      refine v_aload_n C 0 dX11_about_127 rfl ?_
      refine v_iconst (z := 1) C dX11_about_128 rfl ?_
      refine v_callV (st := []) (n := 1) (q := 0) C [.int (iz (1))] (ct_StageRatiosModel_refused C.2.2.2.2.2.2.1 m1 (1) ) lR0 (eR0 _) rfl qw1340 qw16 qw1337 rfl rfl ⟨Nat.le_of_ble_eq_true rfl, Nat.le_of_ble_eq_true rfl⟩ (by decide +kernel) qw1339 qp36 rfl rfl (Nat.le_of_ble_eq_true rfl) dX11_about_129 (fun r m4 hq4 => ?_)
      obtain ⟨z4, rfl, rfl, hq4⟩ := hq4
      show V E (wR D cy aa ad) 2 m4 132 [(0, .ref (aa 0)), (1, .int (iz (w)))] [.int (iz (-1))]
      refine v_iret C X rfl dX11_about_132 ⟨_, rfl, ?_, ?_⟩
      · rw [← hq4]
        refine RP.mk fk2 ?_ (by decide)
        exact Or.inr ⟨fun h => by omega, rfl, rfl⟩
      · trivial
    · rcases (show w = 0 ∨ w = 1 ∨ w = 2 ∨ w = 3 ∨ w = 4 ∨ w = 5 ∨ w = 6 by omega) with c3 | c3 | c3 | c3 | c3 | c3 | c3
      · have ho : off = 41 := by rw [c3] at ho; exact (Option.some.inj ho).symm
        obtain rfl : tgt = 60 := by omega
        refine v_aload_n C 0 dX11_about_60 rfl ?_
        refine v_aload_n C 0 dX11_about_61 rfl ?_
        refine v_get C 0 21 lR0 (eR0 _) rfl inX11 (by decide) rfl qw1161 dX11_about_62 ?_
        refine v_iconst (z := 0) C dX11_about_65 rfl ?_
        refine v_iald C 6 lR6 (eR6 _) (by decide) (by omega) dX11_about_66 ?_
        refine v_callV (st := []) (n := 1) (q := 0) C [.int (iz (m1 6 0))] (ct_StageRatiosModel_good C.2.2.2.2.2.2.1 m1 (m1 6 0) ) lR0 (eR0 _) rfl qw1444 qw16 qw1441 rfl rfl ⟨Nat.le_of_ble_eq_true rfl, Nat.le_of_ble_eq_true rfl⟩ (by decide +kernel) qw1443 qp56 rfl rfl (Nat.le_of_ble_eq_true rfl) dX11_about_67 (fun r m5 hq5 => ?_)
        obtain ⟨z5, rfl, rfl, hq5⟩ := hq5
        show V E (wR D cy aa ad) 2 m5 70 [(0, .ref (aa 0)), (1, .int (iz (w)))] [.int (iz ((m1 6 0)))]
        refine v_iret C X rfl dX11_about_70 ⟨_, rfl, ?_, ?_⟩
        · rw [← hq5]
          refine RP.mk fk2 ?_ (by decide)
          obtain rfl : w = 0 := by omega
          exact Or.inl ⟨hT1, ⟨by omega, by omega⟩, rfl, r6 0 (by decide) (by decide)⟩
        · trivial
      · have ho : off = 52 := by rw [c3] at ho; exact (Option.some.inj ho).symm
        obtain rfl : tgt = 71 := by omega
        refine v_aload_n C 0 dX11_about_71 rfl ?_
        refine v_aload_n C 0 dX11_about_72 rfl ?_
        refine v_get C 0 8 lR0 (eR0 _) rfl inX11 (by decide) rfl qw1148 dX11_about_73 ?_
        refine v_callV (st := []) (n := 1) (q := 0) C [.int (iz (m1 0 8))] (ct_StageRatiosModel_good C.2.2.2.2.2.2.1 m1 (m1 0 8) ) lR0 (eR0 _) rfl qw1444 qw16 qw1441 rfl rfl ⟨Nat.le_of_ble_eq_true rfl, Nat.le_of_ble_eq_true rfl⟩ (by decide +kernel) qw1443 qp56 rfl rfl (Nat.le_of_ble_eq_true rfl) dX11_about_76 (fun r m6 hq6 => ?_)
        obtain ⟨z6, rfl, rfl, hq6⟩ := hq6
        show V E (wR D cy aa ad) 2 m6 79 [(0, .ref (aa 0)), (1, .int (iz (w)))] [.int (iz ((m1 0 8)))]
        refine v_iret C X rfl dX11_about_79 ⟨_, rfl, ?_, ?_⟩
        · rw [← hq6]
          refine RP.mk fk2 ?_ (by decide)
          obtain rfl : w = 1 := by omega
          exact Or.inl ⟨hT1, ⟨by omega, by omega⟩, rfl, r8⟩
        · trivial
      · have ho : off = 61 := by rw [c3] at ho; exact (Option.some.inj ho).symm
        obtain rfl : tgt = 80 := by omega
        refine v_aload_n C 0 dX11_about_80 rfl ?_
        refine v_aload_n C 0 dX11_about_81 rfl ?_
        refine v_get C 0 9 lR0 (eR0 _) rfl inX11 (by decide) rfl qw1149 dX11_about_82 ?_
        refine v_callV (st := []) (n := 1) (q := 0) C [.int (iz (m1 0 9))] (ct_StageRatiosModel_good C.2.2.2.2.2.2.1 m1 (m1 0 9) ) lR0 (eR0 _) rfl qw1444 qw16 qw1441 rfl rfl ⟨Nat.le_of_ble_eq_true rfl, Nat.le_of_ble_eq_true rfl⟩ (by decide +kernel) qw1443 qp56 rfl rfl (Nat.le_of_ble_eq_true rfl) dX11_about_85 (fun r m7 hq7 => ?_)
        obtain ⟨z7, rfl, rfl, hq7⟩ := hq7
        show V E (wR D cy aa ad) 2 m7 88 [(0, .ref (aa 0)), (1, .int (iz (w)))] [.int (iz ((m1 0 9)))]
        refine v_iret C X rfl dX11_about_88 ⟨_, rfl, ?_, ?_⟩
        · rw [← hq7]
          refine RP.mk fk2 ?_ (by decide)
          obtain rfl : w = 2 := by omega
          exact Or.inl ⟨hT1, ⟨by omega, by omega⟩, rfl, r9⟩
        · trivial
      · have ho : off = 70 := by rw [c3] at ho; exact (Option.some.inj ho).symm
        obtain rfl : tgt = 89 := by omega
        refine v_aload_n C 0 dX11_about_89 rfl ?_
        refine v_aload_n C 0 dX11_about_90 rfl ?_
        refine v_get C 0 21 lR0 (eR0 _) rfl inX11 (by decide) rfl qw1161 dX11_about_91 ?_
        refine v_iconst (z := 1) C dX11_about_94 rfl ?_
        refine v_iald C 6 lR6 (eR6 _) (by decide) (by omega) dX11_about_95 ?_
        refine v_callV (st := []) (n := 1) (q := 0) C [.int (iz (m1 6 1))] (ct_StageRatiosModel_good C.2.2.2.2.2.2.1 m1 (m1 6 1) ) lR0 (eR0 _) rfl qw1444 qw16 qw1441 rfl rfl ⟨Nat.le_of_ble_eq_true rfl, Nat.le_of_ble_eq_true rfl⟩ (by decide +kernel) qw1443 qp56 rfl rfl (Nat.le_of_ble_eq_true rfl) dX11_about_96 (fun r m8 hq8 => ?_)
        obtain ⟨z8, rfl, rfl, hq8⟩ := hq8
        show V E (wR D cy aa ad) 2 m8 99 [(0, .ref (aa 0)), (1, .int (iz (w)))] [.int (iz ((m1 6 1)))]
        refine v_iret C X rfl dX11_about_99 ⟨_, rfl, ?_, ?_⟩
        · rw [← hq8]
          refine RP.mk fk2 ?_ (by decide)
          obtain rfl : w = 3 := by omega
          exact Or.inl ⟨hT1, ⟨by omega, by omega⟩, rfl, r6 1 (by decide) (by decide)⟩
        · trivial
      · have ho : off = 81 := by rw [c3] at ho; exact (Option.some.inj ho).symm
        obtain rfl : tgt = 100 := by omega
        refine v_aload_n C 0 dX11_about_100 rfl ?_
        refine v_aload_n C 0 dX11_about_101 rfl ?_
        refine v_get C 0 10 lR0 (eR0 _) rfl inX11 (by decide) rfl qw1150 dX11_about_102 ?_
        refine v_callV (st := []) (n := 1) (q := 0) C [.int (iz (m1 0 10))] (ct_StageRatiosModel_good C.2.2.2.2.2.2.1 m1 (m1 0 10) ) lR0 (eR0 _) rfl qw1444 qw16 qw1441 rfl rfl ⟨Nat.le_of_ble_eq_true rfl, Nat.le_of_ble_eq_true rfl⟩ (by decide +kernel) qw1443 qp56 rfl rfl (Nat.le_of_ble_eq_true rfl) dX11_about_105 (fun r m9 hq9 => ?_)
        obtain ⟨z9, rfl, rfl, hq9⟩ := hq9
        show V E (wR D cy aa ad) 2 m9 108 [(0, .ref (aa 0)), (1, .int (iz (w)))] [.int (iz ((m1 0 10)))]
        refine v_iret C X rfl dX11_about_108 ⟨_, rfl, ?_, ?_⟩
        · rw [← hq9]
          refine RP.mk fk2 ?_ (by decide)
          obtain rfl : w = 4 := by omega
          exact Or.inl ⟨hT1, ⟨by omega, by omega⟩, rfl, r10⟩
        · trivial
      · have ho : off = 90 := by rw [c3] at ho; exact (Option.some.inj ho).symm
        obtain rfl : tgt = 109 := by omega
        refine v_aload_n C 0 dX11_about_109 rfl ?_
        refine v_aload_n C 0 dX11_about_110 rfl ?_
        refine v_get C 0 11 lR0 (eR0 _) rfl inX11 (by decide) rfl qw1151 dX11_about_111 ?_
        refine v_callV (st := []) (n := 1) (q := 0) C [.int (iz (m1 0 11))] (ct_StageRatiosModel_good C.2.2.2.2.2.2.1 m1 (m1 0 11) ) lR0 (eR0 _) rfl qw1444 qw16 qw1441 rfl rfl ⟨Nat.le_of_ble_eq_true rfl, Nat.le_of_ble_eq_true rfl⟩ (by decide +kernel) qw1443 qp56 rfl rfl (Nat.le_of_ble_eq_true rfl) dX11_about_114 (fun r m10 hq10 => ?_)
        obtain ⟨z10, rfl, rfl, hq10⟩ := hq10
        show V E (wR D cy aa ad) 2 m10 117 [(0, .ref (aa 0)), (1, .int (iz (w)))] [.int (iz ((m1 0 11)))]
        refine v_iret C X rfl dX11_about_117 ⟨_, rfl, ?_, ?_⟩
        · rw [← hq10]
          refine RP.mk fk2 ?_ (by decide)
          obtain rfl : w = 5 := by omega
          exact Or.inl ⟨hT1, ⟨by omega, by omega⟩, rfl, r11⟩
        · trivial
      · have ho : off = 99 := by rw [c3] at ho; exact (Option.some.inj ho).symm
        obtain rfl : tgt = 118 := by omega
        refine v_aload_n C 0 dX11_about_118 rfl ?_
        refine v_aload_n C 0 dX11_about_119 rfl ?_
        refine v_get C 0 12 lR0 (eR0 _) rfl inX11 (by decide) rfl qw1152 dX11_about_120 ?_
        refine v_callV (st := []) (n := 1) (q := 0) C [.int (iz (m1 0 12))] (ct_StageRatiosModel_good C.2.2.2.2.2.2.1 m1 (m1 0 12) ) lR0 (eR0 _) rfl qw1444 qw16 qw1441 rfl rfl ⟨Nat.le_of_ble_eq_true rfl, Nat.le_of_ble_eq_true rfl⟩ (by decide +kernel) qw1443 qp56 rfl rfl (Nat.le_of_ble_eq_true rfl) dX11_about_123 (fun r m11 hq11 => ?_)
        obtain ⟨z11, rfl, rfl, hq11⟩ := hq11
        show V E (wR D cy aa ad) 2 m11 126 [(0, .ref (aa 0)), (1, .int (iz (w)))] [.int (iz ((m1 0 12)))]
        refine v_iret C X rfl dX11_about_126 ⟨_, rfl, ?_, ?_⟩
        · rw [← hq11]
          refine RP.mk fk2 ?_ (by decide)
          obtain rfl : w = 6 := by omega
          exact Or.inl ⟨hT1, ⟨by omega, by omega⟩, rfl, r12⟩
        · trivial
    · rcases (show w = 0 ∨ w = 1 ∨ w = 2 ∨ w = 3 ∨ w = 4 ∨ w = 5 ∨ w = 6 by omega) with c3 | c3 | c3 | c3 | c3 | c3 | c3
      · exact ⟨60, 41, by rw [c3]; rfl, by decide⟩
      · exact ⟨71, 52, by rw [c3]; rfl, by decide⟩
      · exact ⟨80, 61, by rw [c3]; rfl, by decide⟩
      · exact ⟨89, 70, by rw [c3]; rfl, by decide⟩
      · exact ⟨100, 81, by rw [c3]; rfl, by decide⟩
      · exact ⟨109, 90, by rw [c3]; rfl, by decide⟩
      · exact ⟨118, 99, by rw [c3]; rfl, by decide⟩
  · refine v_aload_n C 0 dX11_about_12 rfl ?_
    refine v_iconst (z := 1) C dX11_about_13 rfl ?_
    refine v_callV (st := []) (n := 1) (q := 0) C [.int (iz (1))] (ct_StageRatiosModel_refused C.2.2.2.2.2.2.1 m1 (1) ) lR0 (eR0 _) rfl qw1340 qw16 qw1337 rfl rfl ⟨Nat.le_of_ble_eq_true rfl, Nat.le_of_ble_eq_true rfl⟩ (by decide +kernel) qw1339 qp36 rfl rfl (Nat.le_of_ble_eq_true rfl) dX11_about_14 (fun r m12 hq12 => ?_)
    obtain ⟨z12, rfl, rfl, hq12⟩ := hq12
    show V E (wR D cy aa ad) 2 m12 17 [(0, .ref (aa 0)), (1, .int (iz (w)))] [.int (iz (-1))]
    refine v_iret C X rfl dX11_about_17 ⟨_, rfl, ?_, ?_⟩
    · rw [← hq12]
      refine RP.mk fk2 ?_ (by decide)
      exact Or.inr ⟨fun h => by omega, rfl, rfl⟩
    · trivial

set_option maxHeartbeats 4000000 in
set_option maxRecDepth 100000 in
theorem ct_StageRatiosModel_stage {lau : Launch} {D : va_G} {cy : Nat → ClassId} {aa ad : Nat → Nat} (hI : wI (wR D cy aa ad)) (m : Mem) (fa Af Bf Cf Rr Xx : Int → Int) (s w : Int) (hT : TT m fa Af Bf Cf Rr Xx) (hs : -2147483648 ≤ s ∧ s ≤ 2147483647) (hw : -2147483648 ≤ w ∧ w ≤ 2147483647) : MT lau (wR D cy aa ad) yX11_stage cX11_stage 3 (some .int) ({ frames := 2, cells := 0, slots := 0, locals := 44 } : Room) m [.ref (aa 0), .int (iz (s)), .int (iz (w))] (Pi (fun z m' => (RP (qSta (m 0 20) fa Rr Xx s w) m m' z) ∧ True)) := by
  refine v_entry hI RX11 (by decide) rfl (Nat.le_of_ble_eq_true rfl) (fun E hE C X => ?_)
  subst hE
  show V E (wR D cy aa ad) 3 m 0 [(0, .ref (aa 0)), (1, .int (iz (s))), (2, .int (iz (w)))] []
  refine v_aload_n C 0 dX11_stage_0 rfl ?_
  refine v_iconst (z := 0) C dX11_stage_1 rfl ?_
  refine v_put C 0 0 (0) 0 rfl lR0 (eR0 _) rfl inX11 tyX11 tyX11_ok nmX11 (by decide) qw1140 rfl rfl rfl (Nat.le_of_ble_eq_true rfl) (by rw [mup_r]; exact (eR0 _)) dX11_stage_2 (fun m1 em1 => ?_)
  have fk2 : FK m m1 := by rw [em1]; exact FK.up 0 0 (by unfold CKj; omega)
  have hT2 := fk2.tt hT
  have e20 : m1 0 20 = m 0 20 := fk2.1 20 (Or.inr (Or.inl rfl))
  have ht01 : m 0 20 = 0 ∨ m 0 20 = 1 := hT.imp (fun a => a) (fun a => a.1)
  refine v_aload_n C 0 dX11_stage_5 rfl ?_
  refine v_iload_n C 1 dX11_stage_6 rfl ?_
  refine v_callV (st := []) (n := 1) (q := 0) C [.int (iz (s))] (ct_StageRatiosModel_isStage C.2.2.2.2.2.2.1 m1 (fa) (Af) (Bf) (Cf) (Rr) (Xx) (s) (by exact hT2) (by first | assumption | omega)) lR0 (eR0 _) rfl qw1464 qw16 qw1461 rfl rfl ⟨Nat.le_of_ble_eq_true rfl, Nat.le_of_ble_eq_true rfl⟩ (by decide +kernel) qw1463 qp57 rfl rfl (Nat.le_of_ble_eq_true rfl) dX11_stage_7 (fun r m2 hq2 => ?_)
  obtain ⟨z2, rfl, ⟨rfl, hq2, rfl⟩ | ⟨rfl, hq2, rfl⟩⟩ := hq2
  · show V E (wR D cy aa ad) 3 m1 10 [(0, .ref (aa 0)), (1, .int (iz (s))), (2, .int (iz (w)))] [.int (iz (1))]
    rw [e20] at hq2
    obtain ⟨hT1, hs0⟩ := id hq2
    obtain ⟨-, hg0⟩ := hT.resolve_left (by omega)
    have hg := fk2.rt hg0
    obtain ⟨⟨r11, r8, r9, r10, r12⟩, r1, r2, r6, hvd, hfo⟩ := id hg
    obtain ⟨hn, hF, hup, hlw, hX⟩ := id hvd
    have hUr := hX.u hF
    refine v_if_eq (tgt := 23) C dX11_stage_10 (by decide) (by omega) (fun c3 => by exact absurd c3 (by decide)) (fun c3 => ?_)
    refine v_iload_n C 2 dX11_stage_13 rfl ?_
    refine v_iconst (z := 0) C dX11_stage_14 rfl ?_
    refine v_bipush (z := 9) C dX11_stage_15 (by decide) ?_
    refine v_callS (st := []) (n := 3) C [.int (iz (w)), .int (iz (0)), .int (iz (9))] (ct_StageRatiosModel_in C.2.2.2.2.2.2.1 m1 (w) (0) (9) (by first | assumption | omega) (by first | assumption | omega) (by first | assumption | omega)) qw1355 qw16 qw1353 rfl rfl ⟨Nat.le_of_ble_eq_true rfl, Nat.le_of_ble_eq_true rfl⟩ (by decide +kernel) qw1354 rfl rfl (Nat.le_of_ble_eq_true rfl) dX11_stage_17 (fun r m4 hq4 => ?_)
    obtain ⟨z4, rfl, ⟨rfl, hq4, rfl⟩ | ⟨rfl, hq4, rfl⟩⟩ := hq4
    · show V E (wR D cy aa ad) 3 m1 20 [(0, .ref (aa 0)), (1, .int (iz (s))), (2, .int (iz (w)))] [.int (iz (1))]
      refine v_if_ne (tgt := 29) C dX11_stage_20 (by decide) (by omega) (fun c5 => ?_) (fun c5 => by exact absurd c5 (by decide))
      refine v_aload_n C 0 dX11_stage_29 rfl ?_
      refine v_iload_n C 2 dX11_stage_30 rfl ?_
      refine v_bipush (z := 9) C dX11_stage_31 (by decide) ?_
      refine v_icmp_ne (tgt := 52) C dX11_stage_33 (by decide) (by omega) (by omega) (fun c6 => ?_) (fun c6 => ?_)
      · refine v_aload_n C 0 dX11_stage_52 rfl ?_
        refine v_iload_n C 1 dX11_stage_53 rfl ?_
        refine v_iload_n C 2 dX11_stage_54 rfl ?_
        refine v_callV (st := [.ref (aa 0)]) (n := 2) (q := 0) C [.int (iz (s)), .int (iz (w))] (ct_StageRatiosModel_told C.2.2.2.2.2.2.1 m1 (fa) (Af) (Bf) (Cf) (Rr) (Xx) (s) (w) (by first | assumption | omega) (by first | assumption | omega) (by first | assumption | omega)) lR0 (eR0 _) rfl qw1440 qw16 qw1437 rfl rfl ⟨Nat.le_of_ble_eq_true rfl, Nat.le_of_ble_eq_true rfl⟩ (by decide +kernel) qw1439 qp55 rfl rfl (Nat.le_of_ble_eq_true rfl) dX11_stage_55 (fun r m7 hq7 => ?_)
        obtain ⟨z7, rfl, rfl, rfl⟩ := hq7
        show V E (wR D cy aa ad) 3 m1 58 [(0, .ref (aa 0)), (1, .int (iz (s))), (2, .int (iz (w)))] [.int (iz (fa (s * 9 + w))), .ref (aa 0)]
        refine v_callV (st := []) (n := 1) (q := 0) C [.int (iz (fa (s * 9 + w)))] (ct_StageRatiosModel_good C.2.2.2.2.2.2.1 m1 (fa (s * 9 + w)) ) lR0 (eR0 _) rfl qw1444 qw16 qw1441 rfl rfl ⟨Nat.le_of_ble_eq_true rfl, Nat.le_of_ble_eq_true rfl⟩ (by decide +kernel) qw1443 qp56 rfl rfl (Nat.le_of_ble_eq_true rfl) dX11_stage_58 (fun r m8 hq8 => ?_)
        obtain ⟨z8, rfl, rfl, hq8⟩ := hq8
        show V E (wR D cy aa ad) 3 m8 61 [(0, .ref (aa 0)), (1, .int (iz (s))), (2, .int (iz (w)))] [.int (iz ((fa (s * 9 + w))))]
        refine v_iret C X rfl dX11_stage_61 ⟨_, rfl, ?_, ?_⟩
        · rw [← hq8]
          refine RP.mk fk2 ?_ (by decide)
          first
            | (obtain rfl : w = 9 := by omega
               exact Or.inl ⟨hq2, ⟨by omega, by omega⟩, rfl, by rw [if_pos rfl, e6]; rfl⟩)
            | exact Or.inl ⟨hq2, ⟨by omega, by omega⟩, rfl, (if_neg (by omega)).symm⟩
        · trivial
      · refine v_aload_n C 0 dX11_stage_36 rfl ?_
        refine v_iload_n C 1 dX11_stage_37 rfl ?_
        have e6 : m1 6 (2 + s) = Xx (2 + s) := r6 _ (by omega) (by omega)
        refine v_aload_n C 0 dX11_stage_38 rfl ?_
        refine v_get C 0 21 lR0 (eR0 _) rfl inX11 (by decide) rfl qw1161 dX11_stage_39 ?_
        refine v_iconst (z := 2) C dX11_stage_42 rfl ?_
        refine v_iload_n C 1 dX11_stage_43 rfl ?_
        refine v_iadd C dX11_stage_44 ?_
        refine v_iald C 6 lR6 (eR6 _) (by decide) (by omega) dX11_stage_45 ?_
        refine v_callV (st := [.ref (aa 0)]) (n := 2) (q := 0) C [.int (iz (s)), .int (iz (m1 6 (2 + s)))] (ct_StageRatiosModel_shell C.2.2.2.2.2.2.1 m1 (fa) (Af) (Bf) (Cf) (Rr) (Xx) (s) (m1 6 (2 + s)) (by first | assumption | omega) (by exact hs0) (by rw [e6]; exact hUr s hs0.1 (by omega))) lR0 (eR0 _) rfl qw1468 qw16 qw1465 rfl rfl ⟨Nat.le_of_ble_eq_true rfl, Nat.le_of_ble_eq_true rfl⟩ (by decide +kernel) qw1467 qp58 rfl rfl (Nat.le_of_ble_eq_true rfl) dX11_stage_46 (fun r m9 hq9 => ?_)
        obtain ⟨z9, rfl, rfl, rfl⟩ := hq9
        show V E (wR D cy aa ad) 3 m1 49 [(0, .ref (aa 0)), (1, .int (iz (s))), (2, .int (iz (w)))] [.int (iz (shZ fa s (m1 6 (2 + s)))), .ref (aa 0)]
        refine v_goto (tgt := 58) C dX11_stage_49 (by decide) ?_
        refine v_callV (st := []) (n := 1) (q := 0) C [.int (iz (shZ fa s (m1 6 (2 + s))))] (ct_StageRatiosModel_good C.2.2.2.2.2.2.1 m1 (shZ fa s (m1 6 (2 + s))) ) lR0 (eR0 _) rfl qw1444 qw16 qw1441 rfl rfl ⟨Nat.le_of_ble_eq_true rfl, Nat.le_of_ble_eq_true rfl⟩ (by decide +kernel) qw1443 qp56 rfl rfl (Nat.le_of_ble_eq_true rfl) dX11_stage_58 (fun r m10 hq10 => ?_)
        obtain ⟨z10, rfl, rfl, hq10⟩ := hq10
        show V E (wR D cy aa ad) 3 m10 61 [(0, .ref (aa 0)), (1, .int (iz (s))), (2, .int (iz (w)))] [.int (iz ((shZ fa s (m1 6 (2 + s)))))]
        refine v_iret C X rfl dX11_stage_61 ⟨_, rfl, ?_, ?_⟩
        · rw [← hq10]
          refine RP.mk fk2 ?_ (by decide)
          first
            | (obtain rfl : w = 9 := by omega
               exact Or.inl ⟨hq2, ⟨by omega, by omega⟩, rfl, by rw [if_pos rfl, e6]; rfl⟩)
            | exact Or.inl ⟨hq2, ⟨by omega, by omega⟩, rfl, (if_neg (by omega)).symm⟩
        · trivial
    · show V E (wR D cy aa ad) 3 m1 20 [(0, .ref (aa 0)), (1, .int (iz (s))), (2, .int (iz (w)))] [.int (iz (0))]
      refine v_if_ne (tgt := 29) C dX11_stage_20 (by decide) (by omega) (fun c11 => by exact absurd c11 (by decide)) (fun c11 => ?_)
      refine v_aload_n C 0 dX11_stage_23 rfl ?_
      refine v_iconst (z := 1) C dX11_stage_24 rfl ?_
      refine v_callV (st := []) (n := 1) (q := 0) C [.int (iz (1))] (ct_StageRatiosModel_refused C.2.2.2.2.2.2.1 m1 (1) ) lR0 (eR0 _) rfl qw1340 qw16 qw1337 rfl rfl ⟨Nat.le_of_ble_eq_true rfl, Nat.le_of_ble_eq_true rfl⟩ (by decide +kernel) qw1339 qp36 rfl rfl (Nat.le_of_ble_eq_true rfl) dX11_stage_25 (fun r m12 hq12 => ?_)
      obtain ⟨z12, rfl, rfl, hq12⟩ := hq12
      show V E (wR D cy aa ad) 3 m12 28 [(0, .ref (aa 0)), (1, .int (iz (s))), (2, .int (iz (w)))] [.int (iz (-1))]
      refine v_iret C X rfl dX11_stage_28 ⟨_, rfl, ?_, ?_⟩
      · rw [← hq12]
        refine RP.mk fk2 ?_ (by decide)
        exact Or.inr ⟨fun h => by first | (rw [e20] at hq2; exact hq2 h.1) | exact hq4 h.2, rfl, rfl⟩
      · trivial
  · show V E (wR D cy aa ad) 3 m1 10 [(0, .ref (aa 0)), (1, .int (iz (s))), (2, .int (iz (w)))] [.int (iz (0))]
    refine v_if_eq (tgt := 23) C dX11_stage_10 (by decide) (by omega) (fun c13 => ?_) (fun c13 => by exact absurd c13 (by decide))
    refine v_aload_n C 0 dX11_stage_23 rfl ?_
    refine v_iconst (z := 1) C dX11_stage_24 rfl ?_
    refine v_callV (st := []) (n := 1) (q := 0) C [.int (iz (1))] (ct_StageRatiosModel_refused C.2.2.2.2.2.2.1 m1 (1) ) lR0 (eR0 _) rfl qw1340 qw16 qw1337 rfl rfl ⟨Nat.le_of_ble_eq_true rfl, Nat.le_of_ble_eq_true rfl⟩ (by decide +kernel) qw1339 qp36 rfl rfl (Nat.le_of_ble_eq_true rfl) dX11_stage_25 (fun r m14 hq14 => ?_)
    obtain ⟨z14, rfl, rfl, hq14⟩ := hq14
    show V E (wR D cy aa ad) 3 m14 28 [(0, .ref (aa 0)), (1, .int (iz (s))), (2, .int (iz (w)))] [.int (iz (-1))]
    refine v_iret C X rfl dX11_stage_28 ⟨_, rfl, ?_, ?_⟩
    · rw [← hq14]
      refine RP.mk fk2 ?_ (by decide)
      exact Or.inr ⟨fun h => by first | (rw [e20] at hq2; exact hq2 h.1) | exact NO_q17 h.2, rfl, rfl⟩
    · trivial

set_option maxHeartbeats 4000000 in
set_option maxRecDepth 100000 in
theorem ct_StageRatiosModel_part {lau : Launch} {D : va_G} {cy : Nat → ClassId} {aa ad : Nat → Nat} (hI : wI (wR D cy aa ad)) (m : Mem) (fa Af Bf Cf Rr Xx : Int → Int) (s w : Int) (hT : TT m fa Af Bf Cf Rr Xx) (hs : -2147483648 ≤ s ∧ s ≤ 2147483647) (hw : -2147483648 ≤ w ∧ w ≤ 2147483647) : MT lau (wR D cy aa ad) yX11_part cX11_part 3 (some .int) ({ frames := 5, cells := 0, slots := 0, locals := 110 } : Room) m [.ref (aa 0), .int (iz (s)), .int (iz (w))] (Pi (fun z m' => (RP (qPar (m 0 20) fa Rr Xx s w) m m' z) ∧ True)) := by
  refine v_entry hI RX11 (by decide) rfl (Nat.le_of_ble_eq_true rfl) (fun E hE C X => ?_)
  subst hE
  show V E (wR D cy aa ad) 3 m 0 [(0, .ref (aa 0)), (1, .int (iz (s))), (2, .int (iz (w)))] []
  refine v_aload_n C 0 dX11_part_0 rfl ?_
  refine v_iconst (z := 0) C dX11_part_1 rfl ?_
  refine v_put C 0 0 (0) 0 rfl lR0 (eR0 _) rfl inX11 tyX11 tyX11_ok nmX11 (by decide) qw1140 rfl rfl rfl (Nat.le_of_ble_eq_true rfl) (by rw [mup_r]; exact (eR0 _)) dX11_part_2 (fun m1 em1 => ?_)
  have fk2 : FK m m1 := by rw [em1]; exact FK.up 0 0 (by unfold CKj; omega)
  have hT2 := fk2.tt hT
  have e20 : m1 0 20 = m 0 20 := fk2.1 20 (Or.inr (Or.inl rfl))
  have ht01 : m 0 20 = 0 ∨ m 0 20 = 1 := hT.imp (fun a => a) (fun a => a.1)
  refine v_aload_n C 0 dX11_part_5 rfl ?_
  refine v_iload_n C 1 dX11_part_6 rfl ?_
  refine v_callV (st := []) (n := 1) (q := 0) C [.int (iz (s))] (ct_StageRatiosModel_isStage C.2.2.2.2.2.2.1 m1 (fa) (Af) (Bf) (Cf) (Rr) (Xx) (s) (by exact hT2) (by first | assumption | omega)) lR0 (eR0 _) rfl qw1464 qw16 qw1461 rfl rfl ⟨Nat.le_of_ble_eq_true rfl, Nat.le_of_ble_eq_true rfl⟩ (by decide +kernel) qw1463 qp57 rfl rfl (Nat.le_of_ble_eq_true rfl) dX11_part_7 (fun r m2 hq2 => ?_)
  obtain ⟨z2, rfl, ⟨rfl, hq2, rfl⟩ | ⟨rfl, hq2, rfl⟩⟩ := hq2
  · show V E (wR D cy aa ad) 3 m1 10 [(0, .ref (aa 0)), (1, .int (iz (s))), (2, .int (iz (w)))] [.int (iz (1))]
    rw [e20] at hq2
    obtain ⟨hT1, hs0⟩ := id hq2
    obtain ⟨-, hg0⟩ := hT.resolve_left (by omega)
    have hg := fk2.rt hg0
    obtain ⟨⟨r11, r8, r9, r10, r12⟩, r1, r2, r6, hvd, hfo⟩ := id hg
    obtain ⟨hn, hF, hup, hlw, hX⟩ := id hvd
    refine v_if_ne (tgt := 19) C dX11_part_10 (by decide) (by omega) (fun c3 => ?_) (fun c3 => by exact absurd c3 (by decide))
    refine v_aload_n C 0 dX11_part_19 rfl ?_
    refine v_callV (st := []) (n := 0) (q := 0) C [] (ct_StageRatiosModel_laysOwn C.2.2.2.2.2.2.1 m1 (fa) (Af) (Bf) (Cf) (Rr) (Xx) (by first | assumption | omega)) lR0 (eR0 _) rfl qw1476 qw16 qw1473 rfl rfl ⟨Nat.le_of_ble_eq_true rfl, Nat.le_of_ble_eq_true rfl⟩ (by decide +kernel) qw1475 qp59 rfl rfl (Nat.le_of_ble_eq_true rfl) dX11_part_20 (fun r m4 hq4 => ?_)
    obtain ⟨rfl, hq4⟩ := hq4
    show V E (wR D cy aa ad) 3 m4 23 [(0, .ref (aa 0)), (1, .int (iz (s))), (2, .int (iz (w)))] []
    have fk3 := fk2.tr (show FK _ m4 from ⟨fun j hj => hq4.2.1 j (by unfold CKj at hj; omega), fun q hq => hq4.2.2 q (by omega) (by omega)⟩)
    have hg3 := fk3.rt hg0
    have hd3 := hq4.1
    have hDv := hd3.2.2
    have hstr := fun (j : Int) (h0 : 0 ≤ j) (h1 : j ≤ Rr 5) => stZ_rng (s := j) hF hn.2 hDv.2.1 hDv.2.2 h0 h1
    have hUr := hX.u hF
    have e9 : m4 9 s = uX Xx s := hd3.2.1 s hs0.1 (by omega)
    have hfs := hF s hs0.1 hs0.2
    refine v_iload_n C 2 dX11_part_23 rfl ?_
    refine v_table C dX11_part_24 (by omega) (fun tgt ht c5 => ?_) (fun tgt off c5a c5b ho ht => ?_) ⟨133, by decide⟩ (fun ha hb => ?_)
    · obtain rfl : tgt = 133 := by omega
      refine v_aload_n C 0 dX11_part_133 rfl ?_
      refine v_iconst (z := 1) C dX11_part_134 rfl ?_
      refine v_callV (st := []) (n := 1) (q := 0) C [.int (iz (1))] (ct_StageRatiosModel_refused C.2.2.2.2.2.2.1 m4 (1) ) lR0 (eR0 _) rfl qw1340 qw16 qw1337 rfl rfl ⟨Nat.le_of_ble_eq_true rfl, Nat.le_of_ble_eq_true rfl⟩ (by decide +kernel) qw1339 qp36 rfl rfl (Nat.le_of_ble_eq_true rfl) dX11_part_135 (fun r m6 hq6 => ?_)
      obtain ⟨z6, rfl, rfl, hq6⟩ := hq6
      show V E (wR D cy aa ad) 3 m6 138 [(0, .ref (aa 0)), (1, .int (iz (s))), (2, .int (iz (w)))] [.int (iz (-1))]
      refine v_iret C X rfl dX11_part_138 ⟨_, rfl, ?_, ?_⟩
      · rw [← hq6]
        refine RP.mk fk3 ?_ (by decide)
        exact Or.inr ⟨fun h => by omega, rfl, rfl⟩
      · trivial
    · rcases (show w = 0 ∨ w = 1 ∨ w = 2 ∨ w = 3 ∨ w = 4 by omega) with c5 | c5 | c5 | c5 | c5
      · have ho : off = 36 := by rw [c5] at ho; exact (Option.some.inj ho).symm
        obtain rfl : tgt = 60 := by omega
        refine v_aload_n C 0 dX11_part_60 rfl ?_
        refine v_aload_n C 0 dX11_part_61 rfl ?_
        refine v_get C 0 33 lR0 (eR0 _) rfl inX11 (by decide) rfl qw1173 dX11_part_62 ?_
        refine v_iload_n C 1 dX11_part_65 rfl ?_
        refine v_iald C 9 lR9 (eR9 _) (by decide) (by omega) dX11_part_66 ?_
        refine v_callV (st := []) (n := 1) (q := 0) C [.int (iz (m4 9 s))] (ct_StageRatiosModel_good C.2.2.2.2.2.2.1 m4 (m4 9 s) ) lR0 (eR0 _) rfl qw1444 qw16 qw1441 rfl rfl ⟨Nat.le_of_ble_eq_true rfl, Nat.le_of_ble_eq_true rfl⟩ (by decide +kernel) qw1443 qp56 rfl rfl (Nat.le_of_ble_eq_true rfl) dX11_part_67 (fun r m7 hq7 => ?_)
        obtain ⟨z7, rfl, rfl, hq7⟩ := hq7
        show V E (wR D cy aa ad) 3 m7 70 [(0, .ref (aa 0)), (1, .int (iz (s))), (2, .int (iz (w)))] [.int (iz ((m4 9 s)))]
        refine v_iret C X rfl dX11_part_70 ⟨_, rfl, ?_, ?_⟩
        · rw [← hq7]
          refine RP.mk fk3 ?_ (by decide)
          obtain rfl : w = 0 := by omega
          exact Or.inl ⟨hq2, ⟨by omega, by omega⟩, rfl, fun h => by first | omega | exact e9, fun h => by first | omega | exact e9, fun h => by first | omega | exact e9, fun h => by first | omega | exact e9, fun h => by first | omega | exact e9⟩
        · trivial
      · have ho : off = 47 := by rw [c5] at ho; exact (Option.some.inj ho).symm
        obtain rfl : tgt = 71 := by omega
        refine v_aload_n C 0 dX11_part_71 rfl ?_
        refine v_aload_n C 0 dX11_part_72 rfl ?_
        refine v_iload_n C 1 dX11_part_73 rfl ?_
        refine v_callV (st := [.ref (aa 0)]) (n := 1) (q := 0) C [.int (iz (s))] (ct_StageRatiosModel_start C.2.2.2.2.2.2.1 m4 (fa) (Af) (Bf) (Cf) (Rr) (Xx) (Xx 0) (uX Xx) (s) (by exact hg3) (by exact hd3) (by first | assumption | omega)) lR0 (eR0 _) rfl qw1480 qw16 qw1477 rfl rfl ⟨Nat.le_of_ble_eq_true rfl, Nat.le_of_ble_eq_true rfl⟩ (by decide +kernel) qw1479 qp60 rfl rfl (Nat.le_of_ble_eq_true rfl) dX11_part_74 (fun r m8 hq8 => ?_)
        obtain ⟨z8, rfl, rfl, rfl⟩ := hq8
        show V E (wR D cy aa ad) 3 m4 77 [(0, .ref (aa 0)), (1, .int (iz (s))), (2, .int (iz (w)))] [.int (iz (stZ fa (Rr 5) (Xx 0) (uX Xx) s)), .ref (aa 0)]
        refine v_callV (st := []) (n := 1) (q := 0) C [.int (iz (stZ fa (Rr 5) (Xx 0) (uX Xx) s))] (ct_StageRatiosModel_good C.2.2.2.2.2.2.1 m4 (stZ fa (Rr 5) (Xx 0) (uX Xx) s) ) lR0 (eR0 _) rfl qw1444 qw16 qw1441 rfl rfl ⟨Nat.le_of_ble_eq_true rfl, Nat.le_of_ble_eq_true rfl⟩ (by decide +kernel) qw1443 qp56 rfl rfl (Nat.le_of_ble_eq_true rfl) dX11_part_77 (fun r m9 hq9 => ?_)
        obtain ⟨z9, rfl, rfl, hq9⟩ := hq9
        show V E (wR D cy aa ad) 3 m9 80 [(0, .ref (aa 0)), (1, .int (iz (s))), (2, .int (iz (w)))] [.int (iz ((stZ fa (Rr 5) (Xx 0) (uX Xx) s)))]
        refine v_iret C X rfl dX11_part_80 ⟨_, rfl, ?_, ?_⟩
        · rw [← hq9]
          refine RP.mk fk3 ?_ (by decide)
          obtain rfl : w = 1 := by omega
          exact Or.inl ⟨hq2, ⟨by omega, by omega⟩, rfl, fun h => by first | omega | rfl, fun h => by first | omega | rfl, fun h => by first | omega | rfl, fun h => by first | omega | rfl, fun h => by first | omega | rfl⟩
        · trivial
      · have ho : off = 57 := by rw [c5] at ho; exact (Option.some.inj ho).symm
        obtain rfl : tgt = 81 := by omega
        refine v_aload_n C 0 dX11_part_81 rfl ?_
        refine v_aload_n C 0 dX11_part_82 rfl ?_
        refine v_iload_n C 1 dX11_part_83 rfl ?_
        refine v_callV (st := [.ref (aa 0)]) (n := 1) (q := 0) C [.int (iz (s))] (ct_StageRatiosModel_start C.2.2.2.2.2.2.1 m4 (fa) (Af) (Bf) (Cf) (Rr) (Xx) (Xx 0) (uX Xx) (s) (by exact hg3) (by exact hd3) (by first | assumption | omega)) lR0 (eR0 _) rfl qw1480 qw16 qw1477 rfl rfl ⟨Nat.le_of_ble_eq_true rfl, Nat.le_of_ble_eq_true rfl⟩ (by decide +kernel) qw1479 qp60 rfl rfl (Nat.le_of_ble_eq_true rfl) dX11_part_84 (fun r m10 hq10 => ?_)
        obtain ⟨z10, rfl, rfl, rfl⟩ := hq10
        show V E (wR D cy aa ad) 3 m4 87 [(0, .ref (aa 0)), (1, .int (iz (s))), (2, .int (iz (w)))] [.int (iz (stZ fa (Rr 5) (Xx 0) (uX Xx) s)), .ref (aa 0)]
        refine v_aload_n C 0 dX11_part_87 rfl ?_
        refine v_get C 0 33 lR0 (eR0 _) rfl inX11 (by decide) rfl qw1173 dX11_part_88 ?_
        refine v_iload_n C 1 dX11_part_91 rfl ?_
        refine v_iald C 9 lR9 (eR9 _) (by decide) (by omega) dX11_part_92 ?_
        refine v_isub C dX11_part_93 ?_
        refine v_callV (st := []) (n := 1) (q := 0) C [.int (iz ((stZ fa (Rr 5) (Xx 0) (uX Xx) s) - (m4 9 s)))] (ct_StageRatiosModel_good C.2.2.2.2.2.2.1 m4 ((stZ fa (Rr 5) (Xx 0) (uX Xx) s) - (m4 9 s)) ) lR0 (eR0 _) rfl qw1444 qw16 qw1441 rfl rfl ⟨Nat.le_of_ble_eq_true rfl, Nat.le_of_ble_eq_true rfl⟩ (by decide +kernel) qw1443 qp56 rfl rfl (Nat.le_of_ble_eq_true rfl) dX11_part_94 (fun r m11 hq11 => ?_)
        obtain ⟨z11, rfl, rfl, hq11⟩ := hq11
        show V E (wR D cy aa ad) 3 m11 97 [(0, .ref (aa 0)), (1, .int (iz (s))), (2, .int (iz (w)))] [.int (iz (((stZ fa (Rr 5) (Xx 0) (uX Xx) s) - (m4 9 s))))]
        refine v_iret C X rfl dX11_part_97 ⟨_, rfl, ?_, ?_⟩
        · rw [← hq11]
          refine RP.mk fk3 ?_ (by decide)
          obtain rfl : w = 2 := by omega
          exact Or.inl ⟨hq2, ⟨by omega, by omega⟩, rfl, fun h => by first | omega | (rw [e9]; rfl), fun h => by first | omega | (rw [e9]; rfl), fun h => by first | omega | (rw [e9]; rfl), fun h => by first | omega | (rw [e9]; rfl), fun h => by first | omega | (rw [e9]; rfl)⟩
        · trivial
      · have ho : off = 74 := by rw [c5] at ho; exact (Option.some.inj ho).symm
        obtain rfl : tgt = 98 := by omega
        refine v_aload_n C 0 dX11_part_98 rfl ?_
        refine v_aload_n C 0 dX11_part_99 rfl ?_
        refine v_iload_n C 1 dX11_part_100 rfl ?_
        refine v_callV (st := [.ref (aa 0)]) (n := 1) (q := 0) C [.int (iz (s))] (ct_StageRatiosModel_stageHolds C.2.2.2.2.2.2.1 m4 (fa) (Af) (Bf) (Cf) (Rr) (Xx) (Xx 0) (uX Xx) (s) (by exact hg3) (by exact hd3) (by first | assumption | omega)) lR0 (eR0 _) rfl qw1484 qw16 qw1481 rfl rfl ⟨Nat.le_of_ble_eq_true rfl, Nat.le_of_ble_eq_true rfl⟩ (by decide +kernel) qw1483 qp61 rfl rfl (Nat.le_of_ble_eq_true rfl) dX11_part_101 (fun r m12 hq12 => ?_)
        obtain ⟨z12, rfl, ⟨rfl, hq12, rfl⟩ | ⟨rfl, hq12, rfl⟩⟩ := hq12
        · show V E (wR D cy aa ad) 3 m4 104 [(0, .ref (aa 0)), (1, .int (iz (s))), (2, .int (iz (w)))] [.int (iz (1)), .ref (aa 0)]
          refine v_if_eq (tgt := 111) C dX11_part_104 (by decide) (by omega) (fun c13 => by exact absurd c13 (by decide)) (fun c13 => ?_)
          refine v_iconst (z := 1) C dX11_part_107 rfl ?_
          refine v_goto (tgt := 112) C dX11_part_108 (by decide) ?_
          refine v_callV (st := []) (n := 1) (q := 0) C [.int (iz (1))] (ct_StageRatiosModel_good C.2.2.2.2.2.2.1 m4 (1) ) lR0 (eR0 _) rfl qw1444 qw16 qw1441 rfl rfl ⟨Nat.le_of_ble_eq_true rfl, Nat.le_of_ble_eq_true rfl⟩ (by decide +kernel) qw1443 qp56 rfl rfl (Nat.le_of_ble_eq_true rfl) dX11_part_112 (fun r m14 hq14 => ?_)
          obtain ⟨z14, rfl, rfl, hq14⟩ := hq14
          show V E (wR D cy aa ad) 3 m14 115 [(0, .ref (aa 0)), (1, .int (iz (s))), (2, .int (iz (w)))] [.int (iz (1))]
          refine v_iret C X rfl dX11_part_115 ⟨_, rfl, ?_, ?_⟩
          · rw [← hq14]
            refine RP.mk fk3 ?_ (by decide)
            obtain rfl : w = 3 := by omega
            exact Or.inl ⟨hq2, ⟨by omega, by omega⟩, rfl, fun h => by first | omega | first | exact Or.inl ⟨rfl, hq12⟩ | exact Or.inr ⟨rfl, hq12⟩, fun h => by first | omega | first | exact Or.inl ⟨rfl, hq12⟩ | exact Or.inr ⟨rfl, hq12⟩, fun h => by first | omega | first | exact Or.inl ⟨rfl, hq12⟩ | exact Or.inr ⟨rfl, hq12⟩, fun h => by first | omega | first | exact Or.inl ⟨rfl, hq12⟩ | exact Or.inr ⟨rfl, hq12⟩, fun h => by first | omega | first | exact Or.inl ⟨rfl, hq12⟩ | exact Or.inr ⟨rfl, hq12⟩⟩
          · trivial
        · show V E (wR D cy aa ad) 3 m4 104 [(0, .ref (aa 0)), (1, .int (iz (s))), (2, .int (iz (w)))] [.int (iz (0)), .ref (aa 0)]
          refine v_if_eq (tgt := 111) C dX11_part_104 (by decide) (by omega) (fun c15 => ?_) (fun c15 => by exact absurd c15 (by decide))
          refine v_iconst (z := 0) C dX11_part_111 rfl ?_
          refine v_callV (st := []) (n := 1) (q := 0) C [.int (iz (0))] (ct_StageRatiosModel_good C.2.2.2.2.2.2.1 m4 (0) ) lR0 (eR0 _) rfl qw1444 qw16 qw1441 rfl rfl ⟨Nat.le_of_ble_eq_true rfl, Nat.le_of_ble_eq_true rfl⟩ (by decide +kernel) qw1443 qp56 rfl rfl (Nat.le_of_ble_eq_true rfl) dX11_part_112 (fun r m16 hq16 => ?_)
          obtain ⟨z16, rfl, rfl, hq16⟩ := hq16
          show V E (wR D cy aa ad) 3 m16 115 [(0, .ref (aa 0)), (1, .int (iz (s))), (2, .int (iz (w)))] [.int (iz (0))]
          refine v_iret C X rfl dX11_part_115 ⟨_, rfl, ?_, ?_⟩
          · rw [← hq16]
            refine RP.mk fk3 ?_ (by decide)
            obtain rfl : w = 3 := by omega
            exact Or.inl ⟨hq2, ⟨by omega, by omega⟩, rfl, fun h => by first | omega | first | exact Or.inl ⟨rfl, hq12⟩ | exact Or.inr ⟨rfl, hq12⟩, fun h => by first | omega | first | exact Or.inl ⟨rfl, hq12⟩ | exact Or.inr ⟨rfl, hq12⟩, fun h => by first | omega | first | exact Or.inl ⟨rfl, hq12⟩ | exact Or.inr ⟨rfl, hq12⟩, fun h => by first | omega | first | exact Or.inl ⟨rfl, hq12⟩ | exact Or.inr ⟨rfl, hq12⟩, fun h => by first | omega | first | exact Or.inl ⟨rfl, hq12⟩ | exact Or.inr ⟨rfl, hq12⟩⟩
          · trivial
      · have ho : off = 92 := by rw [c5] at ho; exact (Option.some.inj ho).symm
        obtain rfl : tgt = 116 := by omega
        refine v_aload_n C 0 dX11_part_116 rfl ?_
        refine v_aload_n C 0 dX11_part_117 rfl ?_
        refine v_iload_n C 1 dX11_part_118 rfl ?_
        refine v_aload_n C 0 dX11_part_119 rfl ?_
        refine v_iload_n C 1 dX11_part_120 rfl ?_
        refine v_bipush (z := 8) C dX11_part_121 (by decide) ?_
        refine v_callV (st := [.int (iz (s)), .ref (aa 0), .ref (aa 0)]) (n := 2) (q := 0) C [.int (iz (s)), .int (iz (8))] (ct_StageRatiosModel_told C.2.2.2.2.2.2.1 m4 (fa) (Af) (Bf) (Cf) (Rr) (Xx) (s) (8) (by exact hg3) (by exact hs0) (by first | assumption | omega)) lR0 (eR0 _) rfl qw1440 qw16 qw1437 rfl rfl ⟨Nat.le_of_ble_eq_true rfl, Nat.le_of_ble_eq_true rfl⟩ (by decide +kernel) qw1439 qp55 rfl rfl (Nat.le_of_ble_eq_true rfl) dX11_part_123 (fun r m17 hq17 => ?_)
        obtain ⟨z17, rfl, rfl, rfl⟩ := hq17
        show V E (wR D cy aa ad) 3 m4 126 [(0, .ref (aa 0)), (1, .int (iz (s))), (2, .int (iz (w)))] [.int (iz (fa (s * 9 + 8))), .int (iz (s)), .ref (aa 0), .ref (aa 0)]
        refine v_callV (st := [.ref (aa 0)]) (n := 2) (q := 0) C [.int (iz (s)), .int (iz (fa (s * 9 + 8)))] (ct_StageRatiosModel_marginOf C.2.2.2.2.2.2.1 m4 (fa) (Af) (Bf) (Cf) (Rr) (Xx) (Xx 0) (uX Xx) (s) (fa (s * 9 + 8)) (by exact hg3) (by exact hd3) (by first | assumption | omega) (by first | assumption | omega)) lR0 (eR0 _) rfl qw1488 qw16 qw1485 rfl rfl ⟨Nat.le_of_ble_eq_true rfl, Nat.le_of_ble_eq_true rfl⟩ (by decide +kernel) qw1487 qp62 rfl rfl (Nat.le_of_ble_eq_true rfl) dX11_part_126 (fun r m18 hq18 => ?_)
        obtain ⟨z18, rfl, rfl, rfl⟩ := hq18
        show V E (wR D cy aa ad) 3 m4 129 [(0, .ref (aa 0)), (1, .int (iz (s))), (2, .int (iz (w)))] [.int (iz (mgZ fa s (fa (s * 9 + 8)) (stZ fa (Rr 5) (Xx 0) (uX Xx) s))), .ref (aa 0)]
        refine v_callV (st := []) (n := 1) (q := 0) C [.int (iz (mgZ fa s (fa (s * 9 + 8)) (stZ fa (Rr 5) (Xx 0) (uX Xx) s)))] (ct_StageRatiosModel_good C.2.2.2.2.2.2.1 m4 (mgZ fa s (fa (s * 9 + 8)) (stZ fa (Rr 5) (Xx 0) (uX Xx) s)) ) lR0 (eR0 _) rfl qw1444 qw16 qw1441 rfl rfl ⟨Nat.le_of_ble_eq_true rfl, Nat.le_of_ble_eq_true rfl⟩ (by decide +kernel) qw1443 qp56 rfl rfl (Nat.le_of_ble_eq_true rfl) dX11_part_129 (fun r m19 hq19 => ?_)
        obtain ⟨z19, rfl, rfl, hq19⟩ := hq19
        show V E (wR D cy aa ad) 3 m19 132 [(0, .ref (aa 0)), (1, .int (iz (s))), (2, .int (iz (w)))] [.int (iz ((mgZ fa s (fa (s * 9 + 8)) (stZ fa (Rr 5) (Xx 0) (uX Xx) s))))]
        refine v_iret C X rfl dX11_part_132 ⟨_, rfl, ?_, ?_⟩
        · rw [← hq19]
          refine RP.mk fk3 ?_ (by decide)
          obtain rfl : w = 4 := by omega
          exact Or.inl ⟨hq2, ⟨by omega, by omega⟩, rfl, fun h => by first | omega | rfl, fun h => by first | omega | rfl, fun h => by first | omega | rfl, fun h => by first | omega | rfl, fun h => by first | omega | rfl⟩
        · trivial
    · rcases (show w = 0 ∨ w = 1 ∨ w = 2 ∨ w = 3 ∨ w = 4 by omega) with c5 | c5 | c5 | c5 | c5
      · exact ⟨60, 36, by rw [c5]; rfl, by decide⟩
      · exact ⟨71, 47, by rw [c5]; rfl, by decide⟩
      · exact ⟨81, 57, by rw [c5]; rfl, by decide⟩
      · exact ⟨98, 74, by rw [c5]; rfl, by decide⟩
      · exact ⟨116, 92, by rw [c5]; rfl, by decide⟩
  · show V E (wR D cy aa ad) 3 m1 10 [(0, .ref (aa 0)), (1, .int (iz (s))), (2, .int (iz (w)))] [.int (iz (0))]
    refine v_if_ne (tgt := 19) C dX11_part_10 (by decide) (by omega) (fun c20 => by exact absurd c20 (by decide)) (fun c20 => ?_)
    refine v_aload_n C 0 dX11_part_13 rfl ?_
    refine v_iconst (z := 1) C dX11_part_14 rfl ?_
    refine v_callV (st := []) (n := 1) (q := 0) C [.int (iz (1))] (ct_StageRatiosModel_refused C.2.2.2.2.2.2.1 m1 (1) ) lR0 (eR0 _) rfl qw1340 qw16 qw1337 rfl rfl ⟨Nat.le_of_ble_eq_true rfl, Nat.le_of_ble_eq_true rfl⟩ (by decide +kernel) qw1339 qp36 rfl rfl (Nat.le_of_ble_eq_true rfl) dX11_part_15 (fun r m21 hq21 => ?_)
    obtain ⟨z21, rfl, rfl, hq21⟩ := hq21
    show V E (wR D cy aa ad) 3 m21 18 [(0, .ref (aa 0)), (1, .int (iz (s))), (2, .int (iz (w)))] [.int (iz (-1))]
    refine v_iret C X rfl dX11_part_18 ⟨_, rfl, ?_, ?_⟩
    · rw [← hq21]
      refine RP.mk fk2 ?_ (by decide)
      exact Or.inr ⟨fun h => by rw [e20] at hq2; exact hq2 h.1, rfl, rfl⟩
    · trivial

set_option maxHeartbeats 4000000 in
set_option maxRecDepth 100000 in
theorem ct_StageRatiosModel_margin {lau : Launch} {D : va_G} {cy : Nat → ClassId} {aa ad : Nat → Nat} (hI : wI (wR D cy aa ad)) (m : Mem) (fa Af Bf Cf Rr Xx : Int → Int) (s w : Int) (hT : TT m fa Af Bf Cf Rr Xx) (hs : -2147483648 ≤ s ∧ s ≤ 2147483647) (hw : -2147483648 ≤ w ∧ w ≤ 2147483647) : MT lau (wR D cy aa ad) yX11_margin cX11_margin 3 (some .int) ({ frames := 4, cells := 0, slots := 0, locals := 89 } : Room) m [.ref (aa 0), .int (iz (s)), .int (iz (w))] (Pi (fun z m' => (RP (qMar (m 0 20) fa Rr Xx s w) m m' z) ∧ True)) := by
  refine v_entry hI RX11 (by decide) rfl (Nat.le_of_ble_eq_true rfl) (fun E hE C X => ?_)
  subst hE
  show V E (wR D cy aa ad) 3 m 0 [(0, .ref (aa 0)), (1, .int (iz (s))), (2, .int (iz (w)))] []
  refine v_aload_n C 0 dX11_margin_0 rfl ?_
  refine v_iconst (z := 0) C dX11_margin_1 rfl ?_
  refine v_put C 0 0 (0) 0 rfl lR0 (eR0 _) rfl inX11 tyX11 tyX11_ok nmX11 (by decide) qw1140 rfl rfl rfl (Nat.le_of_ble_eq_true rfl) (by rw [mup_r]; exact (eR0 _)) dX11_margin_2 (fun m1 em1 => ?_)
  have fk2 : FK m m1 := by rw [em1]; exact FK.up 0 0 (by unfold CKj; omega)
  have hT2 := fk2.tt hT
  have e20 : m1 0 20 = m 0 20 := fk2.1 20 (Or.inr (Or.inl rfl))
  have ht01 : m 0 20 = 0 ∨ m 0 20 = 1 := hT.imp (fun a => a) (fun a => a.1)
  refine v_aload_n C 0 dX11_margin_5 rfl ?_
  refine v_iload_n C 1 dX11_margin_6 rfl ?_
  refine v_callV (st := []) (n := 1) (q := 0) C [.int (iz (s))] (ct_StageRatiosModel_isStage C.2.2.2.2.2.2.1 m1 (fa) (Af) (Bf) (Cf) (Rr) (Xx) (s) (by exact hT2) (by first | assumption | omega)) lR0 (eR0 _) rfl qw1464 qw16 qw1461 rfl rfl ⟨Nat.le_of_ble_eq_true rfl, Nat.le_of_ble_eq_true rfl⟩ (by decide +kernel) qw1463 qp57 rfl rfl (Nat.le_of_ble_eq_true rfl) dX11_margin_7 (fun r m2 hq2 => ?_)
  obtain ⟨z2, rfl, ⟨rfl, hq2, rfl⟩ | ⟨rfl, hq2, rfl⟩⟩ := hq2
  · show V E (wR D cy aa ad) 3 m1 10 [(0, .ref (aa 0)), (1, .int (iz (s))), (2, .int (iz (w)))] [.int (iz (1))]
    rw [e20] at hq2
    obtain ⟨hT1, hs0⟩ := id hq2
    obtain ⟨-, hg0⟩ := hT.resolve_left (by omega)
    have hg := fk2.rt hg0
    obtain ⟨⟨r11, r8, r9, r10, r12⟩, r1, r2, r6, hvd, hfo⟩ := id hg
    obtain ⟨hn, hF, hup, hlw, hX⟩ := id hvd
    have hfs := hF s hs0.1 hs0.2
    refine v_if_ne (tgt := 19) C dX11_margin_10 (by decide) (by omega) (fun c3 => ?_) (fun c3 => by exact absurd c3 (by decide))
    refine v_iload_n C 2 dX11_margin_19 rfl ?_
    refine v_iconst (z := 0) C dX11_margin_20 rfl ?_
    refine v_aload_n C 0 dX11_margin_21 rfl ?_
    refine v_iload_n C 1 dX11_margin_22 rfl ?_
    refine v_iconst (z := 4) C dX11_margin_23 rfl ?_
    refine v_callV (st := [.int (iz (0)), .int (iz (w))]) (n := 2) (q := 0) C [.int (iz (s)), .int (iz (4))] (ct_StageRatiosModel_told C.2.2.2.2.2.2.1 m1 (fa) (Af) (Bf) (Cf) (Rr) (Xx) (s) (4) (by first | assumption | omega) (by first | assumption | omega) (by first | assumption | omega)) lR0 (eR0 _) rfl qw1440 qw16 qw1437 rfl rfl ⟨Nat.le_of_ble_eq_true rfl, Nat.le_of_ble_eq_true rfl⟩ (by decide +kernel) qw1439 qp55 rfl rfl (Nat.le_of_ble_eq_true rfl) dX11_margin_24 (fun r m4 hq4 => ?_)
    obtain ⟨z4, rfl, rfl, rfl⟩ := hq4
    show V E (wR D cy aa ad) 3 m1 27 [(0, .ref (aa 0)), (1, .int (iz (s))), (2, .int (iz (w)))] [.int (iz (fa (s * 9 + 4))), .int (iz (0)), .int (iz (w))]
    refine v_callS (st := []) (n := 3) C [.int (iz (w)), .int (iz (0)), .int (iz (fa (s * 9 + 4)))] (ct_StageRatiosModel_in C.2.2.2.2.2.2.1 m1 (w) (0) (fa (s * 9 + 4)) (by first | assumption | omega) (by first | assumption | omega) (by first | assumption | omega)) qw1355 qw16 qw1353 rfl rfl ⟨Nat.le_of_ble_eq_true rfl, Nat.le_of_ble_eq_true rfl⟩ (by decide +kernel) qw1354 rfl rfl (Nat.le_of_ble_eq_true rfl) dX11_margin_27 (fun r m5 hq5 => ?_)
    obtain ⟨z5, rfl, ⟨rfl, hq5, rfl⟩ | ⟨rfl, hq5, rfl⟩⟩ := hq5
    · show V E (wR D cy aa ad) 3 m1 30 [(0, .ref (aa 0)), (1, .int (iz (s))), (2, .int (iz (w)))] [.int (iz (1))]
      refine v_if_ne (tgt := 39) C dX11_margin_30 (by decide) (by omega) (fun c6 => ?_) (fun c6 => by exact absurd c6 (by decide))
      refine v_aload_n C 0 dX11_margin_39 rfl ?_
      refine v_callV (st := []) (n := 0) (q := 0) C [] (ct_StageRatiosModel_laysOwn C.2.2.2.2.2.2.1 m1 (fa) (Af) (Bf) (Cf) (Rr) (Xx) (by first | assumption | omega)) lR0 (eR0 _) rfl qw1476 qw16 qw1473 rfl rfl ⟨Nat.le_of_ble_eq_true rfl, Nat.le_of_ble_eq_true rfl⟩ (by decide +kernel) qw1475 qp59 rfl rfl (Nat.le_of_ble_eq_true rfl) dX11_margin_40 (fun r m7 hq7 => ?_)
      obtain ⟨rfl, hq7⟩ := hq7
      show V E (wR D cy aa ad) 3 m7 43 [(0, .ref (aa 0)), (1, .int (iz (s))), (2, .int (iz (w)))] []
      have fk3 := fk2.tr (show FK _ m7 from ⟨fun j hj => hq7.2.1 j (by unfold CKj at hj; omega), fun q hq => hq7.2.2 q (by omega) (by omega)⟩)
      have hg3 := fk3.rt hg0
      have hd3 := hq7.1
      have hDv := hd3.2.2
      have hstr := fun (j : Int) (h0 : 0 ≤ j) (h1 : j ≤ Rr 5) => stZ_rng (s := j) hF hn.2 hDv.2.1 hDv.2.2 h0 h1
      have hUr := hX.u hF
      refine v_aload_n C 0 dX11_margin_43 rfl ?_
      refine v_aload_n C 0 dX11_margin_44 rfl ?_
      refine v_iload_n C 1 dX11_margin_45 rfl ?_
      refine v_iload_n C 2 dX11_margin_46 rfl ?_
      refine v_callV (st := [.ref (aa 0)]) (n := 2) (q := 0) C [.int (iz (s)), .int (iz (w))] (ct_StageRatiosModel_marginOf C.2.2.2.2.2.2.1 m7 (fa) (Af) (Bf) (Cf) (Rr) (Xx) (Xx 0) (uX Xx) (s) (w) (by exact hg3) (by exact hd3) (by first | assumption | omega) (by first | assumption | omega)) lR0 (eR0 _) rfl qw1488 qw16 qw1485 rfl rfl ⟨Nat.le_of_ble_eq_true rfl, Nat.le_of_ble_eq_true rfl⟩ (by decide +kernel) qw1487 qp62 rfl rfl (Nat.le_of_ble_eq_true rfl) dX11_margin_47 (fun r m8 hq8 => ?_)
      obtain ⟨z8, rfl, rfl, rfl⟩ := hq8
      show V E (wR D cy aa ad) 3 m7 50 [(0, .ref (aa 0)), (1, .int (iz (s))), (2, .int (iz (w)))] [.int (iz (mgZ fa s w (stZ fa (Rr 5) (Xx 0) (uX Xx) s))), .ref (aa 0)]
      refine v_callV (st := []) (n := 1) (q := 0) C [.int (iz (mgZ fa s w (stZ fa (Rr 5) (Xx 0) (uX Xx) s)))] (ct_StageRatiosModel_good C.2.2.2.2.2.2.1 m7 (mgZ fa s w (stZ fa (Rr 5) (Xx 0) (uX Xx) s)) ) lR0 (eR0 _) rfl qw1444 qw16 qw1441 rfl rfl ⟨Nat.le_of_ble_eq_true rfl, Nat.le_of_ble_eq_true rfl⟩ (by decide +kernel) qw1443 qp56 rfl rfl (Nat.le_of_ble_eq_true rfl) dX11_margin_50 (fun r m9 hq9 => ?_)
      obtain ⟨z9, rfl, rfl, hq9⟩ := hq9
      show V E (wR D cy aa ad) 3 m9 53 [(0, .ref (aa 0)), (1, .int (iz (s))), (2, .int (iz (w)))] [.int (iz ((mgZ fa s w (stZ fa (Rr 5) (Xx 0) (uX Xx) s))))]
      refine v_iret C X rfl dX11_margin_53 ⟨_, rfl, ?_, ?_⟩
      · rw [← hq9]
        refine RP.mk fk3 ?_ (by decide)
        exact Or.inl ⟨hq2, hq5, rfl, rfl⟩
      · trivial
    · show V E (wR D cy aa ad) 3 m1 30 [(0, .ref (aa 0)), (1, .int (iz (s))), (2, .int (iz (w)))] [.int (iz (0))]
      refine v_if_ne (tgt := 39) C dX11_margin_30 (by decide) (by omega) (fun c10 => by exact absurd c10 (by decide)) (fun c10 => ?_)
      refine v_aload_n C 0 dX11_margin_33 rfl ?_
      refine v_iconst (z := 2) C dX11_margin_34 rfl ?_
      refine v_callV (st := []) (n := 1) (q := 0) C [.int (iz (2))] (ct_StageRatiosModel_refused C.2.2.2.2.2.2.1 m1 (2) ) lR0 (eR0 _) rfl qw1340 qw16 qw1337 rfl rfl ⟨Nat.le_of_ble_eq_true rfl, Nat.le_of_ble_eq_true rfl⟩ (by decide +kernel) qw1339 qp36 rfl rfl (Nat.le_of_ble_eq_true rfl) dX11_margin_35 (fun r m11 hq11 => ?_)
      obtain ⟨z11, rfl, rfl, hq11⟩ := hq11
      show V E (wR D cy aa ad) 3 m11 38 [(0, .ref (aa 0)), (1, .int (iz (s))), (2, .int (iz (w)))] [.int (iz (-1))]
      refine v_iret C X rfl dX11_margin_38 ⟨_, rfl, ?_, ?_⟩
      · rw [← hq11]
        refine RP.mk fk2 ?_ (by decide)
        exact Or.inr (Or.inl ⟨hq2, hq5, rfl, rfl⟩)
      · trivial
  · show V E (wR D cy aa ad) 3 m1 10 [(0, .ref (aa 0)), (1, .int (iz (s))), (2, .int (iz (w)))] [.int (iz (0))]
    refine v_if_ne (tgt := 19) C dX11_margin_10 (by decide) (by omega) (fun c12 => by exact absurd c12 (by decide)) (fun c12 => ?_)
    refine v_aload_n C 0 dX11_margin_13 rfl ?_
    refine v_iconst (z := 1) C dX11_margin_14 rfl ?_
    refine v_callV (st := []) (n := 1) (q := 0) C [.int (iz (1))] (ct_StageRatiosModel_refused C.2.2.2.2.2.2.1 m1 (1) ) lR0 (eR0 _) rfl qw1340 qw16 qw1337 rfl rfl ⟨Nat.le_of_ble_eq_true rfl, Nat.le_of_ble_eq_true rfl⟩ (by decide +kernel) qw1339 qp36 rfl rfl (Nat.le_of_ble_eq_true rfl) dX11_margin_15 (fun r m13 hq13 => ?_)
    obtain ⟨z13, rfl, rfl, hq13⟩ := hq13
    show V E (wR D cy aa ad) 3 m13 18 [(0, .ref (aa 0)), (1, .int (iz (s))), (2, .int (iz (w)))] [.int (iz (-1))]
    refine v_iret C X rfl dX11_margin_18 ⟨_, rfl, ?_, ?_⟩
    · rw [← hq13]
      refine RP.mk fk2 ?_ (by decide)
      exact Or.inr (Or.inr ⟨e20 ▸ hq2, rfl, rfl⟩)
    · trivial

set_option maxHeartbeats 4000000 in
set_option maxRecDepth 100000 in
theorem ct_StageRatiosModel_spare {lau : Launch} {D : va_G} {cy : Nat → ClassId} {aa ad : Nat → Nat} (hI : wI (wR D cy aa ad)) (m : Mem) (fa Af Bf Cf Rr Xx : Int → Int) (s : Int) (hT : TT m fa Af Bf Cf Rr Xx) (hs : -2147483648 ≤ s ∧ s ≤ 2147483647) : MT lau (wR D cy aa ad) yX11_spare cX11_spare 4 (some .int) ({ frames := 4, cells := 0, slots := 0, locals := 89 } : Room) m [.ref (aa 0), .int (iz (s))] (Pi (fun z m' => (RP (qSpa (m 0 20) fa Rr Xx s) m m' z) ∧ True)) := by
  refine v_entry hI RX11 (by decide) rfl (Nat.le_of_ble_eq_true rfl) (fun E hE C X => ?_)
  subst hE
  show V E (wR D cy aa ad) 4 m 0 [(0, .ref (aa 0)), (1, .int (iz (s)))] []
  refine v_aload_n C 0 dX11_spare_0 rfl ?_
  refine v_iconst (z := 0) C dX11_spare_1 rfl ?_
  refine v_put C 0 0 (0) 0 rfl lR0 (eR0 _) rfl inX11 tyX11 tyX11_ok nmX11 (by decide) qw1140 rfl rfl rfl (Nat.le_of_ble_eq_true rfl) (by rw [mup_r]; exact (eR0 _)) dX11_spare_2 (fun m1 em1 => ?_)
  have fk2 : FK m m1 := by rw [em1]; exact FK.up 0 0 (by unfold CKj; omega)
  have hT2 := fk2.tt hT
  have e20 : m1 0 20 = m 0 20 := fk2.1 20 (Or.inr (Or.inl rfl))
  have ht01 : m 0 20 = 0 ∨ m 0 20 = 1 := hT.imp (fun a => a) (fun a => a.1)
  refine v_aload_n C 0 dX11_spare_5 rfl ?_
  refine v_iload_n C 1 dX11_spare_6 rfl ?_
  refine v_callV (st := []) (n := 1) (q := 0) C [.int (iz (s))] (ct_StageRatiosModel_isStage C.2.2.2.2.2.2.1 m1 (fa) (Af) (Bf) (Cf) (Rr) (Xx) (s) (by exact hT2) (by first | assumption | omega)) lR0 (eR0 _) rfl qw1464 qw16 qw1461 rfl rfl ⟨Nat.le_of_ble_eq_true rfl, Nat.le_of_ble_eq_true rfl⟩ (by decide +kernel) qw1463 qp57 rfl rfl (Nat.le_of_ble_eq_true rfl) dX11_spare_7 (fun r m2 hq2 => ?_)
  obtain ⟨z2, rfl, ⟨rfl, hq2, rfl⟩ | ⟨rfl, hq2, rfl⟩⟩ := hq2
  · show V E (wR D cy aa ad) 4 m1 10 [(0, .ref (aa 0)), (1, .int (iz (s)))] [.int (iz (1))]
    rw [e20] at hq2
    obtain ⟨hT1, hs0⟩ := id hq2
    obtain ⟨-, hg0⟩ := hT.resolve_left (by omega)
    have hg := fk2.rt hg0
    obtain ⟨⟨r11, r8, r9, r10, r12⟩, r1, r2, r6, hvd, hfo⟩ := id hg
    obtain ⟨hn, hF, hup, hlw, hX⟩ := id hvd
    have hfs := hF s hs0.1 hs0.2
    refine v_if_ne (tgt := 19) C dX11_spare_10 (by decide) (by omega) (fun c3 => ?_) (fun c3 => by exact absurd c3 (by decide))
    refine v_aload_n C 0 dX11_spare_19 rfl ?_
    refine v_callV (st := []) (n := 0) (q := 0) C [] (ct_StageRatiosModel_laysOwn C.2.2.2.2.2.2.1 m1 (fa) (Af) (Bf) (Cf) (Rr) (Xx) (by first | assumption | omega)) lR0 (eR0 _) rfl qw1476 qw16 qw1473 rfl rfl ⟨Nat.le_of_ble_eq_true rfl, Nat.le_of_ble_eq_true rfl⟩ (by decide +kernel) qw1475 qp59 rfl rfl (Nat.le_of_ble_eq_true rfl) dX11_spare_20 (fun r m4 hq4 => ?_)
    obtain ⟨rfl, hq4⟩ := hq4
    show V E (wR D cy aa ad) 4 m4 23 [(0, .ref (aa 0)), (1, .int (iz (s)))] []
    have fk3 := fk2.tr (show FK _ m4 from ⟨fun j hj => hq4.2.1 j (by unfold CKj at hj; omega), fun q hq => hq4.2.2 q (by omega) (by omega)⟩)
    have hg3 := fk3.rt hg0
    have hd3 := hq4.1
    have hDv := hd3.2.2
    have hstr := fun (j : Int) (h0 : 0 ≤ j) (h1 : j ≤ Rr 5) => stZ_rng (s := j) hF hn.2 hDv.2.1 hDv.2.2 h0 h1
    have hUr := hX.u hF
    refine v_bipush (z := -2) C dX11_spare_23 (by decide) ?_
    refine v_istore_n (L1 := [(2, .int (iz (-2))), (0, .ref (aa 0)), (1, .int (iz (s)))]) C dX11_spare_25 (by decide) rfl ?_
    refine v_iconst (z := 0) C dX11_spare_26 rfl ?_
    refine v_istore_n (L1 := [(3, .int (iz (0))), (2, .int (iz (-2))), (0, .ref (aa 0)), (1, .int (iz (s)))]) C dX11_spare_27 (by decide) rfl ?_
    have K28 : ∀ (nK : Nat) (z : Int) (i : Int) (hi : 0 ≤ i ∧ i ≤ fa (s * 9 + 4) + 1) (hb : (z = -2 ∧ ∀ o : Int, 0 ≤ o → o < i → mgZ fa s o (stX fa Rr Xx s) < fa (s * 9 + 7)) ∨ ((0 ≤ z ∧ z < i) ∧ fa (s * 9 + 7) ≤ mgZ fa s z (stX fa Rr Xx s) ∧ ∀ o : Int, z < o → o < i → mgZ fa s o (stX fa Rr Xx s) < fa (s * 9 + 7))), (fa (s * 9 + 4) + 1 - i).toNat < nK → V E (wR D cy aa ad) 4 m4 28 [(0, .ref (aa 0)), (1, .int (iz (s))), (2, .int (iz (z))), (3, .int (iz (i)))] [] := by
      intro nK
      induction nK with
      | zero => intro z i  hi hb hn; exact absurd hn (Nat.not_lt_zero _)
      | succ nK ih28 =>
        intro z i  hi hb hn28
        refine v_iload_n C 3 dX11_spare_28 rfl ?_
        refine v_aload_n C 0 dX11_spare_29 rfl ?_
        refine v_iload_n C 1 dX11_spare_30 rfl ?_
        refine v_iconst (z := 4) C dX11_spare_31 rfl ?_
        refine v_callV (st := [.int (iz (i))]) (n := 2) (q := 0) C [.int (iz (s)), .int (iz (4))] (ct_StageRatiosModel_told C.2.2.2.2.2.2.1 m4 (fa) (Af) (Bf) (Cf) (Rr) (Xx) (s) (4) (by exact hg3) (by exact hs0) (by first | assumption | omega)) lR0 (eR0 _) rfl qw1440 qw16 qw1437 rfl rfl ⟨Nat.le_of_ble_eq_true rfl, Nat.le_of_ble_eq_true rfl⟩ (by decide +kernel) qw1439 qp55 rfl rfl (Nat.le_of_ble_eq_true rfl) dX11_spare_32 (fun r m5 hq5 => ?_)
        obtain ⟨z5, rfl, rfl, rfl⟩ := hq5
        show V E (wR D cy aa ad) 4 m4 35 [(0, .ref (aa 0)), (1, .int (iz (s))), (2, .int (iz (z))), (3, .int (iz (i)))] [.int (iz (fa (s * 9 + 4))), .int (iz (i))]
        refine v_icmp_gt (tgt := 62) C dX11_spare_35 (by decide) (by omega) (by omega) (fun c6 => ?_) (fun c6 => ?_)
        · refine v_aload_n C 0 dX11_spare_62 rfl ?_
          refine v_iload_n C 2 dX11_spare_63 rfl ?_
          refine v_callV (st := []) (n := 1) (q := 0) C [.int (iz (z))] (ct_StageRatiosModel_good C.2.2.2.2.2.2.1 m4 (z) ) lR0 (eR0 _) rfl qw1444 qw16 qw1441 rfl rfl ⟨Nat.le_of_ble_eq_true rfl, Nat.le_of_ble_eq_true rfl⟩ (by decide +kernel) qw1443 qp56 rfl rfl (Nat.le_of_ble_eq_true rfl) dX11_spare_64 (fun r m7 hq7 => ?_)
          obtain ⟨z7, rfl, rfl, hq7⟩ := hq7
          show V E (wR D cy aa ad) 4 m7 67 [(0, .ref (aa 0)), (1, .int (iz (s))), (2, .int (iz (z))), (3, .int (iz (i)))] [.int (iz (z))]
          refine v_iret C X rfl dX11_spare_67 ⟨_, rfl, ?_, ?_⟩
          · rw [← hq7]
            refine RP.mk fk3 ?_ (by decide)
            refine Or.inl ⟨hq2, rfl, ?_⟩
            rw [show i = fa (s * 9 + 4) + 1 by omega] at hb
            exact hb.imp (fun y => ⟨y.1, fun o h0 h1 => y.2 o h0 (by omega)⟩) (fun y => ⟨⟨by omega, by omega⟩, y.2.1, fun o h0 h1 => y.2.2 o h0 (by omega)⟩)
          · trivial
        · have K56 : ∀ (z2 : Int) (hb2 : (z2 = -2 ∧ ∀ o : Int, 0 ≤ o → o < i + 1 → mgZ fa s o (stX fa Rr Xx s) < fa (s * 9 + 7)) ∨ ((0 ≤ z2 ∧ z2 < i + 1) ∧ fa (s * 9 + 7) ≤ mgZ fa s z2 (stX fa Rr Xx s) ∧ ∀ o : Int, z2 < o → o < i + 1 → mgZ fa s o (stX fa Rr Xx s) < fa (s * 9 + 7))), V E (wR D cy aa ad) 4 m4 56 [(0, .ref (aa 0)), (1, .int (iz (s))), (2, .int (iz (z2))), (3, .int (iz (i)))] [] := by
            intro z2  hb2
            refine v_iinc (L1 := [(3, .int (iz (i + 1))), (0, .ref (aa 0)), (1, .int (iz (s))), (2, .int (iz (z2)))]) C 3 dX11_spare_56 rfl (by decide) rfl ?_
            refine v_goto (tgt := 28) C dX11_spare_59 (by decide) ?_
            refine v_sub [1, 2, 3, 0] rfl ?_
            exact ih28 (z2) (i + 1)  (by omega) (by exact hb2) (by omega)
          refine v_aload_n C 0 dX11_spare_38 rfl ?_
          refine v_iload_n C 1 dX11_spare_39 rfl ?_
          refine v_iload_n C 3 dX11_spare_40 rfl ?_
          refine v_callV (st := []) (n := 2) (q := 0) C [.int (iz (s)), .int (iz (i))] (ct_StageRatiosModel_marginOf C.2.2.2.2.2.2.1 m4 (fa) (Af) (Bf) (Cf) (Rr) (Xx) (Xx 0) (uX Xx) (s) (i) (by exact hg3) (by exact hd3) (by exact hs0) (by first | assumption | omega)) lR0 (eR0 _) rfl qw1488 qw16 qw1485 rfl rfl ⟨Nat.le_of_ble_eq_true rfl, Nat.le_of_ble_eq_true rfl⟩ (by decide +kernel) qw1487 qp62 rfl rfl (Nat.le_of_ble_eq_true rfl) dX11_spare_41 (fun r m8 hq8 => ?_)
          obtain ⟨z8, rfl, rfl, rfl⟩ := hq8
          show V E (wR D cy aa ad) 4 m4 44 [(0, .ref (aa 0)), (1, .int (iz (s))), (2, .int (iz (z))), (3, .int (iz (i)))] [.int (iz (mgZ fa s i (stZ fa (Rr 5) (Xx 0) (uX Xx) s)))]
          have hmr := mgZ_rng (o := i) hF hs0.1 hs0.2 (by omega) (by omega) (hstr s hs0.1 (by omega)).1
          refine v_aload_n C 0 dX11_spare_44 rfl ?_
          refine v_iload_n C 1 dX11_spare_45 rfl ?_
          refine v_bipush (z := 7) C dX11_spare_46 (by decide) ?_
          refine v_callV (st := [.int (iz (mgZ fa s i (stZ fa (Rr 5) (Xx 0) (uX Xx) s)))]) (n := 2) (q := 0) C [.int (iz (s)), .int (iz (7))] (ct_StageRatiosModel_told C.2.2.2.2.2.2.1 m4 (fa) (Af) (Bf) (Cf) (Rr) (Xx) (s) (7) (by exact hg3) (by exact hs0) (by first | assumption | omega)) lR0 (eR0 _) rfl qw1440 qw16 qw1437 rfl rfl ⟨Nat.le_of_ble_eq_true rfl, Nat.le_of_ble_eq_true rfl⟩ (by decide +kernel) qw1439 qp55 rfl rfl (Nat.le_of_ble_eq_true rfl) dX11_spare_48 (fun r m9 hq9 => ?_)
          obtain ⟨z9, rfl, rfl, rfl⟩ := hq9
          show V E (wR D cy aa ad) 4 m4 51 [(0, .ref (aa 0)), (1, .int (iz (s))), (2, .int (iz (z))), (3, .int (iz (i)))] [.int (iz (fa (s * 9 + 7))), .int (iz (mgZ fa s i (stZ fa (Rr 5) (Xx 0) (uX Xx) s)))]
          refine v_icmp_lt (tgt := 56) C dX11_spare_51 (by decide) (by omega) (by omega) (fun c10 => ?_) (fun c10 => ?_)
          · refine v_sub [0, 1, 2, 3] rfl ?_
            exact K56  (z)  (by 
                            first
                              | (have hl : mgZ fa s i (stX fa Rr Xx s) < fa (s * 9 + 7) := by unfold stX; omega
                                 refine hb.imp (fun y => ⟨y.1, fun o h0 h1 => ?_⟩) (fun y => ⟨⟨by omega, by omega⟩, y.2.1, fun o h0 h1 => ?_⟩)
                                 · by_cases e : o = i
                                   · rw [e]; exact hl
                                   · exact y.2 o h0 (by omega)
                                 · by_cases e : o = i
                                   · rw [e]; exact hl
                                   · exact y.2.2 o h0 (by omega))
                              | exact Or.inr ⟨⟨by omega, by omega⟩, by unfold stX; omega, fun o h0 h1 => by omega⟩
                          )
          · refine v_iload_n C 3 dX11_spare_54 rfl ?_
            refine v_istore_n (L1 := [(2, .int (iz (i))), (0, .ref (aa 0)), (1, .int (iz (s))), (3, .int (iz (i)))]) C dX11_spare_55 (by decide) rfl ?_
            refine v_sub [1, 2, 0, 3] rfl ?_
            exact K56  (i)  (by 
                            first
                              | (have hl : mgZ fa s i (stX fa Rr Xx s) < fa (s * 9 + 7) := by unfold stX; omega
                                 refine hb.imp (fun y => ⟨y.1, fun o h0 h1 => ?_⟩) (fun y => ⟨⟨by omega, by omega⟩, y.2.1, fun o h0 h1 => ?_⟩)
                                 · by_cases e : o = i
                                   · rw [e]; exact hl
                                   · exact y.2 o h0 (by omega)
                                 · by_cases e : o = i
                                   · rw [e]; exact hl
                                   · exact y.2.2 o h0 (by omega))
                              | exact Or.inr ⟨⟨by omega, by omega⟩, by unfold stX; omega, fun o h0 h1 => by omega⟩
                          )
    refine v_sub [2, 3, 1, 0] rfl ?_
    exact K28 _ (-2) (0)  (by omega) (by exact Or.inl ⟨rfl, fun o h0 h1 => by omega⟩) (Nat.lt_succ_self _)
  · show V E (wR D cy aa ad) 4 m1 10 [(0, .ref (aa 0)), (1, .int (iz (s)))] [.int (iz (0))]
    refine v_if_ne (tgt := 19) C dX11_spare_10 (by decide) (by omega) (fun c11 => by exact absurd c11 (by decide)) (fun c11 => ?_)
    refine v_aload_n C 0 dX11_spare_13 rfl ?_
    refine v_iconst (z := 1) C dX11_spare_14 rfl ?_
    refine v_callV (st := []) (n := 1) (q := 0) C [.int (iz (1))] (ct_StageRatiosModel_refused C.2.2.2.2.2.2.1 m1 (1) ) lR0 (eR0 _) rfl qw1340 qw16 qw1337 rfl rfl ⟨Nat.le_of_ble_eq_true rfl, Nat.le_of_ble_eq_true rfl⟩ (by decide +kernel) qw1339 qp36 rfl rfl (Nat.le_of_ble_eq_true rfl) dX11_spare_15 (fun r m12 hq12 => ?_)
    obtain ⟨z12, rfl, rfl, hq12⟩ := hq12
    show V E (wR D cy aa ad) 4 m12 18 [(0, .ref (aa 0)), (1, .int (iz (s)))] [.int (iz (-1))]
    refine v_iret C X rfl dX11_spare_18 ⟨_, rfl, ?_, ?_⟩
    · rw [← hq12]
      refine RP.mk fk2 ?_ (by decide)
      exact Or.inr ⟨e20 ▸ hq2, rfl, rfl⟩
    · trivial

set_option maxHeartbeats 4000000 in
set_option maxRecDepth 100000 in
theorem ct_StageRatiosModel_mass {lau : Launch} {D : va_G} {cy : Nat → ClassId} {aa ad : Nat → Nat} (hI : wI (wR D cy aa ad)) (m : Mem) (fa Af Bf Cf Rr Xx : Int → Int) (hT : TT m fa Af Bf Cf Rr Xx) : MT lau (wR D cy aa ad) yX11_mass cX11_mass 1 (some .int) ({ frames := 3, cells := 0, slots := 0, locals := 67 } : Room) m [.ref (aa 0)] (Pi (fun z m' => (RP (qMas (m 0 20) fa Rr Xx) m m' z) ∧ True)) := by
  refine v_entry hI RX11 (by decide) rfl (Nat.le_of_ble_eq_true rfl) (fun E hE C X => ?_)
  subst hE
  show V E (wR D cy aa ad) 1 m 0 [(0, .ref (aa 0))] []
  refine v_aload_n C 0 dX11_mass_0 rfl ?_
  refine v_iconst (z := 0) C dX11_mass_1 rfl ?_
  refine v_put C 0 0 (0) 0 rfl lR0 (eR0 _) rfl inX11 tyX11 tyX11_ok nmX11 (by decide) qw1140 rfl rfl rfl (Nat.le_of_ble_eq_true rfl) (by rw [mup_r]; exact (eR0 _)) dX11_mass_2 (fun m1 em1 => ?_)
  have fk2 : FK m m1 := by rw [em1]; exact FK.up 0 0 (by unfold CKj; omega)
  have hT2 := fk2.tt hT
  have e20 : m1 0 20 = m 0 20 := fk2.1 20 (Or.inr (Or.inl rfl))
  have ht01 : m 0 20 = 0 ∨ m 0 20 = 1 := hT.imp (fun a => a) (fun a => a.1)
  refine v_aload_n C 0 dX11_mass_5 rfl ?_
  refine v_get C 0 20 lR0 (eR0 _) rfl inX11 (by decide) rfl qw1160 dX11_mass_6 ?_
  refine v_if_ne (tgt := 18) C dX11_mass_9 (by decide) (by omega) (fun c2 => ?_) (fun c2 => ?_)
  · obtain ⟨hT1, hg0⟩ := hT.resolve_left (by omega)
    have hg := fk2.rt hg0
    obtain ⟨⟨r11, r8, r9, r10, r12⟩, r1, r2, r6, hvd, hfo⟩ := id hg
    obtain ⟨hn, hF, hup, hlw, hX⟩ := id hvd
    refine v_aload_n C 0 dX11_mass_18 rfl ?_
    refine v_callV (st := []) (n := 0) (q := 0) C [] (ct_StageRatiosModel_laysOwn C.2.2.2.2.2.2.1 m1 (fa) (Af) (Bf) (Cf) (Rr) (Xx) (by first | assumption | omega)) lR0 (eR0 _) rfl qw1476 qw16 qw1473 rfl rfl ⟨Nat.le_of_ble_eq_true rfl, Nat.le_of_ble_eq_true rfl⟩ (by decide +kernel) qw1475 qp59 rfl rfl (Nat.le_of_ble_eq_true rfl) dX11_mass_19 (fun r m3 hq3 => ?_)
    obtain ⟨rfl, hq3⟩ := hq3
    show V E (wR D cy aa ad) 1 m3 22 [(0, .ref (aa 0))] []
    have fk3 := fk2.tr (show FK _ m3 from ⟨fun j hj => hq3.2.1 j (by unfold CKj at hj; omega), fun q hq => hq3.2.2 q (by omega) (by omega)⟩)
    have hg3 := fk3.rt hg0
    have hd3 := hq3.1
    have hDv := hd3.2.2
    have hstr := fun (j : Int) (h0 : 0 ≤ j) (h1 : j ≤ Rr 5) => stZ_rng (s := j) hF hn.2 hDv.2.1 hDv.2.2 h0 h1
    have hUr := hX.u hF
    refine v_aload_n C 0 dX11_mass_22 rfl ?_
    refine v_aload_n C 0 dX11_mass_23 rfl ?_
    refine v_iconst (z := 0) C dX11_mass_24 rfl ?_
    refine v_callV (st := [.ref (aa 0)]) (n := 1) (q := 0) C [.int (iz (0))] (ct_StageRatiosModel_start C.2.2.2.2.2.2.1 m3 (fa) (Af) (Bf) (Cf) (Rr) (Xx) (Xx 0) (uX Xx) (0) (by exact hg3) (by exact hd3) (by first | assumption | omega)) lR0 (eR0 _) rfl qw1480 qw16 qw1477 rfl rfl ⟨Nat.le_of_ble_eq_true rfl, Nat.le_of_ble_eq_true rfl⟩ (by decide +kernel) qw1479 qp60 rfl rfl (Nat.le_of_ble_eq_true rfl) dX11_mass_25 (fun r m4 hq4 => ?_)
    obtain ⟨z4, rfl, rfl, rfl⟩ := hq4
    show V E (wR D cy aa ad) 1 m3 28 [(0, .ref (aa 0))] [.int (iz (stZ fa (Rr 5) (Xx 0) (uX Xx) 0)), .ref (aa 0)]
    refine v_callV (st := []) (n := 1) (q := 0) C [.int (iz (stZ fa (Rr 5) (Xx 0) (uX Xx) 0))] (ct_StageRatiosModel_good C.2.2.2.2.2.2.1 m3 (stZ fa (Rr 5) (Xx 0) (uX Xx) 0) ) lR0 (eR0 _) rfl qw1444 qw16 qw1441 rfl rfl ⟨Nat.le_of_ble_eq_true rfl, Nat.le_of_ble_eq_true rfl⟩ (by decide +kernel) qw1443 qp56 rfl rfl (Nat.le_of_ble_eq_true rfl) dX11_mass_28 (fun r m5 hq5 => ?_)
    obtain ⟨z5, rfl, rfl, hq5⟩ := hq5
    show V E (wR D cy aa ad) 1 m5 31 [(0, .ref (aa 0))] [.int (iz ((stZ fa (Rr 5) (Xx 0) (uX Xx) 0)))]
    refine v_iret C X rfl dX11_mass_31 ⟨_, rfl, ?_, ?_⟩
    · rw [← hq5]
      refine RP.mk fk3 ?_ (by decide)
      exact Or.inl ⟨hT1, rfl, rfl⟩
    · trivial
  · refine v_aload_n C 0 dX11_mass_12 rfl ?_
    refine v_iconst (z := 1) C dX11_mass_13 rfl ?_
    refine v_callV (st := []) (n := 1) (q := 0) C [.int (iz (1))] (ct_StageRatiosModel_refused C.2.2.2.2.2.2.1 m1 (1) ) lR0 (eR0 _) rfl qw1340 qw16 qw1337 rfl rfl ⟨Nat.le_of_ble_eq_true rfl, Nat.le_of_ble_eq_true rfl⟩ (by decide +kernel) qw1339 qp36 rfl rfl (Nat.le_of_ble_eq_true rfl) dX11_mass_14 (fun r m6 hq6 => ?_)
    obtain ⟨z6, rfl, rfl, hq6⟩ := hq6
    show V E (wR D cy aa ad) 1 m6 17 [(0, .ref (aa 0))] [.int (iz (-1))]
    refine v_iret C X rfl dX11_mass_17 ⟨_, rfl, ?_, ?_⟩
    · rw [← hq6]
      refine RP.mk fk2 ?_ (by decide)
      exact Or.inr ⟨by omega, rfl, rfl⟩
    · trivial

set_option maxHeartbeats 4000000 in
set_option maxRecDepth 100000 in
theorem ct_StageRatiosModel_reaches {lau : Launch} {D : va_G} {cy : Nat → ClassId} {aa ad : Nat → Nat} (hI : wI (wR D cy aa ad)) (m : Mem) (fa Af Bf Cf Rr Xx : Int → Int) (k0 : Int) (hT : TT m fa Af Bf Cf Rr Xx) (hk0 : -2147483648 ≤ k0 ∧ k0 ≤ 2147483647) : MT lau (wR D cy aa ad) yX11_reaches cX11_reaches 3 (some .int) ({ frames := 5, cells := 0, slots := 0, locals := 109 } : Room) m [.ref (aa 0), .int (iz (k0))] (Pi (fun z m' => (RP (qRea (m 0 20) fa Rr Xx k0) m m' z) ∧ True)) := by
  refine v_entry hI RX11 (by decide) rfl (Nat.le_of_ble_eq_true rfl) (fun E hE C X => ?_)
  subst hE
  show V E (wR D cy aa ad) 3 m 0 [(0, .ref (aa 0)), (1, .int (iz (k0)))] []
  refine v_aload_n C 0 dX11_reaches_0 rfl ?_
  refine v_iconst (z := 0) C dX11_reaches_1 rfl ?_
  refine v_put C 0 0 (0) 0 rfl lR0 (eR0 _) rfl inX11 tyX11 tyX11_ok nmX11 (by decide) qw1140 rfl rfl rfl (Nat.le_of_ble_eq_true rfl) (by rw [mup_r]; exact (eR0 _)) dX11_reaches_2 (fun m1 em1 => ?_)
  have fk2 : FK m m1 := by rw [em1]; exact FK.up 0 0 (by unfold CKj; omega)
  have hT2 := fk2.tt hT
  have e20 : m1 0 20 = m 0 20 := fk2.1 20 (Or.inr (Or.inl rfl))
  have ht01 : m 0 20 = 0 ∨ m 0 20 = 1 := hT.imp (fun a => a) (fun a => a.1)
  refine v_aload_n C 0 dX11_reaches_5 rfl ?_
  refine v_iconst (z := 1) C dX11_reaches_6 rfl ?_
  refine v_iload_n C 1 dX11_reaches_7 rfl ?_
  refine v_callV (st := []) (n := 2) (q := 0) C [.int (iz (1)), .int (iz (k0))] (ct_StageRatiosModel_refusesPower C.2.2.2.2.2.2.1 m1 (1) (k0) (by first | decide | omega) (by first | assumption | omega) (by rw [e20]; exact ht01)) lR0 (eR0 _) rfl qw1508 qw16 qw1505 rfl rfl ⟨Nat.le_of_ble_eq_true rfl, Nat.le_of_ble_eq_true rfl⟩ (by decide +kernel) qw1507 qp63 rfl rfl (Nat.le_of_ble_eq_true rfl) dX11_reaches_8 (fun r m2 hq2 => ?_)
  obtain ⟨z2, rfl, hq2, rfl⟩ := hq2
  show V E (wR D cy aa ad) 3 m1 11 [(0, .ref (aa 0)), (1, .int (iz (k0)))] [.int (iz (z2))]
  rw [e20] at hq2
  have hzp : z2 = 0 ∨ z2 = 1 ∨ z2 = 2 := by rcases hq2 with y | ⟨-, y | y⟩ <;> omega
  refine v_istore_n (L1 := [(2, .int (iz (z2))), (0, .ref (aa 0)), (1, .int (iz (k0)))]) C dX11_reaches_11 (by decide) rfl ?_
  refine v_iload_n C 0 dX11_reaches_12 rfl ?_
  refine v_if_le (tgt := 22) C dX11_reaches_13 (by decide) (by omega) (fun c3 => ?_) (fun c3 => ?_)
  · have hpk : m 0 20 = 1 ∧ kPw k0 := by
      rcases hq2 with ⟨y, -⟩ | ⟨y, ⟨-, y2⟩ | ⟨y2, -⟩⟩
      · omega
      · exact ⟨y.1, y2⟩
      · omega
    obtain ⟨hT1, hkp⟩ := hpk
    obtain ⟨-, hg0⟩ := hT.resolve_left (by omega)
    have hg := fk2.rt hg0
    obtain ⟨⟨r11, r8, r9, r10, r12⟩, r1, r2, r6, hvd, hfo⟩ := id hg
    obtain ⟨hn, hF, hup, hlw, hX⟩ := id hvd
    refine v_aload_n C 1 dX11_reaches_22 rfl ?_
    refine v_callV (st := []) (n := 0) (q := 0) C [] (ct_StageRatiosModel_laysOwn C.2.2.2.2.2.2.1 m1 (fa) (Af) (Bf) (Cf) (Rr) (Xx) (by first | assumption | omega)) lR0 (eR0 _) rfl qw1476 qw16 qw1473 rfl rfl ⟨Nat.le_of_ble_eq_true rfl, Nat.le_of_ble_eq_true rfl⟩ (by decide +kernel) qw1475 qp59 rfl rfl (Nat.le_of_ble_eq_true rfl) dX11_reaches_23 (fun r m4 hq4 => ?_)
    obtain ⟨rfl, hq4⟩ := hq4
    show V E (wR D cy aa ad) 3 m4 26 [(2, .int (iz (z2))), (0, .ref (aa 0)), (1, .int (iz (k0)))] []
    have fk3 := fk2.tr (show FK _ m4 from ⟨fun j hj => hq4.2.1 j (by unfold CKj at hj; omega), fun q hq => hq4.2.2 q (by omega) (by omega)⟩)
    have hg3 := fk3.rt hg0
    have hd3 := hq4.1
    have hDv := hd3.2.2
    have hstr := fun (j : Int) (h0 : 0 ≤ j) (h1 : j ≤ Rr 5) => stZ_rng (s := j) hF hn.2 hDv.2.1 hDv.2.2 h0 h1
    have hUr := hX.u hF
    refine v_aload_n C 1 dX11_reaches_26 rfl ?_
    refine v_aload_n C 1 dX11_reaches_27 rfl ?_
    refine v_iload_n C 2 dX11_reaches_28 rfl ?_
    refine v_callV (st := [.ref (aa 0)]) (n := 1) (q := 0) C [.int (iz (k0))] (ct_StageRatiosModel_divReaches C.2.2.2.2.2.2.1 m4 (fa) (Af) (Bf) (Cf) (Rr) (Xx) (Xx 0) (uX Xx) (k0) (by exact hg3) (by exact hd3) (by exact hkp)) lR0 (eR0 _) rfl qw1512 qw16 qw1509 rfl rfl ⟨Nat.le_of_ble_eq_true rfl, Nat.le_of_ble_eq_true rfl⟩ (by decide +kernel) qw1511 qp64 rfl rfl (Nat.le_of_ble_eq_true rfl) dX11_reaches_29 (fun r m5 hq5 => ?_)
    obtain ⟨z5, rfl, ⟨rfl, hq5, hm5⟩ | ⟨rfl, hq5, hm5⟩⟩ := hq5
    · show V E (wR D cy aa ad) 3 m5 32 [(2, .int (iz (z2))), (0, .ref (aa 0)), (1, .int (iz (k0)))] [.int (iz (1)), .ref (aa 0)]
      refine v_if_eq (tgt := 39) C dX11_reaches_32 (by decide) (by omega) (fun c6 => by exact absurd c6 (by decide)) (fun c6 => ?_)
      refine v_iconst (z := 1) C dX11_reaches_35 rfl ?_
      refine v_goto (tgt := 40) C dX11_reaches_36 (by decide) ?_
      refine v_callV (st := []) (n := 1) (q := 0) C [.int (iz (1))] (ct_StageRatiosModel_good C.2.2.2.2.2.2.1 m5 (1) ) lR0 (eR0 _) rfl qw1444 qw16 qw1441 rfl rfl ⟨Nat.le_of_ble_eq_true rfl, Nat.le_of_ble_eq_true rfl⟩ (by decide +kernel) qw1443 qp56 rfl rfl (Nat.le_of_ble_eq_true rfl) dX11_reaches_40 (fun r m7 hq7 => ?_)
      obtain ⟨z7, rfl, rfl, hq7⟩ := hq7
      show V E (wR D cy aa ad) 3 m7 43 [(2, .int (iz (z2))), (0, .ref (aa 0)), (1, .int (iz (k0)))] [.int (iz (1))]
      refine v_iret C X rfl dX11_reaches_43 ⟨_, rfl, ?_, ?_⟩
      · rw [← hq7]
        refine RP.mk (fk3.tr (FK.fb hm5)) ?_ (by decide)
        first
          | exact Or.inl ⟨hT1, hkp, rfl, Or.inl ⟨rfl, hq5⟩⟩
          | exact Or.inl ⟨hT1, hkp, rfl, Or.inr ⟨rfl, hq5⟩⟩
      · trivial
    · show V E (wR D cy aa ad) 3 m5 32 [(2, .int (iz (z2))), (0, .ref (aa 0)), (1, .int (iz (k0)))] [.int (iz (0)), .ref (aa 0)]
      refine v_if_eq (tgt := 39) C dX11_reaches_32 (by decide) (by omega) (fun c8 => ?_) (fun c8 => by exact absurd c8 (by decide))
      refine v_iconst (z := 0) C dX11_reaches_39 rfl ?_
      refine v_callV (st := []) (n := 1) (q := 0) C [.int (iz (0))] (ct_StageRatiosModel_good C.2.2.2.2.2.2.1 m5 (0) ) lR0 (eR0 _) rfl qw1444 qw16 qw1441 rfl rfl ⟨Nat.le_of_ble_eq_true rfl, Nat.le_of_ble_eq_true rfl⟩ (by decide +kernel) qw1443 qp56 rfl rfl (Nat.le_of_ble_eq_true rfl) dX11_reaches_40 (fun r m9 hq9 => ?_)
      obtain ⟨z9, rfl, rfl, hq9⟩ := hq9
      show V E (wR D cy aa ad) 3 m9 43 [(2, .int (iz (z2))), (0, .ref (aa 0)), (1, .int (iz (k0)))] [.int (iz (0))]
      refine v_iret C X rfl dX11_reaches_43 ⟨_, rfl, ?_, ?_⟩
      · rw [← hq9]
        refine RP.mk (fk3.tr (FK.fb hm5)) ?_ (by decide)
        first
          | exact Or.inl ⟨hT1, hkp, rfl, Or.inl ⟨rfl, hq5⟩⟩
          | exact Or.inl ⟨hT1, hkp, rfl, Or.inr ⟨rfl, hq5⟩⟩
      · trivial
  · refine v_aload_n C 1 dX11_reaches_16 rfl ?_
    refine v_iload_n C 0 dX11_reaches_17 rfl ?_
    refine v_callV (st := []) (n := 1) (q := 0) C [.int (iz (z2))] (ct_StageRatiosModel_refused C.2.2.2.2.2.2.1 m1 (z2) ) lR0 (eR0 _) rfl qw1340 qw16 qw1337 rfl rfl ⟨Nat.le_of_ble_eq_true rfl, Nat.le_of_ble_eq_true rfl⟩ (by decide +kernel) qw1339 qp36 rfl rfl (Nat.le_of_ble_eq_true rfl) dX11_reaches_18 (fun r m10 hq10 => ?_)
    obtain ⟨z10, rfl, rfl, hq10⟩ := hq10
    show V E (wR D cy aa ad) 3 m10 21 [(2, .int (iz (z2))), (0, .ref (aa 0)), (1, .int (iz (k0)))] [.int (iz (-1))]
    refine v_iret C X rfl dX11_reaches_21 ⟨_, rfl, ?_, ?_⟩
    · rw [← hq10]
      refine RP.mk fk2 ?_ (by omega)
      rcases hq2 with ⟨y, y2⟩ | ⟨y, ⟨y2, y3⟩ | ⟨y2, y3⟩⟩
      · rw [y]; exact Or.inr (Or.inr ⟨fun h => y2 ⟨h, rfl⟩, rfl, rfl⟩)
      · omega
      · rw [y2]; exact Or.inr (Or.inl ⟨y.1, y3, rfl, rfl⟩)
    · trivial

set_option maxHeartbeats 4000000 in
set_option maxRecDepth 100000 in
theorem ct_StageRatiosModel_greatest {lau : Launch} {D : va_G} {cy : Nat → ClassId} {aa ad : Nat → Nat} (hI : wI (wR D cy aa ad)) (m : Mem) (fa Af Bf Cf Rr Xx : Int → Int) (hT : TT m fa Af Bf Cf Rr Xx) : MT lau (wR D cy aa ad) yX11_greatest cX11_greatest 1 (some .int) ({ frames := 4, cells := 0, slots := 0, locals := 88 } : Room) m [.ref (aa 0)] (Pi (fun z m' => (RP (qGre (m 0 20) fa Rr Xx) m m' z) ∧ True)) := by
  refine v_entry hI RX11 (by decide) rfl (Nat.le_of_ble_eq_true rfl) (fun E hE C X => ?_)
  subst hE
  show V E (wR D cy aa ad) 1 m 0 [(0, .ref (aa 0))] []
  refine v_aload_n C 0 dX11_greatest_0 rfl ?_
  refine v_iconst (z := 0) C dX11_greatest_1 rfl ?_
  refine v_put C 0 0 (0) 0 rfl lR0 (eR0 _) rfl inX11 tyX11 tyX11_ok nmX11 (by decide) qw1140 rfl rfl rfl (Nat.le_of_ble_eq_true rfl) (by rw [mup_r]; exact (eR0 _)) dX11_greatest_2 (fun m1 em1 => ?_)
  have fk2 : FK m m1 := by rw [em1]; exact FK.up 0 0 (by unfold CKj; omega)
  have hT2 := fk2.tt hT
  have e20 : m1 0 20 = m 0 20 := fk2.1 20 (Or.inr (Or.inl rfl))
  have ht01 : m 0 20 = 0 ∨ m 0 20 = 1 := hT.imp (fun a => a) (fun a => a.1)
  refine v_aload_n C 0 dX11_greatest_5 rfl ?_
  refine v_get C 0 20 lR0 (eR0 _) rfl inX11 (by decide) rfl qw1160 dX11_greatest_6 ?_
  refine v_if_ne (tgt := 18) C dX11_greatest_9 (by decide) (by omega) (fun c2 => ?_) (fun c2 => ?_)
  · obtain ⟨hT1, hg0⟩ := hT.resolve_left (by omega)
    have hg := fk2.rt hg0
    obtain ⟨⟨r11, r8, r9, r10, r12⟩, r1, r2, r6, hvd, hfo⟩ := id hg
    obtain ⟨hn, hF, hup, hlw, hX⟩ := id hvd
    refine v_aload_n C 0 dX11_greatest_18 rfl ?_
    refine v_callV (st := []) (n := 0) (q := 0) C [] (ct_StageRatiosModel_laysOwn C.2.2.2.2.2.2.1 m1 (fa) (Af) (Bf) (Cf) (Rr) (Xx) (by first | assumption | omega)) lR0 (eR0 _) rfl qw1476 qw16 qw1473 rfl rfl ⟨Nat.le_of_ble_eq_true rfl, Nat.le_of_ble_eq_true rfl⟩ (by decide +kernel) qw1475 qp59 rfl rfl (Nat.le_of_ble_eq_true rfl) dX11_greatest_19 (fun r m3 hq3 => ?_)
    obtain ⟨rfl, hq3⟩ := hq3
    show V E (wR D cy aa ad) 1 m3 22 [(0, .ref (aa 0))] []
    have fk3 := fk2.tr (show FK _ m3 from ⟨fun j hj => hq3.2.1 j (by unfold CKj at hj; omega), fun q hq => hq3.2.2 q (by omega) (by omega)⟩)
    have hg3 := fk3.rt hg0
    have hd3 := hq3.1
    have hDv := hd3.2.2
    have hstr := fun (j : Int) (h0 : 0 ≤ j) (h1 : j ≤ Rr 5) => stZ_rng (s := j) hF hn.2 hDv.2.1 hDv.2.2 h0 h1
    have hUr := hX.u hF
    have al := hDv.al hF
    refine v_aload_n C 0 dX11_greatest_22 rfl ?_
    refine v_callV (st := []) (n := 0) (q := 0) C [] (ct_StageRatiosModel_laysSpeed C.2.2.2.2.2.2.1 m3 (fa) (Af) (Bf) (Cf) (Rr) (Xx) (Xx 0) (uX Xx) (by exact hg3) (by exact hd3)) lR0 (eR0 _) rfl qw1516 qw16 qw1513 rfl rfl ⟨Nat.le_of_ble_eq_true rfl, Nat.le_of_ble_eq_true rfl⟩ (by decide +kernel) qw1515 qp65 rfl rfl (Nat.le_of_ble_eq_true rfl) dX11_greatest_23 (fun r m4 hq4 => ?_)
    obtain ⟨rfl, hq4⟩ := hq4
    show V E (wR D cy aa ad) 1 m4 26 [(0, .ref (aa 0))] []
    refine v_aload_n C 0 dX11_greatest_26 rfl ?_
    refine v_aload_n C 0 dX11_greatest_27 rfl ?_
    refine v_callV (st := [.ref (aa 0)]) (n := 0) (q := 0) C [] (ct_StageRatiosModel_greatestBy C.2.2.2.2.2.2.1 m4 (fa) (Af) (Bf) (Cf) (Rr) (Xx) (numL (spT fa (Rr 5) (Xx 0) (uX Xx))) (denL (spT fa (Rr 5) (Xx 0) (uX Xx))) (by exact hq4.2.rt hg3) (by exact hq4.1) (by exact ⟨by omega, le_2200 al.2.2.1⟩) (by exact ⟨al.2.2.2.1, le_2200 (Int.le_trans al.2.2.2.2 al.2.2.1)⟩)) lR0 (eR0 _) rfl qw1549 qw16 qw1546 rfl rfl ⟨Nat.le_of_ble_eq_true rfl, Nat.le_of_ble_eq_true rfl⟩ (by decide +kernel) qw1548 qp72 rfl rfl (Nat.le_of_ble_eq_true rfl) dX11_greatest_28 (fun r m5 hq5 => ?_)
    obtain ⟨z5, rfl, hq5, hm5⟩ := hq5
    show V E (wR D cy aa ad) 1 m5 31 [(0, .ref (aa 0))] [.int (iz (z5)), .ref (aa 0)]
    refine v_callV (st := []) (n := 1) (q := 0) C [.int (iz (z5))] (ct_StageRatiosModel_good C.2.2.2.2.2.2.1 m5 (z5) ) lR0 (eR0 _) rfl qw1444 qw16 qw1441 rfl rfl ⟨Nat.le_of_ble_eq_true rfl, Nat.le_of_ble_eq_true rfl⟩ (by decide +kernel) qw1443 qp56 rfl rfl (Nat.le_of_ble_eq_true rfl) dX11_greatest_31 (fun r m6 hq6 => ?_)
    obtain ⟨z6, rfl, rfl, hq6⟩ := hq6
    show V E (wR D cy aa ad) 1 m6 34 [(0, .ref (aa 0))] [.int (iz (z5))]
    refine v_iret C X rfl dX11_greatest_34 ⟨_, rfl, ?_, ?_⟩
    · rw [← hq6]
      refine RP.mk ((fk3.tr (FK.fb hq4.2)).tr (FK.fb hm5)) ?_ (by decide)
      exact Or.inl ⟨hT1, rfl, hq5⟩
    · trivial
  · refine v_aload_n C 0 dX11_greatest_12 rfl ?_
    refine v_iconst (z := 1) C dX11_greatest_13 rfl ?_
    refine v_callV (st := []) (n := 1) (q := 0) C [.int (iz (1))] (ct_StageRatiosModel_refused C.2.2.2.2.2.2.1 m1 (1) ) lR0 (eR0 _) rfl qw1340 qw16 qw1337 rfl rfl ⟨Nat.le_of_ble_eq_true rfl, Nat.le_of_ble_eq_true rfl⟩ (by decide +kernel) qw1339 qp36 rfl rfl (Nat.le_of_ble_eq_true rfl) dX11_greatest_14 (fun r m7 hq7 => ?_)
    obtain ⟨z7, rfl, rfl, hq7⟩ := hq7
    show V E (wR D cy aa ad) 1 m7 17 [(0, .ref (aa 0))] [.int (iz (-1))]
    refine v_iret C X rfl dX11_greatest_17 ⟨_, rfl, ?_, ?_⟩
    · rw [← hq7]
      refine RP.mk fk2 ?_ (by decide)
      exact Or.inr ⟨by omega, rfl, rfl⟩
    · trivial

set_option maxHeartbeats 4000000 in
set_option maxRecDepth 100000 in
theorem ct_StageRatiosModel_holds {lau : Launch} {D : va_G} {cy : Nat → ClassId} {aa ad : Nat → Nat} (hI : wI (wR D cy aa ad)) (m : Mem) (fa Af Bf Cf Rr Xx : Int → Int) (hT : TT m fa Af Bf Cf Rr Xx) : MT lau (wR D cy aa ad) yX11_holds cX11_holds 1 (some .int) ({ frames := 6, cells := 0, slots := 0, locals := 131 } : Room) m [.ref (aa 0)] (Pi (fun z m' => (RP (qHol (m 0 20) fa Rr Xx) m m' z) ∧ True)) := by
  refine v_entry hI RX11 (by decide) rfl (Nat.le_of_ble_eq_true rfl) (fun E hE C X => ?_)
  subst hE
  show V E (wR D cy aa ad) 1 m 0 [(0, .ref (aa 0))] []
  refine v_aload_n C 0 dX11_holds_0 rfl ?_
  refine v_iconst (z := 0) C dX11_holds_1 rfl ?_
  refine v_put C 0 0 (0) 0 rfl lR0 (eR0 _) rfl inX11 tyX11 tyX11_ok nmX11 (by decide) qw1140 rfl rfl rfl (Nat.le_of_ble_eq_true rfl) (by rw [mup_r]; exact (eR0 _)) dX11_holds_2 (fun m1 em1 => ?_)
  have fk2 : FK m m1 := by rw [em1]; exact FK.up 0 0 (by unfold CKj; omega)
  have hT2 := fk2.tt hT
  have e20 : m1 0 20 = m 0 20 := fk2.1 20 (Or.inr (Or.inl rfl))
  have ht01 : m 0 20 = 0 ∨ m 0 20 = 1 := hT.imp (fun a => a) (fun a => a.1)
  refine v_aload_n C 0 dX11_holds_5 rfl ?_
  refine v_get C 0 20 lR0 (eR0 _) rfl inX11 (by decide) rfl qw1160 dX11_holds_6 ?_
  refine v_if_ne (tgt := 18) C dX11_holds_9 (by decide) (by omega) (fun c2 => ?_) (fun c2 => ?_)
  · obtain ⟨hT1, hg0⟩ := hT.resolve_left (by omega)
    have hg := fk2.rt hg0
    obtain ⟨⟨r11, r8, r9, r10, r12⟩, r1, r2, r6, hvd, hfo⟩ := id hg
    obtain ⟨hn, hF, hup, hlw, hX⟩ := id hvd
    refine v_aload_n C 0 dX11_holds_18 rfl ?_
    refine v_callV (st := []) (n := 0) (q := 0) C [] (ct_StageRatiosModel_laysOwn C.2.2.2.2.2.2.1 m1 (fa) (Af) (Bf) (Cf) (Rr) (Xx) (by first | assumption | omega)) lR0 (eR0 _) rfl qw1476 qw16 qw1473 rfl rfl ⟨Nat.le_of_ble_eq_true rfl, Nat.le_of_ble_eq_true rfl⟩ (by decide +kernel) qw1475 qp59 rfl rfl (Nat.le_of_ble_eq_true rfl) dX11_holds_19 (fun r m3 hq3 => ?_)
    obtain ⟨rfl, hq3⟩ := hq3
    show V E (wR D cy aa ad) 1 m3 22 [(0, .ref (aa 0))] []
    have fk3 := fk2.tr (show FK _ m3 from ⟨fun j hj => hq3.2.1 j (by unfold CKj at hj; omega), fun q hq => hq3.2.2 q (by omega) (by omega)⟩)
    have hg3 := fk3.rt hg0
    have hd3 := hq3.1
    have hDv := hd3.2.2
    have hstr := fun (j : Int) (h0 : 0 ≤ j) (h1 : j ≤ Rr 5) => stZ_rng (s := j) hF hn.2 hDv.2.1 hDv.2.2 h0 h1
    have hUr := hX.u hF
    refine v_aload_n C 0 dX11_holds_22 rfl ?_
    refine v_aload_n C 0 dX11_holds_23 rfl ?_
    refine v_callV (st := [.ref (aa 0)]) (n := 0) (q := 0) C [] (ct_StageRatiosModel_allHold C.2.2.2.2.2.2.1 m3 (fa) (Af) (Bf) (Cf) (Rr) (Xx) (Xx 0) (uX Xx) (by exact hg3) (by exact hd3)) lR0 (eR0 _) rfl qw1557 qw16 qw1554 rfl rfl ⟨Nat.le_of_ble_eq_true rfl, Nat.le_of_ble_eq_true rfl⟩ (by decide +kernel) qw1556 qp73 rfl rfl (Nat.le_of_ble_eq_true rfl) dX11_holds_24 (fun r m4 hq4 => ?_)
    obtain ⟨z4, rfl, ⟨rfl, hq4, rfl⟩ | ⟨rfl, hq4, rfl⟩⟩ := hq4
    · show V E (wR D cy aa ad) 1 m3 27 [(0, .ref (aa 0))] [.int (iz (1)), .ref (aa 0)]
      refine v_if_eq (tgt := 34) C dX11_holds_27 (by decide) (by omega) (fun c5 => by exact absurd c5 (by decide)) (fun c5 => ?_)
      refine v_iconst (z := 1) C dX11_holds_30 rfl ?_
      refine v_goto (tgt := 35) C dX11_holds_31 (by decide) ?_
      refine v_callV (st := []) (n := 1) (q := 0) C [.int (iz (1))] (ct_StageRatiosModel_good C.2.2.2.2.2.2.1 m3 (1) ) lR0 (eR0 _) rfl qw1444 qw16 qw1441 rfl rfl ⟨Nat.le_of_ble_eq_true rfl, Nat.le_of_ble_eq_true rfl⟩ (by decide +kernel) qw1443 qp56 rfl rfl (Nat.le_of_ble_eq_true rfl) dX11_holds_35 (fun r m6 hq6 => ?_)
      obtain ⟨z6, rfl, rfl, hq6⟩ := hq6
      show V E (wR D cy aa ad) 1 m6 38 [(0, .ref (aa 0))] [.int (iz (1))]
      refine v_iret C X rfl dX11_holds_38 ⟨_, rfl, ?_, ?_⟩
      · rw [← hq6]
        refine RP.mk fk3 ?_ (by decide)
        first
          | exact Or.inl ⟨hT1, rfl, Or.inl ⟨rfl, hq4⟩⟩
          | exact Or.inl ⟨hT1, rfl, Or.inr ⟨rfl, hq4⟩⟩
      · trivial
    · show V E (wR D cy aa ad) 1 m3 27 [(0, .ref (aa 0))] [.int (iz (0)), .ref (aa 0)]
      refine v_if_eq (tgt := 34) C dX11_holds_27 (by decide) (by omega) (fun c7 => ?_) (fun c7 => by exact absurd c7 (by decide))
      refine v_iconst (z := 0) C dX11_holds_34 rfl ?_
      refine v_callV (st := []) (n := 1) (q := 0) C [.int (iz (0))] (ct_StageRatiosModel_good C.2.2.2.2.2.2.1 m3 (0) ) lR0 (eR0 _) rfl qw1444 qw16 qw1441 rfl rfl ⟨Nat.le_of_ble_eq_true rfl, Nat.le_of_ble_eq_true rfl⟩ (by decide +kernel) qw1443 qp56 rfl rfl (Nat.le_of_ble_eq_true rfl) dX11_holds_35 (fun r m8 hq8 => ?_)
      obtain ⟨z8, rfl, rfl, hq8⟩ := hq8
      show V E (wR D cy aa ad) 1 m8 38 [(0, .ref (aa 0))] [.int (iz (0))]
      refine v_iret C X rfl dX11_holds_38 ⟨_, rfl, ?_, ?_⟩
      · rw [← hq8]
        refine RP.mk fk3 ?_ (by decide)
        first
          | exact Or.inl ⟨hT1, rfl, Or.inl ⟨rfl, hq4⟩⟩
          | exact Or.inl ⟨hT1, rfl, Or.inr ⟨rfl, hq4⟩⟩
      · trivial
  · refine v_aload_n C 0 dX11_holds_12 rfl ?_
    refine v_iconst (z := 1) C dX11_holds_13 rfl ?_
    refine v_callV (st := []) (n := 1) (q := 0) C [.int (iz (1))] (ct_StageRatiosModel_refused C.2.2.2.2.2.2.1 m1 (1) ) lR0 (eR0 _) rfl qw1340 qw16 qw1337 rfl rfl ⟨Nat.le_of_ble_eq_true rfl, Nat.le_of_ble_eq_true rfl⟩ (by decide +kernel) qw1339 qp36 rfl rfl (Nat.le_of_ble_eq_true rfl) dX11_holds_14 (fun r m9 hq9 => ?_)
    obtain ⟨z9, rfl, rfl, hq9⟩ := hq9
    show V E (wR D cy aa ad) 1 m9 17 [(0, .ref (aa 0))] [.int (iz (-1))]
    refine v_iret C X rfl dX11_holds_17 ⟨_, rfl, ?_, ?_⟩
    · rw [← hq9]
      refine RP.mk fk2 ?_ (by decide)
      exact Or.inr ⟨by omega, rfl, rfl⟩
    · trivial

set_option maxHeartbeats 4000000 in
set_option maxRecDepth 100000 in
theorem ct_StageRatiosModel_speed {lau : Launch} {D : va_G} {cy : Nat → ClassId} {aa ad : Nat → Nat} (hI : wI (wR D cy aa ad)) (m : Mem) (fa Af Bf Cf Rr Xx : Int → Int) (up : Int) (hT : TT m fa Af Bf Cf Rr Xx) (hu : up = 0 ∨ up = 1) : MT lau (wR D cy aa ad) yX11_speed cX11_speed 3 (some .int) ({ frames := 3, cells := 0, slots := 0, locals := 67 } : Room) m [.ref (aa 0), .int (iz (up))] (Pi (fun z m' => (RP (qSpe (m 0 20) fa Rr Xx up) m m' z) ∧ True)) := by
  refine v_entry hI RX11 (by decide) rfl (Nat.le_of_ble_eq_true rfl) (fun E hE C X => ?_)
  subst hE
  show V E (wR D cy aa ad) 3 m 0 [(0, .ref (aa 0)), (1, .int (iz (up)))] []
  refine v_aload_n C 0 dX11_speed_0 rfl ?_
  refine v_iconst (z := 0) C dX11_speed_1 rfl ?_
  refine v_put C 0 0 (0) 0 rfl lR0 (eR0 _) rfl inX11 tyX11 tyX11_ok nmX11 (by decide) qw1140 rfl rfl rfl (Nat.le_of_ble_eq_true rfl) (by rw [mup_r]; exact (eR0 _)) dX11_speed_2 (fun m1 em1 => ?_)
  have fk2 : FK m m1 := by rw [em1]; exact FK.up 0 0 (by unfold CKj; omega)
  have hT2 := fk2.tt hT
  have e20 : m1 0 20 = m 0 20 := fk2.1 20 (Or.inr (Or.inl rfl))
  have ht01 : m 0 20 = 0 ∨ m 0 20 = 1 := hT.imp (fun a => a) (fun a => a.1)
  refine v_aload_n C 0 dX11_speed_5 rfl ?_
  refine v_get C 0 20 lR0 (eR0 _) rfl inX11 (by decide) rfl qw1160 dX11_speed_6 ?_
  refine v_if_ne (tgt := 18) C dX11_speed_9 (by decide) (by omega) (fun c2 => ?_) (fun c2 => ?_)
  · obtain ⟨hT1, hg0⟩ := hT.resolve_left (by omega)
    have hg := fk2.rt hg0
    obtain ⟨⟨r11, r8, r9, r10, r12⟩, r1, r2, r6, hvd, hfo⟩ := id hg
    obtain ⟨hn, hF, hup, hlw, hX⟩ := id hvd
    refine v_aload_n C 0 dX11_speed_18 rfl ?_
    refine v_callV (st := []) (n := 0) (q := 0) C [] (ct_StageRatiosModel_laysOwn C.2.2.2.2.2.2.1 m1 (fa) (Af) (Bf) (Cf) (Rr) (Xx) (by first | assumption | omega)) lR0 (eR0 _) rfl qw1476 qw16 qw1473 rfl rfl ⟨Nat.le_of_ble_eq_true rfl, Nat.le_of_ble_eq_true rfl⟩ (by decide +kernel) qw1475 qp59 rfl rfl (Nat.le_of_ble_eq_true rfl) dX11_speed_19 (fun r m3 hq3 => ?_)
    obtain ⟨rfl, hq3⟩ := hq3
    show V E (wR D cy aa ad) 3 m3 22 [(0, .ref (aa 0)), (1, .int (iz (up)))] []
    have fk3 := fk2.tr (show FK _ m3 from ⟨fun j hj => hq3.2.1 j (by unfold CKj at hj; omega), fun q hq => hq3.2.2 q (by omega) (by omega)⟩)
    have hg3 := fk3.rt hg0
    have hd3 := hq3.1
    have hDv := hd3.2.2
    have hstr := fun (j : Int) (h0 : 0 ≤ j) (h1 : j ≤ Rr 5) => stZ_rng (s := j) hF hn.2 hDv.2.1 hDv.2.2 h0 h1
    have hUr := hX.u hF
    have al := hDv.al hF
    have hsp := hDv.sp hF
    refine v_aload_n C 0 dX11_speed_22 rfl ?_
    refine v_callV (st := []) (n := 0) (q := 0) C [] (ct_StageRatiosModel_noFactors C.2.2.2.2.2.2.1 m3  ) lR0 (eR0 _) rfl qw1565 qw16 qw1562 rfl rfl ⟨Nat.le_of_ble_eq_true rfl, Nat.le_of_ble_eq_true rfl⟩ (by decide +kernel) qw1564 qp74 rfl rfl (Nat.le_of_ble_eq_true rfl) dX11_speed_23 (fun r m4 hq4 => ?_)
    obtain ⟨rfl, hq4⟩ := hq4
    show V E (wR D cy aa ad) 3 m4 26 [(0, .ref (aa 0)), (1, .int (iz (up)))] []
    refine v_iconst (z := 0) C dX11_speed_26 rfl ?_
    refine v_istore_n (L1 := [(2, .int (iz (0))), (0, .ref (aa 0)), (1, .int (iz (up)))]) C dX11_speed_27 (by decide) rfl ?_
    have K28 : ∀ (nK : Nat) (i : Int) (mL : Mem) (hi : 0 ≤ i ∧ i ≤ Rr 5) (hE : EX mL (spL fa (stX fa Rr Xx) (fun s => stX fa Rr Xx s - uX Xx s) i.toNat)) (hfL : ∀ q : Nat, q ≠ 12 → mL q = m3 q), (Rr 5 - i).toNat < nK → V E (wR D cy aa ad) 3 mL 28 [(0, .ref (aa 0)), (1, .int (iz (up))), (2, .int (iz (i)))] [] := by
      intro nK
      induction nK with
      | zero => intro i mL hi hE hfL hn; exact absurd hn (Nat.not_lt_zero _)
      | succ nK ih28 =>
        intro i mL hi hE hfL hn28
        have fkL := fk3.tr (show FK _ mL from ⟨fun j _ => by rw [hfL 0 (by decide)], fun q hq => hfL q (by omega)⟩)
        have hgL := fkL.rt hg0
        have hdL := hd3.fr (by rw [hfL 0 (by decide)]) (hfL 9 (by decide))
        have l11 : mL 0 11 = Rr 5 := hgL.1.1
        have e1 : (i + 1).toNat = i.toNat + 1 := by omega
        have e2 : ((i.toNat : Nat) : Int) = i := by omega
        refine v_iload_n C 2 dX11_speed_28 rfl ?_
        refine v_aload_n C 0 dX11_speed_29 rfl ?_
        refine v_get C 0 11 lR0 (eR0 _) rfl inX11 (by decide) rfl qw1151 dX11_speed_30 ?_
        refine v_icmp_ge (tgt := 69) C dX11_speed_33 (by decide) (by omega) (by omega) (fun c5 => ?_) (fun c5 => ?_)
        · refine v_aload_n C 0 dX11_speed_69 rfl ?_
          refine v_aload_n C 0 dX11_speed_70 rfl ?_
          refine v_iload_n C 1 dX11_speed_71 rfl ?_
          refine v_callV (st := [.ref (aa 0)]) (n := 1) (q := 0) C [.int (iz (up))] (ct_StageRatiosModel_lowest C.2.2.2.2.2.2.1 mL (spT fa (Rr 5) (Xx 0) (uX Xx)) (up) (by rw [show i.toNat = (Rr 5).toNat by omega] at hE; exact hE) (by first | assumption | omega) (by intro j; have := exL_rng (k := j) al.1.2; have := al.1.1; omega)) lR0 (eR0 _) rfl qw1577 qw16 qw1574 rfl rfl ⟨Nat.le_of_ble_eq_true rfl, Nat.le_of_ble_eq_true rfl⟩ (by decide +kernel) qw1576 qp77 rfl rfl (Nat.le_of_ble_eq_true rfl) dX11_speed_72 (fun r m6 hq6 => ?_)
          obtain ⟨z6, rfl, rfl, rfl⟩ := hq6
          show V E (wR D cy aa ad) 3 mL 75 [(0, .ref (aa 0)), (1, .int (iz (up))), (2, .int (iz (i)))] [.int (iz (lowA (fun j0 => if up = 1 then exL j0 (spT fa (Rr 5) (Xx 0) (uX Xx)) else -exL j0 (spT fa (Rr 5) (Xx 0) (uX Xx))) 398)), .ref (aa 0)]
          refine v_callV (st := []) (n := 1) (q := 0) C [.int (iz (lowA (fun j0 => if up = 1 then exL j0 (spT fa (Rr 5) (Xx 0) (uX Xx)) else -exL j0 (spT fa (Rr 5) (Xx 0) (uX Xx))) 398))] (ct_StageRatiosModel_good C.2.2.2.2.2.2.1 mL (lowA (fun j0 => if up = 1 then exL j0 (spT fa (Rr 5) (Xx 0) (uX Xx)) else -exL j0 (spT fa (Rr 5) (Xx 0) (uX Xx))) 398) ) lR0 (eR0 _) rfl qw1444 qw16 qw1441 rfl rfl ⟨Nat.le_of_ble_eq_true rfl, Nat.le_of_ble_eq_true rfl⟩ (by decide +kernel) qw1443 qp56 rfl rfl (Nat.le_of_ble_eq_true rfl) dX11_speed_75 (fun r m7 hq7 => ?_)
          obtain ⟨z7, rfl, rfl, hq7⟩ := hq7
          show V E (wR D cy aa ad) 3 m7 78 [(0, .ref (aa 0)), (1, .int (iz (up))), (2, .int (iz (i)))] [.int (iz ((lowA (fun j0 => if up = 1 then exL j0 (spT fa (Rr 5) (Xx 0) (uX Xx)) else -exL j0 (spT fa (Rr 5) (Xx 0) (uX Xx))) 398)))]
          refine v_iret C X rfl dX11_speed_78 ⟨_, rfl, ?_, ?_⟩
          · rw [← hq7]
            refine RP.mk fkL ?_ (by decide)
            exact Or.inl ⟨hT1, rfl, (low_399 (fun q hq => ⟨(al.1.2 q hq).1, (al.1.2 q hq).2.1⟩)).symm⟩
          · trivial
        · have e9 : mL 9 i = uX Xx i := by rw [hfL 9 (by decide)]; exact hd3.2.1 i (by omega) (by omega)
          have hsi := hsp i (by omega) (by omega)
          dsimp only at hsi
          refine v_aload_n C 0 dX11_speed_36 rfl ?_
          refine v_aload_n C 0 dX11_speed_37 rfl ?_
          refine v_iload_n C 2 dX11_speed_38 rfl ?_
          refine v_callV (st := [.ref (aa 0)]) (n := 1) (q := 0) C [.int (iz (i))] (ct_StageRatiosModel_start C.2.2.2.2.2.2.1 mL (fa) (Af) (Bf) (Cf) (Rr) (Xx) (Xx 0) (uX Xx) (i) (by exact hgL) (by exact hdL) (by first | assumption | omega)) lR0 (eR0 _) rfl qw1480 qw16 qw1477 rfl rfl ⟨Nat.le_of_ble_eq_true rfl, Nat.le_of_ble_eq_true rfl⟩ (by decide +kernel) qw1479 qp60 rfl rfl (Nat.le_of_ble_eq_true rfl) dX11_speed_39 (fun r m8 hq8 => ?_)
          obtain ⟨z8, rfl, rfl, rfl⟩ := hq8
          show V E (wR D cy aa ad) 3 mL 42 [(0, .ref (aa 0)), (1, .int (iz (up))), (2, .int (iz (i)))] [.int (iz (stZ fa (Rr 5) (Xx 0) (uX Xx) i)), .ref (aa 0)]
          refine v_aload_n C 0 dX11_speed_42 rfl ?_
          refine v_iload_n C 2 dX11_speed_43 rfl ?_
          refine v_callV (st := [.int (iz (stZ fa (Rr 5) (Xx 0) (uX Xx) i)), .ref (aa 0)]) (n := 1) (q := 0) C [.int (iz (i))] (ct_StageRatiosModel_start C.2.2.2.2.2.2.1 mL (fa) (Af) (Bf) (Cf) (Rr) (Xx) (Xx 0) (uX Xx) (i) (by exact hgL) (by exact hdL) (by first | assumption | omega)) lR0 (eR0 _) rfl qw1480 qw16 qw1477 rfl rfl ⟨Nat.le_of_ble_eq_true rfl, Nat.le_of_ble_eq_true rfl⟩ (by decide +kernel) qw1479 qp60 rfl rfl (Nat.le_of_ble_eq_true rfl) dX11_speed_44 (fun r m9 hq9 => ?_)
          obtain ⟨z9, rfl, rfl, rfl⟩ := hq9
          show V E (wR D cy aa ad) 3 mL 47 [(0, .ref (aa 0)), (1, .int (iz (up))), (2, .int (iz (i)))] [.int (iz (stZ fa (Rr 5) (Xx 0) (uX Xx) i)), .int (iz (stZ fa (Rr 5) (Xx 0) (uX Xx) i)), .ref (aa 0)]
          refine v_aload_n C 0 dX11_speed_47 rfl ?_
          refine v_get C 0 33 lR0 (eR0 _) rfl inX11 (by decide) rfl qw1173 dX11_speed_48 ?_
          refine v_iload_n C 2 dX11_speed_51 rfl ?_
          refine v_iald C 9 lR9 (eR9 _) (by decide) (by omega) dX11_speed_52 ?_
          refine v_isub C dX11_speed_53 ?_
          refine v_aload_n C 0 dX11_speed_54 rfl ?_
          refine v_iload_n C 2 dX11_speed_55 rfl ?_
          refine v_iconst (z := 0) C dX11_speed_56 rfl ?_
          refine v_callV (st := [.int (iz ((stZ fa (Rr 5) (Xx 0) (uX Xx) i) - (mL 9 i))), .int (iz (stZ fa (Rr 5) (Xx 0) (uX Xx) i)), .ref (aa 0)]) (n := 2) (q := 0) C [.int (iz (i)), .int (iz (0))] (ct_StageRatiosModel_told C.2.2.2.2.2.2.1 mL (fa) (Af) (Bf) (Cf) (Rr) (Xx) (i) (0) (by exact hgL) (by first | assumption | omega) (by first | assumption | omega)) lR0 (eR0 _) rfl qw1440 qw16 qw1437 rfl rfl ⟨Nat.le_of_ble_eq_true rfl, Nat.le_of_ble_eq_true rfl⟩ (by decide +kernel) qw1439 qp55 rfl rfl (Nat.le_of_ble_eq_true rfl) dX11_speed_57 (fun r m10 hq10 => ?_)
          obtain ⟨z10, rfl, rfl, rfl⟩ := hq10
          show V E (wR D cy aa ad) 3 mL 60 [(0, .ref (aa 0)), (1, .int (iz (up))), (2, .int (iz (i)))] [.int (iz (fa (i * 9 + 0))), .int (iz ((stZ fa (Rr 5) (Xx 0) (uX Xx) i) - (mL 9 i))), .int (iz (stZ fa (Rr 5) (Xx 0) (uX Xx) i)), .ref (aa 0)]
          refine v_callV (st := []) (n := 3) (q := 0) C [.int (iz (stZ fa (Rr 5) (Xx 0) (uX Xx) i)), .int (iz ((stZ fa (Rr 5) (Xx 0) (uX Xx) i) - (mL 9 i))), .int (iz (fa (i * 9 + 0)))] (ct_StageRatiosModel_ratio C.2.2.2.2.2.2.1 mL (stZ fa (Rr 5) (Xx 0) (uX Xx) i) ((stZ fa (Rr 5) (Xx 0) (uX Xx) i) - (mL 9 i)) (fa (i * 9 + 0)) ((spL fa (stX fa Rr Xx) (fun s => stX fa Rr Xx s - uX Xx s) i.toNat)) (by omega) (by rw [e9]; omega) (by exact hE)) lR0 (eR0 _) rfl qw1569 qw16 qw1566 rfl rfl ⟨Nat.le_of_ble_eq_true rfl, Nat.le_of_ble_eq_true rfl⟩ (by decide +kernel) qw1568 qp75 rfl rfl (Nat.le_of_ble_eq_true rfl) dX11_speed_60 (fun r m11 hq11 => ?_)
          obtain ⟨rfl, hq11⟩ := hq11
          show V E (wR D cy aa ad) 3 m11 63 [(0, .ref (aa 0)), (1, .int (iz (up))), (2, .int (iz (i)))] []
          refine v_iinc (L1 := [(2, .int (iz (i + 1))), (0, .ref (aa 0)), (1, .int (iz (up)))]) C 2 dX11_speed_63 rfl (by decide) rfl ?_
          refine v_goto (tgt := 28) C dX11_speed_66 (by decide) ?_
          refine v_sub [1, 2, 0] rfl ?_
          exact ih28 (i + 1) m11 (by omega) (by 
                        rw [e1]; show EX _ ((spL fa (stX fa Rr Xx) (fun s => stX fa Rr Xx s - uX Xx s) i.toNat) ++ [(stX fa Rr Xx ((i.toNat : Nat) : Int), fa (((i.toNat : Nat) : Int) * 9 + 0)), (stX fa Rr Xx ((i.toNat : Nat) : Int) - uX Xx ((i.toNat : Nat) : Int), -fa (((i.toNat : Nat) : Int) * 9 + 0))])
                        rw [e2]; rw [e9] at hq11; exact hq11.1
                      ) (by intro q h; rw [hq11.2 q h]; exact hfL q h) (by omega)
    refine v_sub [1, 2, 0] rfl ?_
    exact K28 _ (0) m4 (by omega) (by exact hq4.1) (by exact hq4.2) (Nat.lt_succ_self _)
  · refine v_aload_n C 0 dX11_speed_12 rfl ?_
    refine v_iconst (z := 1) C dX11_speed_13 rfl ?_
    refine v_callV (st := []) (n := 1) (q := 0) C [.int (iz (1))] (ct_StageRatiosModel_refused C.2.2.2.2.2.2.1 m1 (1) ) lR0 (eR0 _) rfl qw1340 qw16 qw1337 rfl rfl ⟨Nat.le_of_ble_eq_true rfl, Nat.le_of_ble_eq_true rfl⟩ (by decide +kernel) qw1339 qp36 rfl rfl (Nat.le_of_ble_eq_true rfl) dX11_speed_14 (fun r m12 hq12 => ?_)
    obtain ⟨z12, rfl, rfl, hq12⟩ := hq12
    show V E (wR D cy aa ad) 3 m12 17 [(0, .ref (aa 0)), (1, .int (iz (up)))] [.int (iz (-1))]
    refine v_iret C X rfl dX11_speed_17 ⟨_, rfl, ?_, ?_⟩
    · rw [← hq12]
      refine RP.mk fk2 ?_ (by decide)
      exact Or.inr ⟨by omega, rfl, rfl⟩
    · trivial

set_option maxHeartbeats 4000000 in
set_option maxRecDepth 100000 in
theorem ct_StageRatiosModel_box {lau : Launch} {D : va_G} {cy : Nat → ClassId} {aa ad : Nat → Nat} (hI : wI (wR D cy aa ad)) (m : Mem) (fa Af Bf Cf Rr Xx : Int → Int) (s up : Int) (hT : TT m fa Af Bf Cf Rr Xx) (hs : -2147483648 ≤ s ∧ s ≤ 2147483647) (hu : up = 0 ∨ up = 1) : MT lau (wR D cy aa ad) yX11_box cX11_box 3 (some .int) ({ frames := 2, cells := 0, slots := 0, locals := 43 } : Room) m [.ref (aa 0), .int (iz (s)), .int (iz (up))] (Pi (fun z m' => (RP (qBox (m 0 20) Rr Xx s up) m m' z) ∧ True)) := by
  refine v_entry hI RX11 (by decide) rfl (Nat.le_of_ble_eq_true rfl) (fun E hE C X => ?_)
  subst hE
  show V E (wR D cy aa ad) 3 m 0 [(0, .ref (aa 0)), (1, .int (iz (s))), (2, .int (iz (up)))] []
  refine v_aload_n C 0 dX11_box_0 rfl ?_
  refine v_iconst (z := 0) C dX11_box_1 rfl ?_
  refine v_put C 0 0 (0) 0 rfl lR0 (eR0 _) rfl inX11 tyX11 tyX11_ok nmX11 (by decide) qw1140 rfl rfl rfl (Nat.le_of_ble_eq_true rfl) (by rw [mup_r]; exact (eR0 _)) dX11_box_2 (fun m1 em1 => ?_)
  have fk2 : FK m m1 := by rw [em1]; exact FK.up 0 0 (by unfold CKj; omega)
  have hT2 := fk2.tt hT
  have e20 : m1 0 20 = m 0 20 := fk2.1 20 (Or.inr (Or.inl rfl))
  have ht01 : m 0 20 = 0 ∨ m 0 20 = 1 := hT.imp (fun a => a) (fun a => a.1)
  refine v_aload_n C 0 dX11_box_5 rfl ?_
  refine v_iload_n C 1 dX11_box_6 rfl ?_
  refine v_callV (st := []) (n := 1) (q := 0) C [.int (iz (s))] (ct_StageRatiosModel_isStage C.2.2.2.2.2.2.1 m1 (fa) (Af) (Bf) (Cf) (Rr) (Xx) (s) (by exact hT2) (by first | assumption | omega)) lR0 (eR0 _) rfl qw1464 qw16 qw1461 rfl rfl ⟨Nat.le_of_ble_eq_true rfl, Nat.le_of_ble_eq_true rfl⟩ (by decide +kernel) qw1463 qp57 rfl rfl (Nat.le_of_ble_eq_true rfl) dX11_box_7 (fun r m2 hq2 => ?_)
  obtain ⟨z2, rfl, ⟨rfl, hq2, rfl⟩ | ⟨rfl, hq2, rfl⟩⟩ := hq2
  · show V E (wR D cy aa ad) 3 m1 10 [(0, .ref (aa 0)), (1, .int (iz (s))), (2, .int (iz (up)))] [.int (iz (1))]
    rw [e20] at hq2
    obtain ⟨hT1, hs0⟩ := id hq2
    obtain ⟨-, hg0⟩ := hT.resolve_left (by omega)
    have hg := fk2.rt hg0
    obtain ⟨⟨r11, r8, r9, r10, r12⟩, r1, r2, r6, hvd, hfo⟩ := id hg
    obtain ⟨hn, hF, hup, hlw, hX⟩ := id hvd
    refine v_if_eq (tgt := 37) C dX11_box_10 (by decide) (by omega) (fun c3 => by exact absurd c3 (by decide)) (fun c3 => ?_)
    refine v_aload_n C 0 dX11_box_13 rfl ?_
    refine v_aload_n C 0 dX11_box_14 rfl ?_
    refine v_get C 0 21 lR0 (eR0 _) rfl inX11 (by decide) rfl qw1161 dX11_box_15 ?_
    refine v_iload_n C 2 dX11_box_18 rfl ?_
    refine v_if_eq (tgt := 27) C dX11_box_19 (by decide) (by omega) (fun c4 => ?_) (fun c4 => ?_)
    · refine v_iconst (z := 5) C dX11_box_27 rfl ?_
      refine v_iload_n C 1 dX11_box_28 rfl ?_
      refine v_iadd C dX11_box_29 ?_
      refine v_iald C 6 lR6 (eR6 _) (by decide) (by omega) dX11_box_30 ?_
      refine v_callV (st := []) (n := 1) (q := 0) C [.int (iz (m1 6 (5 + s)))] (ct_StageRatiosModel_good C.2.2.2.2.2.2.1 m1 (m1 6 (5 + s)) ) lR0 (eR0 _) rfl qw1444 qw16 qw1441 rfl rfl ⟨Nat.le_of_ble_eq_true rfl, Nat.le_of_ble_eq_true rfl⟩ (by decide +kernel) qw1443 qp56 rfl rfl (Nat.le_of_ble_eq_true rfl) dX11_box_31 (fun r m5 hq5 => ?_)
      obtain ⟨z5, rfl, rfl, hq5⟩ := hq5
      show V E (wR D cy aa ad) 3 m5 34 [(0, .ref (aa 0)), (1, .int (iz (s))), (2, .int (iz (up)))] [.int (iz ((m1 6 (5 + s))))]
      refine v_goto (tgt := 42) C dX11_box_34 (by decide) ?_
      refine v_iret C X rfl dX11_box_42 ⟨_, rfl, ?_, ?_⟩
      · first
          | (rw [← NO_q39]
             exact RP.mk fk2 (Or.inr ⟨e20 ▸ hq2, rfl, rfl⟩) (by decide))
          | (rw [← hq5]
             refine RP.mk fk2 ?_ (by decide)
             first
               | exact Or.inl ⟨hq2, rfl, by rw [if_pos (by omega)]; exact r6 _ (by omega) (by omega)⟩
               | exact Or.inl ⟨hq2, rfl, by rw [if_neg (by omega)]; exact r6 _ (by omega) (by omega)⟩)
      · trivial
    · refine v_bipush (z := 8) C dX11_box_22 (by decide) ?_
      refine v_goto (tgt := 28) C dX11_box_24 (by decide) ?_
      refine v_iload_n C 1 dX11_box_28 rfl ?_
      refine v_iadd C dX11_box_29 ?_
      refine v_iald C 6 lR6 (eR6 _) (by decide) (by omega) dX11_box_30 ?_
      refine v_callV (st := []) (n := 1) (q := 0) C [.int (iz (m1 6 (8 + s)))] (ct_StageRatiosModel_good C.2.2.2.2.2.2.1 m1 (m1 6 (8 + s)) ) lR0 (eR0 _) rfl qw1444 qw16 qw1441 rfl rfl ⟨Nat.le_of_ble_eq_true rfl, Nat.le_of_ble_eq_true rfl⟩ (by decide +kernel) qw1443 qp56 rfl rfl (Nat.le_of_ble_eq_true rfl) dX11_box_31 (fun r m6 hq6 => ?_)
      obtain ⟨z6, rfl, rfl, hq6⟩ := hq6
      show V E (wR D cy aa ad) 3 m6 34 [(0, .ref (aa 0)), (1, .int (iz (s))), (2, .int (iz (up)))] [.int (iz ((m1 6 (8 + s))))]
      refine v_goto (tgt := 42) C dX11_box_34 (by decide) ?_
      refine v_iret C X rfl dX11_box_42 ⟨_, rfl, ?_, ?_⟩
      · first
          | (rw [← NO_q39]
             exact RP.mk fk2 (Or.inr ⟨e20 ▸ hq2, rfl, rfl⟩) (by decide))
          | (rw [← hq6]
             refine RP.mk fk2 ?_ (by decide)
             first
               | exact Or.inl ⟨hq2, rfl, by rw [if_pos (by omega)]; exact r6 _ (by omega) (by omega)⟩
               | exact Or.inl ⟨hq2, rfl, by rw [if_neg (by omega)]; exact r6 _ (by omega) (by omega)⟩)
      · trivial
  · show V E (wR D cy aa ad) 3 m1 10 [(0, .ref (aa 0)), (1, .int (iz (s))), (2, .int (iz (up)))] [.int (iz (0))]
    refine v_if_eq (tgt := 37) C dX11_box_10 (by decide) (by omega) (fun c7 => ?_) (fun c7 => by exact absurd c7 (by decide))
    refine v_aload_n C 0 dX11_box_37 rfl ?_
    refine v_iconst (z := 1) C dX11_box_38 rfl ?_
    refine v_callV (st := []) (n := 1) (q := 0) C [.int (iz (1))] (ct_StageRatiosModel_refused C.2.2.2.2.2.2.1 m1 (1) ) lR0 (eR0 _) rfl qw1340 qw16 qw1337 rfl rfl ⟨Nat.le_of_ble_eq_true rfl, Nat.le_of_ble_eq_true rfl⟩ (by decide +kernel) qw1339 qp36 rfl rfl (Nat.le_of_ble_eq_true rfl) dX11_box_39 (fun r m8 hq8 => ?_)
    obtain ⟨z8, rfl, rfl, hq8⟩ := hq8
    show V E (wR D cy aa ad) 3 m8 42 [(0, .ref (aa 0)), (1, .int (iz (s))), (2, .int (iz (up)))] [.int (iz (-1))]
    refine v_iret C X rfl dX11_box_42 ⟨_, rfl, ?_, ?_⟩
    · first
        | (rw [← hq8]
           exact RP.mk fk2 (Or.inr ⟨e20 ▸ hq2, rfl, rfl⟩) (by decide))
        | (rw [← NO_q31]
           refine RP.mk fk2 ?_ (by decide)
           first
             | exact Or.inl ⟨hq2, rfl, by rw [if_pos (by omega)]; exact r6 _ (by omega) (by omega)⟩
             | exact Or.inl ⟨hq2, rfl, by rw [if_neg (by omega)]; exact r6 _ (by omega) (by omega)⟩)
    · trivial
