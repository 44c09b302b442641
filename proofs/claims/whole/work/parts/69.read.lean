/-! the class reader: a line, the whole text -/
set_option maxHeartbeats 4000000 in
set_option maxRecDepth 100000 in
theorem ct_Reader_readLine {lau : Launch} {D : va_G} {cy : Nat → ClassId} {aa ad : Nat → Nat} (hI : wI (wC D cy aa ad)) (m : Mem) (b : Int → Int) (n p : Int) (k kf ks kt kc : Nat) (σ : Sg) (hb : BtOk b) (hn : 0 ≤ n ∧ n ≤ 700) (hT : TkC m b n p) (hp : 0 ≤ p ∧ p ≤ n) (hrd : RdOk m) (hk : RocketAt k kf ks kt kc) (hσ : SgOk σ) (hD : DrC m k kf ks kt kc σ) : MT lau (wC D cy aa ad) yX5_readLine cX5_readLine 2 (some .boolean) ({ frames := 7, cells := 0, slots := 0, locals := 153 } : Room) m [.ref (aa 3), .ref (aa k)] (Pi (fun z m' => (1 = z ∧ (IsR (oLine b n σ p)) ∧ RsM (oLine b n σ p) m m' (fun x => TkC m' b n x.2 ∧ DrC m' k kf ks kt kc x.1) ∧ FRd m m' k kf ks kt kc) ∨ (0 = z ∧ ¬ (IsR (oLine b n σ p)) ∧ RsM (oLine b n σ p) m m' (fun x => TkC m' b n x.2 ∧ DrC m' k kf ks kt kc x.1) ∧ FRd m m' k kf ks kt kc))) := by
  refine v_entry hI RX5 (by decide) rfl (Nat.le_of_ble_eq_true rfl) (fun E hE C X => ?_)
  subst hE
  show V E (wC D cy aa ad) 2 m 0 [(0, .ref (aa 3)), (1, .ref (aa k))] []
  obtain ⟨t2, t5, tk, ts, tx, tw, tn⟩ := id hT
  have tr := tk_rngP (b := b) hp.2
  obtain ⟨d1, d2, d3, d4, d5, d6, d7⟩ := id hD
  obtain ⟨s1, s2, s3, s4, s5, s6, s7, s8⟩ := id hσ
  have hkk : 73 ≤ k ∧ kf = k + 1 ∧ ks = k + 2 ∧ kt = k + 3 ∧ kc = k + 4 := by unfold RocketAt at hk; omega
  have hkk2 : 73 ≤ kf ∧ 73 ≤ ks ∧ 73 ≤ kt ∧ 73 ≤ kc ∧ k ≠ kf ∧ kf ≠ k ∧ kf ≠ ks ∧ kf ≠ kt ∧ kf ≠ kc := by omega
  have r1 := wd_rocket.r27
  have r2 := wd_stage.r27
  have r3 := wd_fail.r27
  refine v_aload_n C 0 dX5_readLine_0 rfl ?_
  refine v_get C 3 0 lC3 (eC3 _) rfl inX5 (by decide) rfl qw130 dX5_readLine_1 ?_
  refine v_get C 1 2 lC1 (eC1 _) rfl inX8 (by decide) rfl qw40 dX5_readLine_4 ?_
  refine v_iconst (z := 1) C dX5_readLine_7 rfl ?_
  refine v_icmp_eq (tgt := 17) C dX5_readLine_8 (by decide) (by omega) (by omega) (fun c1 => ?_) (fun c1 => ?_)
  · have k1 : kdZ b n p = 1 := tk.symm.trans c1
    have hwl := wl_ok hp.2 k1
    have hwr := hwl.r27
    have e4 := tw k1
    refine v_aload_n C 0 dX5_readLine_17 rfl ?_
    refine v_get C 3 0 lC3 (eC3 _) rfl inX5 (by decide) rfl qw130 dX5_readLine_18 ?_
    refine v_get C 1 4 lC1 (eC1 _) rfl inX8 (by decide) rfl qw44 dX5_readLine_21 ?_
    refine v_aload_n C 0 dX5_readLine_24 rfl ?_
    refine v_get C 3 2 lC3 (eC3 _) rfl inX5 (by decide) rfl qw132 dX5_readLine_25 ?_
    refine v_lc_ne (tgt := 53) C dX5_readLine_28 dX5_readLine_29 (by decide) (by first | (rw [e4]; omega) | (rw [hrd.1]; omega)) (by first | (rw [e4]; omega) | (rw [hrd.1]; omega)) (fun c2 => ?_) (fun c2 => ?_)
    · have hnrocket : ¬ wlZ b n p = wdC w_rocket := fun y => c2 (e4.trans (by rw [y, hrd.1]))
      refine v_aload_n C 0 dX5_readLine_53 rfl ?_
      refine v_get C 3 0 lC3 (eC3 _) rfl inX5 (by decide) rfl qw130 dX5_readLine_54 ?_
      refine v_get C 1 4 lC1 (eC1 _) rfl inX8 (by decide) rfl qw44 dX5_readLine_57 ?_
      refine v_aload_n C 0 dX5_readLine_60 rfl ?_
      refine v_get C 3 3 lC3 (eC3 _) rfl inX5 (by decide) rfl qw133 dX5_readLine_61 ?_
      refine v_lc_ne (tgt := 94) C dX5_readLine_64 dX5_readLine_65 (by decide) (by first | (rw [e4]; omega) | (rw [hrd.2.1]; omega)) (by first | (rw [e4]; omega) | (rw [hrd.2.1]; omega)) (fun c3 => ?_) (fun c3 => ?_)
      · have hnstage : ¬ wlZ b n p = wdC w_stage := fun y => c3 (e4.trans (by rw [y, hrd.2.1]))
        refine v_aload_n C 0 dX5_readLine_94 rfl ?_
        refine v_get C 3 0 lC3 (eC3 _) rfl inX5 (by decide) rfl qw130 dX5_readLine_95 ?_
        refine v_get C 1 4 lC1 (eC1 _) rfl inX8 (by decide) rfl qw44 dX5_readLine_98 ?_
        refine v_aload_n C 0 dX5_readLine_101 rfl ?_
        refine v_get C 3 4 lC3 (eC3 _) rfl inX5 (by decide) rfl qw134 dX5_readLine_102 ?_
        refine v_lc_ne (tgt := 136) C dX5_readLine_105 dX5_readLine_106 (by decide) (by first | (rw [e4]; omega) | (rw [hrd.2.2.1]; omega)) (by first | (rw [e4]; omega) | (rw [hrd.2.2.1]; omega)) (fun c4 => ?_) (fun c4 => ?_)
        · have hnfail : ¬ wlZ b n p = wdC w_fail := fun y => c4 (e4.trans (by rw [y, hrd.2.2.1]))
          have hE : oLine b n σ p = .inl (1, skZ b n p) := (if_neg (fun y => y k1)).trans <| (if_neg hnrocket).trans <| (if_neg hnstage).trans <| if_neg hnfail
          refine v_aload_n C 0 dX5_readLine_136 rfl ?_
          refine v_iconst (z := 1) C dX5_readLine_137 rfl ?_
          refine v_callV (st := []) (n := 1) (q := 3) C [.int (iz (1))] (ct_Reader_stop C.2.2.2.2.2.2.1 m (1) ) lC3 (eC3 _) rfl qw535 qw3 qw532 rfl rfl ⟨Nat.le_of_ble_eq_true rfl, Nat.le_of_ble_eq_true rfl⟩ (by decide +kernel) qw534 qp3 rfl rfl (Nat.le_of_ble_eq_true rfl) dX5_readLine_138 (fun r m5 hq5 => ?_)
          obtain ⟨z5, rfl, rfl, hq5⟩ := hq5
          show V E (wC D cy aa ad) 2 m5 141 [(0, .ref (aa 3)), (1, .ref (aa k))] [.int (iz (0))]
          refine v_iret C X (by decide) dX5_readLine_141 ⟨_, rfl, Or.inr ⟨rfl, ?_, ?_⟩⟩
          · first
              | exact IsR.no hE
              | exact ⟨_, hE⟩
          · exact ⟨RsM.ol hE ⟨hq5.2.1, hq5.2.2.1.trans ts⟩, hq5.1.rd k kf ks kt kc⟩
        · have hyfail : wlZ b n p = wdC w_fail := en_eq hwl wd_fail (e4.symm.trans (c4.trans hrd.2.2.1))
          refine v_aload_n C 0 dX5_readLine_109 rfl ?_
          refine v_aload_n C 1 dX5_readLine_110 rfl ?_
          refine v_get C k 6 (RocketAt.l0 hk) (RocketAt.e0 hk _) rfl inX6 (by decide) rfl qw390 dX5_readLine_111 ?_
          refine v_bipush (z := 6) C dX5_readLine_114 (by decide) ?_
          refine v_callV (st := []) (n := 2) (q := 3) C [.int (iz (m k 6)), .int (iz (6))] (ct_Reader_hasRoomFor C.2.2.2.2.2.2.1 m (m k 6) (6) (by omega) (by omega) (by omega)) lC3 (eC3 _) rfl qw557 qw3 qw554 rfl rfl ⟨Nat.le_of_ble_eq_true rfl, Nat.le_of_ble_eq_true rfl⟩ (by decide +kernel) qw556 qp7 rfl rfl (Nat.le_of_ble_eq_true rfl) dX5_readLine_116 (fun r m6 hq6 => ?_)
          obtain ⟨z6, rfl, ⟨rfl, hq6, hm6⟩ | ⟨rfl, hq6, hm6⟩⟩ := hq6
          · show V E (wC D cy aa ad) 2 m6 119 [(0, .ref (aa 3)), (1, .ref (aa k))] [.int (iz (1))]
            have hmm := (hm6.1.1 hq6).symm
            subst hmm
            refine v_if_eq (tgt := 134) C dX5_readLine_119 (by decide) (by omega) (fun c7 => by exact absurd c7 (by decide)) (fun c7 => ?_)
            refine v_aload_n C 0 dX5_readLine_122 rfl ?_
            refine v_aload_n C 1 dX5_readLine_123 rfl ?_
            refine v_callV (st := []) (n := 1) (q := 3) C [.ref (aa k)] (ct_Reader_readFail C.2.2.2.2.2.2.1 m6 (b) (n) _ (k) (kf) (ks) (kt) (kc) _ (by exact hb) (by exact hn) (by exact hT) (by exact hp) (by exact hrd) hk (by exact hσ) (by exact hD) (by omega) (by omega)) lC3 (eC3 _) rfl qw611 qw3 qw608 rfl rfl ⟨Nat.le_of_ble_eq_true rfl, Nat.le_of_ble_eq_true rfl⟩ (by decide +kernel) qw610 qp14 rfl rfl (Nat.le_of_ble_eq_true rfl) dX5_readLine_124 (fun r m8 hq8 => ?_)
            obtain ⟨z8, rfl, ⟨rfl, hq8, hm8⟩ | ⟨rfl, hq8, hm8⟩⟩ := hq8
            · show V E (wC D cy aa ad) 2 m8 127 [(0, .ref (aa 3)), (1, .ref (aa k))] [.int (iz (1))]
              obtain ⟨x, hx⟩ := hq8
              have hE : oLine b n σ p = .inr x := (if_neg (fun y => y k1)).trans <| (if_neg hnrocket).trans <| (if_neg hnstage).trans <| (if_pos hyfail).trans <| hx
              have hP := RsM.or (K := fun x : Sg × Int => TkC m8 b n x.2 ∧ DrC m8 k kf ks kt kc x.1) hE (hm8.1.r hx)
              have hF := hm8.2
              refine v_if_eq (tgt := 134) C dX5_readLine_127 (by decide) (by omega) (fun c9 => by exact absurd c9 (by decide)) (fun c9 => ?_)
              refine v_iconst (z := 1) C dX5_readLine_130 rfl ?_
              refine v_goto (tgt := 135) C dX5_readLine_131 (by decide) ?_
              refine v_iret C X (by decide) dX5_readLine_135 ⟨_, rfl, Or.inl ⟨rfl, ?_, ?_⟩⟩
              · first
                  | exact IsR.no hE
                  | exact ⟨_, hE⟩
              · exact ⟨hP, hF⟩
            · show V E (wC D cy aa ad) 2 m8 127 [(0, .ref (aa 3)), (1, .ref (aa k))] [.int (iz (0))]
              obtain ⟨e, he⟩ := IsR.n hq8
              have hE : oLine b n σ p = .inl e := (if_neg (fun y => y k1)).trans <| (if_neg hnrocket).trans <| (if_neg hnstage).trans <| (if_pos hyfail).trans <| he
              have hP := RsM.ol (m := m6) (K := fun x : Sg × Int => TkC m8 b n x.2 ∧ DrC m8 k kf ks kt kc x.1) hE (hm8.1.l he)
              have hF := hm8.2
              refine v_if_eq (tgt := 134) C dX5_readLine_127 (by decide) (by omega) (fun c10 => ?_) (fun c10 => by exact absurd c10 (by decide))
              refine v_iconst (z := 0) C dX5_readLine_134 rfl ?_
              refine v_iret C X (by decide) dX5_readLine_135 ⟨_, rfl, Or.inr ⟨rfl, ?_, ?_⟩⟩
              · first
                  | exact IsR.no hE
                  | exact ⟨_, hE⟩
              · exact ⟨hP, hF⟩
          · show V E (wC D cy aa ad) 2 m6 119 [(0, .ref (aa 3)), (1, .ref (aa k))] [.int (iz (0))]
            have hE : oLine b n σ p = .inl (if σ.h 7 = 1 then 5 else 6, skZ b n p) := by
              refine (if_neg (fun y => y k1)).trans <| (if_neg hnrocket).trans <| (if_neg hnstage).trans <| (if_pos hyfail).trans ?_
              by_cases h7 : σ.h 7 = 1
              · exact (if_neg (fun y => y h7)).trans ((if_pos (fun y => hq6 ⟨d1.trans h7, by omega⟩)).trans (by rw [if_pos h7]))
              · exact (if_pos h7).trans (by rw [if_neg h7])
            have hM : m6 3 10 = (if σ.h 7 = 1 then 5 else 6) ∧ m6 3 11 = skZ b n p := by
              by_cases h7 : σ.h 7 = 1
              · rw [if_pos h7, ← ts]; exact hm6.1.2.2 (d1.trans h7) (fun y => hq6 ⟨d1.trans h7, y⟩)
              · rw [if_neg h7, ← ts]; exact hm6.1.2.1 (by omega)
            have hP := RsM.ol (m := m) (K := fun x : Sg × Int => TkC m6 b n x.2 ∧ DrC m6 k kf ks kt kc x.1) hE hM
            have hF := hm6.2.rd k kf ks kt kc
            refine v_if_eq (tgt := 134) C dX5_readLine_119 (by decide) (by omega) (fun c11 => ?_) (fun c11 => by exact absurd c11 (by decide))
            refine v_iconst (z := 0) C dX5_readLine_134 rfl ?_
            refine v_iret C X (by decide) dX5_readLine_135 ⟨_, rfl, Or.inr ⟨rfl, ?_, ?_⟩⟩
            · first
                | exact IsR.no hE
                | exact ⟨_, hE⟩
            · exact ⟨hP, hF⟩
      · have hystage : wlZ b n p = wdC w_stage := en_eq hwl wd_stage (e4.symm.trans (c3.trans hrd.2.1))
        refine v_aload_n C 0 dX5_readLine_68 rfl ?_
        refine v_aload_n C 1 dX5_readLine_69 rfl ?_
        refine v_get C k 5 (RocketAt.l0 hk) (RocketAt.e0 hk _) rfl inX6 (by decide) rfl qw386 dX5_readLine_70 ?_
        refine v_iconst (z := 3) C dX5_readLine_73 rfl ?_
        refine v_callV (st := []) (n := 2) (q := 3) C [.int (iz (m k 5)), .int (iz (3))] (ct_Reader_hasRoomFor C.2.2.2.2.2.2.1 m (m k 5) (3) (by omega) (by omega) (by omega)) lC3 (eC3 _) rfl qw557 qw3 qw554 rfl rfl ⟨Nat.le_of_ble_eq_true rfl, Nat.le_of_ble_eq_true rfl⟩ (by decide +kernel) qw556 qp7 rfl rfl (Nat.le_of_ble_eq_true rfl) dX5_readLine_74 (fun r m12 hq12 => ?_)
        obtain ⟨z12, rfl, ⟨rfl, hq12, hm12⟩ | ⟨rfl, hq12, hm12⟩⟩ := hq12
        · show V E (wC D cy aa ad) 2 m12 77 [(0, .ref (aa 3)), (1, .ref (aa k))] [.int (iz (1))]
          have hmm := (hm12.1.1 hq12).symm
          subst hmm
          refine v_if_eq (tgt := 92) C dX5_readLine_77 (by decide) (by omega) (fun c13 => by exact absurd c13 (by decide)) (fun c13 => ?_)
          refine v_aload_n C 0 dX5_readLine_80 rfl ?_
          refine v_aload_n C 1 dX5_readLine_81 rfl ?_
          refine v_callV (st := []) (n := 1) (q := 3) C [.ref (aa k)] (ct_Reader_readStage C.2.2.2.2.2.2.1 m12 (b) (n) _ (k) (kf) (ks) (kt) (kc) _ (by exact hb) (by exact hn) (by exact hT) (by exact hp) (by exact hrd) hk (by exact hσ) (by exact hD) (by omega) (by omega)) lC3 (eC3 _) rfl qw561 qw3 qw558 rfl rfl ⟨Nat.le_of_ble_eq_true rfl, Nat.le_of_ble_eq_true rfl⟩ (by decide +kernel) qw560 qp8 rfl rfl (Nat.le_of_ble_eq_true rfl) dX5_readLine_82 (fun r m14 hq14 => ?_)
          obtain ⟨z14, rfl, ⟨rfl, hq14, hm14⟩ | ⟨rfl, hq14, hm14⟩⟩ := hq14
          · show V E (wC D cy aa ad) 2 m14 85 [(0, .ref (aa 3)), (1, .ref (aa k))] [.int (iz (1))]
            obtain ⟨x, hx⟩ := hq14
            have hE : oLine b n σ p = .inr x := (if_neg (fun y => y k1)).trans <| (if_neg hnrocket).trans <| (if_pos hystage).trans <| hx
            have hP := RsM.or (K := fun x : Sg × Int => TkC m14 b n x.2 ∧ DrC m14 k kf ks kt kc x.1) hE (hm14.1.r hx)
            have hF := hm14.2
            refine v_if_eq (tgt := 92) C dX5_readLine_85 (by decide) (by omega) (fun c15 => by exact absurd c15 (by decide)) (fun c15 => ?_)
            refine v_iconst (z := 1) C dX5_readLine_88 rfl ?_
            refine v_goto (tgt := 93) C dX5_readLine_89 (by decide) ?_
            refine v_iret C X (by decide) dX5_readLine_93 ⟨_, rfl, Or.inl ⟨rfl, ?_, ?_⟩⟩
            · first
                | exact IsR.no hE
                | exact ⟨_, hE⟩
            · exact ⟨hP, hF⟩
          · show V E (wC D cy aa ad) 2 m14 85 [(0, .ref (aa 3)), (1, .ref (aa k))] [.int (iz (0))]
            obtain ⟨e, he⟩ := IsR.n hq14
            have hE : oLine b n σ p = .inl e := (if_neg (fun y => y k1)).trans <| (if_neg hnrocket).trans <| (if_pos hystage).trans <| he
            have hP := RsM.ol (m := m12) (K := fun x : Sg × Int => TkC m14 b n x.2 ∧ DrC m14 k kf ks kt kc x.1) hE (hm14.1.l he)
            have hF := hm14.2
            refine v_if_eq (tgt := 92) C dX5_readLine_85 (by decide) (by omega) (fun c16 => ?_) (fun c16 => by exact absurd c16 (by decide))
            refine v_iconst (z := 0) C dX5_readLine_92 rfl ?_
            refine v_iret C X (by decide) dX5_readLine_93 ⟨_, rfl, Or.inr ⟨rfl, ?_, ?_⟩⟩
            · first
                | exact IsR.no hE
                | exact ⟨_, hE⟩
            · exact ⟨hP, hF⟩
        · show V E (wC D cy aa ad) 2 m12 77 [(0, .ref (aa 3)), (1, .ref (aa k))] [.int (iz (0))]
          have hE : oLine b n σ p = .inl (if σ.h 7 = 1 then 5 else 6, skZ b n p) := by
            refine (if_neg (fun y => y k1)).trans <| (if_neg hnrocket).trans <| (if_pos hystage).trans ?_
            by_cases h7 : σ.h 7 = 1
            · exact (if_neg (fun y => y h7)).trans ((if_pos (fun y => hq12 ⟨d1.trans h7, by omega⟩)).trans (by rw [if_pos h7]))
            · exact (if_pos h7).trans (by rw [if_neg h7])
          have hM : m12 3 10 = (if σ.h 7 = 1 then 5 else 6) ∧ m12 3 11 = skZ b n p := by
            by_cases h7 : σ.h 7 = 1
            · rw [if_pos h7, ← ts]; exact hm12.1.2.2 (d1.trans h7) (fun y => hq12 ⟨d1.trans h7, y⟩)
            · rw [if_neg h7, ← ts]; exact hm12.1.2.1 (by omega)
          have hP := RsM.ol (m := m) (K := fun x : Sg × Int => TkC m12 b n x.2 ∧ DrC m12 k kf ks kt kc x.1) hE hM
          have hF := hm12.2.rd k kf ks kt kc
          refine v_if_eq (tgt := 92) C dX5_readLine_77 (by decide) (by omega) (fun c17 => ?_) (fun c17 => by exact absurd c17 (by decide))
          refine v_iconst (z := 0) C dX5_readLine_92 rfl ?_
          refine v_iret C X (by decide) dX5_readLine_93 ⟨_, rfl, Or.inr ⟨rfl, ?_, ?_⟩⟩
          · first
              | exact IsR.no hE
              | exact ⟨_, hE⟩
          · exact ⟨hP, hF⟩
    · have hyrocket : wlZ b n p = wdC w_rocket := en_eq hwl wd_rocket (e4.symm.trans (c2.trans hrd.1))
      refine v_aload_n C 0 dX5_readLine_32 rfl ?_
      refine v_get C 3 8 lC3 (eC3 _) rfl inX5 (by decide) rfl qw138 dX5_readLine_33 ?_
      refine v_if_eq (tgt := 47) C dX5_readLine_36 (by decide) (by omega) (fun c18 => ?_) (fun c18 => ?_)
      · refine v_aload_n C 0 dX5_readLine_47 rfl ?_
        refine v_aload_n C 1 dX5_readLine_48 rfl ?_
        refine v_callV (st := []) (n := 1) (q := 3) C [.ref (aa k)] (ct_Reader_readRocket C.2.2.2.2.2.2.1 m (b) (n) _ (k) (kf) (ks) (kt) (kc) _ (by exact hb) (by exact hn) (by exact hT) (by exact hp) (by exact hrd) hk (by exact hσ) (by exact hD) (by omega)) lC3 (eC3 _) rfl qw539 qw3 qw536 rfl rfl ⟨Nat.le_of_ble_eq_true rfl, Nat.le_of_ble_eq_true rfl⟩ (by decide +kernel) qw538 qp4 rfl rfl (Nat.le_of_ble_eq_true rfl) dX5_readLine_49 (fun r m19 hq19 => ?_)
        obtain ⟨z19, rfl, ⟨rfl, hq19, hm19⟩ | ⟨rfl, hq19, hm19⟩⟩ := hq19
        · show V E (wC D cy aa ad) 2 m19 52 [(0, .ref (aa 3)), (1, .ref (aa k))] [.int (iz (1))]
          obtain ⟨x, hx⟩ := hq19
          have hE : oLine b n σ p = .inr x := (if_neg (fun y => y k1)).trans <| (if_pos hyrocket).trans <| hx
          have hP := RsM.or (K := fun x : Sg × Int => TkC m19 b n x.2 ∧ DrC m19 k kf ks kt kc x.1) hE (hm19.1.r hx)
          have hF := hm19.2
          refine v_iret C X (by decide) dX5_readLine_52 ⟨_, rfl, Or.inl ⟨rfl, ?_, ?_⟩⟩
          · first
              | exact IsR.no hE
              | exact ⟨_, hE⟩
          · first
              | exact ⟨hP, hF⟩
              | exact ⟨RsM.ol hE ⟨NO_q41.2.1, NO_q41.2.2.1.trans ts⟩, NO_q41.1.rd k kf ks kt kc⟩
        · show V E (wC D cy aa ad) 2 m19 52 [(0, .ref (aa 3)), (1, .ref (aa k))] [.int (iz (0))]
          obtain ⟨e, he⟩ := IsR.n hq19
          have hE : oLine b n σ p = .inl e := (if_neg (fun y => y k1)).trans <| (if_pos hyrocket).trans <| he
          have hP := RsM.ol (m := m) (K := fun x : Sg × Int => TkC m19 b n x.2 ∧ DrC m19 k kf ks kt kc x.1) hE (hm19.1.l he)
          have hF := hm19.2
          refine v_iret C X (by decide) dX5_readLine_52 ⟨_, rfl, Or.inr ⟨rfl, ?_, ?_⟩⟩
          · first
              | exact IsR.no hE
              | exact ⟨_, hE⟩
          · first
              | exact ⟨hP, hF⟩
              | exact ⟨RsM.ol hE ⟨NO_q41.2.1, NO_q41.2.2.1.trans ts⟩, NO_q41.1.rd k kf ks kt kc⟩
      · have hE : oLine b n σ p = .inl (3, skZ b n p) := (if_neg (fun y => y k1)).trans <| (if_pos hyrocket).trans <| if_pos (by omega)
        refine v_aload_n C 0 dX5_readLine_39 rfl ?_
        refine v_iconst (z := 3) C dX5_readLine_40 rfl ?_
        refine v_callV (st := []) (n := 1) (q := 3) C [.int (iz (3))] (ct_Reader_stop C.2.2.2.2.2.2.1 m (3) ) lC3 (eC3 _) rfl qw535 qw3 qw532 rfl rfl ⟨Nat.le_of_ble_eq_true rfl, Nat.le_of_ble_eq_true rfl⟩ (by decide +kernel) qw534 qp3 rfl rfl (Nat.le_of_ble_eq_true rfl) dX5_readLine_41 (fun r m20 hq20 => ?_)
        obtain ⟨z20, rfl, rfl, hq20⟩ := hq20
        show V E (wC D cy aa ad) 2 m20 44 [(0, .ref (aa 3)), (1, .ref (aa k))] [.int (iz (0))]
        refine v_goto (tgt := 52) C dX5_readLine_44 (by decide) ?_
        refine v_iret C X (by decide) dX5_readLine_52 ⟨_, rfl, Or.inr ⟨rfl, ?_, ?_⟩⟩
        · first
            | exact IsR.no hE
            | exact ⟨_, hE⟩
        · first
            | exact ⟨hP, hF⟩
            | exact ⟨RsM.ol hE ⟨hq20.2.1, hq20.2.2.1.trans ts⟩, hq20.1.rd k kf ks kt kc⟩
  · have hE : oLine b n σ p = .inl (1, skZ b n p) := if_pos (fun y => c1 (tk.trans y))
    refine v_aload_n C 0 dX5_readLine_11 rfl ?_
    refine v_iconst (z := 1) C dX5_readLine_12 rfl ?_
    refine v_callV (st := []) (n := 1) (q := 3) C [.int (iz (1))] (ct_Reader_stop C.2.2.2.2.2.2.1 m (1) ) lC3 (eC3 _) rfl qw535 qw3 qw532 rfl rfl ⟨Nat.le_of_ble_eq_true rfl, Nat.le_of_ble_eq_true rfl⟩ (by decide +kernel) qw534 qp3 rfl rfl (Nat.le_of_ble_eq_true rfl) dX5_readLine_13 (fun r m21 hq21 => ?_)
    obtain ⟨z21, rfl, rfl, hq21⟩ := hq21
    show V E (wC D cy aa ad) 2 m21 16 [(0, .ref (aa 3)), (1, .ref (aa k))] [.int (iz (0))]
    refine v_iret C X (by decide) dX5_readLine_16 ⟨_, rfl, Or.inr ⟨rfl, ?_, ?_⟩⟩
    · first
        | exact IsR.no hE
        | exact ⟨_, hE⟩
    · exact ⟨RsM.ol hE ⟨hq21.2.1, hq21.2.2.1.trans ts⟩, hq21.1.rd k kf ks kt kc⟩

set_option maxHeartbeats 4000000 in
set_option maxRecDepth 100000 in
theorem ct_Reader_read {lau : Launch} {D : va_G} {cy : Nat → ClassId} {aa ad : Nat → Nat} (hI : wI (wC D cy aa ad)) (m : Mem) (b : Int → Int) (n : Int) (k kf ks kt kc : Nat) (hb : BtOk b) (hn : 0 ≤ n ∧ n ≤ 700) (h2 : m 2 = b) (hrd : RdOk m) (hk : RocketAt k kf ks kt kc) : MT lau (wC D cy aa ad) yX5_read cX5_read 5 (some .boolean) ({ frames := 8, cells := 0, slots := 0, locals := 174 } : Room) m [.ref (aa 3), .int (iz (n)), .ref (aa k)] (Pi (fun z m' => (1 = z ∧ (IsR (oAll b n 701 sg0 0)) ∧ RsM (oAll b n 701 sg0 0) (mup m 3 10 0) m' (fun σ => DrC m' k kf ks kt kc σ) ∧ FRd m m' k kf ks kt kc) ∨ (0 = z ∧ ¬ (IsR (oAll b n 701 sg0 0)) ∧ RsM (oAll b n 701 sg0 0) (mup m 3 10 0) m' (fun σ => DrC m' k kf ks kt kc σ) ∧ FRd m m' k kf ks kt kc))) := by
  refine v_entry hI RX5 (by decide) rfl (Nat.le_of_ble_eq_true rfl) (fun E hE C X => ?_)
  subst hE
  show V E (wC D cy aa ad) 5 m 0 [(0, .ref (aa 3)), (1, .int (iz (n))), (2, .ref (aa k))] []
  have hkk : 73 ≤ k ∧ kf = k + 1 ∧ ks = k + 2 ∧ kt = k + 3 ∧ kc = k + 4 := by unfold RocketAt at hk; omega
  refine v_aload_n C 0 dX5_read_0 rfl ?_
  refine v_iconst (z := 0) C dX5_read_1 rfl ?_
  refine v_put C 3 10 (0) 10 rfl lC3 (eC3 _) rfl inX5 tyX5 tyX5_ok nmX5 (by decide) qw140 rfl rfl rfl (Nat.le_of_ble_eq_true rfl) (by rw [mup_r]; exact (eC3 _)) dX5_read_2 (fun m1 em1 => ?_)
  refine v_aload_n C 0 dX5_read_5 rfl ?_
  refine v_iconst (z := 0) C dX5_read_6 rfl ?_
  refine v_put C 3 11 (0) 11 rfl lC3 (eC3 _) rfl inX5 tyX5 tyX5_ok nmX5 (by decide) qw142 rfl rfl rfl (Nat.le_of_ble_eq_true rfl) (by rw [mup_r]; exact (eC3 _)) dX5_read_7 (fun m2 em2 => ?_)
  refine v_aload_n C 0 dX5_read_10 rfl ?_
  refine v_iconst (z := 0) C dX5_read_11 rfl ?_
  refine v_put C 3 8 (0) 8 rfl lC3 (eC3 _) rfl inX5 tyX5 tyX5_ok nmX5 (by decide) qw138 rfl (by decide) rfl (Nat.le_of_ble_eq_true rfl) (by rw [mup_r]; exact (eC3 _)) dX5_read_12 (fun m3 em3 => ?_)
  refine v_aload_n C 2 dX5_read_15 rfl ?_
  refine v_callV (st := []) (n := 0) (q := k) C [] (ct_Rocket_clear C.2.2.2.2.2.2.1 m3 (k) (kf) (ks) (kt) (kc) hk) (RocketAt.l0 hk) (RocketAt.e0 hk _) rfl qw510 qw15 qw507 rfl rfl ⟨Nat.le_of_ble_eq_true rfl, Nat.le_of_ble_eq_true rfl⟩ (by decide +kernel) qw508 qw509 rfl rfl (Nat.le_of_ble_eq_true rfl) dX5_read_16 (fun r m4 hq4 => ?_)
  obtain ⟨rfl, hq4⟩ := hq4
  show V E (wC D cy aa ad) 5 m4 19 [(0, .ref (aa 3)), (1, .int (iz (n))), (2, .ref (aa k))] []
  refine v_aload_n C 0 dX5_read_19 rfl ?_
  refine v_get C 3 0 lC3 (eC3 _) rfl inX5 (by decide) rfl qw130 dX5_read_20 ?_
  refine v_iload_n C 1 dX5_read_23 rfl ?_
  refine v_callV (st := []) (n := 1) (q := 1) C [.int (iz (n))] (ct_Tape_begin C.2.2.2.2.2.2.1 m4 (b) (n) (by exact hb) (by exact hn) (by rw [← hq4, mup_k _ _ _ (by omega), mup_k _ _ _ (by omega), em3, mup_k _ _ _ (by omega), em2, mup_k _ _ _ (by omega), em1, mup_k _ _ _ (by omega)]; exact h2)) lC1 (eC1 _) rfl qw514 qw2 qw511 rfl rfl ⟨Nat.le_of_ble_eq_true rfl, Nat.le_of_ble_eq_true rfl⟩ (by decide +kernel) qw512 qw513 rfl rfl (Nat.le_of_ble_eq_true rfl) dX5_read_24 (fun r m5 hq5 => ?_)
  obtain ⟨rfl, hq5⟩ := hq5
  show V E (wC D cy aa ad) 5 m5 27 [(0, .ref (aa 3)), (1, .int (iz (n))), (2, .ref (aa k))] []
  have gx : ∀ q, q ≠ 1 → q ≠ k → m5 q = m3 q := fun q a d => by rw [hq5.2.2 q a, ← hq4, mup_k _ _ _ d, mup_k _ _ _ d]
  have e8 : m5 3 8 = 0 := by rw [gx 3 (by omega) (by omega), em3, mup_s]
  have e10 : m5 3 10 = 0 := by rw [gx 3 (by omega) (by omega), em3, mup_j _ _ (by decide), em2, mup_j _ _ (by decide), em1, mup_s]
  have e5 : m5 k 5 = 0 := by rw [hq5.2.2 k (by omega), ← hq4, mup_j _ _ (by decide), mup_s]
  have e6 : m5 k 6 = 0 := by rw [hq5.2.2 k (by omega), ← hq4, mup_s]
  have f24 : FRd m m5 k kf ks kt kc := ⟨by rw [hq5.2.1, ← hq4, mup_k _ _ _ (by omega), mup_k _ _ _ (by omega), em3, mup_k _ _ _ (by omega), em2, mup_k _ _ _ (by omega), em1, mup_k _ _ _ (by omega)], fun j a c => by rw [gx 3 (by omega) (by omega), em3, mup_j _ _ (by omega), em2, mup_j _ _ (by omega), em1, mup_j _ _ (by omega)], fun q a c _ d _ _ _ _ => by rw [gx q a d, em3, mup_k _ _ _ c, em2, mup_k _ _ _ c, em1, mup_k _ _ _ c]⟩
  have dr0 : DrC m5 k kf ks kt kc sg0 := ⟨e8, e5, e6, fun y => absurd (show (0 : Int) = 1 from y) (by decide), fun j a c => by have c2 : j < 0 * 9 := c; omega, fun s a c => by have c2 : s < 0 := c; omega, fun i a c => by have c2 : i < 0 := c; omega⟩
  refine v_iconst (z := 1) C dX5_read_27 rfl ?_
  refine v_istore_n (L1 := [(3, .int (iz (1))), (0, .ref (aa 3)), (1, .int (iz (n))), (2, .ref (aa k))]) C dX5_read_28 (by decide) rfl ?_
  refine v_iconst (z := 0) C dX5_read_29 rfl ?_
  refine v_istore (L1 := [(4, .int (iz (0))), (3, .int (iz (1))), (0, .ref (aa 3)), (1, .int (iz (n))), (2, .ref (aa k))]) C dX5_read_30 (by decide) rfl ?_
  have K32 : ∀ (nK : Nat) (more : Int) (lines : Int) (σ : Sg) (p : Int) (mL : Mem) (hl : 0 ≤ lines ∧ lines ≤ 701) (hT : TkC mL b n p) (hp : 0 ≤ p ∧ p ≤ n) (hσ : SgOk σ) (hD : DrC mL k kf ks kt kc σ) (hfr : FRd m mL k kf ks kt kc) (h10 : mL 3 10 = 0) (hA : (more = 1 ∧ lines ≤ p ∧ oAll b n 701 sg0 0 = oAll b n (701 - lines).toNat σ p) ∨ (more = 0 ∧ oAll b n 701 sg0 0 = (if 0 < σ.h 5 then .inr σ else .inl (6, skZ b n p)))), (702 - lines).toNat < nK → V E (wC D cy aa ad) 5 mL 32 [(0, .ref (aa 3)), (1, .int (iz (n))), (2, .ref (aa k)), (3, .int (iz (more))), (4, .int (iz (lines)))] [] := by
    intro nK
    induction nK with
    | zero => intro more lines σ p mL hl hT hp hσ hD hfr h10 hA hn; exact absurd hn (Nat.not_lt_zero _)
    | succ nK ih32 =>
      intro more lines σ p mL hl hT hp hσ hD hfr h10 hA hn32
      refine v_iload_n C 3 dX5_read_32 rfl ?_
      refine v_if_eq (tgt := 108) C dX5_read_33 (by decide) (by first | omega | (rw [(show mL k 5 = σ.h 5 from hD.2.1)]; omega)) (fun c6 => ?_) (fun c6 => ?_)
      · have hA3 := (hA.resolve_left (fun y => by omega)).2
        obtain ⟨d1, d2, d3, d4, d5, d6, d7⟩ := id hD
        obtain ⟨s1, s2, s3, s4, s5, s6, s7, s8⟩ := id hσ
        refine v_aload_n C 2 dX5_read_108 rfl ?_
        refine v_get C k 5 (RocketAt.l0 hk) (RocketAt.e0 hk _) rfl inX6 (by decide) rfl qw386 dX5_read_109 ?_
        refine v_if_gt (tgt := 124) C dX5_read_112 (by decide) (by first | omega | (rw [(show mL k 5 = σ.h 5 from hD.2.1)]; omega)) (fun c7 => ?_) (fun c7 => ?_)
        · have hE := hA3.trans (if_pos (by omega))
          refine v_iconst (z := 1) C dX5_read_124 rfl ?_
          refine v_goto (tgt := 129) C dX5_read_125 (by decide) ?_
          refine v_iret C X (by decide) dX5_read_129 ⟨_, rfl, Or.inl ⟨rfl, ?_, ?_⟩⟩
          · first
              | exact IsR.no hE
              | exact ⟨_, hE⟩
          · first
              | exact ⟨RsM.or hE ⟨hD, by rw [h10, mup_s]⟩, hfr⟩
              | exact ⟨RsM.ol hE ⟨NO_q118.2.1, NO_q118.2.2.1.trans hT.2.2.2.1⟩, hfr.tr (NO_q118.1.rd k kf ks kt kc)⟩
        · have hE := hA3.trans (if_neg (by omega))
          refine v_aload_n C 0 dX5_read_115 rfl ?_
          refine v_bipush (z := 6) C dX5_read_116 (by decide) ?_
          refine v_callV (st := []) (n := 1) (q := 3) C [.int (iz (6))] (ct_Reader_stop C.2.2.2.2.2.2.1 mL (6) ) lC3 (eC3 _) rfl qw535 qw3 qw532 rfl rfl ⟨Nat.le_of_ble_eq_true rfl, Nat.le_of_ble_eq_true rfl⟩ (by decide +kernel) qw534 qp3 rfl rfl (Nat.le_of_ble_eq_true rfl) dX5_read_118 (fun r m8 hq8 => ?_)
          obtain ⟨z8, rfl, rfl, hq8⟩ := hq8
          show V E (wC D cy aa ad) 5 m8 121 [(0, .ref (aa 3)), (1, .int (iz (n))), (2, .ref (aa k)), (3, .int (iz (more))), (4, .int (iz (lines)))] [.int (iz (0))]
          refine v_if_eq (tgt := 128) C dX5_read_121 (by decide) (by omega) (fun c9 => ?_) (fun c9 => by exact absurd c9 (by decide))
          refine v_iconst (z := 0) C dX5_read_128 rfl ?_
          refine v_iret C X (by decide) dX5_read_129 ⟨_, rfl, Or.inr ⟨rfl, ?_, ?_⟩⟩
          · first
              | exact IsR.no hE
              | exact ⟨_, hE⟩
          · first
              | exact ⟨RsM.or hE ⟨hD, by rw [h10, mup_s]⟩, hfr⟩
              | exact ⟨RsM.ol hE ⟨hq8.2.1, hq8.2.2.1.trans hT.2.2.2.1⟩, hfr.tr (hq8.1.rd k kf ks kt kc)⟩
      · have hA2 := hA.resolve_right (fun y => c6 y.1)
        refine v_iload C 4 dX5_read_36 rfl ?_
        refine v_sipush (z := 700) C dX5_read_38 (by decide) ?_
        refine v_icmp_gt (tgt := 108) C dX5_read_41 (by decide) (by first | omega | (rw [(show mL k 5 = σ.h 5 from hD.2.1)]; omega)) (by omega) (fun c10 => ?_) (fun c10 => ?_)
        · exfalso; omega
        · refine v_aload_n C 0 dX5_read_44 rfl ?_
          refine v_aload_n C 2 dX5_read_45 rfl ?_
          refine v_callV (st := []) (n := 1) (q := 3) C [.ref (aa k)] (ct_Reader_readLine C.2.2.2.2.2.2.1 mL (b) (n) (p) (k) (kf) (ks) (kt) (kc) (σ) (by first | assumption | omega) (by first | assumption | omega) (by exact hT) (by exact hp) (by exact hrd.fr hfr.2.1) hk (by exact hσ) (by exact hD)) lC3 (eC3 _) rfl qw531 qw3 qw528 rfl rfl ⟨Nat.le_of_ble_eq_true rfl, Nat.le_of_ble_eq_true rfl⟩ (by decide +kernel) qw530 qp2 rfl rfl (Nat.le_of_ble_eq_true rfl) dX5_read_46 (fun r m11 hq11 => ?_)
          obtain ⟨z11, rfl, ⟨rfl, hq11, hm11⟩ | ⟨rfl, hq11, hm11⟩⟩ := hq11
          · show V E (wC D cy aa ad) 5 m11 49 [(0, .ref (aa 3)), (1, .int (iz (n))), (2, .ref (aa k)), (3, .int (iz (more))), (4, .int (iz (lines)))] [.int (iz (1))]
            obtain ⟨x, hx⟩ := hq11
            have hx1 := hm11.1.r hx
            have hx2 := oLine_i hx hp.2 hσ
            have f46 := hfr.tr hm11.2
            have hG := hA2.2.2.trans ((oAll_go (by omega)).trans (bnd_r hx _))
            obtain ⟨t2, t5, tk, ts, tx, tw, tn⟩ := id hx1.1.1
            have tr := tk_rngP (b := b) hx2.1.2
            refine v_if_ne (tgt := 54) C dX5_read_49 (by decide) (by omega) (fun c12 => ?_) (fun c12 => by exact absurd c12 (by decide))
            refine v_aload_n C 0 dX5_read_54 rfl ?_
            refine v_get C 3 0 lC3 (eC3 _) rfl inX5 (by decide) rfl qw130 dX5_read_55 ?_
            refine v_get C 1 2 lC1 (eC1 _) rfl inX8 (by decide) rfl qw40 dX5_read_58 ?_
            refine v_if_eq (tgt := 68) C dX5_read_61 (by decide) (by first | omega | (rw [(show mL k 5 = σ.h 5 from hD.2.1)]; omega)) (fun c13 => ?_) (fun c13 => ?_)
            · have k0 : kdZ b n x.2 = 0 := tk.symm.trans c13
              have hG0 := hG.trans (if_pos k0)
              refine v_iconst (z := 0) C dX5_read_68 rfl ?_
              refine v_istore_n (L1 := [(3, .int (iz (0))), (0, .ref (aa 3)), (1, .int (iz (n))), (2, .ref (aa k)), (4, .int (iz (lines)))]) C dX5_read_69 (by decide) rfl ?_
              refine v_iload_n C 0 dX5_read_70 rfl ?_
              refine v_if_eq (tgt := 91) C dX5_read_71 (by decide) (by omega) (fun c14 => ?_) (fun c14 => by exact absurd c14 (by decide))
              refine v_iload_n C 0 dX5_read_91 rfl ?_
              refine v_if_eq (tgt := 102) C dX5_read_92 (by decide) (by omega) (fun c15 => ?_) (fun c15 => by exact absurd c15 (by decide))
              refine v_iinc (L1 := [(4, .int (iz (lines + 1))), (3, .int (iz (0))), (0, .ref (aa 3)), (1, .int (iz (n))), (2, .ref (aa k))]) C 4 dX5_read_102 rfl (by decide) rfl ?_
              refine v_goto (tgt := 32) C dX5_read_105 (by decide) ?_
              refine v_sub [2, 3, 4, 1, 0] rfl ?_
              exact ih32 (0) (lines + 1) (x.1) (_) m11 (by omega) (by 
                                first
                                  | exact hx1.1.1
                                  | exact NO_q99.1
                              ) (by omega) (by exact hx2.2) (by 
                                first
                                  | exact hx1.1.2
                                  | exact hx1.1.2.fw hk ⟨NO_q99.2.1, by rw [NO_q99.2.2 3 (by decide)], fun j _ _ => by rw [NO_q99.2.2 3 (by decide)], fun q a _ => NO_q99.2.2 q a⟩
                              ) (by 
                                first
                                  | exact f46
                                  | exact f46.tr ⟨NO_q99.2.1, fun j _ _ => by rw [NO_q99.2.2 3 (by decide)], fun q a _ _ _ _ _ _ _ => NO_q99.2.2 q a⟩
                              ) (by 
                                first
                                  | (rw [hx1.2]; exact h10)
                                  | (rw [NO_q99.2.2 3 (by decide), hx1.2]; exact h10)
                              ) (by 
                                first
                                  | exact Or.inr ⟨rfl, hG0⟩
                                  | exact Or.inl ⟨rfl, by omega, hG1⟩
                              ) (by omega)
            · have hG0 := hG.trans (if_neg (fun y => c13 (tk.trans y)))
              refine v_iconst (z := 1) C dX5_read_64 rfl ?_
              refine v_goto (tgt := 69) C dX5_read_65 (by decide) ?_
              refine v_istore_n (L1 := [(3, .int (iz (1))), (0, .ref (aa 3)), (1, .int (iz (n))), (2, .ref (aa k)), (4, .int (iz (lines)))]) C dX5_read_69 (by decide) rfl ?_
              refine v_iload_n C 0 dX5_read_70 rfl ?_
              refine v_if_eq (tgt := 91) C dX5_read_71 (by decide) (by omega) (fun c16 => by exact absurd c16 (by decide)) (fun c16 => ?_)
              refine v_aload_n C 1 dX5_read_74 rfl ?_
              refine v_get C 3 0 lC3 (eC3 _) rfl inX5 (by decide) rfl qw130 dX5_read_75 ?_
              refine v_get C 1 2 lC1 (eC1 _) rfl inX8 (by decide) rfl qw40 dX5_read_78 ?_
              refine v_iconst (z := 3) C dX5_read_81 rfl ?_
              refine v_icmp_eq (tgt := 91) C dX5_read_82 (by decide) (by first | omega | (rw [(show mL k 5 = σ.h 5 from hD.2.1)]; omega)) (by omega) (fun c17 => ?_) (fun c17 => ?_)
              · have hG1 := hG0.trans (if_neg (fun y => y (tk.symm.trans c17)))
                refine v_iload_n C 0 dX5_read_91 rfl ?_
                refine v_if_eq (tgt := 102) C dX5_read_92 (by decide) (by omega) (fun c18 => by exact absurd c18 (by decide)) (fun c18 => ?_)
                refine v_aload_n C 1 dX5_read_95 rfl ?_
                refine v_get C 3 0 lC3 (eC3 _) rfl inX5 (by decide) rfl qw130 dX5_read_96 ?_
                refine v_callV (st := []) (n := 0) (q := 1) C [] (ct_Tape_step C.2.2.2.2.2.2.1 m11 (b) (n) (nxZ b n x.2) (by exact hb) (by exact hn) (by exact t2) (by exact t5) (by exact tx) (by omega)) lC1 (eC1 _) rfl qw518 qw2 qw540 rfl rfl ⟨Nat.le_of_ble_eq_true rfl, Nat.le_of_ble_eq_true rfl⟩ (by decide +kernel) qw516 qw517 rfl rfl (Nat.le_of_ble_eq_true rfl) dX5_read_99 (fun r m19 hq19 => ?_)
                obtain ⟨rfl, hq19⟩ := hq19
                show V E (wC D cy aa ad) 5 m19 102 [(3, .int (iz (1))), (0, .ref (aa 3)), (1, .int (iz (n))), (2, .ref (aa k)), (4, .int (iz (lines)))] []
                refine v_iinc (L1 := [(4, .int (iz (lines + 1))), (3, .int (iz (1))), (0, .ref (aa 3)), (1, .int (iz (n))), (2, .ref (aa k))]) C 4 dX5_read_102 rfl (by decide) rfl ?_
                refine v_goto (tgt := 32) C dX5_read_105 (by decide) ?_
                refine v_sub [2, 3, 4, 1, 0] rfl ?_
                exact ih32 (1) (lines + 1) (x.1) (_) m19 (by omega) (by 
                                    first
                                      | exact hx1.1.1
                                      | exact hq19.1
                                  ) (by omega) (by exact hx2.2) (by 
                                    first
                                      | exact hx1.1.2
                                      | exact hx1.1.2.fw hk ⟨hq19.2.1, by rw [hq19.2.2 3 (by decide)], fun j _ _ => by rw [hq19.2.2 3 (by decide)], fun q a _ => hq19.2.2 q a⟩
                                  ) (by 
                                    first
                                      | exact f46
                                      | exact f46.tr ⟨hq19.2.1, fun j _ _ => by rw [hq19.2.2 3 (by decide)], fun q a _ _ _ _ _ _ _ => hq19.2.2 q a⟩
                                  ) (by 
                                    first
                                      | (rw [hx1.2]; exact h10)
                                      | (rw [hq19.2.2 3 (by decide), hx1.2]; exact h10)
                                  ) (by 
                                    first
                                      | exact Or.inr ⟨rfl, hG0⟩
                                      | exact Or.inl ⟨rfl, by omega, hG1⟩
                                  ) (by omega)
              · have hE := hG0.trans (if_pos (fun y => c17 (tk.trans y)))
                refine v_aload_n C 1 dX5_read_85 rfl ?_
                refine v_iconst (z := 1) C dX5_read_86 rfl ?_
                refine v_callV (st := []) (n := 1) (q := 3) C [.int (iz (1))] (ct_Reader_stop C.2.2.2.2.2.2.1 m11 (1) ) lC3 (eC3 _) rfl qw535 qw3 qw532 rfl rfl ⟨Nat.le_of_ble_eq_true rfl, Nat.le_of_ble_eq_true rfl⟩ (by decide +kernel) qw534 qp3 rfl rfl (Nat.le_of_ble_eq_true rfl) dX5_read_87 (fun r m20 hq20 => ?_)
                obtain ⟨z20, rfl, rfl, hq20⟩ := hq20
                show V E (wC D cy aa ad) 5 m20 90 [(3, .int (iz (1))), (0, .ref (aa 3)), (1, .int (iz (n))), (2, .ref (aa k)), (4, .int (iz (lines)))] [.int (iz (0))]
                refine v_iret C X (by decide) dX5_read_90 ⟨_, rfl, Or.inr ⟨rfl, ?_, ?_⟩⟩
                · first
                    | exact IsR.no hE
                    | exact ⟨_, hE⟩
                · exact ⟨RsM.ol hE ⟨hq20.2.1, hq20.2.2.1.trans ts⟩, f46.tr (hq20.1.rd k kf ks kt kc)⟩
          · show V E (wC D cy aa ad) 5 m11 49 [(0, .ref (aa 3)), (1, .int (iz (n))), (2, .ref (aa k)), (3, .int (iz (more))), (4, .int (iz (lines)))] [.int (iz (0))]
            obtain ⟨e, he⟩ := IsR.n hq11
            have hE : oAll b n 701 sg0 0 = .inl e := hA2.2.2.trans ((oAll_go (by omega)).trans (bnd_l he _))
            have hM := hm11.1.l he
            have hF := hfr.tr hm11.2
            refine v_if_ne (tgt := 54) C dX5_read_49 (by decide) (by omega) (fun c21 => by exact absurd c21 (by decide)) (fun c21 => ?_)
            refine v_iconst (z := 0) C dX5_read_52 rfl ?_
            refine v_iret C X (by decide) dX5_read_53 ⟨_, rfl, Or.inr ⟨rfl, ?_, ?_⟩⟩
            · first
                | exact IsR.no hE
                | exact ⟨_, hE⟩
            · exact ⟨RsM.ol hE hM, hF⟩
  refine v_sub [2, 3, 4, 1, 0] rfl ?_
  exact K32 _ (1) (0) (sg0) (0) m5 (by first | assumption | omega) (by exact hq5.1) (by omega) (by exact sg0_ok) (by exact dr0) (by exact f24) (by exact e10) (by exact Or.inl ⟨rfl, by omega, rfl⟩) (Nat.lt_succ_self _)
