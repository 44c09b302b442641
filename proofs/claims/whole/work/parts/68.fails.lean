/-! the class reader: fails, a line, the whole -/
set_option maxHeartbeats 4000000 in
set_option maxRecDepth 100000 in
theorem ct_Reader_readFail {lau : Launch} {D : va_G} {cy : Nat → ClassId} {aa ad : Nat → Nat} (hI : wI (wC D cy aa ad)) (m : Mem) (b : Int → Int) (n p : Int) (k kf ks kt kc : Nat) (σ : Sg) (hb : BtOk b) (hn : 0 ≤ n ∧ n ≤ 700) (hT : TkC m b n p) (hp : 0 ≤ p ∧ p ≤ n) (hrd : RdOk m) (hk : RocketAt k kf ks kt kc) (hσ : SgOk σ) (hD : DrC m k kf ks kt kc σ) (h7 : σ.h 7 = 1) (h6 : σ.h 6 < 6) : MT lau (wC D cy aa ad) yX5_readFail cX5_readFail 4 (some .boolean) ({ frames := 3, cells := 0, slots := 0, locals := 65 } : Room) m [.ref (aa 3), .ref (aa k)] (Pi (fun z m' => (1 = z ∧ (IsR (oFail b n σ p)) ∧ RsM (oFail b n σ p) m m' (fun x => TkC m' b n x.2 ∧ DrC m' k kf ks kt kc x.1) ∧ FRd m m' k kf ks kt kc) ∨ (0 = z ∧ ¬ (IsR (oFail b n σ p)) ∧ RsM (oFail b n σ p) m m' (fun x => TkC m' b n x.2 ∧ DrC m' k kf ks kt kc x.1) ∧ FRd m m' k kf ks kt kc))) := by
  refine v_entry hI RX5 (by decide) rfl (Nat.le_of_ble_eq_true rfl) (fun E hE C X => ?_)
  subst hE
  show V E (wC D cy aa ad) 4 m 0 [(0, .ref (aa 3)), (1, .ref (aa k))] []
  obtain ⟨t2, t5, tk, ts, tx, tw, tn⟩ := id hT
  have tr := tk_rngP (b := b) hp.2
  obtain ⟨d1, d2, d3, d4, d5, d6, d7⟩ := id hD
  obtain ⟨s1, s2, s3, s4, s5, s6, s7, s8⟩ := id hσ
  have hkk : 73 ≤ k ∧ kf = k + 1 ∧ ks = k + 2 ∧ kt = k + 3 ∧ kc = k + 4 := by unfold RocketAt at hk; omega
  have hkk2 : 73 ≤ kf ∧ 73 ≤ ks ∧ 73 ≤ kt ∧ 73 ≤ kc ∧ k ≠ kf ∧ kf ≠ k ∧ kf ≠ ks ∧ kf ≠ kt ∧ kf ≠ kc := by omega
  refine v_aload_n C 0 dX5_readFail_0 rfl ?_
  refine v_get C 3 0 lC3 (eC3 _) rfl inX5 (by decide) rfl qw130 dX5_readFail_1 ?_
  refine v_callV (st := []) (n := 0) (q := 1) C [] (ct_Tape_step C.2.2.2.2.2.2.1 m (b) (n) (nxZ b n p) (by exact hb) (by exact hn) (by exact t2) (by exact t5) (by exact tx) (by omega)) lC1 (eC1 _) rfl qw518 qw2 qw540 rfl rfl ⟨Nat.le_of_ble_eq_true rfl, Nat.le_of_ble_eq_true rfl⟩ (by decide +kernel) qw516 qw517 rfl rfl (Nat.le_of_ble_eq_true rfl) dX5_readFail_4 (fun r m1 hq1 => ?_)
  obtain ⟨rfl, hq1⟩ := hq1
  show V E (wC D cy aa ad) 4 m1 7 [(0, .ref (aa 3)), (1, .ref (aa k))] []
  have hp1 : 0 ≤ nxZ b n p ∧ nxZ b n p ≤ n := by omega
  have f4 : FRd m m1 k kf ks kt kc := ⟨hq1.2.1, fun j _ _ => by rw [hq1.2.2 3 (by decide)], fun q h1 _ _ _ _ _ _ _ => hq1.2.2 q h1⟩
  have rd4 := hrd.fr f4.2.1
  have g4 := hq1.2.2
  have T4 := hq1.1
  obtain ⟨u2, u5, uk, us, ux, uw, un⟩ := id T4
  have ur := tk_rngP (b := b) hp1.2
  refine v_aload_n C 0 dX5_readFail_7 rfl ?_
  refine v_callV (st := []) (n := 0) (q := 3) C [] (ct_Reader_isName C.2.2.2.2.2.2.1 m1 _ _ (nxZ b n p) (by exact hb) (by exact hn) (by exact T4) (by exact hp1) (by exact rd4)) lC3 (eC3 _) rfl qw569 qw3 qw566 rfl rfl ⟨Nat.le_of_ble_eq_true rfl, Nat.le_of_ble_eq_true rfl⟩ (by decide +kernel) qw568 qp10 rfl rfl (Nat.le_of_ble_eq_true rfl) dX5_readFail_8 (fun r m2 hq2 => ?_)
  obtain ⟨z2, rfl, ⟨rfl, hq2, rfl⟩ | ⟨rfl, hq2, rfl⟩⟩ := hq2
  · show V E (wC D cy aa ad) 4 m1 11 [(0, .ref (aa 3)), (1, .ref (aa k))] [.int (iz (1))]
    have hnmm := hq2
    have hwl := wl_ok hp1.2 hnmm.1
    have e4 := uw hnmm.1
    refine v_if_ne (tgt := 20) C dX5_readFail_11 (by decide) (by omega) (fun c3 => ?_) (fun c3 => by exact absurd c3 (by decide))
    refine v_aload_n C 0 dX5_readFail_20 rfl ?_
    refine v_aload_n C 0 dX5_readFail_21 rfl ?_
    refine v_get C 3 0 lC3 (eC3 _) rfl inX5 (by decide) rfl qw130 dX5_readFail_22 ?_
    refine v_get C 1 4 lC1 (eC1 _) rfl inX8 (by decide) rfl qw44 dX5_readFail_25 ?_
    refine v_aload_n C 1 dX5_readFail_28 rfl ?_
    refine v_get C k 5 (RocketAt.l0 hk) (RocketAt.e0 hk _) rfl inX6 (by decide) rfl qw386 dX5_readFail_29 ?_
    have e5 : m1 k 5 = m k 5 := by rw [g4 k (by omega)]
    have hnr := naZ_rng (nm := σ.nm) (w := wlZ b n (nxZ b n p)) (show 0 ≤ m k 5 by omega)
    obtain ⟨s, hs⟩ : ∃ s, s = naZ σ.nm (wlZ b n (nxZ b n p)) (m k 5) := ⟨_, rfl⟩
    rw [← hs] at hnr
    refine v_callV (st := []) (n := 2) (q := 3) C [.long (lz (m1 1 4)), .int (iz (m1 k 5))] (ct_Reader_nameAt C.2.2.2.2.2.2.1 m1 (σ.nm) (wlZ b n (nxZ b n p)) (m1 1 4) (m1 k 5) (by exact e4) (by exact hwl) (by rw [e5]; omega) (by rw [e5]; intro j a c; rw [g4 4 (by decide)]; exact d6 j a (by omega)) (by rw [e5]; intro j a c; exact s7 j a (by omega))) lC3 (eC3 _) rfl qw573 qw3 qw570 rfl rfl ⟨Nat.le_of_ble_eq_true rfl, Nat.le_of_ble_eq_true rfl⟩ (by decide +kernel) qw572 qp11 rfl rfl (Nat.le_of_ble_eq_true rfl) dX5_readFail_32 (fun r m4 hq4 => ?_)
    obtain ⟨z4, rfl, rfl, rfl⟩ := hq4
    show V E (wC D cy aa ad) 4 m1 35 [(0, .ref (aa 3)), (1, .ref (aa k))] [.int (iz (naZ (σ.nm) (wlZ b n (nxZ b n p)) (m1 k 5)))]
    refine v_st (st1 := [.int (iz (s))]) (by rw [e5, hs]) ?_
    refine v_istore_n (L1 := [(2, .int (iz (s))), (0, .ref (aa 3)), (1, .ref (aa k))]) C dX5_readFail_35 (by decide) rfl ?_
    refine v_iload_n C 0 dX5_readFail_36 rfl ?_
    refine v_if_ge (tgt := 46) C dX5_readFail_37 (by decide) (by omega) (fun c5 => ?_) (fun c5 => ?_)
    · have hq0 : 0 ≤ s := c5
      have hEQ := oFail_eq h7 h6 d2 hnmm hs hq0
      refine v_aload_n C 1 dX5_readFail_46 rfl ?_
      refine v_get C 3 0 lC3 (eC3 _) rfl inX5 (by decide) rfl qw130 dX5_readFail_47 ?_
      refine v_callV (st := []) (n := 0) (q := 1) C [] (ct_Tape_step C.2.2.2.2.2.2.1 m1 _ _ (nxZ b n (nxZ b n p)) (by exact hb) (by exact hn) (by exact u2) (by exact u5) (by exact ux) (by omega)) lC1 (eC1 _) rfl qw518 qw2 qw540 rfl rfl ⟨Nat.le_of_ble_eq_true rfl, Nat.le_of_ble_eq_true rfl⟩ (by decide +kernel) qw516 qw517 rfl rfl (Nat.le_of_ble_eq_true rfl) dX5_readFail_50 (fun r m6 hq6 => ?_)
      obtain ⟨rfl, hq6⟩ := hq6
      show V E (wC D cy aa ad) 4 m6 53 [(2, .int (iz (s))), (0, .ref (aa 3)), (1, .ref (aa k))] []
      have hp2 : 0 ≤ nxZ b n (nxZ b n p) ∧ nxZ b n (nxZ b n p) ≤ n := by omega
      have f50 : FRd m m6 k kf ks kt kc := f4.tr ⟨hq6.2.1, fun j _ _ => by rw [hq6.2.2 3 (by decide)], fun q h1 _ _ _ _ _ _ _ => hq6.2.2 q h1⟩
      have g50 : ∀ q, q ≠ 1 → m6 q = m q := fun q h => by rw [hq6.2.2 q h, g4 q h]
      have hla : laF (m ks) (m kt) s (m k 6).toNat = laF σ.ft σ.fk s (σ.h 6).toNat := by rw [d3]; exact laF_cg _ (fun i a c => ⟨(d7 i a (by omega)).1, (d7 i a (by omega)).2.1⟩)
      have hlr := laF_rng (A := σ.ft) (B := σ.fk) (s := s) (σ.h 6).toNat (fun i i0 i1 => (s8 i i0 (by omega)).2.1)
      refine v_aload_n C 1 dX5_readFail_53 rfl ?_
      refine v_aload_n C 2 dX5_readFail_54 rfl ?_
      refine v_iload_n C 0 dX5_readFail_55 rfl ?_
      refine v_callV (st := [.ref (aa 3)]) (n := 1) (q := k) C [.int (iz (s))] (ct_Rocket_lastFailOf C.2.2.2.2.2.2.1 m6 (k) (kf) (ks) (kt) (kc) (s) hk (by rw [g50 k (by omega)]; omega) (by omega) (by rw [g50 k (by omega), g50 ks (by omega), g50 kt (by omega)]; intro i a c; have y := d7 i a (by omega); have y2 := s8 i a (by omega); rw [y.1, y.2.1]; omega)) (RocketAt.l0 hk) (RocketAt.e0 hk _) rfl qw615 qw15 qw612 rfl rfl ⟨Nat.le_of_ble_eq_true rfl, Nat.le_of_ble_eq_true rfl⟩ (by decide +kernel) qw613 qw614 rfl rfl (Nat.le_of_ble_eq_true rfl) dX5_readFail_56 (fun r m7 hq7 => ?_)
      obtain ⟨z7, rfl, rfl, rfl⟩ := hq7
      show V E (wC D cy aa ad) 4 m6 59 [(2, .int (iz (s))), (0, .ref (aa 3)), (1, .ref (aa k))] [.int (iz (laF (m6 ks) (m6 kt) s (m6 k 6).toNat)), .ref (aa 3)]
      refine v_st (st1 := [.int (iz (laF σ.ft σ.fk s (σ.h 6).toNat)), .ref (aa 3)]) (by rw [g50 k (by omega), g50 ks (by omega), g50 kt (by omega), hla]) ?_
      refine v_iconst (z := 1) C dX5_readFail_59 rfl ?_
      refine v_iadd C dX5_readFail_60 ?_
      refine v_bipush (z := 99) C dX5_readFail_61 (by decide) ?_
      refine v_callV (st := []) (n := 2) (q := 3) C [.int (iz ((laF σ.ft σ.fk s (σ.h 6).toNat) + 1)), .int (iz (99))] (ct_Reader_takeWhole C.2.2.2.2.2.2.1 m6 _ _ (nxZ b n (nxZ b n p)) ((laF σ.ft σ.fk s (σ.h 6).toNat) + 1) (99) (by exact hb) (by exact hn) (by exact hq6.1) (by exact hp2) (by omega) (by first | assumption | omega)) lC3 (eC3 _) rfl qw549 qw3 qw546 rfl rfl ⟨Nat.le_of_ble_eq_true rfl, Nat.le_of_ble_eq_true rfl⟩ (by decide +kernel) qw548 qp6 rfl rfl (Nat.le_of_ble_eq_true rfl) dX5_readFail_63 (fun r m8 hq8 => ?_)
      obtain ⟨z8, rfl, ⟨rfl, hq8, hm8⟩ | ⟨rfl, hq8, hm8⟩⟩ := hq8
      · show V E (wC D cy aa ad) 4 m8 66 [(2, .int (iz (s))), (0, .ref (aa 3)), (1, .ref (aa k))] [.int (iz (1))]
        obtain ⟨x, hX⟩ := hq8
        have hX1 := hm8.1.r hX
        have hX2 := tWhole_i hX hp2.2
        have f63 := f50.tr (hm8.2.rd k kf ks kt kc)
        have e9 : m8 3 9 = x.1 := hX1.1.2
        refine v_if_ne (tgt := 71) C dX5_readFail_66 (by decide) (by omega) (fun c9 => ?_) (fun c9 => by exact absurd c9 (by decide))
        refine v_aload_n C 1 dX5_readFail_71 rfl ?_
        refine v_get C 3 9 lC3 (eC3 _) rfl inX5 (by decide) rfl qw139 dX5_readFail_72 ?_
        refine v_istore_n (L1 := [(3, .int (iz (m8 3 9))), (2, .int (iz (s))), (0, .ref (aa 3)), (1, .ref (aa k))]) C dX5_readFail_75 (by decide) rfl ?_
        refine v_aload_n C 2 dX5_readFail_76 rfl ?_
        refine v_iconst (z := 1) C dX5_readFail_77 rfl ?_
        refine v_bipush (z := 9) C dX5_readFail_78 (by decide) ?_
        refine v_callV (st := []) (n := 2) (q := 3) C [.int (iz (1)), .int (iz (9))] (ct_Reader_takeWhole C.2.2.2.2.2.2.1 m8 _ _ (x.2) (1) (9) (by exact hb) (by exact hn) (by exact hX1.1.1) (by omega) (by first | assumption | omega) (by first | assumption | omega)) lC3 (eC3 _) rfl qw549 qw3 qw546 rfl rfl ⟨Nat.le_of_ble_eq_true rfl, Nat.le_of_ble_eq_true rfl⟩ (by decide +kernel) qw548 qp6 rfl rfl (Nat.le_of_ble_eq_true rfl) dX5_readFail_80 (fun r m10 hq10 => ?_)
        obtain ⟨z10, rfl, ⟨rfl, hq10, hm10⟩ | ⟨rfl, hq10, hm10⟩⟩ := hq10
        · show V E (wC D cy aa ad) 4 m10 83 [(3, .int (iz (m8 3 9))), (2, .int (iz (s))), (0, .ref (aa 3)), (1, .ref (aa k))] [.int (iz (1))]
          obtain ⟨y, hY⟩ := hq10
          have hY1 := hm10.1.r hY
          have hY2 := tWhole_i hY hX2.2.2
          have f80 := f63.tr (hm10.2.rd k kf ks kt kc)
          have g80 : ∀ q, q ≠ 1 → q ≠ 3 → m10 q = m q := fun q a c => by rw [hm10.2.2.2.2 q a c, hm8.2.2.2.2 q a c, g50 q a]
          have hE : oFail b n σ p = .inr ((ups σ.h 6 (σ.h 6 + 1), σ.fa, σ.nm, ups σ.ft (σ.h 6) s, ups σ.fk (σ.h 6) x.1, ups σ.fc (σ.h 6) y.1), y.2) := hEQ.trans ((bnd_r hX _).trans (bnd_r hY _))
          refine v_if_ne (tgt := 88) C dX5_readFail_83 (by decide) (by omega) (fun c11 => ?_) (fun c11 => by exact absurd c11 (by decide))
          refine v_aload_n C 3 dX5_readFail_88 rfl ?_
          refine v_iload_n C 1 dX5_readFail_89 rfl ?_
          refine v_iload_n C 0 dX5_readFail_90 rfl ?_
          refine v_aload_n C 2 dX5_readFail_91 rfl ?_
          refine v_get C 3 9 lC3 (eC3 _) rfl inX5 (by decide) rfl qw139 dX5_readFail_92 ?_
          refine v_callV (st := []) (n := 3) (q := k) C [.int (iz (s)), .int (iz (m8 3 9)), .int (iz (m10 3 9))] (ct_Rocket_addFail C.2.2.2.2.2.2.1 m10 (k) (kf) (ks) (kt) (kc) (s) (m8 3 9) (m10 3 9) hk (by rw [g80 k (by omega) (by omega)]; omega)) (RocketAt.l0 hk) (RocketAt.e0 hk _) rfl qw622 qw15 qw619 rfl rfl ⟨Nat.le_of_ble_eq_true rfl, Nat.le_of_ble_eq_true rfl⟩ (by decide +kernel) qw620 qw621 rfl rfl (Nat.le_of_ble_eq_true rfl) dX5_readFail_95 (fun r m12 hq12 => ?_)
          obtain ⟨rfl, hq12⟩ := hq12
          show V E (wC D cy aa ad) 4 m12 98 [(3, .int (iz (m8 3 9))), (2, .int (iz (s))), (0, .ref (aa 3)), (1, .ref (aa k))] []
          refine v_iconst (z := 1) C dX5_readFail_98 rfl ?_
          refine v_iret C X (by decide) dX5_readFail_99 ⟨_, rfl, Or.inl ⟨rfl, ?_, ?_⟩⟩
          · exact ⟨_, hE⟩
          · have hne : ks ≠ k ∧ kt ≠ k ∧ kc ≠ k ∧ ks ≠ kt ∧ kt ≠ ks ∧ ks ≠ kc ∧ kc ≠ ks ∧ kt ≠ kc ∧ kc ≠ kt ∧ k ≠ ks ∧ k ≠ kt ∧ k ≠ kc := by omega
            obtain ⟨n1, n2, n3, n4, n5, n6, n7, n8, n9, n10, n11, n12⟩ := hne
            have e6 : m10 k 6 = σ.h 6 := by rw [g80 k (by omega) (by omega)]; exact d3
            have eM := hq12
            rw [e6] at eM
            have z : ∀ q, q ≠ k → q ≠ ks → q ≠ kt → q ≠ kc → m12 q = m10 q := fun q a b c d => by rw [← eM, mup_k _ _ _ a, mup_k _ _ _ d, mup_k _ _ _ c, mup_k _ _ _ b]
            have zk : ∀ j : Int, j ≠ 6 → m12 k j = m k j := fun j h => by rw [← eM, mup_j _ _ h, mup_k _ _ _ n12, mup_k _ _ _ n11, mup_k _ _ _ n10, g80 k (by omega) (by omega)]
            refine ⟨RsM.or hE ⟨⟨hY1.1.1.fr (z 1 (by omega) (by omega) (by omega) (by omega)) (z 2 (by omega) (by omega) (by omega) (by omega)), ?_⟩, ?_⟩, ?_⟩
            · refine ⟨?_, (zk 5 (by decide)).trans d2, by rw [← eM, mup_s]; rfl, fun y => ⟨(zk 0 (by decide)).trans (d4 y).1, (zk 1 (by decide)).trans (d4 y).2.1, (zk 2 (by decide)).trans (d4 y).2.2.1, (zk 3 (by decide)).trans (d4 y).2.2.2.1, (zk 4 (by decide)).trans (d4 y).2.2.2.2⟩, fun j a c => ?_, fun j a c => ?_, fun i a c => ?_⟩
              · rw [z 3 (by omega) (by omega) (by omega) (by omega), hm10.2.2.1, hm8.2.2.1, g50 3 (by decide)]; exact d1
              · rw [z kf (by omega) (by omega) (by omega) (by omega), g80 kf (by omega) (by omega)]; exact d5 j a c
              · rw [z 4 (by omega) (by omega) (by omega) (by omega), g80 4 (by omega) (by omega)]; exact d6 j a c
              · have c2 : i < σ.h 6 + 1 := c
                show m12 ks i = ups σ.ft (σ.h 6) s i ∧ m12 kt i = ups σ.fk (σ.h 6) x.1 i ∧ m12 kc i = ups σ.fc (σ.h 6) y.1 i
                rw [← eM, mup_k _ _ _ n1, mup_k _ _ _ n2, mup_k _ _ _ n3, mup_k _ _ _ n6, mup_k _ _ _ n4, mup_k _ _ _ n8, e9, hY1.1.2]
                by_cases e : i = σ.h 6
                · rw [e, ups_s, ups_s, ups_s, mup_s, mup_s, mup_s]; exact ⟨rfl, rfl, rfl⟩
                · rw [ups_n _ _ e, ups_n _ _ e, ups_n _ _ e, mup_j _ _ e, mup_j _ _ e, mup_j _ _ e, mup_k _ _ _ n5, mup_k _ _ _ n9, mup_k _ _ _ n7, g80 ks (by omega) (by omega), g80 kt (by omega) (by omega), g80 kc (by omega) (by omega)]; exact d7 i a (by omega)
            · rw [z 3 (by omega) (by omega) (by omega) (by omega), hY1.2, hX1.2, g50 3 (by decide)]
            · exact f80.tr ⟨by rw [z 1 (by omega) (by omega) (by omega) (by omega)], fun j _ _ => by rw [z 3 (by omega) (by omega) (by omega) (by omega)], fun q _ _ _ a _ b c d => z q a b c d⟩
        · show V E (wC D cy aa ad) 4 m10 83 [(3, .int (iz (m8 3 9))), (2, .int (iz (s))), (0, .ref (aa 3)), (1, .ref (aa k))] [.int (iz (0))]
          obtain ⟨e, he⟩ := IsR.n hq10
          have hE : oFail b n σ p = .inl e := hEQ.trans ((bnd_r hX _).trans (bnd_l he _))
          have hM := hm10.1.l he
          have hF := f63.tr (hm10.2.rd k kf ks kt kc)
          refine v_if_ne (tgt := 88) C dX5_readFail_83 (by decide) (by omega) (fun c13 => by exact absurd c13 (by decide)) (fun c13 => ?_)
          refine v_iconst (z := 0) C dX5_readFail_86 rfl ?_
          refine v_iret C X (by decide) dX5_readFail_87 ⟨_, rfl, Or.inr ⟨rfl, ?_, ?_⟩⟩
          · exact IsR.no hE
          · exact ⟨RsM.ol hE hM, hF⟩
      · show V E (wC D cy aa ad) 4 m8 66 [(2, .int (iz (s))), (0, .ref (aa 3)), (1, .ref (aa k))] [.int (iz (0))]
        obtain ⟨e, he⟩ := IsR.n hq8
        have hE : oFail b n σ p = .inl e := hEQ.trans (bnd_l he _)
        have hM := hm8.1.l he
        have hF := f50.tr (hm8.2.rd k kf ks kt kc)
        refine v_if_ne (tgt := 71) C dX5_readFail_66 (by decide) (by omega) (fun c14 => by exact absurd c14 (by decide)) (fun c14 => ?_)
        refine v_iconst (z := 0) C dX5_readFail_69 rfl ?_
        refine v_iret C X (by decide) dX5_readFail_70 ⟨_, rfl, Or.inr ⟨rfl, ?_, ?_⟩⟩
        · exact IsR.no hE
        · exact ⟨RsM.ol hE hM, hF⟩
    · have hE : oFail b n σ p = .inl (2, skZ b n (nxZ b n p)) := (if_neg (fun y => y h7)).trans <| (if_neg (fun y => y h6)).trans <| (if_pos hnmm).trans <| if_pos (by rw [← d2, ← hs]; omega)
      refine v_aload_n C 1 dX5_readFail_40 rfl ?_
      refine v_iconst (z := 2) C dX5_readFail_41 rfl ?_
      refine v_callV (st := []) (n := 1) (q := 3) C [.int (iz (2))] (ct_Reader_stop C.2.2.2.2.2.2.1 m1 (2) ) lC3 (eC3 _) rfl qw535 qw3 qw532 rfl rfl ⟨Nat.le_of_ble_eq_true rfl, Nat.le_of_ble_eq_true rfl⟩ (by decide +kernel) qw534 qp3 rfl rfl (Nat.le_of_ble_eq_true rfl) dX5_readFail_42 (fun r m15 hq15 => ?_)
      obtain ⟨z15, rfl, rfl, hq15⟩ := hq15
      show V E (wC D cy aa ad) 4 m15 45 [(2, .int (iz (s))), (0, .ref (aa 3)), (1, .ref (aa k))] [.int (iz (0))]
      refine v_iret C X (by decide) dX5_readFail_45 ⟨_, rfl, Or.inr ⟨rfl, ?_, ?_⟩⟩
      · exact IsR.no hE
      · exact ⟨RsM.ol hE ⟨hq15.2.1, hq15.2.2.1.trans us⟩, f4.tr (hq15.1.rd k kf ks kt kc)⟩
  · show V E (wC D cy aa ad) 4 m1 11 [(0, .ref (aa 3)), (1, .ref (aa k))] [.int (iz (0))]
    have hE : oFail b n σ p = .inl (1, skZ b n (nxZ b n p)) := (if_neg (fun y => y h7)).trans <| (if_neg (fun y => y h6)).trans <| if_neg hq2
    refine v_if_ne (tgt := 20) C dX5_readFail_11 (by decide) (by omega) (fun c16 => by exact absurd c16 (by decide)) (fun c16 => ?_)
    refine v_aload_n C 0 dX5_readFail_14 rfl ?_
    refine v_iconst (z := 1) C dX5_readFail_15 rfl ?_
    refine v_callV (st := []) (n := 1) (q := 3) C [.int (iz (1))] (ct_Reader_stop C.2.2.2.2.2.2.1 m1 (1) ) lC3 (eC3 _) rfl qw535 qw3 qw532 rfl rfl ⟨Nat.le_of_ble_eq_true rfl, Nat.le_of_ble_eq_true rfl⟩ (by decide +kernel) qw534 qp3 rfl rfl (Nat.le_of_ble_eq_true rfl) dX5_readFail_16 (fun r m17 hq17 => ?_)
    obtain ⟨z17, rfl, rfl, hq17⟩ := hq17
    show V E (wC D cy aa ad) 4 m17 19 [(0, .ref (aa 3)), (1, .ref (aa k))] [.int (iz (0))]
    refine v_iret C X (by decide) dX5_readFail_19 ⟨_, rfl, Or.inr ⟨rfl, ?_, ?_⟩⟩
    · exact IsR.no hE
    · exact ⟨RsM.ol hE ⟨hq17.2.1, hq17.2.2.1.trans us⟩, f4.tr (hq17.1.rd k kf ks kt kc)⟩

set_option maxHeartbeats 4000000 in
set_option maxRecDepth 100000 in
theorem ct_Reader_hasRoomFor {lau : Launch} {D : va_G} {cy : Nat → ClassId} {aa ad : Nat → Nat} (hI : wI (wC D cy aa ad)) (m : Mem) (x y : Int) (hx : -2147483648 ≤ x ∧ x ≤ 2147483647) (hy : -2147483648 ≤ y ∧ y ≤ 2147483647) (h8 : m 3 8 = 0 ∨ m 3 8 = 1) : MT lau (wC D cy aa ad) yX5_hasRoomFor cX5_hasRoomFor 3 (some .boolean) ({ frames := 1, cells := 0, slots := 0, locals := 21 } : Room) m [.ref (aa 3), .int (iz (x)), .int (iz (y))] (Pi (fun z m' => (1 = z ∧ (m 3 8 = 1 ∧ x < y) ∧ ((m 3 8 = 1 ∧ x < y → m = m') ∧ (m 3 8 ≠ 1 → m' 3 10 = 6 ∧ m' 3 11 = m 1 3) ∧ (m 3 8 = 1 → ¬ x < y → m' 3 10 = 5 ∧ m' 3 11 = m 1 3)) ∧ FW m m') ∨ (0 = z ∧ ¬ (m 3 8 = 1 ∧ x < y) ∧ ((m 3 8 = 1 ∧ x < y → m = m') ∧ (m 3 8 ≠ 1 → m' 3 10 = 6 ∧ m' 3 11 = m 1 3) ∧ (m 3 8 = 1 → ¬ x < y → m' 3 10 = 5 ∧ m' 3 11 = m 1 3)) ∧ FW m m'))) := by
  refine v_entry hI RX5 (by decide) rfl (Nat.le_of_ble_eq_true rfl) (fun E hE C X => ?_)
  subst hE
  show V E (wC D cy aa ad) 3 m 0 [(0, .ref (aa 3)), (1, .int (iz (x))), (2, .int (iz (y)))] []
  refine v_aload_n C 0 dX5_hasRoomFor_0 rfl ?_
  refine v_get C 3 8 lC3 (eC3 _) rfl inX5 (by decide) rfl qw138 dX5_hasRoomFor_1 ?_
  refine v_if_ne (tgt := 14) C dX5_hasRoomFor_4 (by decide) (by omega) (fun c1 => ?_) (fun c1 => ?_)
  · refine v_iload_n C 1 dX5_hasRoomFor_14 rfl ?_
    refine v_iload_n C 2 dX5_hasRoomFor_15 rfl ?_
    refine v_icmp_lt (tgt := 27) C dX5_hasRoomFor_16 (by decide) (by omega) (by omega) (fun c2 => ?_) (fun c2 => ?_)
    · refine v_iconst (z := 1) C dX5_hasRoomFor_27 rfl ?_
      refine v_goto (tgt := 32) C dX5_hasRoomFor_28 (by decide) ?_
      refine v_iret C X (by decide) dX5_hasRoomFor_32 ⟨_, rfl, Or.inl ⟨rfl, ?_, ?_⟩⟩
      · omega
      · first
          | exact ⟨⟨fun y => by omega, fun y => by omega, fun _ _ => ⟨NO_q21.2.1, NO_q21.2.2.1⟩⟩, NO_q21.1⟩
          | exact ⟨⟨fun _ => rfl, fun y => by omega, fun _ y => by omega⟩, FW.rfl' m⟩
    · refine v_aload_n C 0 dX5_hasRoomFor_19 rfl ?_
      refine v_iconst (z := 5) C dX5_hasRoomFor_20 rfl ?_
      refine v_callV (st := []) (n := 1) (q := 3) C [.int (iz (5))] (ct_Reader_stop C.2.2.2.2.2.2.1 m (5) ) lC3 (eC3 _) rfl qw535 qw3 qw532 rfl rfl ⟨Nat.le_of_ble_eq_true rfl, Nat.le_of_ble_eq_true rfl⟩ (by decide +kernel) qw534 qp3 rfl rfl (Nat.le_of_ble_eq_true rfl) dX5_hasRoomFor_21 (fun r m3 hq3 => ?_)
      obtain ⟨z3, rfl, rfl, hq3⟩ := hq3
      show V E (wC D cy aa ad) 3 m3 24 [(0, .ref (aa 3)), (1, .int (iz (x))), (2, .int (iz (y)))] [.int (iz (0))]
      refine v_if_eq (tgt := 31) C dX5_hasRoomFor_24 (by decide) (by omega) (fun c4 => ?_) (fun c4 => by exact absurd c4 (by decide))
      refine v_iconst (z := 0) C dX5_hasRoomFor_31 rfl ?_
      refine v_iret C X (by decide) dX5_hasRoomFor_32 ⟨_, rfl, Or.inr ⟨rfl, ?_, ?_⟩⟩
      · omega
      · first
          | exact ⟨⟨fun y => by omega, fun y => by omega, fun _ _ => ⟨hq3.2.1, hq3.2.2.1⟩⟩, hq3.1⟩
          | exact ⟨⟨fun _ => rfl, fun y => by omega, fun _ y => by omega⟩, FW.rfl' m⟩
  · refine v_aload_n C 0 dX5_hasRoomFor_7 rfl ?_
    refine v_bipush (z := 6) C dX5_hasRoomFor_8 (by decide) ?_
    refine v_callV (st := []) (n := 1) (q := 3) C [.int (iz (6))] (ct_Reader_stop C.2.2.2.2.2.2.1 m (6) ) lC3 (eC3 _) rfl qw535 qw3 qw532 rfl rfl ⟨Nat.le_of_ble_eq_true rfl, Nat.le_of_ble_eq_true rfl⟩ (by decide +kernel) qw534 qp3 rfl rfl (Nat.le_of_ble_eq_true rfl) dX5_hasRoomFor_10 (fun r m5 hq5 => ?_)
    obtain ⟨z5, rfl, rfl, hq5⟩ := hq5
    show V E (wC D cy aa ad) 3 m5 13 [(0, .ref (aa 3)), (1, .int (iz (x))), (2, .int (iz (y)))] [.int (iz (0))]
    refine v_iret C X (by decide) dX5_hasRoomFor_13 ⟨_, rfl, Or.inr ⟨rfl, ?_, ?_⟩⟩
    · omega
    · exact ⟨⟨fun y => by omega, fun _ => ⟨hq5.2.1, hq5.2.2.1⟩, fun y => by omega⟩, hq5.1⟩
