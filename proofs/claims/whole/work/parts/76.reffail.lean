/-! the reference's reader: a line of a fail -/
set_option maxHeartbeats 4000000 in
set_option maxRecDepth 100000 in
theorem ct_StageRatiosModel_readFailLine {lau : Launch} {D : va_G} {cy : Nat → ClassId} {aa ad : Nat → Nat} (hI : wI (wR D cy aa ad)) (m : Mem) (b : Int → Int) (n p : Int) (σ : Sg) (hB : BtR m b n) (hx : TkS m b n (.inr p)) (hσ : SgOk σ) (hD : DrR m σ) : MT lau (wR D cy aa ad) yX11_readFailLine cX11_readFailLine 4 (none) ({ frames := 6, cells := 0, slots := 0, locals := 129 } : Room) m [.ref (aa 0)] (Pv (fun m' => LnS m' b n (oFail b n σ p) ∧ FL m m')) := by
  refine v_entry hI RX11 (by decide) rfl (Nat.le_of_ble_eq_true rfl) (fun E hE C X => ?_)
  subst hE
  show V E (wR D cy aa ad) 4 m 0 [(0, .ref (aa 0))] []
  obtain ⟨d1, d2, d3, d4, d5, d6, d7⟩ := id hD
  obtain ⟨s1, s2, s3, s4, s5, s6, s7, s8⟩ := id hσ
  have hup : 0 ≤ m 0 13 ∧ m 0 13 ≤ 99 ∧ (m 0 13 = 0 ↔ σ.h 7 = 0) := by
    rw [d1]; split
    · have := s5 (by assumption); omega
    · omega
  have hp := hx.1
  refine v_aload_n C 0 dX11_readFailLine_0 rfl ?_
  refine v_aload_n C 0 dX11_readFailLine_1 rfl ?_
  refine v_get C 0 19 lR0 (eR0 _) rfl inX11 (by decide) rfl qw1159 dX11_readFailLine_2 ?_
  refine v_bipush (z := 6) C dX11_readFailLine_5 (by decide) ?_
  have K15 : ∀ (fu : Int) (hfu : (fu = 1 ∧ σ.h 6 = 6) ∨ (fu = 0 ∧ σ.h 6 ≠ 6)), V E (wR D cy aa ad) 4 m 15 [(0, .ref (aa 0))] [.int (iz (fu)), .ref (aa 0)] := by
    intro fu  hfu
    refine v_callV (st := []) (n := 1) (q := 0) C [.int (iz (fu))] (ct_StageRatiosModel_begins C.2.2.2.2.2.2.1 m (b) (n) (.inr p) (fu) (by first | assumption | omega) (by exact hx) (by omega) (by exact ⟨hup.1, hup.2.1⟩)) lR0 (eR0 _) rfl qw1404 qw16 qw1401 rfl rfl ⟨Nat.le_of_ble_eq_true rfl, Nat.le_of_ble_eq_true rfl⟩ (by decide +kernel) qw1403 qp49 rfl rfl (Nat.le_of_ble_eq_true rfl) dX11_readFailLine_15 (fun r m1 hq1 => ?_)
    obtain ⟨rfl, hq1⟩ := hq1
    show V E (wR D cy aa ad) 4 m1 18 [(0, .ref (aa 0))] []
    obtain ⟨x2, hx2⟩ : ∃ x, x = bgO b n fu (m 0 13) (.inr p) := ⟨_, rfl⟩
    have T2 : TkS m1 b n x2 := by rw [hx2]; exact hq1.1
    have hO : oFail b n σ p = bnd x2 (flB b n σ) := by rw [hx2]; exact bgF hfu hup.2.2 hσ
    have D2 := hD.fz hq1.2
    have f2 := T2.f0
    refine v_aload_n C 0 dX11_readFailLine_18 rfl ?_
    have K56 : ∀ (x3 : Rs Int) (sv : Int) (mK : Mem) (hK : TkS mK b n x3) (hKf : FZ m1 mK) (hOld : nxO b n x3 = bnd x2 (tOld b n σ.nm (σ.h 5))) (hx3 : ∀ q, x3 = .inr q → x2 = .inr q ∧ sv = naZ σ.nm (wlZ b n q) (σ.h 5) ∧ 0 ≤ sv) (hsv : -1 ≤ sv ∧ sv ≤ 2), V E (wR D cy aa ad) 4 mK 56 [(0, .ref (aa 0)), (1, .int (iz (sv)))] [] := by
      intro x3 sv mK hK hKf hOld hx3 hsv
      refine v_aload_n C 0 dX11_readFailLine_56 rfl ?_
      refine v_callV (st := []) (n := 0) (q := 0) C [] (ct_StageRatiosModel_next C.2.2.2.2.2.2.1 mK (b) (n) (nxO b n x3) (by exact hB.fr (hq1.2.tr hKf)) (by exact hK.nx)) lR0 (eR0 _) rfl qw1348 qw16 qw1345 rfl rfl ⟨Nat.le_of_ble_eq_true rfl, Nat.le_of_ble_eq_true rfl⟩ (by decide +kernel) qw1347 qp38 rfl rfl (Nat.le_of_ble_eq_true rfl) dX11_readFailLine_57 (fun r m2 hq2 => ?_)
      obtain ⟨rfl, hq2⟩ := hq2
      show V E (wR D cy aa ad) 4 m2 60 [(0, .ref (aa 0)), (1, .int (iz (sv)))] []
      have G0 : FZ m m2 := (hq1.2.tr hKf).tr hq2.2
      have f57 := hq2.1.f0
      have D57 := hD.fz G0
      refine v_aload_n C 0 dX11_readFailLine_60 rfl ?_
      refine v_aload_n C 0 dX11_readFailLine_61 rfl ?_
      refine v_get C 0 31 lR0 (eR0 _) rfl inX11 (by decide) rfl qw1171 dX11_readFailLine_62 ?_
      have K79 : ∀ (lo : Int) (hlo : 1 ≤ lo ∧ lo ≤ 100) (hlz : ∀ q, x3 = .inr q → lo = laZ b n σ q), V E (wR D cy aa ad) 4 m2 79 [(0, .ref (aa 0)), (1, .int (iz (sv)))] [.int (iz (lo)), .ref (aa 0)] := by
        intro lo  hlo hlz
        refine v_bipush (z := 99) C dX11_readFailLine_79 (by decide) ?_
        refine v_callV (st := []) (n := 2) (q := 0) C [.int (iz (lo)), .int (iz (99))] (ct_StageRatiosModel_readWhole C.2.2.2.2.2.2.1 m2 (b) (n) (nxO b n x3) (lo) (99) (by exact hB.fr G0) (by exact hq2.1) (by omega) (by omega)) lR0 (eR0 _) rfl qw1391 qw16 qw1388 rfl rfl ⟨Nat.le_of_ble_eq_true rfl, Nat.le_of_ble_eq_true rfl⟩ (by decide +kernel) qw1390 qp47 rfl rfl (Nat.le_of_ble_eq_true rfl) dX11_readFailLine_81 (fun r m3 hq3 => ?_)
        obtain ⟨z3, rfl, rfl, hq3⟩ := hq3
        show V E (wR D cy aa ad) 4 m3 84 [(0, .ref (aa 0)), (1, .int (iz (sv)))] [.int (iz (vlR lo (bnd (nxO b n x3) (tWhole b n lo 99))))]
        obtain ⟨v1, hv1⟩ : ∃ v, v = vlR lo (bnd (nxO b n x3) (tWhole b n lo 99)) := ⟨_, rfl⟩
        obtain ⟨t1, ht1⟩ : ∃ t, t = sndR (bnd (nxO b n x3) (tWhole b n lo 99)) := ⟨_, rfl⟩
        have U1 : TkS m3 b n t1 := by rw [ht1]; exact hq3.1
        have G1 : FZ m m3 := G0.tr hq3.2
        refine v_st (st1 := [.int (iz (v1))]) (by rw [hv1]) ?_
        refine v_istore_n (L1 := [(2, .int (iz (v1))), (0, .ref (aa 0)), (1, .int (iz (sv)))]) C dX11_readFailLine_84 (by decide) rfl ?_
        refine v_aload_n C 1 dX11_readFailLine_85 rfl ?_
        refine v_iconst (z := 1) C dX11_readFailLine_86 rfl ?_
        refine v_bipush (z := 9) C dX11_readFailLine_87 (by decide) ?_
        refine v_callV (st := []) (n := 2) (q := 0) C [.int (iz (1)), .int (iz (9))] (ct_StageRatiosModel_readWhole C.2.2.2.2.2.2.1 m3 (b) (n) (t1) (1) (9) (by exact hB.fr G1) (by exact U1) (by omega) (by omega)) lR0 (eR0 _) rfl qw1391 qw16 qw1388 rfl rfl ⟨Nat.le_of_ble_eq_true rfl, Nat.le_of_ble_eq_true rfl⟩ (by decide +kernel) qw1390 qp47 rfl rfl (Nat.le_of_ble_eq_true rfl) dX11_readFailLine_89 (fun r m4 hq4 => ?_)
        obtain ⟨z4, rfl, rfl, hq4⟩ := hq4
        show V E (wR D cy aa ad) 4 m4 92 [(2, .int (iz (v1))), (0, .ref (aa 0)), (1, .int (iz (sv)))] [.int (iz (vlR 1 (bnd t1 (tWhole b n 1 9))))]
        obtain ⟨v2, hv2⟩ : ∃ v, v = vlR 1 (bnd (t1) (tWhole b n 1 9)) := ⟨_, rfl⟩
        obtain ⟨t2, ht2⟩ : ∃ t, t = sndR (bnd (t1) (tWhole b n 1 9)) := ⟨_, rfl⟩
        have U2 : TkS m4 b n t2 := by rw [ht2]; exact hq4.1
        have G2 : FZ m m4 := G1.tr hq4.2
        refine v_st (st1 := [.int (iz (v2))]) (by rw [hv2]) ?_
        refine v_istore_n (L1 := [(3, .int (iz (v2))), (2, .int (iz (v1))), (0, .ref (aa 0)), (1, .int (iz (sv)))]) C dX11_readFailLine_92 (by decide) rfl ?_
        have f8 := U2.f0
        obtain ⟨q0, hE0, hq0⟩ := fail_end (σ := σ) rfl hOld (fun q y => ⟨(hx3 q y).1, (hx3 q y).2.1⟩) hlz hv1 ht1 hv2 ht2
        have hE := hO.trans hE0
        refine v_aload_n C 2 dX11_readFailLine_93 rfl ?_
        refine v_get C 0 31 lR0 (eR0 _) rfl inX11 (by decide) rfl qw1171 dX11_readFailLine_94 ?_
        refine v_if_le (tgt := 101) C dX11_readFailLine_97 (by decide) (by omega) (fun c5 => ?_) (fun c5 => ?_)
        · obtain ⟨p9, hp9⟩ := U2.ok c5
          have hw9 := hx3 q0 (hq0 p9 hp9)
          have d3g : m4 0 19 = σ.h 6 := by rw [G2.1 19 (by omega)]; exact d3
          have h63 : σ.h 6 ≠ 6 := fun y => by
            have hu : fu = 1 := by omega
            have y2 : x2 = .inr q0 := hw9.1
            rw [hx2] at y2
            unfold bgO at y2
            rw [if_pos hu] at y2
            split at y2 <;> cases y2
          have h71 : σ.h 7 = 1 := by
            rcases s1 with y | y
            · exfalso
              have y2 : x2 = .inr q0 := hw9.1
              rw [hx2] at y2
              unfold bgO at y2
              rw [if_pos (hup.2.2.mpr y)] at y2
              split at y2 <;> cases y2
            · exact y
          refine v_aload_n C 2 dX11_readFailLine_101 rfl ?_
          refine v_get C 0 6 lR0 (eR0 _) rfl inX11 (by decide) rfl qw1146 dX11_readFailLine_102 ?_
          refine v_iconst (z := 3) C dX11_readFailLine_105 rfl ?_
          refine v_aload_n C 2 dX11_readFailLine_106 rfl ?_
          refine v_get C 0 19 lR0 (eR0 _) rfl inX11 (by decide) rfl qw1159 dX11_readFailLine_107 ?_
          refine v_imul C dX11_readFailLine_110 ?_
          refine v_iload_n C 3 dX11_readFailLine_111 rfl ?_
          refine v_iast C 4 lR4 eR4 (by decide) (by omega) dX11_readFailLine_112 (fun m6 em6 => ?_)
          have a12 : m6 0 19 = σ.h 6 := by rw [em6, mup_k _ _ _ (by decide)]; exact d3g
          refine v_aload_n C 2 dX11_readFailLine_113 rfl ?_
          refine v_get C 0 6 lR0 (eR0 _) rfl inX11 (by decide) rfl qw1146 dX11_readFailLine_114 ?_
          refine v_iconst (z := 3) C dX11_readFailLine_117 rfl ?_
          refine v_aload_n C 2 dX11_readFailLine_118 rfl ?_
          refine v_get C 0 19 lR0 (eR0 _) rfl inX11 (by decide) rfl qw1159 dX11_readFailLine_119 ?_
          refine v_imul C dX11_readFailLine_122 ?_
          refine v_iconst (z := 1) C dX11_readFailLine_123 rfl ?_
          refine v_iadd C dX11_readFailLine_124 ?_
          refine v_iload_n C 1 dX11_readFailLine_125 rfl ?_
          refine v_iast C 4 lR4 eR4 (by decide) (by omega) dX11_readFailLine_126 (fun m7 em7 => ?_)
          have a26 : m7 0 19 = σ.h 6 := by rw [em7, mup_k _ _ _ (by decide)]; exact a12
          refine v_aload_n C 2 dX11_readFailLine_127 rfl ?_
          refine v_get C 0 6 lR0 (eR0 _) rfl inX11 (by decide) rfl qw1146 dX11_readFailLine_128 ?_
          refine v_iconst (z := 3) C dX11_readFailLine_131 rfl ?_
          refine v_aload_n C 2 dX11_readFailLine_132 rfl ?_
          refine v_get C 0 19 lR0 (eR0 _) rfl inX11 (by decide) rfl qw1159 dX11_readFailLine_133 ?_
          refine v_imul C dX11_readFailLine_136 ?_
          refine v_iconst (z := 2) C dX11_readFailLine_137 rfl ?_
          refine v_iadd C dX11_readFailLine_138 ?_
          refine v_iload_n C 0 dX11_readFailLine_139 rfl ?_
          refine v_iast C 4 lR4 eR4 (by decide) (by omega) dX11_readFailLine_140 (fun m8 em8 => ?_)
          refine v_aload_n C 2 dX11_readFailLine_141 rfl ?_
          refine v_dup C dX11_readFailLine_142 rfl ?_
          refine v_get C 0 19 lR0 (eR0 _) rfl inX11 (by decide) rfl qw1159 dX11_readFailLine_143 ?_
          refine v_iconst (z := 1) C dX11_readFailLine_146 rfl ?_
          refine v_iadd C dX11_readFailLine_147 ?_
          refine v_put C 0 19 ((m8 0 19) + 1) 19 rfl lR0 (eR0 _) rfl inX11 tyX11 tyX11_ok nmX11 (by decide) qw1159 rfl rfl rfl (Nat.le_of_ble_eq_true rfl) (by rw [mup_r]; exact (eR0 _)) dX11_readFailLine_148 (fun m9 em9 => ?_)
          refine v_vret C X dX11_readFailLine_151 ⟨rfl, ?_⟩
          have j0 : ∀ j : Int, j ≠ 19 → m9 0 j = m4 0 j := fun j h => by rw [em9, mup_j _ _ h, em8, mup_k _ _ _ (by decide), em7, mup_k _ _ _ (by decide), em6, mup_k _ _ _ (by decide)]
          have a40 : m8 0 19 = σ.h 6 := by rw [em8, mup_k _ _ _ (by decide)]; exact a26
          have j19 : m9 0 19 = σ.h 6 + 1 := by rw [em9, mup_s, a40]
          have jq : ∀ q, q ≠ 0 → q ≠ 4 → m9 q = m q := fun q a c => by rw [em9, mup_k _ _ _ a, em8, mup_k _ _ _ c, em7, mup_k _ _ _ c, em6, mup_k _ _ _ c]; exact G2.2 q a
          have j4 : m9 4 = ups (ups (ups (m 4) (3 * σ.h 6) sv) (3 * σ.h 6 + 1) v1) (3 * σ.h 6 + 2) v2 := by
            rw [em9, mup_k _ _ _ (by decide)]
            have i1 : m6 4 = ups (m 4) (3 * σ.h 6) sv := by rw [em6]; exact mup_u _ _ (by omega) (G2.2 4 (by decide))
            have i2 := (congrFun em7 4).trans (mup_u _ _ (show _ = 3 * σ.h 6 + 1 by omega) i1)
            rw [em8]; exact mup_u _ _ (show _ = 3 * σ.h 6 + 2 by omega) i2
          refine ⟨LnS.e hE (fun _ => rfl) (U2.fl fun j a c => j0 j (by omega)) (fun q hq => ?_), ⟨fun j a => by rw [j0 j (by omega)]; exact G2.1 j (by omega), fun q a c d e => jq q a d⟩⟩
          have jj : ∀ j : Int, 13 ≤ j → j ≤ 18 → m9 0 j = m 0 j := fun j a c => by rw [j0 j (by omega)]; exact G2.1 j (by omega)
          refine ⟨?_, ?_, ?_, fun _ => ?_, fun j a c => ?_, fun s a c => ?_, fun i a c => ?_⟩
          · rw [jj 13 (by decide) (by decide)]
            show _ = if ups σ.h 6 (σ.h 6 + 1) 7 = 1 then ups σ.h 6 (σ.h 6 + 1) 2 else 0
            rw [ups_n _ _ (by decide), ups_n _ _ (by decide)]; exact d1
          · rw [jj 18 (by decide) (by decide)]; show _ = ups σ.h 6 (σ.h 6 + 1) 5; rw [ups_n _ _ (by decide)]; exact d2
          · rw [j19]; show _ = ups σ.h 6 (σ.h 6 + 1) 6; rw [ups_s]
          · rw [jj 17 (by decide) (by decide), jj 16 (by decide) (by decide), jj 14 (by decide) (by decide), jj 15 (by decide) (by decide)]
            show _ = ups σ.h 6 (σ.h 6 + 1) 0 ∧ _ = ups σ.h 6 (σ.h 6 + 1) 1 ∧ _ = ups σ.h 6 (σ.h 6 + 1) 3 ∧ _ = ups σ.h 6 (σ.h 6 + 1) 4
            rw [ups_n _ _ (by decide), ups_n _ _ (by decide), ups_n _ _ (by decide), ups_n _ _ (by decide)]; exact d4 h71
          · have c2 : j < ups σ.h 6 (σ.h 6 + 1) 5 * 9 := c
            rw [ups_n _ _ (by decide)] at c2
            rw [jq 3 (by decide) (by decide)]; exact d5 j a c2
          · have c2 : s < ups σ.h 6 (σ.h 6 + 1) 5 := c
            rw [ups_n _ _ (by decide)] at c2
            rw [jq 5 (by decide) (by decide)]; exact d6 s a c2
          · have c2 : i < ups σ.h 6 (σ.h 6 + 1) 6 := c
            rw [ups_s] at c2
            rw [j4]
            show _ = ups σ.ft (σ.h 6) (naZ σ.nm (wlZ b n q0) (σ.h 5)) i ∧ _ = ups σ.fk (σ.h 6) v1 i ∧ _ = ups σ.fc (σ.h 6) v2 i
            by_cases e : i = σ.h 6
            · subst e
              rw [ups_s, ups_s, ups_s, ups_n _ _ (by omega), ups_n _ _ (by omega), ups_s, ups_n _ _ (by omega), ups_s, ups_s]
              exact ⟨hw9.2.1, rfl, rfl⟩
            · rw [ups_n _ _ e, ups_n _ _ e, ups_n _ _ e, ups_n _ _ (by omega), ups_n _ _ (by omega), ups_n _ _ (by omega), ups_n _ _ (by omega), ups_n _ _ (by omega), ups_n _ _ (by omega), ups_n _ _ (by omega), ups_n _ _ (by omega), ups_n _ _ (by omega)]
              exact d7 i a (by omega)
        · obtain ⟨e9, he9⟩ := U2.bad (by omega)
          refine v_vret C X dX11_readFailLine_100 ⟨rfl, ?_⟩
          refine ⟨LnS.e hE (fun _ => rfl) U2 (fun q hq => ?_), G2.fl⟩
          rw [he9] at hq; cases hq
      refine v_if_le (tgt := 72) C dX11_readFailLine_65 (by decide) (by omega) (fun c10 => ?_) (fun c10 => ?_)
      · refine v_aload_n C 0 dX11_readFailLine_72 rfl ?_
        refine v_iload_n C 1 dX11_readFailLine_73 rfl ?_
        refine v_callV (st := [.ref (aa 0)]) (n := 1) (q := 0) C [.int (iz (sv))] (ct_StageRatiosModel_latestFail C.2.2.2.2.2.2.1 m2 (σ.ft) (σ.fk) (sv) (σ.h 6) (by exact ⟨D57.2.2.1, s4⟩) (by exact fun i a c => ⟨(D57.2.2.2.2.2.2 i a c).1, (D57.2.2.2.2.2.2 i a c).2.1⟩) (by exact fun i a c => ⟨by have := (s8 i a c).1; omega, (s8 i a c).2.1⟩) (by omega)) lR0 (eR0 _) rfl qw1436 qw16 qw1433 rfl rfl ⟨Nat.le_of_ble_eq_true rfl, Nat.le_of_ble_eq_true rfl⟩ (by decide +kernel) qw1435 qp54 rfl rfl (Nat.le_of_ble_eq_true rfl) dX11_readFailLine_74 (fun r m11 hq11 => ?_)
        obtain ⟨z11, rfl, rfl, rfl⟩ := hq11
        show V E (wR D cy aa ad) 4 m2 77 [(0, .ref (aa 0)), (1, .int (iz (sv)))] [.int (iz (laF (σ.ft) (σ.fk) sv (σ.h 6).toNat)), .ref (aa 0)]
        have hla := laF_rng2 (A := σ.ft) (B := σ.fk) (s := sv) (σ.h 6).toNat (fun i a c => (s8 i a (by omega)).2.1)
        refine v_iconst (z := 1) C dX11_readFailLine_77 rfl ?_
        refine v_iadd C dX11_readFailLine_78 ?_
        refine v_sub [0, 1] rfl ?_
        exact K79  ((laF (σ.ft) (σ.fk) sv (σ.h 6).toNat) + 1)  (by omega) (by 
                    first
                      | (intro q9 y; rw [y] at he9; cases he9)
                      | (intro q9 y; unfold laZ; rw [← (hx3 q9 y).2.1])
                  )
      · obtain ⟨e9, he9⟩ := hq2.1.bad (by omega)
        refine v_iconst (z := 1) C dX11_readFailLine_68 rfl ?_
        refine v_goto (tgt := 79) C dX11_readFailLine_69 (by decide) ?_
        refine v_sub [0, 1] rfl ?_
        exact K79  (1)  (by omega) (by 
                    first
                      | (intro q9 y; rw [y] at he9; cases he9)
                      | (intro q9 y; unfold laZ; rw [← (hx3 q9 y).2.1])
                  )
    refine v_callV (st := []) (n := 0) (q := 0) C [] (ct_StageRatiosModel_isName C.2.2.2.2.2.2.1 m1 (b) (n) (x2) (by exact T2)) lR0 (eR0 _) rfl qw1408 qw16 qw1405 rfl rfl ⟨Nat.le_of_ble_eq_true rfl, Nat.le_of_ble_eq_true rfl⟩ (by decide +kernel) qw1407 qp50 rfl rfl (Nat.le_of_ble_eq_true rfl) dX11_readFailLine_19 (fun r m12 hq12 => ?_)
    obtain ⟨z12, rfl, ⟨rfl, hq12, rfl⟩ | ⟨rfl, hq12, rfl⟩⟩ := hq12
    · show V E (wR D cy aa ad) 4 m1 22 [(0, .ref (aa 0))] [.int (iz (1))]
      obtain ⟨q, hq2, hnm⟩ := hq12
      have k1 := hnm.1
      have T3 := T2.i hq2
      have ew := T3.2.2.2.2.2.1 k1
      have wok := wl_ok T3.1.2 k1
      refine v_if_ne (tgt := 30) C dX11_readFailLine_22 (by decide) (by omega) (fun c13 => ?_) (fun c13 => by exact absurd c13 (by decide))
      refine v_aload_n C 0 dX11_readFailLine_30 rfl ?_
      refine v_get C 0 31 lR0 (eR0 _) rfl inX11 (by decide) rfl qw1171 dX11_readFailLine_31 ?_
      refine v_if_le (tgt := 41) C dX11_readFailLine_34 (by decide) (by omega) (fun c14 => ?_) (fun c14 => ?_)
      · refine v_aload_n C 0 dX11_readFailLine_41 rfl ?_
        refine v_callV (st := []) (n := 0) (q := 0) C [] (ct_StageRatiosModel_stageHere C.2.2.2.2.2.2.1 m1 (σ.nm) (wlZ b n q) (σ.h 5) (by exact ⟨D2.2.1, s3⟩) (by exact D2.2.2.2.2.2.1) (by exact s7) (by exact ew) (by exact wok)) lR0 (eR0 _) rfl qw1413 qw16 qw1410 rfl rfl ⟨Nat.le_of_ble_eq_true rfl, Nat.le_of_ble_eq_true rfl⟩ (by decide +kernel) qw1412 qp51 rfl rfl (Nat.le_of_ble_eq_true rfl) dX11_readFailLine_42 (fun r m15 hq15 => ?_)
        obtain ⟨z15, rfl, rfl, rfl⟩ := hq15
        show V E (wR D cy aa ad) 4 m1 45 [(0, .ref (aa 0))] [.int (iz (naZ (σ.nm) (wlZ b n q) (σ.h 5)))]
        have hnr := naZ_rng (nm := σ.nm) (w := wlZ b n q) s3.1
        refine v_istore_n (L1 := [(1, .int (iz (naZ (σ.nm) (wlZ b n q) (σ.h 5)))), (0, .ref (aa 0))]) C dX11_readFailLine_45 (by decide) rfl ?_
        refine v_iload_n C 0 dX11_readFailLine_46 rfl ?_
        refine v_iconst (z := -1) C dX11_readFailLine_47 rfl ?_
        refine v_icmp_ne (tgt := 56) C dX11_readFailLine_48 (by decide) (by omega) (by omega) (fun c16 => ?_) (fun c16 => ?_)
        · refine v_sub [1, 0] rfl ?_
          exact K56  (x2) (naZ (σ.nm) (wlZ b n q) (σ.h 5)) m1 (by 
                        first
                          | exact NO_q53.1
                          | exact T2
                      ) (by 
                        first
                          | exact NO_q27.2.tr NO_q53.2
                          | exact NO_q53.2
                          | exact FZ.rfl' _
                      ) (by 
                        first
                          | exact (told_1 hq12).symm
                          | exact (told_2 hq2 hnm (by omega)).symm
                          | exact (told_0 hq2 hnm (by omega)).symm
                      ) (by 
                        first
                          | (intro q9 y; exfalso; obtain ⟨e9, he9⟩ := flO_l b n 2 (flO b n 1 x2); rw [he9] at y; cases y)
                          | (intro q9 y; exfalso; obtain ⟨e9, he9⟩ := flO_l b n 2 x2; rw [he9] at y; cases y)
                          | (intro q9 y; have y2 : q9 = q := Sum.inr.inj (y.symm.trans hq2); rw [y2]; exact ⟨hq2, rfl, by omega⟩)
                      ) (by omega)
        · refine v_aload_n C 1 dX11_readFailLine_51 rfl ?_
          refine v_iconst (z := 2) C dX11_readFailLine_52 rfl ?_
          refine v_callV (st := []) (n := 1) (q := 0) C [.int (iz (2))] (ct_StageRatiosModel_flaw C.2.2.2.2.2.2.1 m1 (b) (n) (x2) (2) (by 
                          first
                            | exact NO_q27.1
                            | exact T2
                      ) (by decide)) lR0 (eR0 _) rfl qw1382 qw16 qw1379 rfl rfl ⟨Nat.le_of_ble_eq_true rfl, Nat.le_of_ble_eq_true rfl⟩ (by decide +kernel) qw1381 qp45 rfl rfl (Nat.le_of_ble_eq_true rfl) dX11_readFailLine_53 (fun r m17 hq17 => ?_)
          obtain ⟨rfl, hq17⟩ := hq17
          show V E (wR D cy aa ad) 4 m17 56 [(1, .int (iz (naZ (σ.nm) (wlZ b n q) (σ.h 5)))), (0, .ref (aa 0))] []
          refine v_sub [1, 0] rfl ?_
          exact K56  (flO b n 2 x2) (naZ (σ.nm) (wlZ b n q) (σ.h 5)) m17 (by 
                        first
                          | exact hq17.1
                          | exact T2
                      ) (by 
                        first
                          | exact NO_q27.2.tr hq17.2
                          | exact hq17.2
                          | exact FZ.rfl' _
                      ) (by 
                        first
                          | exact (told_1 hq12).symm
                          | exact (told_2 hq2 hnm (by omega)).symm
                          | exact (told_0 hq2 hnm (by omega)).symm
                      ) (by 
                        first
                          | (intro q9 y; exfalso; obtain ⟨e9, he9⟩ := flO_l b n 2 (flO b n 1 x2); rw [he9] at y; cases y)
                          | (intro q9 y; exfalso; obtain ⟨e9, he9⟩ := flO_l b n 2 x2; rw [he9] at y; cases y)
                          | (intro q9 y; have y2 : q9 = q := Sum.inr.inj (y.symm.trans hq2); rw [y2]; exact ⟨hq2, rfl, by omega⟩)
                      ) (by omega)
      · exfalso; obtain ⟨e9, he9⟩ := T2.bad (by omega); rw [hq2] at he9; cases he9
    · show V E (wR D cy aa ad) 4 m1 22 [(0, .ref (aa 0))] [.int (iz (0))]
      refine v_if_ne (tgt := 30) C dX11_readFailLine_22 (by decide) (by omega) (fun c18 => by exact absurd c18 (by decide)) (fun c18 => ?_)
      refine v_aload_n C 0 dX11_readFailLine_25 rfl ?_
      refine v_iconst (z := 1) C dX11_readFailLine_26 rfl ?_
      refine v_callV (st := []) (n := 1) (q := 0) C [.int (iz (1))] (ct_StageRatiosModel_flaw C.2.2.2.2.2.2.1 m1 (b) (n) (x2) (1) (by exact T2) (by decide)) lR0 (eR0 _) rfl qw1382 qw16 qw1379 rfl rfl ⟨Nat.le_of_ble_eq_true rfl, Nat.le_of_ble_eq_true rfl⟩ (by decide +kernel) qw1381 qp45 rfl rfl (Nat.le_of_ble_eq_true rfl) dX11_readFailLine_27 (fun r m19 hq19 => ?_)
      obtain ⟨rfl, hq19⟩ := hq19
      show V E (wR D cy aa ad) 4 m19 30 [(0, .ref (aa 0))] []
      have f27 := hq19.1.f0
      refine v_aload_n C 0 dX11_readFailLine_30 rfl ?_
      refine v_get C 0 31 lR0 (eR0 _) rfl inX11 (by decide) rfl qw1171 dX11_readFailLine_31 ?_
      refine v_if_le (tgt := 41) C dX11_readFailLine_34 (by decide) (by omega) (fun c20 => ?_) (fun c20 => ?_)
      · exfalso; obtain ⟨p9, hp9⟩ := hq19.1.ok (by omega); obtain ⟨e9, he9⟩ := flO_l b n 1 x2; rw [he9] at hp9; cases hp9
      · refine v_iconst (z := -1) C dX11_readFailLine_37 rfl ?_
        refine v_goto (tgt := 45) C dX11_readFailLine_38 (by decide) ?_
        refine v_istore_n (L1 := [(1, .int (iz (-1))), (0, .ref (aa 0))]) C dX11_readFailLine_45 (by decide) rfl ?_
        refine v_iload_n C 0 dX11_readFailLine_46 rfl ?_
        refine v_iconst (z := -1) C dX11_readFailLine_47 rfl ?_
        refine v_icmp_ne (tgt := 56) C dX11_readFailLine_48 (by decide) (by omega) (by omega) (fun c21 => by exact absurd c21 (by decide)) (fun c21 => ?_)
        refine v_aload_n C 1 dX11_readFailLine_51 rfl ?_
        refine v_iconst (z := 2) C dX11_readFailLine_52 rfl ?_
        refine v_callV (st := []) (n := 1) (q := 0) C [.int (iz (2))] (ct_StageRatiosModel_flaw C.2.2.2.2.2.2.1 m19 (b) (n) (flO b n 1 x2) (2) (by 
                      first
                        | exact hq19.1
                        | exact T2
                  ) (by decide)) lR0 (eR0 _) rfl qw1382 qw16 qw1379 rfl rfl ⟨Nat.le_of_ble_eq_true rfl, Nat.le_of_ble_eq_true rfl⟩ (by decide +kernel) qw1381 qp45 rfl rfl (Nat.le_of_ble_eq_true rfl) dX11_readFailLine_53 (fun r m22 hq22 => ?_)
        obtain ⟨rfl, hq22⟩ := hq22
        show V E (wR D cy aa ad) 4 m22 56 [(1, .int (iz (-1))), (0, .ref (aa 0))] []
        refine v_sub [1, 0] rfl ?_
        exact K56  (flO b n 2 (flO b n 1 x2)) (-1) m22 (by 
                    first
                      | exact hq22.1
                      | exact T2
                  ) (by 
                    first
                      | exact hq19.2.tr hq22.2
                      | exact hq22.2
                      | exact FZ.rfl' _
                  ) (by 
                    first
                      | exact (told_1 hq12).symm
                      | exact (told_2 hq2 hnm (by omega)).symm
                      | exact (told_0 hq2 hnm (by omega)).symm
                  ) (by 
                    first
                      | (intro q9 y; exfalso; obtain ⟨e9, he9⟩ := flO_l b n 2 (flO b n 1 x2); rw [he9] at y; cases y)
                      | (intro q9 y; exfalso; obtain ⟨e9, he9⟩ := flO_l b n 2 x2; rw [he9] at y; cases y)
                      | (intro q9 y; have y2 : q9 = q := Sum.inr.inj (y.symm.trans hq2); rw [y2]; exact ⟨hq2, rfl, by omega⟩)
                  ) (by omega)
  refine v_icmp_ne (tgt := 14) C dX11_readFailLine_7 (by decide) (by omega) (by omega) (fun c23 => ?_) (fun c23 => ?_)
  · refine v_iconst (z := 0) C dX11_readFailLine_14 rfl ?_
    refine v_sub [0] rfl ?_
    exact K15  (0)  (by omega)
  · refine v_iconst (z := 1) C dX11_readFailLine_10 rfl ?_
    refine v_goto (tgt := 15) C dX11_readFailLine_11 (by decide) ?_
    refine v_sub [0] rfl ?_
    exact K15  (1)  (by omega)
