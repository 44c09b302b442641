/-! the reference's reader: a stage's line -/
theorem flO_l (b : Int → Int) (n f : Int) (x : Rs Int) : ∃ e, flO b n f x = .inl e := by cases x <;> exact ⟨_, rfl⟩
theorem bgS {b : Int → Int} {n p fu up : Int} {σ : Sg} (hfu : (fu = 1 ∧ σ.h 5 = 3) ∨ (fu = 0 ∧ σ.h 5 ≠ 3)) (hup : up = 0 ↔ σ.h 7 = 0) (hσ : SgOk σ) : oStage b n σ p = bnd (bgO b n fu up (.inr p)) (stB b n σ) := by
  have s1 := hσ.1
  have s2 := hσ.2.1
  have s3 := hσ.2.2.1
  by_cases h7 : σ.h 7 = 1
  · by_cases h5 : σ.h 5 = 3
    · rw [bg_3 b n _ (by omega) (by omega)]; exact (if_neg (fun y => y h7)).trans (if_pos (by omega))
    · rw [bg_1 b n _ (by omega) (by omega)]; exact oStage_0 h7 (by omega)
  · rw [bg_2 b n _ (by have := s2 (by omega); omega) (by omega)]; exact if_pos h7
theorem bgF {b : Int → Int} {n p fu up : Int} {σ : Sg} (hfu : (fu = 1 ∧ σ.h 6 = 6) ∨ (fu = 0 ∧ σ.h 6 ≠ 6)) (hup : up = 0 ↔ σ.h 7 = 0) (hσ : SgOk σ) : oFail b n σ p = bnd (bgO b n fu up (.inr p)) (flB b n σ) := by
  have s1 := hσ.1
  have s2 := hσ.2.1
  have s4 := hσ.2.2.2.1
  by_cases h7 : σ.h 7 = 1
  · by_cases h6 : σ.h 6 = 6
    · rw [bg_3 b n _ (by omega) (by omega)]; exact (if_neg (fun y => y h7)).trans (if_pos (by omega))
    · rw [bg_1 b n _ (by omega) (by omega)]; exact oFail_0 h7 (by omega)
  · rw [bg_2 b n _ (by have := s2 (by omega); omega) (by omega)]; exact if_pos h7
theorem tnew_1 {b : Int → Int} {n s : Int} {nm : Int → List Int} {x : Rs Int} (h : ¬ NmS b n x) : bnd x (tNew b n nm s) = nxO b n (flO b n 1 x) := by
  cases x with
  | inl e => rfl
  | inr p => exact if_neg (fun y => h ⟨p, rfl, y⟩)
theorem tnew_3 {b : Int → Int} {n s q : Int} {nm : Int → List Int} {x : Rs Int} (hq : x = .inr q) (h : isNm b n q) (g : naZ nm (wlZ b n q) s ≠ -1) : bnd x (tNew b n nm s) = nxO b n (flO b n 3 x) := by
  subst hq; exact (if_pos h).trans (if_pos g)
theorem tnew_0 {b : Int → Int} {n s q : Int} {nm : Int → List Int} {x : Rs Int} (hq : x = .inr q) (h : isNm b n q) (g : naZ nm (wlZ b n q) s = -1) : bnd x (tNew b n nm s) = nxO b n x := by
  subst hq; exact (if_pos h).trans (if_neg (fun y => y g))
theorem told_1 {b : Int → Int} {n s : Int} {nm : Int → List Int} {x : Rs Int} (h : ¬ NmS b n x) : bnd x (tOld b n nm s) = nxO b n (flO b n 2 (flO b n 1 x)) := by
  cases x with
  | inl e => rfl
  | inr p => exact if_neg (fun y => h ⟨p, rfl, y⟩)
theorem told_2 {b : Int → Int} {n s q : Int} {nm : Int → List Int} {x : Rs Int} (hq : x = .inr q) (h : isNm b n q) (g : naZ nm (wlZ b n q) s = -1) : bnd x (tOld b n nm s) = nxO b n (flO b n 2 x) := by
  subst hq; exact (if_pos h).trans (if_pos g)
theorem told_0 {b : Int → Int} {n s q : Int} {nm : Int → List Int} {x : Rs Int} (hq : x = .inr q) (h : isNm b n q) (g : naZ nm (wlZ b n q) s ≠ -1) : bnd x (tOld b n nm s) = nxO b n x := by
  subst hq; exact (if_pos h).trans (if_neg g)
def upN (A : Int → Int) (s g v1 v2 v3 v4 v5 v6 v7 v8 : Int) : Int → Int := ups (ups (ups (ups (ups (ups (ups (ups (ups A (s * 9 + 0) g) (s * 9 + 1) v1) (s * 9 + 2) v2) (s * 9 + 3) v3) (s * 9 + 4) v4) (s * 9 + 5) v5) (s * 9 + 6) v6) (s * 9 + 7) v7) (s * 9 + 8) v8
theorem ups_cg {A B : Int → Int} {i v j : Int} (h : j ≠ i → A j = B j) : ups A i v j = ups B i v j := by
  by_cases e : j = i
  · rw [e, ups_s, ups_s]
  · rw [ups_n _ _ e, ups_n _ _ e]; exact h e
theorem upN_cg {A B : Int → Int} {s g v1 v2 v3 v4 v5 v6 v7 v8 : Int} (h : ∀ j : Int, 0 ≤ j → j < s * 9 → A j = B j) {j : Int} (j0 : 0 ≤ j) (j1 : j < (s + 1) * 9) : upN A s g v1 v2 v3 v4 v5 v6 v7 v8 j = upN B s g v1 v2 v3 v4 v5 v6 v7 v8 j :=
  ups_cg fun h8 => ups_cg fun h7 => ups_cg fun h6 => ups_cg fun h5 => ups_cg fun h4 => ups_cg fun h3 => ups_cg fun h2 => ups_cg fun h1 => ups_cg fun h0 => h j j0 (by omega)
theorem mup_u (m : Mem) (q : Nat) {i k v : Int} (h : i = k) {A : Int → Int} (e : m q = A) : mup m q i v q = ups A k v := by rw [mup_r, h, e]; rfl
theorem stF_8 {b : Int → Int} {n s g v1 v2 v3 v4 v5 v6 v7 v8 : Int} {A : Int → Int} {x5 t1 t2 t3 t4 t5 t6 t7 t8 : Rs Int}
    (a1 : v1 = vlR 1 (bnd x5 (tPart b n w_dry 1 50))) (e1 : t1 = sndR (bnd x5 (tPart b n w_dry 1 50)))
    (a2 : v2 = vlR 0 (bnd t1 (tPart b n w_tank 0 90))) (e2 : t2 = sndR (bnd t1 (tPart b n w_tank 0 90)))
    (a3 : v3 = vlR 1 (bnd t2 (tPart b n w_most 1 16))) (e3 : t3 = sndR (bnd t2 (tPart b n w_most 1 16)))
    (a4 : v4 = vlR 1 (bnd t3 (tPart b n w_engines 1 9))) (e4 : t4 = sndR (bnd t3 (tPart b n w_engines 1 9)))
    (a5 : v5 = vlR 1 (bnd t4 (tPart b n w_thrust 1 999))) (e5 : t5 = sndR (bnd t4 (tPart b n w_thrust 1 999)))
    (a6 : v6 = vlR 1 (bnd t5 (tPart b n w_flow 1 9))) (e6 : t6 = sndR (bnd t5 (tPart b n w_flow 1 9)))
    (a7 : v7 = vlR 0 (bnd t6 (tPart b n w_least 0 400))) (e7 : t7 = sndR (bnd t6 (tPart b n w_least 0 400)))
    (a8 : v8 = vlR 0 (bnd t7 (tPart b n w_out 0 (v4 - 1)))) (e8 : t8 = sndR (bnd t7 (tPart b n w_out 0 (v4 - 1)))) :
    bnd x5 (stF b n s 8 1 (ups A (s * 9 + 0) g)) = bnd t8 fun q => .inr (upN A s g v1 v2 v3 v4 v5 v6 v7 v8, q) := by
  refine (stF_ch (w := 1) (k := 7) rfl (by decide) ((if_neg (by decide)).trans (by decide)) a1 e1).trans ?_
  refine (stF_ch (w := 2) (k := 6) rfl (by decide) ((if_neg (by decide)).trans (by decide)) a2 e2).trans ?_
  refine (stF_ch (w := 3) (k := 5) rfl (by decide) ((if_neg (by decide)).trans (by decide)) a3 e3).trans ?_
  refine (stF_ch (w := 4) (k := 4) rfl (by decide) ((if_neg (by decide)).trans (by decide)) a4 e4).trans ?_
  refine (stF_ch (w := 5) (k := 3) rfl (by decide) ((if_neg (by decide)).trans (by decide)) a5 e5).trans ?_
  refine (stF_ch (w := 6) (k := 2) rfl (by decide) ((if_neg (by decide)).trans (by decide)) a6 e6).trans ?_
  refine (stF_ch (w := 7) (k := 1) rfl (by decide) ((if_neg (by decide)).trans (by decide)) a7 e7).trans ?_
  refine (stF_ch (w := 8) (k := 0) rfl (by decide) ((if_pos (by decide)).trans ?_) a8 e8).trans ?_
  · show ups (ups (ups (ups _ _ _) (s * 9 + 5) v5) (s * 9 + 6) v6) (s * 9 + 7) v7 (s * 9 + 4) - 1 = v4 - 1
    rw [ups_n _ _ (by omega), ups_n _ _ (by omega), ups_n _ _ (by omega)]
    show ups _ (s * 9 + 4) v4 (s * 9 + 4) - 1 = v4 - 1
    rw [ups_s]
  · rfl
set_option maxHeartbeats 4000000 in
set_option maxRecDepth 100000 in
theorem ct_StageRatiosModel_readStageLine {lau : Launch} {D : va_G} {cy : Nat → ClassId} {aa ad : Nat → Nat} (hI : wI (wR D cy aa ad)) (m : Mem) (b : Int → Int) (n p : Int) (σ : Sg) (hB : BtR m b n) (hx : TkS m b n (.inr p)) (hσ : SgOk σ) (hD : DrR m σ) : MT lau (wR D cy aa ad) yX11_readStageLine cX11_readStageLine 13 (none) ({ frames := 6, cells := 0, slots := 0, locals := 132 } : Room) m [.ref (aa 0)] (Pv (fun m' => LnS m' b n (oStage b n σ p) ∧ FL m m')) := by
  refine v_entry hI RX11 (by decide) rfl (Nat.le_of_ble_eq_true rfl) (fun E hE C X => ?_)
  subst hE
  show V E (wR D cy aa ad) 13 m 0 [(0, .ref (aa 0))] []
  obtain ⟨d1, d2, d3, d4, d5, d6, d7⟩ := id hD
  obtain ⟨s1, s2, s3, s4, s5, s6, s7, s8⟩ := id hσ
  have hup : 0 ≤ m 0 13 ∧ m 0 13 ≤ 99 ∧ (m 0 13 = 0 ↔ σ.h 7 = 0) := by
    rw [d1]; split
    · have := s5 (by assumption); omega
    · omega
  have hp := hx.1
  refine v_aload_n C 0 dX11_readStageLine_0 rfl ?_
  refine v_aload_n C 0 dX11_readStageLine_1 rfl ?_
  refine v_get C 0 18 lR0 (eR0 _) rfl inX11 (by decide) rfl qw1158 dX11_readStageLine_2 ?_
  refine v_iconst (z := 3) C dX11_readStageLine_5 rfl ?_
  have K14 : ∀ (fu : Int) (hfu : (fu = 1 ∧ σ.h 5 = 3) ∨ (fu = 0 ∧ σ.h 5 ≠ 3)), V E (wR D cy aa ad) 13 m 14 [(0, .ref (aa 0))] [.int (iz (fu)), .ref (aa 0)] := by
    intro fu  hfu
    refine v_callV (st := []) (n := 1) (q := 0) C [.int (iz (fu))] (ct_StageRatiosModel_begins C.2.2.2.2.2.2.1 m (b) (n) (.inr p) (fu) (by first | assumption | omega) (by exact hx) (by omega) (by exact ⟨hup.1, hup.2.1⟩)) lR0 (eR0 _) rfl qw1404 qw16 qw1401 rfl rfl ⟨Nat.le_of_ble_eq_true rfl, Nat.le_of_ble_eq_true rfl⟩ (by decide +kernel) qw1403 qp49 rfl rfl (Nat.le_of_ble_eq_true rfl) dX11_readStageLine_14 (fun r m1 hq1 => ?_)
    obtain ⟨rfl, hq1⟩ := hq1
    show V E (wR D cy aa ad) 13 m1 17 [(0, .ref (aa 0))] []
    obtain ⟨x2, hx2⟩ : ∃ x, x = bgO b n fu (m 0 13) (.inr p) := ⟨_, rfl⟩
    have T2 : TkS m1 b n x2 := by rw [hx2]; exact hq1.1
    have hO : oStage b n σ p = bnd x2 (stB b n σ) := by rw [hx2]; exact bgS hfu hup.2.2 hσ
    have D2 := hD.fz hq1.2
    have f2 := T2.f0
    refine v_aload_n C 0 dX11_readStageLine_17 rfl ?_
    have K49 : ∀ (x3 : Rs Int) (mK : Mem) (hK : TkS mK b n x3) (hKf : FZ m1 mK) (hNew : nxO b n x3 = bnd x2 (tNew b n σ.nm (σ.h 5))) (hx3 : ∀ q, x3 = .inr q → x2 = .inr q ∧ mK 0 32 = enZ 256 0 (wlZ b n q) ∧ wdOk (wlZ b n q)), V E (wR D cy aa ad) 13 mK 49 [(0, .ref (aa 0))] [] := by
      intro x3 mK hK hKf hNew hx3
      refine v_aload_n C 0 dX11_readStageLine_49 rfl ?_
      refine v_get C 0 32 lR0 (eR0 _) rfl inX11 (by decide) rfl qw1172 dX11_readStageLine_50 ?_
      refine v_lstore_n (L1 := [(1, .long (lz (mK 0 32))), (0, .ref (aa 0))]) C dX11_readStageLine_53 (by decide) rfl ?_
      refine v_aload_n C 1 dX11_readStageLine_54 rfl ?_
      refine v_callV (st := []) (n := 0) (q := 0) C [] (ct_StageRatiosModel_next C.2.2.2.2.2.2.1 mK (b) (n) (nxO b n x3) (by exact hB.fr (hq1.2.tr hKf)) (by exact hK.nx)) lR0 (eR0 _) rfl qw1348 qw16 qw1345 rfl rfl ⟨Nat.le_of_ble_eq_true rfl, Nat.le_of_ble_eq_true rfl⟩ (by decide +kernel) qw1347 qp38 rfl rfl (Nat.le_of_ble_eq_true rfl) dX11_readStageLine_55 (fun r m2 hq2 => ?_)
      obtain ⟨rfl, hq2⟩ := hq2
      show V E (wR D cy aa ad) 13 m2 58 [(1, .long (lz (mK 0 32))), (0, .ref (aa 0))] []
      have G0 : FZ m m2 := (hq1.2.tr hKf).tr hq2.2
      refine v_aload_n C 1 dX11_readStageLine_58 rfl ?_
      refine v_callV (st := []) (n := 0) (q := 0) C [] (ct_StageRatiosModel_readKind C.2.2.2.2.2.2.1 m2 (b) (n) (nxO b n x3) (by exact hB.fr G0) (by exact hq2.1)) lR0 (eR0 _) rfl qw1417 qw16 qw1414 rfl rfl ⟨Nat.le_of_ble_eq_true rfl, Nat.le_of_ble_eq_true rfl⟩ (by decide +kernel) qw1416 qp52 rfl rfl (Nat.le_of_ble_eq_true rfl) dX11_readStageLine_59 (fun r m3 hq3 => ?_)
      obtain ⟨z3, rfl, rfl, hq3⟩ := hq3
      show V E (wR D cy aa ad) 13 m3 62 [(1, .long (lz (mK 0 32))), (0, .ref (aa 0))] [.int (iz (vlR (-1) (bnd (nxO b n x3) (tKind b n))))]
      obtain ⟨gr, hgr⟩ : ∃ v, v = vlR (-1) (bnd (nxO b n x3) (tKind b n)) := ⟨_, rfl⟩
      obtain ⟨x5, hx5⟩ : ∃ t, t = sndR (bnd (nxO b n x3) (tKind b n)) := ⟨_, rfl⟩
      have T5 : TkS m3 b n x5 := by rw [hx5]; exact hq3.1
      have G9 : FZ m m3 := G0.tr hq3.2
      refine v_st (st1 := [.int (iz (gr))]) (by rw [hgr]) ?_
      refine v_istore_n (L1 := [(3, .int (iz (gr))), (1, .long (lz (mK 0 32))), (0, .ref (aa 0))]) C dX11_readStageLine_62 (by decide) rfl ?_
      refine v_aload_n C 2 dX11_readStageLine_63 rfl ?_
      refine v_ldcs C 30 rfl dX11_readStageLine_64 ?_
      refine v_iconst (z := 1) C dX11_readStageLine_66 rfl ?_
      refine v_bipush (z := 50) C dX11_readStageLine_67 (by decide) ?_
      refine v_callV (st := []) (n := 3) (q := 0) C [.ref (ad (2 * 30)), .int (iz (1)), .int (iz (50))] (ct_StageRatiosModel_readPart C.2.2.2.2.2.2.1 m3 (b) (n) (x5) (30) ("StageRatiosModel") (230) ("dry") (w_dry) (1) (50) (by exact hB.fr G9) (by exact T5) rfl (by omega) (by omega)) lR0 (eR0 _) rfl qw1387 qw16 qw1384 rfl rfl ⟨Nat.le_of_ble_eq_true rfl, Nat.le_of_ble_eq_true rfl⟩ (by decide +kernel) qw1386 qp46 rfl rfl (Nat.le_of_ble_eq_true rfl) dX11_readStageLine_69 (fun r m4 hq4 => ?_)
      obtain ⟨z4, rfl, rfl, hq4⟩ := hq4
      show V E (wR D cy aa ad) 13 m4 72 [(3, .int (iz (gr))), (1, .long (lz (mK 0 32))), (0, .ref (aa 0))] [.int (iz (vlR 1 (bnd x5 (tPart b n w_dry 1 50))))]
      obtain ⟨v1, hv1⟩ : ∃ v, v = vlR 1 (bnd (x5) (tPart b n w_dry 1 50)) := ⟨_, rfl⟩
      obtain ⟨t1, ht1⟩ : ∃ t, t = sndR (bnd (x5) (tPart b n w_dry 1 50)) := ⟨_, rfl⟩
      have T1 : TkS m4 b n t1 := by rw [ht1]; exact hq4.1
      have r1 := vlP_r (b := b) (n := n) (bs := w_dry) (x := x5) (lo := 1) (hi := 50) (by omega)
      rw [← hv1] at r1
      have G1 : FZ m m4 := G9.tr hq4.2
      refine v_st (st1 := [.int (iz (v1))]) (by rw [hv1]) ?_
      refine v_istore (L1 := [(4, .int (iz (v1))), (3, .int (iz (gr))), (1, .long (lz (mK 0 32))), (0, .ref (aa 0))]) C dX11_readStageLine_72 (by decide) rfl ?_
      refine v_aload_n C 3 dX11_readStageLine_74 rfl ?_
      refine v_ldcs C 31 rfl dX11_readStageLine_75 ?_
      refine v_iconst (z := 0) C dX11_readStageLine_77 rfl ?_
      refine v_bipush (z := 90) C dX11_readStageLine_78 (by decide) ?_
      refine v_callV (st := []) (n := 3) (q := 0) C [.ref (ad (2 * 31)), .int (iz (0)), .int (iz (90))] (ct_StageRatiosModel_readPart C.2.2.2.2.2.2.1 m4 (b) (n) (t1) (31) ("StageRatiosModel") (232) ("tank") (w_tank) (0) (90) (by exact hB.fr G1) (by exact T1) rfl (by omega) (by omega)) lR0 (eR0 _) rfl qw1387 qw16 qw1384 rfl rfl ⟨Nat.le_of_ble_eq_true rfl, Nat.le_of_ble_eq_true rfl⟩ (by decide +kernel) qw1386 qp46 rfl rfl (Nat.le_of_ble_eq_true rfl) dX11_readStageLine_80 (fun r m5 hq5 => ?_)
      obtain ⟨z5, rfl, rfl, hq5⟩ := hq5
      show V E (wR D cy aa ad) 13 m5 83 [(4, .int (iz (v1))), (3, .int (iz (gr))), (1, .long (lz (mK 0 32))), (0, .ref (aa 0))] [.int (iz (vlR 0 (bnd t1 (tPart b n w_tank 0 90))))]
      obtain ⟨v2, hv2⟩ : ∃ v, v = vlR 0 (bnd (t1) (tPart b n w_tank 0 90)) := ⟨_, rfl⟩
      obtain ⟨t2, ht2⟩ : ∃ t, t = sndR (bnd (t1) (tPart b n w_tank 0 90)) := ⟨_, rfl⟩
      have T2b : TkS m5 b n t2 := by rw [ht2]; exact hq5.1
      have r2 := vlP_r (b := b) (n := n) (bs := w_tank) (x := t1) (lo := 0) (hi := 90) (by omega)
      rw [← hv2] at r2
      have G2 : FZ m m5 := G1.tr hq5.2
      refine v_st (st1 := [.int (iz (v2))]) (by rw [hv2]) ?_
      refine v_istore (L1 := [(5, .int (iz (v2))), (4, .int (iz (v1))), (3, .int (iz (gr))), (1, .long (lz (mK 0 32))), (0, .ref (aa 0))]) C dX11_readStageLine_83 (by decide) rfl ?_
      refine v_aload_n C 4 dX11_readStageLine_85 rfl ?_
      refine v_ldcs C 32 rfl dX11_readStageLine_86 ?_
      refine v_iconst (z := 1) C dX11_readStageLine_88 rfl ?_
      refine v_bipush (z := 16) C dX11_readStageLine_89 (by decide) ?_
      refine v_callV (st := []) (n := 3) (q := 0) C [.ref (ad (2 * 32)), .int (iz (1)), .int (iz (16))] (ct_StageRatiosModel_readPart C.2.2.2.2.2.2.1 m5 (b) (n) (t2) (32) ("StageRatiosModel") (234) ("most") (w_most) (1) (16) (by exact hB.fr G2) (by exact T2b) rfl (by omega) (by omega)) lR0 (eR0 _) rfl qw1387 qw16 qw1384 rfl rfl ⟨Nat.le_of_ble_eq_true rfl, Nat.le_of_ble_eq_true rfl⟩ (by decide +kernel) qw1386 qp46 rfl rfl (Nat.le_of_ble_eq_true rfl) dX11_readStageLine_91 (fun r m6 hq6 => ?_)
      obtain ⟨z6, rfl, rfl, hq6⟩ := hq6
      show V E (wR D cy aa ad) 13 m6 94 [(5, .int (iz (v2))), (4, .int (iz (v1))), (3, .int (iz (gr))), (1, .long (lz (mK 0 32))), (0, .ref (aa 0))] [.int (iz (vlR 1 (bnd t2 (tPart b n w_most 1 16))))]
      obtain ⟨v3, hv3⟩ : ∃ v, v = vlR 1 (bnd (t2) (tPart b n w_most 1 16)) := ⟨_, rfl⟩
      obtain ⟨t3, ht3⟩ : ∃ t, t = sndR (bnd (t2) (tPart b n w_most 1 16)) := ⟨_, rfl⟩
      have T3b : TkS m6 b n t3 := by rw [ht3]; exact hq6.1
      have r3 := vlP_r (b := b) (n := n) (bs := w_most) (x := t2) (lo := 1) (hi := 16) (by omega)
      rw [← hv3] at r3
      have G3 : FZ m m6 := G2.tr hq6.2
      refine v_st (st1 := [.int (iz (v3))]) (by rw [hv3]) ?_
      refine v_istore (L1 := [(6, .int (iz (v3))), (5, .int (iz (v2))), (4, .int (iz (v1))), (3, .int (iz (gr))), (1, .long (lz (mK 0 32))), (0, .ref (aa 0))]) C dX11_readStageLine_94 (by decide) rfl ?_
      refine v_aload_n C 5 dX11_readStageLine_96 rfl ?_
      refine v_ldcs C 33 rfl dX11_readStageLine_97 ?_
      refine v_iconst (z := 1) C dX11_readStageLine_99 rfl ?_
      refine v_bipush (z := 9) C dX11_readStageLine_100 (by decide) ?_
      refine v_callV (st := []) (n := 3) (q := 0) C [.ref (ad (2 * 33)), .int (iz (1)), .int (iz (9))] (ct_StageRatiosModel_readPart C.2.2.2.2.2.2.1 m6 (b) (n) (t3) (33) ("StageRatiosModel") (236) ("engines") (w_engines) (1) (9) (by exact hB.fr G3) (by exact T3b) rfl (by omega) (by omega)) lR0 (eR0 _) rfl qw1387 qw16 qw1384 rfl rfl ⟨Nat.le_of_ble_eq_true rfl, Nat.le_of_ble_eq_true rfl⟩ (by decide +kernel) qw1386 qp46 rfl rfl (Nat.le_of_ble_eq_true rfl) dX11_readStageLine_102 (fun r m7 hq7 => ?_)
      obtain ⟨z7, rfl, rfl, hq7⟩ := hq7
      show V E (wR D cy aa ad) 13 m7 105 [(6, .int (iz (v3))), (5, .int (iz (v2))), (4, .int (iz (v1))), (3, .int (iz (gr))), (1, .long (lz (mK 0 32))), (0, .ref (aa 0))] [.int (iz (vlR 1 (bnd t3 (tPart b n w_engines 1 9))))]
      obtain ⟨v4, hv4⟩ : ∃ v, v = vlR 1 (bnd (t3) (tPart b n w_engines 1 9)) := ⟨_, rfl⟩
      obtain ⟨t4, ht4⟩ : ∃ t, t = sndR (bnd (t3) (tPart b n w_engines 1 9)) := ⟨_, rfl⟩
      have T4 : TkS m7 b n t4 := by rw [ht4]; exact hq7.1
      have r4 := vlP_r (b := b) (n := n) (bs := w_engines) (x := t3) (lo := 1) (hi := 9) (by omega)
      rw [← hv4] at r4
      have G4 : FZ m m7 := G3.tr hq7.2
      refine v_st (st1 := [.int (iz (v4))]) (by rw [hv4]) ?_
      refine v_istore (L1 := [(7, .int (iz (v4))), (6, .int (iz (v3))), (5, .int (iz (v2))), (4, .int (iz (v1))), (3, .int (iz (gr))), (1, .long (lz (mK 0 32))), (0, .ref (aa 0))]) C dX11_readStageLine_105 (by decide) rfl ?_
      refine v_aload_n C 6 dX11_readStageLine_107 rfl ?_
      refine v_ldcs C 34 rfl dX11_readStageLine_108 ?_
      refine v_iconst (z := 1) C dX11_readStageLine_110 rfl ?_
      refine v_sipush (z := 999) C dX11_readStageLine_111 (by decide) ?_
      refine v_callV (st := []) (n := 3) (q := 0) C [.ref (ad (2 * 34)), .int (iz (1)), .int (iz (999))] (ct_StageRatiosModel_readPart C.2.2.2.2.2.2.1 m7 (b) (n) (t4) (34) ("StageRatiosModel") (238) ("thrust") (w_thrust) (1) (999) (by exact hB.fr G4) (by exact T4) rfl (by omega) (by omega)) lR0 (eR0 _) rfl qw1387 qw16 qw1384 rfl rfl ⟨Nat.le_of_ble_eq_true rfl, Nat.le_of_ble_eq_true rfl⟩ (by decide +kernel) qw1386 qp46 rfl rfl (Nat.le_of_ble_eq_true rfl) dX11_readStageLine_114 (fun r m8 hq8 => ?_)
      obtain ⟨z8, rfl, rfl, hq8⟩ := hq8
      show V E (wR D cy aa ad) 13 m8 117 [(7, .int (iz (v4))), (6, .int (iz (v3))), (5, .int (iz (v2))), (4, .int (iz (v1))), (3, .int (iz (gr))), (1, .long (lz (mK 0 32))), (0, .ref (aa 0))] [.int (iz (vlR 1 (bnd t4 (tPart b n w_thrust 1 999))))]
      obtain ⟨v5, hv5⟩ : ∃ v, v = vlR 1 (bnd (t4) (tPart b n w_thrust 1 999)) := ⟨_, rfl⟩
      obtain ⟨t5, ht5⟩ : ∃ t, t = sndR (bnd (t4) (tPart b n w_thrust 1 999)) := ⟨_, rfl⟩
      have T5b : TkS m8 b n t5 := by rw [ht5]; exact hq8.1
      have r5 := vlP_r (b := b) (n := n) (bs := w_thrust) (x := t4) (lo := 1) (hi := 999) (by omega)
      rw [← hv5] at r5
      have G5 : FZ m m8 := G4.tr hq8.2
      refine v_st (st1 := [.int (iz (v5))]) (by rw [hv5]) ?_
      refine v_istore (L1 := [(8, .int (iz (v5))), (7, .int (iz (v4))), (6, .int (iz (v3))), (5, .int (iz (v2))), (4, .int (iz (v1))), (3, .int (iz (gr))), (1, .long (lz (mK 0 32))), (0, .ref (aa 0))]) C dX11_readStageLine_117 (by decide) rfl ?_
      refine v_aload_n C 7 dX11_readStageLine_119 rfl ?_
      refine v_ldcs C 35 rfl dX11_readStageLine_120 ?_
      refine v_iconst (z := 1) C dX11_readStageLine_122 rfl ?_
      refine v_bipush (z := 9) C dX11_readStageLine_123 (by decide) ?_
      refine v_callV (st := []) (n := 3) (q := 0) C [.ref (ad (2 * 35)), .int (iz (1)), .int (iz (9))] (ct_StageRatiosModel_readPart C.2.2.2.2.2.2.1 m8 (b) (n) (t5) (35) ("StageRatiosModel") (240) ("flow") (w_flow) (1) (9) (by exact hB.fr G5) (by exact T5b) rfl (by omega) (by omega)) lR0 (eR0 _) rfl qw1387 qw16 qw1384 rfl rfl ⟨Nat.le_of_ble_eq_true rfl, Nat.le_of_ble_eq_true rfl⟩ (by decide +kernel) qw1386 qp46 rfl rfl (Nat.le_of_ble_eq_true rfl) dX11_readStageLine_125 (fun r m9 hq9 => ?_)
      obtain ⟨z9, rfl, rfl, hq9⟩ := hq9
      show V E (wR D cy aa ad) 13 m9 128 [(8, .int (iz (v5))), (7, .int (iz (v4))), (6, .int (iz (v3))), (5, .int (iz (v2))), (4, .int (iz (v1))), (3, .int (iz (gr))), (1, .long (lz (mK 0 32))), (0, .ref (aa 0))] [.int (iz (vlR 1 (bnd t5 (tPart b n w_flow 1 9))))]
      obtain ⟨v6, hv6⟩ : ∃ v, v = vlR 1 (bnd (t5) (tPart b n w_flow 1 9)) := ⟨_, rfl⟩
      obtain ⟨t6, ht6⟩ : ∃ t, t = sndR (bnd (t5) (tPart b n w_flow 1 9)) := ⟨_, rfl⟩
      have T6 : TkS m9 b n t6 := by rw [ht6]; exact hq9.1
      have r6 := vlP_r (b := b) (n := n) (bs := w_flow) (x := t5) (lo := 1) (hi := 9) (by omega)
      rw [← hv6] at r6
      have G6 : FZ m m9 := G5.tr hq9.2
      refine v_st (st1 := [.int (iz (v6))]) (by rw [hv6]) ?_
      refine v_istore (L1 := [(9, .int (iz (v6))), (8, .int (iz (v5))), (7, .int (iz (v4))), (6, .int (iz (v3))), (5, .int (iz (v2))), (4, .int (iz (v1))), (3, .int (iz (gr))), (1, .long (lz (mK 0 32))), (0, .ref (aa 0))]) C dX11_readStageLine_128 (by decide) rfl ?_
      refine v_aload_n C 8 dX11_readStageLine_130 rfl ?_
      refine v_ldcs C 36 rfl dX11_readStageLine_131 ?_
      refine v_iconst (z := 0) C dX11_readStageLine_133 rfl ?_
      refine v_sipush (z := 400) C dX11_readStageLine_134 (by decide) ?_
      refine v_callV (st := []) (n := 3) (q := 0) C [.ref (ad (2 * 36)), .int (iz (0)), .int (iz (400))] (ct_StageRatiosModel_readPart C.2.2.2.2.2.2.1 m9 (b) (n) (t6) (36) ("StageRatiosModel") (242) ("least") (w_least) (0) (400) (by exact hB.fr G6) (by exact T6) rfl (by omega) (by omega)) lR0 (eR0 _) rfl qw1387 qw16 qw1384 rfl rfl ⟨Nat.le_of_ble_eq_true rfl, Nat.le_of_ble_eq_true rfl⟩ (by decide +kernel) qw1386 qp46 rfl rfl (Nat.le_of_ble_eq_true rfl) dX11_readStageLine_137 (fun r m10 hq10 => ?_)
      obtain ⟨z10, rfl, rfl, hq10⟩ := hq10
      show V E (wR D cy aa ad) 13 m10 140 [(9, .int (iz (v6))), (8, .int (iz (v5))), (7, .int (iz (v4))), (6, .int (iz (v3))), (5, .int (iz (v2))), (4, .int (iz (v1))), (3, .int (iz (gr))), (1, .long (lz (mK 0 32))), (0, .ref (aa 0))] [.int (iz (vlR 0 (bnd t6 (tPart b n w_least 0 400))))]
      obtain ⟨v7, hv7⟩ : ∃ v, v = vlR 0 (bnd (t6) (tPart b n w_least 0 400)) := ⟨_, rfl⟩
      obtain ⟨t7, ht7⟩ : ∃ t, t = sndR (bnd (t6) (tPart b n w_least 0 400)) := ⟨_, rfl⟩
      have T7 : TkS m10 b n t7 := by rw [ht7]; exact hq10.1
      have r7 := vlP_r (b := b) (n := n) (bs := w_least) (x := t6) (lo := 0) (hi := 400) (by omega)
      rw [← hv7] at r7
      have G7 : FZ m m10 := G6.tr hq10.2
      refine v_st (st1 := [.int (iz (v7))]) (by rw [hv7]) ?_
      refine v_istore (L1 := [(10, .int (iz (v7))), (9, .int (iz (v6))), (8, .int (iz (v5))), (7, .int (iz (v4))), (6, .int (iz (v3))), (5, .int (iz (v2))), (4, .int (iz (v1))), (3, .int (iz (gr))), (1, .long (lz (mK 0 32))), (0, .ref (aa 0))]) C dX11_readStageLine_140 (by decide) rfl ?_
      refine v_aload_n C 9 dX11_readStageLine_142 rfl ?_
      refine v_ldcs C 37 rfl dX11_readStageLine_143 ?_
      refine v_iconst (z := 0) C dX11_readStageLine_145 rfl ?_
      refine v_iload C 3 dX11_readStageLine_146 rfl ?_
      refine v_iconst (z := 1) C dX11_readStageLine_148 rfl ?_
      refine v_isub C dX11_readStageLine_149 ?_
      refine v_callV (st := []) (n := 3) (q := 0) C [.ref (ad (2 * 37)), .int (iz (0)), .int (iz (v4 - 1))] (ct_StageRatiosModel_readPart C.2.2.2.2.2.2.1 m10 (b) (n) (t7) (37) ("StageRatiosModel") (244) ("out") (w_out) (0) (v4 - 1) (by exact hB.fr G7) (by exact T7) rfl (by omega) (by omega)) lR0 (eR0 _) rfl qw1387 qw16 qw1384 rfl rfl ⟨Nat.le_of_ble_eq_true rfl, Nat.le_of_ble_eq_true rfl⟩ (by decide +kernel) qw1386 qp46 rfl rfl (Nat.le_of_ble_eq_true rfl) dX11_readStageLine_150 (fun r m11 hq11 => ?_)
      obtain ⟨z11, rfl, rfl, hq11⟩ := hq11
      show V E (wR D cy aa ad) 13 m11 153 [(10, .int (iz (v7))), (9, .int (iz (v6))), (8, .int (iz (v5))), (7, .int (iz (v4))), (6, .int (iz (v3))), (5, .int (iz (v2))), (4, .int (iz (v1))), (3, .int (iz (gr))), (1, .long (lz (mK 0 32))), (0, .ref (aa 0))] [.int (iz (vlR 0 (bnd t7 (tPart b n w_out 0 (v4 - 1)))))]
      obtain ⟨v8, hv8⟩ : ∃ v, v = vlR 0 (bnd (t7) (tPart b n w_out 0 (v4 - 1))) := ⟨_, rfl⟩
      obtain ⟨t8, ht8⟩ : ∃ t, t = sndR (bnd (t7) (tPart b n w_out 0 (v4 - 1))) := ⟨_, rfl⟩
      have T8 : TkS m11 b n t8 := by rw [ht8]; exact hq11.1
      have r8 := vlP_r (b := b) (n := n) (bs := w_out) (x := t7) (lo := 0) (hi := (v4 - 1)) (by omega)
      rw [← hv8] at r8
      have G8 : FZ m m11 := G7.tr hq11.2
      refine v_st (st1 := [.int (iz (v8))]) (by rw [hv8]) ?_
      refine v_istore (L1 := [(11, .int (iz (v8))), (10, .int (iz (v7))), (9, .int (iz (v6))), (8, .int (iz (v5))), (7, .int (iz (v4))), (6, .int (iz (v3))), (5, .int (iz (v2))), (4, .int (iz (v1))), (3, .int (iz (gr))), (1, .long (lz (mK 0 32))), (0, .ref (aa 0))]) C dX11_readStageLine_153 (by decide) rfl ?_
      have f8 := T8.f0
      have hF := stF_8 (b := b) (n := n) (s := σ.h 5) (g := gr) (A := σ.fa) hv1 ht1 hv2 ht2 hv3 ht3 hv4 ht4 hv5 ht5 hv6 ht6 hv7 ht7 hv8 ht8
      obtain ⟨q0, hE0, hq0⟩ := stg_end (σ := σ) rfl hNew.symm.symm (fun q y => (hx3 q y).1) hgr hx5 hF
      have hE := hO.trans hE0
      refine v_aload_n C 10 dX11_readStageLine_155 rfl ?_
      refine v_get C 0 31 lR0 (eR0 _) rfl inX11 (by decide) rfl qw1171 dX11_readStageLine_156 ?_
      refine v_if_le (tgt := 163) C dX11_readStageLine_159 (by decide) (by omega) (fun c12 => ?_) (fun c12 => ?_)
      · obtain ⟨p9, hp9⟩ := T8.ok c12
        have hw9 := hx3 q0 (hq0 p9 hp9)
        have d2g : m11 0 18 = σ.h 5 := by rw [G8.1 18 (by omega)]; exact d2
        have h53 : σ.h 5 ≠ 3 := fun y => by
          have hu : fu = 1 := by omega
          have y2 : x2 = .inr q0 := hw9.1
          rw [hx2] at y2
          unfold bgO at y2
          rw [if_pos hu] at y2
          split at y2 <;> cases y2
        have h71 : σ.h 7 = 1 := by
          rcases s1 with y | y
          · exfalso
            have y2 : x2 = .inr q0 := hw9.1
            rw [hx2] at y2
            unfold bgO at y2
            rw [if_pos (hup.2.2.mpr y)] at y2
            split at y2 <;> cases y2
          · exact y
        refine v_bipush (z := 9) C dX11_readStageLine_163 (by decide) ?_
        refine v_aload_n C 10 dX11_readStageLine_165 rfl ?_
        refine v_get C 0 18 lR0 (eR0 _) rfl inX11 (by decide) rfl qw1158 dX11_readStageLine_166 ?_
        refine v_imul C dX11_readStageLine_169 ?_
        refine v_istore (L1 := [(12, .int (iz (9 * (m11 0 18)))), (11, .int (iz (v8))), (10, .int (iz (v7))), (9, .int (iz (v6))), (8, .int (iz (v5))), (7, .int (iz (v4))), (6, .int (iz (v3))), (5, .int (iz (v2))), (4, .int (iz (v1))), (3, .int (iz (gr))), (1, .long (lz (mK 0 32))), (0, .ref (aa 0))]) C dX11_readStageLine_170 (by decide) rfl ?_
        refine v_aload_n C 11 dX11_readStageLine_172 rfl ?_
        refine v_get C 0 7 lR0 (eR0 _) rfl inX11 (by decide) rfl qw1147 dX11_readStageLine_173 ?_
        refine v_aload_n C 11 dX11_readStageLine_176 rfl ?_
        refine v_get C 0 18 lR0 (eR0 _) rfl inX11 (by decide) rfl qw1158 dX11_readStageLine_177 ?_
        refine v_lload_n C 10 dX11_readStageLine_180 rfl ?_
        refine v_last C 5 lR5 eR5 (by decide) (by omega) dX11_readStageLine_181 (fun m13 em13 => ?_)
        refine v_aload_n C 11 dX11_readStageLine_182 rfl ?_
        refine v_get C 0 5 lR0 (eR0 _) rfl inX11 (by decide) rfl qw1145 dX11_readStageLine_183 ?_
        refine v_iload C 0 dX11_readStageLine_186 rfl ?_
        refine v_iconst (z := 0) C dX11_readStageLine_188 rfl ?_
        refine v_iadd C dX11_readStageLine_189 ?_
        refine v_iload_n C 9 dX11_readStageLine_190 rfl ?_
        refine v_iast C 3 lR3 eR3 (by decide) (by omega) dX11_readStageLine_191 (fun m14 em14 => ?_)
        refine v_aload_n C 11 dX11_readStageLine_192 rfl ?_
        refine v_get C 0 5 lR0 (eR0 _) rfl inX11 (by decide) rfl qw1145 dX11_readStageLine_193 ?_
        refine v_iload C 0 dX11_readStageLine_196 rfl ?_
        refine v_iconst (z := 1) C dX11_readStageLine_198 rfl ?_
        refine v_iadd C dX11_readStageLine_199 ?_
        refine v_iload C 8 dX11_readStageLine_200 rfl ?_
        refine v_iast C 3 lR3 eR3 (by decide) (by omega) dX11_readStageLine_202 (fun m15 em15 => ?_)
        refine v_aload_n C 11 dX11_readStageLine_203 rfl ?_
        refine v_get C 0 5 lR0 (eR0 _) rfl inX11 (by decide) rfl qw1145 dX11_readStageLine_204 ?_
        refine v_iload C 0 dX11_readStageLine_207 rfl ?_
        refine v_iconst (z := 2) C dX11_readStageLine_209 rfl ?_
        refine v_iadd C dX11_readStageLine_210 ?_
        refine v_iload C 7 dX11_readStageLine_211 rfl ?_
        refine v_iast C 3 lR3 eR3 (by decide) (by omega) dX11_readStageLine_213 (fun m16 em16 => ?_)
        refine v_aload_n C 11 dX11_readStageLine_214 rfl ?_
        refine v_get C 0 5 lR0 (eR0 _) rfl inX11 (by decide) rfl qw1145 dX11_readStageLine_215 ?_
        refine v_iload C 0 dX11_readStageLine_218 rfl ?_
        refine v_iconst (z := 3) C dX11_readStageLine_220 rfl ?_
        refine v_iadd C dX11_readStageLine_221 ?_
        refine v_iload C 6 dX11_readStageLine_222 rfl ?_
        refine v_iast C 3 lR3 eR3 (by decide) (by omega) dX11_readStageLine_224 (fun m17 em17 => ?_)
        refine v_aload_n C 11 dX11_readStageLine_225 rfl ?_
        refine v_get C 0 5 lR0 (eR0 _) rfl inX11 (by decide) rfl qw1145 dX11_readStageLine_226 ?_
        refine v_iload C 0 dX11_readStageLine_229 rfl ?_
        refine v_iconst (z := 4) C dX11_readStageLine_231 rfl ?_
        refine v_iadd C dX11_readStageLine_232 ?_
        refine v_iload C 5 dX11_readStageLine_233 rfl ?_
        refine v_iast C 3 lR3 eR3 (by decide) (by omega) dX11_readStageLine_235 (fun m18 em18 => ?_)
        refine v_aload_n C 11 dX11_readStageLine_236 rfl ?_
        refine v_get C 0 5 lR0 (eR0 _) rfl inX11 (by decide) rfl qw1145 dX11_readStageLine_237 ?_
        refine v_iload C 0 dX11_readStageLine_240 rfl ?_
        refine v_iconst (z := 5) C dX11_readStageLine_242 rfl ?_
        refine v_iadd C dX11_readStageLine_243 ?_
        refine v_iload C 4 dX11_readStageLine_244 rfl ?_
        refine v_iast C 3 lR3 eR3 (by decide) (by omega) dX11_readStageLine_246 (fun m19 em19 => ?_)
        refine v_aload_n C 11 dX11_readStageLine_247 rfl ?_
        refine v_get C 0 5 lR0 (eR0 _) rfl inX11 (by decide) rfl qw1145 dX11_readStageLine_248 ?_
        refine v_iload C 0 dX11_readStageLine_251 rfl ?_
        refine v_bipush (z := 6) C dX11_readStageLine_253 (by decide) ?_
        refine v_iadd C dX11_readStageLine_255 ?_
        refine v_iload C 3 dX11_readStageLine_256 rfl ?_
        refine v_iast C 3 lR3 eR3 (by decide) (by omega) dX11_readStageLine_258 (fun m20 em20 => ?_)
        refine v_aload_n C 11 dX11_readStageLine_259 rfl ?_
        refine v_get C 0 5 lR0 (eR0 _) rfl inX11 (by decide) rfl qw1145 dX11_readStageLine_260 ?_
        refine v_iload C 0 dX11_readStageLine_263 rfl ?_
        refine v_bipush (z := 7) C dX11_readStageLine_265 (by decide) ?_
        refine v_iadd C dX11_readStageLine_267 ?_
        refine v_iload C 2 dX11_readStageLine_268 rfl ?_
        refine v_iast C 3 lR3 eR3 (by decide) (by omega) dX11_readStageLine_270 (fun m21 em21 => ?_)
        refine v_aload_n C 11 dX11_readStageLine_271 rfl ?_
        refine v_get C 0 5 lR0 (eR0 _) rfl inX11 (by decide) rfl qw1145 dX11_readStageLine_272 ?_
        refine v_iload C 0 dX11_readStageLine_275 rfl ?_
        refine v_bipush (z := 8) C dX11_readStageLine_277 (by decide) ?_
        refine v_iadd C dX11_readStageLine_279 ?_
        refine v_iload C 1 dX11_readStageLine_280 rfl ?_
        refine v_iast C 3 lR3 eR3 (by decide) (by omega) dX11_readStageLine_282 (fun m22 em22 => ?_)
        refine v_aload_n C 11 dX11_readStageLine_283 rfl ?_
        refine v_dup C dX11_readStageLine_284 rfl ?_
        refine v_get C 0 18 lR0 (eR0 _) rfl inX11 (by decide) rfl qw1158 dX11_readStageLine_285 ?_
        refine v_iconst (z := 1) C dX11_readStageLine_288 rfl ?_
        refine v_iadd C dX11_readStageLine_289 ?_
        refine v_put C 0 18 ((m22 0 18) + 1) 18 rfl lR0 (eR0 _) rfl inX11 tyX11 tyX11_ok nmX11 (by decide) qw1158 rfl rfl rfl (Nat.le_of_ble_eq_true rfl) (by rw [mup_r]; exact (eR0 _)) dX11_readStageLine_290 (fun m23 em23 => ?_)
        refine v_vret C X dX11_readStageLine_293 ⟨rfl, ?_⟩
        have j0 : ∀ j : Int, j ≠ 18 → m23 0 j = m11 0 j := fun j h => by rw [em23, mup_j _ _ h, em22, mup_k _ _ _ (by decide), em21, mup_k _ _ _ (by decide), em20, mup_k _ _ _ (by decide), em19, mup_k _ _ _ (by decide), em18, mup_k _ _ _ (by decide), em17, mup_k _ _ _ (by decide), em16, mup_k _ _ _ (by decide), em15, mup_k _ _ _ (by decide), em14, mup_k _ _ _ (by decide), em13, mup_k _ _ _ (by decide)]
        have j18 : m23 0 18 = σ.h 5 + 1 := by rw [em23, mup_s, em22, mup_k _ _ _ (by decide), em21, mup_k _ _ _ (by decide), em20, mup_k _ _ _ (by decide), em19, mup_k _ _ _ (by decide), em18, mup_k _ _ _ (by decide), em17, mup_k _ _ _ (by decide), em16, mup_k _ _ _ (by decide), em15, mup_k _ _ _ (by decide), em14, mup_k _ _ _ (by decide), em13, mup_k _ _ _ (by decide), d2g]
        have jq : ∀ q, q ≠ 0 → q ≠ 3 → q ≠ 5 → m23 q = m q := fun q a c d => by rw [em23, mup_k _ _ _ a, em22, mup_k _ _ _ c, em21, mup_k _ _ _ c, em20, mup_k _ _ _ c, em19, mup_k _ _ _ c, em18, mup_k _ _ _ c, em17, mup_k _ _ _ c, em16, mup_k _ _ _ c, em15, mup_k _ _ _ c, em14, mup_k _ _ _ c, em13, mup_k _ _ _ d]; exact G8.2 q a
        have j5 : m23 5 = ups (m 5) (σ.h 5) (mK 0 32) := by
          rw [em23, mup_k _ _ _ (by decide), em22, mup_k _ _ _ (by decide), em21, mup_k _ _ _ (by decide), em20, mup_k _ _ _ (by decide), em19, mup_k _ _ _ (by decide), em18, mup_k _ _ _ (by decide), em17, mup_k _ _ _ (by decide), em16, mup_k _ _ _ (by decide), em15, mup_k _ _ _ (by decide), em14, mup_k _ _ _ (by decide), em13]
          exact mup_u _ _ d2g (G8.2 5 (by decide))
        have j3 : m23 3 = upN (m 3) (σ.h 5) gr v1 v2 v3 v4 v5 v6 v7 v8 := by
          rw [em23, mup_k _ _ _ (by decide)]
          have i0 : m13 3 = m 3 := by rw [em13, mup_k _ _ _ (by decide)]; exact G8.2 3 (by decide)
          have i1 : m14 3 = ups (m 3) (σ.h 5 * 9 + 0) gr := by rw [em14]; exact mup_u _ _ (by omega) i0
          have i2 := (congrFun em15 3).trans (mup_u _ _ (show _ = σ.h 5 * 9 + 1 by omega) i1)
          have i3 := (congrFun em16 3).trans (mup_u _ _ (show _ = σ.h 5 * 9 + 2 by omega) i2)
          have i4 := (congrFun em17 3).trans (mup_u _ _ (show _ = σ.h 5 * 9 + 3 by omega) i3)
          have i5 := (congrFun em18 3).trans (mup_u _ _ (show _ = σ.h 5 * 9 + 4 by omega) i4)
          have i6 := (congrFun em19 3).trans (mup_u _ _ (show _ = σ.h 5 * 9 + 5 by omega) i5)
          have i7 := (congrFun em20 3).trans (mup_u _ _ (show _ = σ.h 5 * 9 + 6 by omega) i6)
          have i8 := (congrFun em21 3).trans (mup_u _ _ (show _ = σ.h 5 * 9 + 7 by omega) i7)
          rw [em22]; exact mup_u _ _ (show _ = σ.h 5 * 9 + 8 by omega) i8
        refine ⟨LnS.e hE (fun _ => rfl) (T8.fl fun j a c => j0 j (by omega)) (fun q hq => ?_), ⟨fun j a => by rw [j0 j (by omega)]; exact G8.1 j (by omega), fun q a c d e => jq q a c e⟩⟩
        have jj : ∀ j : Int, 13 ≤ j → j ≤ 19 → j ≠ 18 → m23 0 j = m 0 j := fun j a c d => by rw [j0 j d]; exact G8.1 j (by omega)
        refine ⟨?_, ?_, ?_, fun _ => ?_, fun j a c => ?_, fun s a c => ?_, fun i a c => ?_⟩
        · rw [jj 13 (by decide) (by decide) (by decide)]
          show _ = if ups σ.h 5 (σ.h 5 + 1) 7 = 1 then ups σ.h 5 (σ.h 5 + 1) 2 else 0
          rw [ups_n _ _ (by decide), ups_n _ _ (by decide)]; exact d1
        · rw [j18]; show _ = ups σ.h 5 (σ.h 5 + 1) 5; rw [ups_s]
        · rw [jj 19 (by decide) (by decide) (by decide)]; show _ = ups σ.h 5 (σ.h 5 + 1) 6; rw [ups_n _ _ (by decide)]; exact d3
        · rw [jj 17 (by decide) (by decide) (by decide), jj 16 (by decide) (by decide) (by decide), jj 14 (by decide) (by decide) (by decide), jj 15 (by decide) (by decide) (by decide)]
          show _ = ups σ.h 5 (σ.h 5 + 1) 0 ∧ _ = ups σ.h 5 (σ.h 5 + 1) 1 ∧ _ = ups σ.h 5 (σ.h 5 + 1) 3 ∧ _ = ups σ.h 5 (σ.h 5 + 1) 4
          rw [ups_n _ _ (by decide), ups_n _ _ (by decide), ups_n _ _ (by decide), ups_n _ _ (by decide)]; exact d4 h71
        · have c2 : j < ups σ.h 5 (σ.h 5 + 1) 5 * 9 := c
          rw [ups_s] at c2
          rw [j3]; exact upN_cg d5 a c2
        · have c2 : s < ups σ.h 5 (σ.h 5 + 1) 5 := c
          rw [ups_s] at c2
          rw [j5]
          show _ = enZ 256 0 (ups σ.nm (σ.h 5) (wlZ b n q0) s)
          by_cases e : s = σ.h 5
          · rw [e, ups_s, ups_s]; exact hw9.2.1
          · rw [ups_n _ _ e, ups_n _ _ e]; exact d6 s a (by omega)
        · have c2 : i < ups σ.h 5 (σ.h 5 + 1) 6 := c
          rw [ups_n _ _ (by decide)] at c2
          rw [jq 4 (by decide) (by decide) (by decide)]; exact d7 i a c2
      · obtain ⟨e9, he9⟩ := T8.bad (by omega)
        refine v_vret C X dX11_readStageLine_162 ⟨rfl, ?_⟩
        refine ⟨LnS.e hE (fun _ => rfl) T8 (fun q hq => ?_), G8.fl⟩
        rw [he9] at hq; cases hq
    refine v_callV (st := []) (n := 0) (q := 0) C [] (ct_StageRatiosModel_isName C.2.2.2.2.2.2.1 m1 (b) (n) (x2) (by exact T2)) lR0 (eR0 _) rfl qw1408 qw16 qw1405 rfl rfl ⟨Nat.le_of_ble_eq_true rfl, Nat.le_of_ble_eq_true rfl⟩ (by decide +kernel) qw1407 qp50 rfl rfl (Nat.le_of_ble_eq_true rfl) dX11_readStageLine_18 (fun r m24 hq24 => ?_)
    obtain ⟨z24, rfl, ⟨rfl, hq24, rfl⟩ | ⟨rfl, hq24, rfl⟩⟩ := hq24
    · show V E (wR D cy aa ad) 13 m1 21 [(0, .ref (aa 0))] [.int (iz (1))]
      obtain ⟨q, hq2, hnm⟩ := hq24
      have k1 := hnm.1
      have T3 := T2.i hq2
      have ew := T3.2.2.2.2.2.1 k1
      have wok := wl_ok T3.1.2 k1
      refine v_if_ne (tgt := 29) C dX11_readStageLine_21 (by decide) (by omega) (fun c25 => ?_) (fun c25 => by exact absurd c25 (by decide))
      refine v_aload_n C 0 dX11_readStageLine_29 rfl ?_
      refine v_get C 0 31 lR0 (eR0 _) rfl inX11 (by decide) rfl qw1171 dX11_readStageLine_30 ?_
      refine v_if_ne (tgt := 49) C dX11_readStageLine_33 (by decide) (by omega) (fun c26 => ?_) (fun c26 => ?_)
      · exfalso; obtain ⟨e9, he9⟩ := T2.bad (by omega); rw [hq2] at he9; cases he9
      · refine v_aload_n C 0 dX11_readStageLine_36 rfl ?_
        refine v_callV (st := []) (n := 0) (q := 0) C [] (ct_StageRatiosModel_stageHere C.2.2.2.2.2.2.1 m1 (σ.nm) (wlZ b n q) (σ.h 5) (by exact ⟨D2.2.1, s3⟩) (by exact D2.2.2.2.2.2.1) (by exact s7) (by exact ew) (by exact wok)) lR0 (eR0 _) rfl qw1413 qw16 qw1410 rfl rfl ⟨Nat.le_of_ble_eq_true rfl, Nat.le_of_ble_eq_true rfl⟩ (by decide +kernel) qw1412 qp51 rfl rfl (Nat.le_of_ble_eq_true rfl) dX11_readStageLine_37 (fun r m27 hq27 => ?_)
        obtain ⟨z27, rfl, rfl, rfl⟩ := hq27
        show V E (wR D cy aa ad) 13 m1 40 [(0, .ref (aa 0))] [.int (iz (naZ (σ.nm) (wlZ b n q) (σ.h 5)))]
        have hnr := naZ_rng (nm := σ.nm) (w := wlZ b n q) s3.1
        refine v_iconst (z := -1) C dX11_readStageLine_40 rfl ?_
        refine v_icmp_eq (tgt := 49) C dX11_readStageLine_41 (by decide) (by omega) (by omega) (fun c28 => ?_) (fun c28 => ?_)
        · refine v_sub [0] rfl ?_
          exact K49  (x2) m1 (by 
                        first
                          | exact NO_q26.1
                          | exact NO_q46.1
                          | exact T2
                      ) (by 
                        first
                          | exact NO_q26.2
                          | exact NO_q46.2
                          | exact FZ.rfl' _
                      ) (by 
                        first
                          | exact (tnew_1 hq24).symm
                          | exact (tnew_3 hq2 hnm (by omega)).symm
                          | exact (tnew_0 hq2 hnm (by omega)).symm
                      ) (by 
                        first
                          | (intro q9 y; exfalso; obtain ⟨e9, he9⟩ := flO_l b n 1 x2; rw [he9] at y; cases y)
                          | (intro q9 y; exfalso; obtain ⟨e9, he9⟩ := flO_l b n 3 x2; rw [he9] at y; cases y)
                          | (intro q9 y; have y2 : q9 = q := Sum.inr.inj (y.symm.trans hq2); rw [y2]; exact ⟨hq2, ew, wok⟩)
                      )
        · refine v_aload_n C 0 dX11_readStageLine_44 rfl ?_
          refine v_iconst (z := 3) C dX11_readStageLine_45 rfl ?_
          refine v_callV (st := []) (n := 1) (q := 0) C [.int (iz (3))] (ct_StageRatiosModel_flaw C.2.2.2.2.2.2.1 m1 (b) (n) (x2) (3) (by exact T2) (by decide)) lR0 (eR0 _) rfl qw1382 qw16 qw1379 rfl rfl ⟨Nat.le_of_ble_eq_true rfl, Nat.le_of_ble_eq_true rfl⟩ (by decide +kernel) qw1381 qp45 rfl rfl (Nat.le_of_ble_eq_true rfl) dX11_readStageLine_46 (fun r m29 hq29 => ?_)
          obtain ⟨rfl, hq29⟩ := hq29
          show V E (wR D cy aa ad) 13 m29 49 [(0, .ref (aa 0))] []
          refine v_sub [0] rfl ?_
          exact K49  (flO b n 3 x2) m29 (by 
                        first
                          | exact NO_q26.1
                          | exact hq29.1
                          | exact T2
                      ) (by 
                        first
                          | exact NO_q26.2
                          | exact hq29.2
                          | exact FZ.rfl' _
                      ) (by 
                        first
                          | exact (tnew_1 hq24).symm
                          | exact (tnew_3 hq2 hnm (by omega)).symm
                          | exact (tnew_0 hq2 hnm (by omega)).symm
                      ) (by 
                        first
                          | (intro q9 y; exfalso; obtain ⟨e9, he9⟩ := flO_l b n 1 x2; rw [he9] at y; cases y)
                          | (intro q9 y; exfalso; obtain ⟨e9, he9⟩ := flO_l b n 3 x2; rw [he9] at y; cases y)
                          | (intro q9 y; have y2 : q9 = q := Sum.inr.inj (y.symm.trans hq2); rw [y2]; exact ⟨hq2, ew, wok⟩)
                      )
    · show V E (wR D cy aa ad) 13 m1 21 [(0, .ref (aa 0))] [.int (iz (0))]
      refine v_if_ne (tgt := 29) C dX11_readStageLine_21 (by decide) (by omega) (fun c30 => by exact absurd c30 (by decide)) (fun c30 => ?_)
      refine v_aload_n C 0 dX11_readStageLine_24 rfl ?_
      refine v_iconst (z := 1) C dX11_readStageLine_25 rfl ?_
      refine v_callV (st := []) (n := 1) (q := 0) C [.int (iz (1))] (ct_StageRatiosModel_flaw C.2.2.2.2.2.2.1 m1 (b) (n) (x2) (1) (by exact T2) (by decide)) lR0 (eR0 _) rfl qw1382 qw16 qw1379 rfl rfl ⟨Nat.le_of_ble_eq_true rfl, Nat.le_of_ble_eq_true rfl⟩ (by decide +kernel) qw1381 qp45 rfl rfl (Nat.le_of_ble_eq_true rfl) dX11_readStageLine_26 (fun r m31 hq31 => ?_)
      obtain ⟨rfl, hq31⟩ := hq31
      show V E (wR D cy aa ad) 13 m31 29 [(0, .ref (aa 0))] []
      have f26 := hq31.1.f0
      refine v_aload_n C 0 dX11_readStageLine_29 rfl ?_
      refine v_get C 0 31 lR0 (eR0 _) rfl inX11 (by decide) rfl qw1171 dX11_readStageLine_30 ?_
      refine v_if_ne (tgt := 49) C dX11_readStageLine_33 (by decide) (by omega) (fun c32 => ?_) (fun c32 => ?_)
      · refine v_sub [0] rfl ?_
        exact K49  (flO b n 1 x2) m31 (by 
                    first
                      | exact hq31.1
                      | exact NO_q46.1
                      | exact T2
                  ) (by 
                    first
                      | exact hq31.2
                      | exact NO_q46.2
                      | exact FZ.rfl' _
                  ) (by 
                    first
                      | exact (tnew_1 hq24).symm
                      | exact (tnew_3 hq2 hnm (by omega)).symm
                      | exact (tnew_0 hq2 hnm (by omega)).symm
                  ) (by 
                    first
                      | (intro q9 y; exfalso; obtain ⟨e9, he9⟩ := flO_l b n 1 x2; rw [he9] at y; cases y)
                      | (intro q9 y; exfalso; obtain ⟨e9, he9⟩ := flO_l b n 3 x2; rw [he9] at y; cases y)
                      | (intro q9 y; have y2 : q9 = q := Sum.inr.inj (y.symm.trans hq2); rw [y2]; exact ⟨hq2, ew, wok⟩)
                  )
      · exfalso; obtain ⟨p9, hp9⟩ := hq31.1.ok (by omega); obtain ⟨e9, he9⟩ := flO_l b n 1 x2; rw [he9] at hp9; cases hp9
  refine v_icmp_ne (tgt := 13) C dX11_readStageLine_6 (by decide) (by omega) (by omega) (fun c33 => ?_) (fun c33 => ?_)
  · refine v_iconst (z := 0) C dX11_readStageLine_13 rfl ?_
    refine v_sub [0] rfl ?_
    exact K14  (0)  (by omega)
  · refine v_iconst (z := 1) C dX11_readStageLine_9 rfl ?_
    refine v_goto (tgt := 14) C dX11_readStageLine_10 (by decide) ?_
    refine v_sub [0] rfl ?_
    exact K14  (1)  (by omega)
