set_option maxHeartbeats 4000000 in
set_option maxRecDepth 100000 in
theorem ct_Flight_burn {lau : Launch} {D : va_G} {cy : Nat → ClassId} {aa ad : Nat → Nat} (hI : wI (wC D cy aa ad)) (m : Mem) (f fs ft fa fb fr fp ro rb rp rr : Nat) (wo wu wt we : Nat) (k kf ks kt kc : Nat) (s xt : Int) (l0 : List Tk) (pl : List (Int × Int)) (hfl : FlightAt f fs ft fa fb fr fp ro rb rp rr) (hw : WeightsAt wo wu wt we) (hk : RocketAt k kf ks kt kc) (hrk : RkIs m k kf ks kt kc) (hs : 0 ≤ s ∧ s < m k 5) (hu : 0 ≤ m wu s ∧ m wu s ≤ 16) (ht : 1 ≤ m wt s - m wu s ∧ m wt s ≤ 400) (hT0 : TkL m f fs ft fa fb fr fp l0) (hl0 : (l0.length : Int) ≤ 17 * s) (hp0 : RatL m ro rb rp pl) (hpl : (pl.length : Int) ≤ 2 * s) (hxt : -2147483648 ≤ xt ∧ xt ≤ 2147483647) : MT lau (wC D cy aa ad) yX2_burn cX2_burn 13 (none) ({ frames := 2, cells := 0, slots := 0, locals := 45 } : Room) m [.ref (aa f), .ref (aa k), .ref (aa wo), .int (iz (s)), .int (iz (xt))] (Pv (fun m' => (∀ fl, fl = flZ (m kf) (m ks) (m kt) (m kc) (m k 6).toNat s xt → TkL m' f fs ft fa fb fr fp (l0 ++ (buF s fl (m kf (s * 9 + 6)) (m kf (s * 9 + 5)) 18 1 (m wu s) (m kf (s * 9 + 4)) (m wt s)).1) ∧ m' f 8 = m f 8 + (buF s fl (m kf (s * 9 + 6)) (m kf (s * 9 + 5)) 18 1 (m wu s) (m kf (s * 9 + 4)) (m wt s)).2.1 ∧ m' f 9 = m f 9 + (m kf (s * 9 + 4) - (buF s fl (m kf (s * 9 + 6)) (m kf (s * 9 + 5)) 18 1 (m wu s) (m kf (s * 9 + 4)) (m wt s)).2.2.1) ∧ RatL m' ro rb rp (pl ++ [(m wt s, m kf (s * 9 + 0)), ((buF s fl (m kf (s * 9 + 6)) (m kf (s * 9 + 5)) 18 1 (m wu s) (m kf (s * 9 + 4)) (m wt s)).2.2.2, -m kf (s * 9 + 0))])) ∧ (∀ q, q ≠ f → q ≠ fs → q ≠ ft → q ≠ fa → q ≠ fb → q ≠ fr → q ≠ fp → q ≠ ro → q ≠ rb → q ≠ rp → m' q = m q))) := by
  refine v_entry hI RX2 (by decide) rfl (Nat.le_of_ble_eq_true rfl) (fun E hE C X => ?_)
  subst hE
  show V E (wC D cy aa ad) 13 m 0 [(0, .ref (aa f)), (1, .ref (aa k)), (2, .ref (aa wo)), (3, .int (iz (s))), (4, .int (iz (xt)))] []
  have hFn : FlN f fs ft fa fb fr fp := by unfold FlightAt at hfl; unfold FlN; omega
  have N_k : Ne7 k f fs ft fa fb fr fp := by unfold Ne7; unfold FlightAt at hfl; unfold RocketAt at hk; omega
  have N_kf : Ne7 kf f fs ft fa fb fr fp := by unfold Ne7; unfold FlightAt at hfl; unfold RocketAt at hk; omega
  have N_ks : Ne7 ks f fs ft fa fb fr fp := by unfold Ne7; unfold FlightAt at hfl; unfold RocketAt at hk; omega
  have N_kt : Ne7 kt f fs ft fa fb fr fp := by unfold Ne7; unfold FlightAt at hfl; unfold RocketAt at hk; omega
  have N_kc : Ne7 kc f fs ft fa fb fr fp := by unfold Ne7; unfold FlightAt at hfl; unfold RocketAt at hk; omega
  have N_wo : Ne7 wo f fs ft fa fb fr fp := by unfold Ne7; unfold FlightAt at hfl; unfold WeightsAt at hw; omega
  have N_wu : Ne7 wu f fs ft fa fb fr fp := by unfold Ne7; unfold FlightAt at hfl; unfold WeightsAt at hw; omega
  have N_wt : Ne7 wt f fs ft fa fb fr fp := by unfold Ne7; unfold FlightAt at hfl; unfold WeightsAt at hw; omega
  have N_we : Ne7 we f fs ft fa fb fr fp := by unfold Ne7; unfold FlightAt at hfl; unfold WeightsAt at hw; omega
  have N_ro : Ne7 ro f fs ft fa fb fr fp := by unfold Ne7; unfold FlightAt at hfl; omega
  have N_rb : Ne7 rb f fs ft fa fb fr fp := by unfold Ne7; unfold FlightAt at hfl; omega
  have N_rp : Ne7 rp f fs ft fa fb fr fp := by unfold Ne7; unfold FlightAt at hfl; omega
  have N_rr : Ne7 rr f fs ft fa fb fr fp := by unfold Ne7; unfold FlightAt at hfl; omega
  have M_k : Ne3 k ro rb rp := by unfold Ne3; unfold FlightAt at hfl; unfold RocketAt at hk; omega
  have M_kf : Ne3 kf ro rb rp := by unfold Ne3; unfold FlightAt at hfl; unfold RocketAt at hk; omega
  have M_ks : Ne3 ks ro rb rp := by unfold Ne3; unfold FlightAt at hfl; unfold RocketAt at hk; omega
  have M_kt : Ne3 kt ro rb rp := by unfold Ne3; unfold FlightAt at hfl; unfold RocketAt at hk; omega
  have M_kc : Ne3 kc ro rb rp := by unfold Ne3; unfold FlightAt at hfl; unfold RocketAt at hk; omega
  have M_wo : Ne3 wo ro rb rp := by unfold Ne3; unfold FlightAt at hfl; unfold WeightsAt at hw; omega
  have M_wu : Ne3 wu ro rb rp := by unfold Ne3; unfold FlightAt at hfl; unfold WeightsAt at hw; omega
  have M_wt : Ne3 wt ro rb rp := by unfold Ne3; unfold FlightAt at hfl; unfold WeightsAt at hw; omega
  have M_we : Ne3 we ro rb rp := by unfold Ne3; unfold FlightAt at hfl; unfold WeightsAt at hw; omega
  have M_f : Ne3 f ro rb rp := by unfold Ne3; unfold FlightAt at hfl; omega
  have M_fs : Ne3 fs ro rb rp := by unfold Ne3; unfold FlightAt at hfl; omega
  have M_ft : Ne3 ft ro rb rp := by unfold Ne3; unfold FlightAt at hfl; omega
  have M_fa : Ne3 fa ro rb rp := by unfold Ne3; unfold FlightAt at hfl; omega
  have M_fb : Ne3 fb ro rb rp := by unfold Ne3; unfold FlightAt at hfl; omega
  have M_fr : Ne3 fr ro rb rp := by unfold Ne3; unfold FlightAt at hfl; omega
  have M_fp : Ne3 fp ro rb rp := by unfold Ne3; unfold FlightAt at hfl; omega
  obtain ⟨hk5, hF, -, -, -, hk6, hfa, -⟩ := hrk
  have hff := hF s hs.1 hs.2
  obtain ⟨fl, hfd⟩ : ∃ fl, fl = flZ (m kf) (m ks) (m kt) (m kc) (m k 6).toNat s xt := ⟨_, rfl⟩
  have hfc : ∀ t : Int, 0 ≤ faC (m ks) (m kt) (m kc) s t (m k 6).toNat ∧ faC (m ks) (m kt) (m kc) s t (m k 6).toNat ≤ 54 := fun t => by have := faC_rng (A := m ks) (B := m kt) (Cn := m kc) (s := s) (t := t) (m k 6).toNat (fun i h0 h1 => (hfa i h0 (by omega)).2.2); omega
  have hfl0 : ∀ t, 0 ≤ fl t := fun t => by rw [hfd]; unfold flZ; have := hfc t; split <;> (try split) <;> omega
  obtain ⟨R, hR⟩ : ∃ R, R = buF s fl (m kf (s * 9 + 6)) (m kf (s * 9 + 5)) 18 1 (m wu s) (m kf (s * 9 + 4)) (m wt s) := ⟨_, rfl⟩
  have hend := buF_end (s := s) (thr := m kf (s * 9 + 5)) hfl0 (show 1 ≤ m kf (s * 9 + 6) by omega) 18 1 (m wu s) (m kf (s * 9 + 4)) (m wt s) (by omega) (by omega)
  rw [← hR] at hend
  refine v_aload_n C 1 dX2_burn_0 rfl ?_
  refine v_iload_n C 3 dX2_burn_1 rfl ?_
  refine v_iconst (z := 0) C dX2_burn_2 rfl ?_
  refine v_callV (st := []) (n := 2) (q := k) C [.int (iz (s)), .int (iz (0))] (ct_Rocket_fact C.2.2.2.2.2.2.1 m (k) (kf) (ks) (kt) (kc) (s) (0) hk (by first | assumption | omega) (by first | assumption | omega)) (RocketAt.l0 hk) (RocketAt.e0 hk _) rfl qw590 qw15 qw972 rfl rfl ⟨Nat.le_of_ble_eq_true rfl, Nat.le_of_ble_eq_true rfl⟩ (by decide +kernel) qw588 qw589 rfl rfl (Nat.le_of_ble_eq_true rfl) dX2_burn_3 (fun r m1 hq1 => ?_)
  obtain ⟨z1, rfl, rfl, rfl⟩ := hq1
  show V E (wC D cy aa ad) 13 m 6 [(0, .ref (aa f)), (1, .ref (aa k)), (2, .ref (aa wo)), (3, .int (iz (s))), (4, .int (iz (xt)))] [.int (iz (m kf (s * 9 + 0)))]
  refine v_istore (L1 := [(5, .int (iz (m kf (s * 9 + 0)))), (0, .ref (aa f)), (1, .ref (aa k)), (2, .ref (aa wo)), (3, .int (iz (s))), (4, .int (iz (xt)))]) C dX2_burn_6 (by decide) rfl ?_
  refine v_aload_n C 2 dX2_burn_8 rfl ?_
  refine v_iload_n C 4 dX2_burn_9 rfl ?_
  refine v_iconst (z := 4) C dX2_burn_10 rfl ?_
  refine v_callV (st := []) (n := 2) (q := k) C [.int (iz (s)), .int (iz (4))] (ct_Rocket_fact C.2.2.2.2.2.2.1 m (k) (kf) (ks) (kt) (kc) (s) (4) hk (by first | assumption | omega) (by first | assumption | omega)) (RocketAt.l0 hk) (RocketAt.e0 hk _) rfl qw590 qw15 qw972 rfl rfl ⟨Nat.le_of_ble_eq_true rfl, Nat.le_of_ble_eq_true rfl⟩ (by decide +kernel) qw588 qw589 rfl rfl (Nat.le_of_ble_eq_true rfl) dX2_burn_11 (fun r m2 hq2 => ?_)
  obtain ⟨z2, rfl, rfl, rfl⟩ := hq2
  show V E (wC D cy aa ad) 13 m 14 [(5, .int (iz (m kf (s * 9 + 0)))), (0, .ref (aa f)), (1, .ref (aa k)), (2, .ref (aa wo)), (3, .int (iz (s))), (4, .int (iz (xt)))] [.int (iz (m kf (s * 9 + 4)))]
  refine v_istore (L1 := [(6, .int (iz (m kf (s * 9 + 4)))), (5, .int (iz (m kf (s * 9 + 0)))), (0, .ref (aa f)), (1, .ref (aa k)), (2, .ref (aa wo)), (3, .int (iz (s))), (4, .int (iz (xt)))]) C dX2_burn_14 (by decide) rfl ?_
  refine v_aload_n C 4 dX2_burn_16 rfl ?_
  refine v_get C wo 0 (WeightsAt.l0 hw) (WeightsAt.e0 hw _) rfl inX9 (by decide) rfl qw178 dX2_burn_17 ?_
  refine v_iload_n C 5 dX2_burn_20 rfl ?_
  refine v_callSN (st := []) (n := 2) C [.ref (aa wu), .int (iz (s))] (ct_StageRatios_at C.2.2.2.2.2.2.1 m (wu) (3) (s) ⟨(WeightsAt.l1 hw), by decide, (WeightsAt.e1 hw)⟩ (by first | assumption | omega)) qw618 qw1 "StageRatios" (by decide +kernel) rfl rfl ⟨Nat.le_of_ble_eq_true rfl, Nat.le_of_ble_eq_true rfl⟩ (by decide +kernel) qw617 rfl rfl (Nat.le_of_ble_eq_true rfl) dX2_burn_21 (fun r m3 hq3 => ?_)
  obtain ⟨z3, rfl, rfl, rfl⟩ := hq3
  show V E (wC D cy aa ad) 13 m 24 [(6, .int (iz (m kf (s * 9 + 4)))), (5, .int (iz (m kf (s * 9 + 0)))), (0, .ref (aa f)), (1, .ref (aa k)), (2, .ref (aa wo)), (3, .int (iz (s))), (4, .int (iz (xt)))] [.int (iz (m wu s))]
  refine v_istore (L1 := [(7, .int (iz (m wu s))), (6, .int (iz (m kf (s * 9 + 4)))), (5, .int (iz (m kf (s * 9 + 0)))), (0, .ref (aa f)), (1, .ref (aa k)), (2, .ref (aa wo)), (3, .int (iz (s))), (4, .int (iz (xt)))]) C dX2_burn_24 (by decide) rfl ?_
  refine v_aload_n C 5 dX2_burn_26 rfl ?_
  refine v_get C wo 1 (WeightsAt.l0 hw) (WeightsAt.e0 hw _) rfl inX9 (by decide) rfl qw182 dX2_burn_27 ?_
  refine v_iload_n C 6 dX2_burn_30 rfl ?_
  refine v_callSN (st := []) (n := 2) C [.ref (aa wt), .int (iz (s))] (ct_StageRatios_at C.2.2.2.2.2.2.1 m (wt) (3) (s) ⟨(WeightsAt.l2 hw), by decide, (WeightsAt.e2 hw)⟩ (by first | assumption | omega)) qw618 qw1 "StageRatios" (by decide +kernel) rfl rfl ⟨Nat.le_of_ble_eq_true rfl, Nat.le_of_ble_eq_true rfl⟩ (by decide +kernel) qw617 rfl rfl (Nat.le_of_ble_eq_true rfl) dX2_burn_31 (fun r m4 hq4 => ?_)
  obtain ⟨z4, rfl, rfl, rfl⟩ := hq4
  show V E (wC D cy aa ad) 13 m 34 [(7, .int (iz (m wu s))), (6, .int (iz (m kf (s * 9 + 4)))), (5, .int (iz (m kf (s * 9 + 0)))), (0, .ref (aa f)), (1, .ref (aa k)), (2, .ref (aa wo)), (3, .int (iz (s))), (4, .int (iz (xt)))] [.int (iz (m wt s))]
  refine v_istore (L1 := [(8, .int (iz (m wt s))), (7, .int (iz (m wu s))), (6, .int (iz (m kf (s * 9 + 4)))), (5, .int (iz (m kf (s * 9 + 0)))), (0, .ref (aa f)), (1, .ref (aa k)), (2, .ref (aa wo)), (3, .int (iz (s))), (4, .int (iz (xt)))]) C dX2_burn_34 (by decide) rfl ?_
  refine v_iconst (z := 1) C dX2_burn_36 rfl ?_
  refine v_istore (L1 := [(9, .int (iz (1))), (8, .int (iz (m wt s))), (7, .int (iz (m wu s))), (6, .int (iz (m kf (s * 9 + 4)))), (5, .int (iz (m kf (s * 9 + 0)))), (0, .ref (aa f)), (1, .ref (aa k)), (2, .ref (aa wo)), (3, .int (iz (s))), (4, .int (iz (xt)))]) C dX2_burn_37 (by decide) rfl ?_
  have K39 : ∀ (nK : Nat) (en : Int) (le : Int) (fy : Int) (ti : Int) (n : Nat) (acc : List Tk) (mL : Mem) (hB : acc ++ (buF s fl (m kf (s * 9 + 6)) (m kf (s * 9 + 5)) n ti le en fy).1 = R.1 ∧ (buF s fl (m kf (s * 9 + 6)) (m kf (s * 9 + 5)) n ti le en fy).2 = R.2) (hn : en = 0 ∨ le + 1 ≤ n) (hT : TkL mL f fs ft fa fb fr fp (l0 ++ acc)) (hacc : (acc.length : Int) = ti - 1) (hr : (0 ≤ le ∧ le ≤ 16) ∧ (0 ≤ en ∧ en ≤ 9) ∧ 1 ≤ ti ∧ (ti + le ≤ 17 ∨ (en = 0 ∧ ti + le ≤ 18)) ∧ fy - le = m wt s - m wu s ∧ fy ≤ 400) (h9 : mL f 9 = m f 9 + (m kf (s * 9 + 4) - en)) (h8 : mL f 8 = m f 8) (hf : (∀ q, q ≠ f → q ≠ fs → q ≠ ft → q ≠ fa → q ≠ fb → q ≠ fr → q ≠ fp → mL q = m q)), (100 - ti).toNat < nK → V E (wC D cy aa ad) 13 mL 39 [(0, .ref (aa f)), (1, .ref (aa k)), (2, .ref (aa wo)), (3, .int (iz (s))), (4, .int (iz (xt))), (5, .int (iz (m kf (s * 9 + 0)))), (6, .int (iz (en))), (7, .int (iz (le))), (8, .int (iz (fy))), (9, .int (iz (ti)))] [] := by
    intro nK
    induction nK with
    | zero => intro en le fy ti n acc mL hB hn hT hacc hr h9 h8 hf hn; exact absurd hn (Nat.not_lt_zero _)
    | succ nK ih39 =>
      intro en le fy ti n acc mL hB hn hT hacc hr h9 h8 hf hn39
      have eK : mL k = m k := by have z := N_k; exact hf _ z.1 z.2.1 z.2.2.1 z.2.2.2.1 z.2.2.2.2.1 z.2.2.2.2.2.1 z.2.2.2.2.2.2
      have eKf : mL kf = m kf := by have z := N_kf; exact hf _ z.1 z.2.1 z.2.2.1 z.2.2.2.1 z.2.2.2.2.1 z.2.2.2.2.2.1 z.2.2.2.2.2.2
      have eKs : mL ks = m ks := by have z := N_ks; exact hf _ z.1 z.2.1 z.2.2.1 z.2.2.2.1 z.2.2.2.2.1 z.2.2.2.2.2.1 z.2.2.2.2.2.2
      have eKt : mL kt = m kt := by have z := N_kt; exact hf _ z.1 z.2.1 z.2.2.1 z.2.2.2.1 z.2.2.2.2.1 z.2.2.2.2.2.1 z.2.2.2.2.2.2
      have eKc : mL kc = m kc := by have z := N_kc; exact hf _ z.1 z.2.1 z.2.2.1 z.2.2.2.1 z.2.2.2.2.1 z.2.2.2.2.2.1 z.2.2.2.2.2.2
      have eWt : mL wt = m wt := by have z := N_wt; exact hf _ z.1 z.2.1 z.2.2.1 z.2.2.2.1 z.2.2.2.2.1 z.2.2.2.2.2.1 z.2.2.2.2.2.2
      have eRo : mL ro = m ro := by have z := N_ro; exact hf _ z.1 z.2.1 z.2.2.1 z.2.2.2.1 z.2.2.2.2.1 z.2.2.2.2.2.1 z.2.2.2.2.2.2
      have eRb : mL rb = m rb := by have z := N_rb; exact hf _ z.1 z.2.1 z.2.2.1 z.2.2.2.1 z.2.2.2.2.1 z.2.2.2.2.2.1 z.2.2.2.2.2.2
      have eRp : mL rp = m rp := by have z := N_rp; exact hf _ z.1 z.2.1 z.2.2.1 z.2.2.2.1 z.2.2.2.2.1 z.2.2.2.2.2.1 z.2.2.2.2.2.2
      have eK6 : mL k 6 = m k 6 := by rw [eK]
      have hlenA : ((l0 ++ acc).length : Int) = l0.length + acc.length := by rw [List.length_append]; omega
      have h7 := hT.1
      refine v_iload C 7 dX2_burn_39 rfl ?_
      refine v_if_le (tgt := 254) C dX2_burn_41 (by decide) (by omega) (fun c5 => ?_) (fun c5 => ?_)
      · have hBe : buF s fl (m kf (s * 9 + 6)) (m kf (s * 9 + 5)) n ti le en fy = ([], le, en, fy) := buF_e (by omega)
        rw [hBe] at hB
        have hB1 : acc = R.1 := by rw [← hB.1]; exact (List.append_nil _).symm
        have hB2 : R.2 = (le, en, fy) := hB.2.symm
        refine v_aload_n C 0 dX2_burn_254 rfl ?_
        refine v_dup C dX2_burn_255 rfl ?_
        refine v_get C f 8 (FlightAt.l0 hfl) (FlightAt.e0 hfl _) rfl inX2 (by decide) rfl qw334 dX2_burn_256 ?_
        refine v_iload C 7 dX2_burn_259 rfl ?_
        refine v_iadd C dX2_burn_261 ?_
        refine v_put C f 8 ((mL f 8) + le) 8 rfl (FlightAt.l0 hfl) (FlightAt.e0 hfl _) rfl inX2 tyX2 tyX2_ok nmX2 (by decide) qw334 rfl rfl rfl (Nat.le_of_ble_eq_true rfl) (by rw [mup_r]; exact (FlightAt.e0 hfl _)) dX2_burn_262 (fun m6 em6 => ?_)
        have o1 : ∀ q, q ≠ f → m6 q = mL q := fun q h => by rw [em6, mup_k _ _ _ h]
        have ne := N_ro
        have ne2 := N_rb
        have ne3 := N_rp
        have ne4 := N_wt
        have hwt : m6 wt s = m wt s := by rw [o1 wt ne4.1, eWt]
        have hpl1 : RatL m6 ro rb rp pl := hp0.fr (by rw [o1 ro ne.1, eRo]) (by rw [o1 rb ne2.1, eRb]) (by rw [o1 rp ne3.1, eRp])
        refine v_aload_n C 0 dX2_burn_265 rfl ?_
        refine v_get C f 6 (FlightAt.l0 hfl) (FlightAt.e0 hfl _) rfl inX2 (by decide) rfl qw330 dX2_burn_266 ?_
        refine v_aload_n C 2 dX2_burn_269 rfl ?_
        refine v_get C wo 1 (WeightsAt.l0 hw) (WeightsAt.e0 hw _) rfl inX9 (by decide) rfl qw182 dX2_burn_270 ?_
        refine v_iload_n C 3 dX2_burn_273 rfl ?_
        refine v_callSN (st := [.ref (aa ro)]) (n := 2) C [.ref (aa wt), .int (iz (s))] (ct_StageRatios_at C.2.2.2.2.2.2.1 m6 (wt) (3) (s) ⟨(WeightsAt.l2 hw), by decide, (WeightsAt.e2 hw)⟩ (by first | assumption | omega)) qw618 qw1 "StageRatios" (by decide +kernel) rfl rfl ⟨Nat.le_of_ble_eq_true rfl, Nat.le_of_ble_eq_true rfl⟩ (by decide +kernel) qw617 rfl rfl (Nat.le_of_ble_eq_true rfl) dX2_burn_274 (fun r m7 hq7 => ?_)
        obtain ⟨z7, rfl, rfl, rfl⟩ := hq7
        show V E (wC D cy aa ad) 13 m6 277 [(0, .ref (aa f)), (1, .ref (aa k)), (2, .ref (aa wo)), (3, .int (iz (s))), (4, .int (iz (xt))), (5, .int (iz (m kf (s * 9 + 0)))), (6, .int (iz (en))), (7, .int (iz (le))), (8, .int (iz (fy))), (9, .int (iz (ti)))] [.int (iz (m6 wt s)), .ref (aa ro)]
        refine v_iload C 5 dX2_burn_277 rfl ?_
        refine v_callV (st := []) (n := 2) (q := ro) C [.int (iz (m6 wt s)), .int (iz (m kf (s * 9 + 0)))] (ct_Ratio_multiply C.2.2.2.2.2.2.1 m6 (ro) (rb) (rp) (rr) (pl) (m6 wt s) (m kf (s * 9 + 0)) (by unfold FlightAt at hfl; unfold RatioAt; omega) (by exact hpl1) (by first | assumption | omega)) (FlightAt.l7 hfl) (FlightAt.e7 hfl _) rfl qw733 qw9 qw983 rfl rfl ⟨Nat.le_of_ble_eq_true rfl, Nat.le_of_ble_eq_true rfl⟩ (by decide +kernel) qw731 qw732 rfl rfl (Nat.le_of_ble_eq_true rfl) dX2_burn_279 (fun r m8 hq8 => ?_)
        obtain ⟨rfl, hq8⟩ := hq8
        show V E (wC D cy aa ad) 13 m8 282 [(0, .ref (aa f)), (1, .ref (aa k)), (2, .ref (aa wo)), (3, .int (iz (s))), (4, .int (iz (xt))), (5, .int (iz (m kf (s * 9 + 0)))), (6, .int (iz (en))), (7, .int (iz (le))), (8, .int (iz (fy))), (9, .int (iz (ti)))] []
        refine v_aload_n C 0 dX2_burn_282 rfl ?_
        refine v_get C f 6 (FlightAt.l0 hfl) (FlightAt.e0 hfl _) rfl inX2 (by decide) rfl qw330 dX2_burn_283 ?_
        refine v_iload C 8 dX2_burn_286 rfl ?_
        refine v_iload C 5 dX2_burn_288 rfl ?_
        refine v_ineg C dX2_burn_290 ?_
        refine v_callV (st := []) (n := 2) (q := ro) C [.int (iz (fy)), .int (iz (-(m kf (s * 9 + 0))))] (ct_Ratio_multiply C.2.2.2.2.2.2.1 m8 (ro) (rb) (rp) (rr) (pl ++ [(m6 wt s, m kf (s * 9 + 0))]) (fy) (-(m kf (s * 9 + 0))) (by unfold FlightAt at hfl; unfold RatioAt; omega) (by exact hq8.1) (by rw [List.length_append]; show pl.length + 1 < 8; omega)) (FlightAt.l7 hfl) (FlightAt.e7 hfl _) rfl qw733 qw9 qw983 rfl rfl ⟨Nat.le_of_ble_eq_true rfl, Nat.le_of_ble_eq_true rfl⟩ (by decide +kernel) qw731 qw732 rfl rfl (Nat.le_of_ble_eq_true rfl) dX2_burn_291 (fun r m9 hq9 => ?_)
        obtain ⟨rfl, hq9⟩ := hq9
        show V E (wC D cy aa ad) 13 m9 294 [(0, .ref (aa f)), (1, .ref (aa k)), (2, .ref (aa wo)), (3, .int (iz (s))), (4, .int (iz (xt))), (5, .int (iz (m kf (s * 9 + 0)))), (6, .int (iz (en))), (7, .int (iz (le))), (8, .int (iz (fy))), (9, .int (iz (ti)))] []
        refine v_vret C X dX2_burn_294 ⟨rfl, ?_⟩
        have a1 : ∀ q, q ≠ ro → q ≠ rb → q ≠ rp → m9 q = m6 q := fun q h1 h2 h3 => by rw [hq9.2 q h1 h2 h3, hq8.2 q h1 h2 h3]
        have af := M_f
        have efm : m9 f = m6 f := a1 f af.1 af.2.1 af.2.2
        refine ⟨fun fl2 h2 => ?_, fun q h1 h2 h3 h4 h5 h6 h7 h8 h9 h10 => by rw [a1 q h8 h9 h10, o1 q h1]; exact hf q h1 h2 h3 h4 h5 h6 h7⟩
        rw [h2, ← hfd, ← hR, ← hB1]
        obtain ⟨hg1, hg2, hg3, hg4, hg5, hg6⟩ := id hFn
        have r2 : R.2.1 = le ∧ R.2.2.1 = en ∧ R.2.2.2 = fy := by rw [hB2]; exact ⟨rfl, rfl, rfl⟩
        rw [r2.1, r2.2.1, r2.2.2]
        refine ⟨⟨by rw [efm, em6, mup_j _ _ (by omega)]; exact hT.1, fun i q hq => ?_⟩, by rw [efm, em6, mup_s, h8], by rw [efm, em6, mup_j _ _ (by omega)]; exact h9, ?_⟩
        · have b1 := M_fs
          have b2 := M_ft
          have b3 := M_fa
          have b4 := M_fb
          have b5 := M_fr
          have b6 := M_fp
          rw [a1 fs b1.1 b1.2.1 b1.2.2, a1 ft b2.1 b2.2.1 b2.2.2, a1 fa b3.1 b3.2.1 b3.2.2, a1 fb b4.1 b4.2.1 b4.2.2, a1 fr b5.1 b5.2.1 b5.2.2, a1 fp b6.1 b6.2.1 b6.2.2, o1 fs (by omega), o1 ft (by omega), o1 fa (by omega), o1 fb (by omega), o1 fr (by omega), o1 fp (by omega)]
          exact hT.2 i q hq
        · have z := hq9.1
          rw [hwt, List.append_assoc] at z
          exact z
      · refine v_iload C 6 dX2_burn_44 rfl ?_
        refine v_if_le (tgt := 254) C dX2_burn_46 (by decide) (by omega) (fun c10 => ?_) (fun c10 => ?_)
        · have hBe : buF s fl (m kf (s * 9 + 6)) (m kf (s * 9 + 5)) n ti le en fy = ([], le, en, fy) := buF_e (by omega)
          rw [hBe] at hB
          have hB1 : acc = R.1 := by rw [← hB.1]; exact (List.append_nil _).symm
          have hB2 : R.2 = (le, en, fy) := hB.2.symm
          refine v_aload_n C 0 dX2_burn_254 rfl ?_
          refine v_dup C dX2_burn_255 rfl ?_
          refine v_get C f 8 (FlightAt.l0 hfl) (FlightAt.e0 hfl _) rfl inX2 (by decide) rfl qw334 dX2_burn_256 ?_
          refine v_iload C 7 dX2_burn_259 rfl ?_
          refine v_iadd C dX2_burn_261 ?_
          refine v_put C f 8 ((mL f 8) + le) 8 rfl (FlightAt.l0 hfl) (FlightAt.e0 hfl _) rfl inX2 tyX2 tyX2_ok nmX2 (by decide) qw334 rfl rfl rfl (Nat.le_of_ble_eq_true rfl) (by rw [mup_r]; exact (FlightAt.e0 hfl _)) dX2_burn_262 (fun m11 em11 => ?_)
          have o1 : ∀ q, q ≠ f → m11 q = mL q := fun q h => by rw [em11, mup_k _ _ _ h]
          have ne := N_ro
          have ne2 := N_rb
          have ne3 := N_rp
          have ne4 := N_wt
          have hwt : m11 wt s = m wt s := by rw [o1 wt ne4.1, eWt]
          have hpl1 : RatL m11 ro rb rp pl := hp0.fr (by rw [o1 ro ne.1, eRo]) (by rw [o1 rb ne2.1, eRb]) (by rw [o1 rp ne3.1, eRp])
          refine v_aload_n C 0 dX2_burn_265 rfl ?_
          refine v_get C f 6 (FlightAt.l0 hfl) (FlightAt.e0 hfl _) rfl inX2 (by decide) rfl qw330 dX2_burn_266 ?_
          refine v_aload_n C 2 dX2_burn_269 rfl ?_
          refine v_get C wo 1 (WeightsAt.l0 hw) (WeightsAt.e0 hw _) rfl inX9 (by decide) rfl qw182 dX2_burn_270 ?_
          refine v_iload_n C 3 dX2_burn_273 rfl ?_
          refine v_callSN (st := [.ref (aa ro)]) (n := 2) C [.ref (aa wt), .int (iz (s))] (ct_StageRatios_at C.2.2.2.2.2.2.1 m11 (wt) (3) (s) ⟨(WeightsAt.l2 hw), by decide, (WeightsAt.e2 hw)⟩ (by first | assumption | omega)) qw618 qw1 "StageRatios" (by decide +kernel) rfl rfl ⟨Nat.le_of_ble_eq_true rfl, Nat.le_of_ble_eq_true rfl⟩ (by decide +kernel) qw617 rfl rfl (Nat.le_of_ble_eq_true rfl) dX2_burn_274 (fun r m12 hq12 => ?_)
          obtain ⟨z12, rfl, rfl, rfl⟩ := hq12
          show V E (wC D cy aa ad) 13 m11 277 [(0, .ref (aa f)), (1, .ref (aa k)), (2, .ref (aa wo)), (3, .int (iz (s))), (4, .int (iz (xt))), (5, .int (iz (m kf (s * 9 + 0)))), (6, .int (iz (en))), (7, .int (iz (le))), (8, .int (iz (fy))), (9, .int (iz (ti)))] [.int (iz (m11 wt s)), .ref (aa ro)]
          refine v_iload C 5 dX2_burn_277 rfl ?_
          refine v_callV (st := []) (n := 2) (q := ro) C [.int (iz (m11 wt s)), .int (iz (m kf (s * 9 + 0)))] (ct_Ratio_multiply C.2.2.2.2.2.2.1 m11 (ro) (rb) (rp) (rr) (pl) (m11 wt s) (m kf (s * 9 + 0)) (by unfold FlightAt at hfl; unfold RatioAt; omega) (by exact hpl1) (by first | assumption | omega)) (FlightAt.l7 hfl) (FlightAt.e7 hfl _) rfl qw733 qw9 qw983 rfl rfl ⟨Nat.le_of_ble_eq_true rfl, Nat.le_of_ble_eq_true rfl⟩ (by decide +kernel) qw731 qw732 rfl rfl (Nat.le_of_ble_eq_true rfl) dX2_burn_279 (fun r m13 hq13 => ?_)
          obtain ⟨rfl, hq13⟩ := hq13
          show V E (wC D cy aa ad) 13 m13 282 [(0, .ref (aa f)), (1, .ref (aa k)), (2, .ref (aa wo)), (3, .int (iz (s))), (4, .int (iz (xt))), (5, .int (iz (m kf (s * 9 + 0)))), (6, .int (iz (en))), (7, .int (iz (le))), (8, .int (iz (fy))), (9, .int (iz (ti)))] []
          refine v_aload_n C 0 dX2_burn_282 rfl ?_
          refine v_get C f 6 (FlightAt.l0 hfl) (FlightAt.e0 hfl _) rfl inX2 (by decide) rfl qw330 dX2_burn_283 ?_
          refine v_iload C 8 dX2_burn_286 rfl ?_
          refine v_iload C 5 dX2_burn_288 rfl ?_
          refine v_ineg C dX2_burn_290 ?_
          refine v_callV (st := []) (n := 2) (q := ro) C [.int (iz (fy)), .int (iz (-(m kf (s * 9 + 0))))] (ct_Ratio_multiply C.2.2.2.2.2.2.1 m13 (ro) (rb) (rp) (rr) (pl ++ [(m11 wt s, m kf (s * 9 + 0))]) (fy) (-(m kf (s * 9 + 0))) (by unfold FlightAt at hfl; unfold RatioAt; omega) (by exact hq13.1) (by rw [List.length_append]; show pl.length + 1 < 8; omega)) (FlightAt.l7 hfl) (FlightAt.e7 hfl _) rfl qw733 qw9 qw983 rfl rfl ⟨Nat.le_of_ble_eq_true rfl, Nat.le_of_ble_eq_true rfl⟩ (by decide +kernel) qw731 qw732 rfl rfl (Nat.le_of_ble_eq_true rfl) dX2_burn_291 (fun r m14 hq14 => ?_)
          obtain ⟨rfl, hq14⟩ := hq14
          show V E (wC D cy aa ad) 13 m14 294 [(0, .ref (aa f)), (1, .ref (aa k)), (2, .ref (aa wo)), (3, .int (iz (s))), (4, .int (iz (xt))), (5, .int (iz (m kf (s * 9 + 0)))), (6, .int (iz (en))), (7, .int (iz (le))), (8, .int (iz (fy))), (9, .int (iz (ti)))] []
          refine v_vret C X dX2_burn_294 ⟨rfl, ?_⟩
          have a1 : ∀ q, q ≠ ro → q ≠ rb → q ≠ rp → m14 q = m11 q := fun q h1 h2 h3 => by rw [hq14.2 q h1 h2 h3, hq13.2 q h1 h2 h3]
          have af := M_f
          have efm : m14 f = m11 f := a1 f af.1 af.2.1 af.2.2
          refine ⟨fun fl2 h2 => ?_, fun q h1 h2 h3 h4 h5 h6 h7 h8 h9 h10 => by rw [a1 q h8 h9 h10, o1 q h1]; exact hf q h1 h2 h3 h4 h5 h6 h7⟩
          rw [h2, ← hfd, ← hR, ← hB1]
          obtain ⟨hg1, hg2, hg3, hg4, hg5, hg6⟩ := id hFn
          have r2 : R.2.1 = le ∧ R.2.2.1 = en ∧ R.2.2.2 = fy := by rw [hB2]; exact ⟨rfl, rfl, rfl⟩
          rw [r2.1, r2.2.1, r2.2.2]
          refine ⟨⟨by rw [efm, em11, mup_j _ _ (by omega)]; exact hT.1, fun i q hq => ?_⟩, by rw [efm, em11, mup_s, h8], by rw [efm, em11, mup_j _ _ (by omega)]; exact h9, ?_⟩
          · have b1 := M_fs
            have b2 := M_ft
            have b3 := M_fa
            have b4 := M_fb
            have b5 := M_fr
            have b6 := M_fp
            rw [a1 fs b1.1 b1.2.1 b1.2.2, a1 ft b2.1 b2.2.1 b2.2.2, a1 fa b3.1 b3.2.1 b3.2.2, a1 fb b4.1 b4.2.1 b4.2.2, a1 fr b5.1 b5.2.1 b5.2.2, a1 fp b6.1 b6.2.1 b6.2.2, o1 fs (by omega), o1 ft (by omega), o1 fa (by omega), o1 fb (by omega), o1 fr (by omega), o1 fp (by omega)]
            exact hT.2 i q hq
          · have z := hq14.1
            rw [hwt, List.append_assoc] at z
            exact z
        · refine v_iload C 9 dX2_burn_49 rfl ?_
          refine v_bipush (z := 99) C dX2_burn_51 (by decide) ?_
          refine v_icmp_gt (tgt := 254) C dX2_burn_53 (by decide) (by omega) (by omega) (fun c15 => ?_) (fun c15 => ?_)
          · exfalso; omega
          · refine v_aload_n C 1 dX2_burn_56 rfl ?_
            refine v_iload_n C 3 dX2_burn_57 rfl ?_
            refine v_iload C 9 dX2_burn_58 rfl ?_
            refine v_callV (st := []) (n := 2) (q := k) C [.int (iz (s)), .int (iz (ti))] (ct_Rocket_failing C.2.2.2.2.2.2.1 mL (k) (kf) (ks) (kt) (kc) (s) (ti) hk (by rw [eK6]; exact hk6) (by first | assumption | omega) (by first | assumption | omega) (by rw [eK6, eKc]; exact fun i h0 h1 => (hfa i h0 h1).2.2) (by rw [eK6, eKs, eKt]; intro i h0 h1; have := hfa i h0 h1; omega)) (RocketAt.l0 hk) (RocketAt.e0 hk _) rfl qw977 qw15 qw974 rfl rfl ⟨Nat.le_of_ble_eq_true rfl, Nat.le_of_ble_eq_true rfl⟩ (by decide +kernel) qw975 qw976 rfl rfl (Nat.le_of_ble_eq_true rfl) dX2_burn_60 (fun r m16 hq16 => ?_)
            obtain ⟨z16, rfl, rfl, rfl⟩ := hq16
            show V E (wC D cy aa ad) 13 mL 63 [(0, .ref (aa f)), (1, .ref (aa k)), (2, .ref (aa wo)), (3, .int (iz (s))), (4, .int (iz (xt))), (5, .int (iz (m kf (s * 9 + 0)))), (6, .int (iz (en))), (7, .int (iz (le))), (8, .int (iz (fy))), (9, .int (iz (ti)))] [.int (iz (faC (mL ks) (mL kt) (mL kc) s ti (mL k 6).toNat))]
            have K75 : ∀ (xo : Int) (zf : Int) (hxo : xo = if ti = xt then 1 else 0) (hzf : zf = faC (m ks) (m kt) (m kc) s ti (m k 6).toNat), V E (wC D cy aa ad) 13 mL 75 [(0, .ref (aa f)), (1, .ref (aa k)), (2, .ref (aa wo)), (3, .int (iz (s))), (4, .int (iz (xt))), (5, .int (iz (m kf (s * 9 + 0)))), (6, .int (iz (en))), (7, .int (iz (le))), (8, .int (iz (fy))), (9, .int (iz (ti)))] [.int (iz (xo)), .int (iz (zf))] := by
              intro xo zf  hxo hzf
              refine v_iadd C dX2_burn_75 ?_
              have hfcL := hfc ti
              refine v_istore (L1 := [(10, .int (iz (zf + xo))), (0, .ref (aa f)), (1, .ref (aa k)), (2, .ref (aa wo)), (3, .int (iz (s))), (4, .int (iz (xt))), (5, .int (iz (m kf (s * 9 + 0)))), (6, .int (iz (en))), (7, .int (iz (le))), (8, .int (iz (fy))), (9, .int (iz (ti)))]) C dX2_burn_76 (by decide) rfl ?_
              have K95 : ∀ (sp : Int) (hst : stopZ fl ti en = sp), V E (wC D cy aa ad) 13 mL 95 [(0, .ref (aa f)), (1, .ref (aa k)), (2, .ref (aa wo)), (3, .int (iz (s))), (4, .int (iz (xt))), (5, .int (iz (m kf (s * 9 + 0)))), (6, .int (iz (en))), (7, .int (iz (le))), (8, .int (iz (fy))), (9, .int (iz (ti)))] [.int (iz (sp))] := by
                intro sp  hst
                refine v_istore (L1 := [(11, .int (iz (sp))), (0, .ref (aa f)), (1, .ref (aa k)), (2, .ref (aa wo)), (3, .int (iz (s))), (4, .int (iz (xt))), (5, .int (iz (m kf (s * 9 + 0)))), (6, .int (iz (en))), (7, .int (iz (le))), (8, .int (iz (fy))), (9, .int (iz (ti)))]) C dX2_burn_95 (by decide) rfl ?_
                have hstr := stop_rng (fl := fl) (t := ti) (eng := en) (hfl0 ti) (by omega)
                rw [hst] at hstr
                refine v_iload C 7 dX2_burn_97 rfl ?_
                refine v_iload C 0 dX2_burn_99 rfl ?_
                refine v_isub C dX2_burn_101 ?_
                refine v_istore (L1 := [(6, .int (iz (en - sp))), (11, .int (iz (sp))), (0, .ref (aa f)), (1, .ref (aa k)), (2, .ref (aa wo)), (3, .int (iz (s))), (4, .int (iz (xt))), (5, .int (iz (m kf (s * 9 + 0)))), (7, .int (iz (le))), (8, .int (iz (fy))), (9, .int (iz (ti)))]) C dX2_burn_102 (by decide) rfl ?_
                refine v_aload_n C 2 dX2_burn_104 rfl ?_
                refine v_dup C dX2_burn_105 rfl ?_
                refine v_get C f 9 (FlightAt.l0 hfl) (FlightAt.e0 hfl _) rfl inX2 (by decide) rfl qw336 dX2_burn_106 ?_
                refine v_iload C 1 dX2_burn_109 rfl ?_
                refine v_iadd C dX2_burn_111 ?_
                refine v_put C f 9 ((mL f 9) + sp) 9 rfl (FlightAt.l0 hfl) (FlightAt.e0 hfl _) rfl inX2 tyX2 tyX2_ok nmX2 (by decide) qw336 rfl rfl rfl (Nat.le_of_ble_eq_true rfl) (by rw [mup_r]; exact (FlightAt.e0 hfl _)) dX2_burn_112 (fun m17 em17 => ?_)
                have e112 : m17 kf = m kf := by rw [em17, mup_k _ _ _ N_kf.1]; exact eKf
                have e112k : m17 k = m k := by rw [em17, mup_k _ _ _ N_k.1]; exact eK
                refine v_aload_n C 3 dX2_burn_115 rfl ?_
                refine v_iload_n C 5 dX2_burn_116 rfl ?_
                refine v_bipush (z := 6) C dX2_burn_117 (by decide) ?_
                refine v_callV (st := []) (n := 2) (q := k) C [.int (iz (s)), .int (iz (6))] (ct_Rocket_fact C.2.2.2.2.2.2.1 m17 (k) (kf) (ks) (kt) (kc) (s) (6) hk (by first | assumption | omega) (by first | assumption | omega)) (RocketAt.l0 hk) (RocketAt.e0 hk _) rfl qw590 qw15 qw972 rfl rfl ⟨Nat.le_of_ble_eq_true rfl, Nat.le_of_ble_eq_true rfl⟩ (by decide +kernel) qw588 qw589 rfl rfl (Nat.le_of_ble_eq_true rfl) dX2_burn_119 (fun r m18 hq18 => ?_)
                obtain ⟨z18, rfl, rfl, rfl⟩ := hq18
                show V E (wC D cy aa ad) 13 m17 122 [(6, .int (iz (en - sp))), (11, .int (iz (sp))), (0, .ref (aa f)), (1, .ref (aa k)), (2, .ref (aa wo)), (3, .int (iz (s))), (4, .int (iz (xt))), (5, .int (iz (m kf (s * 9 + 0)))), (7, .int (iz (le))), (8, .int (iz (fy))), (9, .int (iz (ti)))] [.int (iz (m17 kf (s * 9 + 6)))]
                refine v_iload C 0 dX2_burn_122 rfl ?_
                have hbq := brn_rng (flow := m kf (s * 9 + 6)) (e := en - (sp)) (left := le) (by omega) (by omega) (by omega)
                have hmu : 0 ≤ m kf (s * 9 + 6) * (en - (sp)) ∧ m kf (s * 9 + 6) * (en - (sp)) ≤ 9 * (en - (sp)) := ⟨Int.mul_nonneg (by omega) (by omega), Int.mul_le_mul_of_nonneg_right (by omega) (by omega)⟩
                have hmu2 : 0 ≤ m17 kf (s * 9 + 6) * (en - (sp)) ∧ m17 kf (s * 9 + 6) * (en - (sp)) ≤ 9 * (en - (sp)) := by rw [e112]; exact hmu
                refine v_imul C dX2_burn_124 ?_
                refine v_iload C 8 dX2_burn_125 rfl ?_
                refine v_mmin (st := []) C qw980 qw17 qw978 qw979 ⟨Nat.le_of_ble_eq_true rfl, Nat.le_of_ble_eq_true rfl⟩ (by omega) (by omega) (by decide) dX2_burn_127 ?_
                refine v_istore (L1 := [(12, .int (iz (if le < (m17 kf (s * 9 + 6)) * (en - sp) then le else (m17 kf (s * 9 + 6)) * (en - sp)))), (6, .int (iz (en - sp))), (11, .int (iz (sp))), (0, .ref (aa f)), (1, .ref (aa k)), (2, .ref (aa wo)), (3, .int (iz (s))), (4, .int (iz (xt))), (5, .int (iz (m kf (s * 9 + 0)))), (7, .int (iz (le))), (8, .int (iz (fy))), (9, .int (iz (ti)))]) C dX2_burn_130 (by decide) rfl ?_
                have K132 : ∀ (bt : Int) (hbr : brnZ (m kf (s * 9 + 6)) (en - (sp)) le = bt), V E (wC D cy aa ad) 13 m17 132 [(0, .ref (aa f)), (1, .ref (aa k)), (2, .ref (aa wo)), (3, .int (iz (s))), (4, .int (iz (xt))), (5, .int (iz (m kf (s * 9 + 0)))), (6, .int (iz (en - sp))), (7, .int (iz (le))), (8, .int (iz (fy))), (9, .int (iz (ti))), (11, .int (iz (sp))), (12, .int (iz (bt)))] [] := by
                  intro bt  hbr
                  clear hmu hmu2
                  rw [hbr] at hbq
                  have hcs : (0 < en - (sp) ∧ 1 ≤ (bt)) ∨ (en - (sp) = 0 ∧ (bt) = 0) := by
                    by_cases z : en - (sp) = 0
                    · exact Or.inr ⟨z, hbq.2.2.2 z⟩
                    · exact Or.inl ⟨by omega, hbq.2.2.1 (by omega)⟩
                  have hb0 := hbq.1
                  have hb1 := hbq.2.1
                  have i7 : m17 f 7 = mL f 7 := by rw [em17, mup_j _ _ (by omega)]
                  obtain ⟨hg1, hg2, hg3, hg4, hg5, hg6⟩ := id hFn
                  refine v_aload_n C 0 dX2_burn_132 rfl ?_
                  refine v_get C f 0 (FlightAt.l0 hfl) (FlightAt.e0 hfl _) rfl inX2 (by decide) rfl qw318 dX2_burn_133 ?_
                  refine v_aload_n C 0 dX2_burn_136 rfl ?_
                  refine v_get C f 7 (FlightAt.l0 hfl) (FlightAt.e0 hfl _) rfl inX2 (by decide) rfl qw332 dX2_burn_137 ?_
                  refine v_iload_n C 3 dX2_burn_140 rfl ?_
                  refine v_callSN (st := []) (n := 3) C [.ref (aa fs), .int (iz (m17 f 7)), .int (iz (s))] (ct_StageRatios_put C.2.2.2.2.2.2.1 m17 (fs) (51) (m17 f 7) (s) ⟨(FlightAt.l1 hfl), by decide, (FlightAt.e1 hfl)⟩ (by first | assumption | omega)) qw494 qw1 "StageRatios" (by decide +kernel) rfl rfl ⟨Nat.le_of_ble_eq_true rfl, Nat.le_of_ble_eq_true rfl⟩ (by decide +kernel) qw493 rfl rfl (Nat.le_of_ble_eq_true rfl) dX2_burn_141 (fun r m19 hq19 => ?_)
                  obtain ⟨rfl, hq19⟩ := hq19
                  show V E (wC D cy aa ad) 13 m19 144 [(0, .ref (aa f)), (1, .ref (aa k)), (2, .ref (aa wo)), (3, .int (iz (s))), (4, .int (iz (xt))), (5, .int (iz (m kf (s * 9 + 0)))), (6, .int (iz (en - sp))), (7, .int (iz (le))), (8, .int (iz (fy))), (9, .int (iz (ti))), (11, .int (iz (sp))), (12, .int (iz (bt)))] []
                  have i141 : m19 f 7 = mL f 7 := by rw [← hq19, mup_k _ _ _ (by omega)]; exact i7
                  refine v_aload_n C 0 dX2_burn_144 rfl ?_
                  refine v_get C f 1 (FlightAt.l0 hfl) (FlightAt.e0 hfl _) rfl inX2 (by decide) rfl qw320 dX2_burn_145 ?_
                  refine v_aload_n C 0 dX2_burn_148 rfl ?_
                  refine v_get C f 7 (FlightAt.l0 hfl) (FlightAt.e0 hfl _) rfl inX2 (by decide) rfl qw332 dX2_burn_149 ?_
                  refine v_iload C 9 dX2_burn_152 rfl ?_
                  refine v_callSN (st := []) (n := 3) C [.ref (aa ft), .int (iz (m19 f 7)), .int (iz (ti))] (ct_StageRatios_put C.2.2.2.2.2.2.1 m19 (ft) (51) (m19 f 7) (ti) ⟨(FlightAt.l2 hfl), by decide, (FlightAt.e2 hfl)⟩ (by first | assumption | omega)) qw494 qw1 "StageRatios" (by decide +kernel) rfl rfl ⟨Nat.le_of_ble_eq_true rfl, Nat.le_of_ble_eq_true rfl⟩ (by decide +kernel) qw493 rfl rfl (Nat.le_of_ble_eq_true rfl) dX2_burn_154 (fun r m20 hq20 => ?_)
                  obtain ⟨rfl, hq20⟩ := hq20
                  show V E (wC D cy aa ad) 13 m20 157 [(0, .ref (aa f)), (1, .ref (aa k)), (2, .ref (aa wo)), (3, .int (iz (s))), (4, .int (iz (xt))), (5, .int (iz (m kf (s * 9 + 0)))), (6, .int (iz (en - sp))), (7, .int (iz (le))), (8, .int (iz (fy))), (9, .int (iz (ti))), (11, .int (iz (sp))), (12, .int (iz (bt)))] []
                  have i154 : m20 f 7 = mL f 7 := by rw [← hq20, mup_k _ _ _ (by omega)]; exact i141
                  refine v_aload_n C 0 dX2_burn_157 rfl ?_
                  refine v_get C f 2 (FlightAt.l0 hfl) (FlightAt.e0 hfl _) rfl inX2 (by decide) rfl qw322 dX2_burn_158 ?_
                  refine v_aload_n C 0 dX2_burn_161 rfl ?_
                  refine v_get C f 7 (FlightAt.l0 hfl) (FlightAt.e0 hfl _) rfl inX2 (by decide) rfl qw332 dX2_burn_162 ?_
                  refine v_iload C 8 dX2_burn_165 rfl ?_
                  refine v_callSN (st := []) (n := 3) C [.ref (aa fa), .int (iz (m20 f 7)), .int (iz (fy))] (ct_StageRatios_put C.2.2.2.2.2.2.1 m20 (fa) (51) (m20 f 7) (fy) ⟨(FlightAt.l3 hfl), by decide, (FlightAt.e3 hfl)⟩ (by first | assumption | omega)) qw494 qw1 "StageRatios" (by decide +kernel) rfl rfl ⟨Nat.le_of_ble_eq_true rfl, Nat.le_of_ble_eq_true rfl⟩ (by decide +kernel) qw493 rfl rfl (Nat.le_of_ble_eq_true rfl) dX2_burn_167 (fun r m21 hq21 => ?_)
                  obtain ⟨rfl, hq21⟩ := hq21
                  show V E (wC D cy aa ad) 13 m21 170 [(0, .ref (aa f)), (1, .ref (aa k)), (2, .ref (aa wo)), (3, .int (iz (s))), (4, .int (iz (xt))), (5, .int (iz (m kf (s * 9 + 0)))), (6, .int (iz (en - sp))), (7, .int (iz (le))), (8, .int (iz (fy))), (9, .int (iz (ti))), (11, .int (iz (sp))), (12, .int (iz (bt)))] []
                  have i167 : m21 f 7 = mL f 7 := by rw [← hq21, mup_k _ _ _ (by omega)]; exact i154
                  refine v_aload_n C 0 dX2_burn_170 rfl ?_
                  refine v_get C f 3 (FlightAt.l0 hfl) (FlightAt.e0 hfl _) rfl inX2 (by decide) rfl qw324 dX2_burn_171 ?_
                  refine v_aload_n C 0 dX2_burn_174 rfl ?_
                  refine v_get C f 7 (FlightAt.l0 hfl) (FlightAt.e0 hfl _) rfl inX2 (by decide) rfl qw332 dX2_burn_175 ?_
                  refine v_iload C 8 dX2_burn_178 rfl ?_
                  refine v_iload C 11 dX2_burn_180 rfl ?_
                  refine v_isub C dX2_burn_182 ?_
                  refine v_callSN (st := []) (n := 3) C [.ref (aa fb), .int (iz (m21 f 7)), .int (iz (fy - bt))] (ct_StageRatios_put C.2.2.2.2.2.2.1 m21 (fb) (51) (m21 f 7) (fy - bt) ⟨(FlightAt.l4 hfl), by decide, (FlightAt.e4 hfl)⟩ (by first | assumption | omega)) qw494 qw1 "StageRatios" (by decide +kernel) rfl rfl ⟨Nat.le_of_ble_eq_true rfl, Nat.le_of_ble_eq_true rfl⟩ (by decide +kernel) qw493 rfl rfl (Nat.le_of_ble_eq_true rfl) dX2_burn_183 (fun r m22 hq22 => ?_)
                  obtain ⟨rfl, hq22⟩ := hq22
                  show V E (wC D cy aa ad) 13 m22 186 [(0, .ref (aa f)), (1, .ref (aa k)), (2, .ref (aa wo)), (3, .int (iz (s))), (4, .int (iz (xt))), (5, .int (iz (m kf (s * 9 + 0)))), (6, .int (iz (en - sp))), (7, .int (iz (le))), (8, .int (iz (fy))), (9, .int (iz (ti))), (11, .int (iz (sp))), (12, .int (iz (bt)))] []
                  have i183 : m22 f 7 = mL f 7 := by rw [← hq22, mup_k _ _ _ (by omega)]; exact i167
                  refine v_aload_n C 0 dX2_burn_186 rfl ?_
                  refine v_get C f 4 (FlightAt.l0 hfl) (FlightAt.e0 hfl _) rfl inX2 (by decide) rfl qw326 dX2_burn_187 ?_
                  refine v_aload_n C 0 dX2_burn_190 rfl ?_
                  refine v_get C f 7 (FlightAt.l0 hfl) (FlightAt.e0 hfl _) rfl inX2 (by decide) rfl qw332 dX2_burn_191 ?_
                  refine v_iload C 6 dX2_burn_194 rfl ?_
                  refine v_callSN (st := []) (n := 3) C [.ref (aa fr), .int (iz (m22 f 7)), .int (iz (en - sp))] (ct_StageRatios_put C.2.2.2.2.2.2.1 m22 (fr) (51) (m22 f 7) (en - sp) ⟨(FlightAt.l5 hfl), by decide, (FlightAt.e5 hfl)⟩ (by first | assumption | omega)) qw494 qw1 "StageRatios" (by decide +kernel) rfl rfl ⟨Nat.le_of_ble_eq_true rfl, Nat.le_of_ble_eq_true rfl⟩ (by decide +kernel) qw493 rfl rfl (Nat.le_of_ble_eq_true rfl) dX2_burn_196 (fun r m23 hq23 => ?_)
                  obtain ⟨rfl, hq23⟩ := hq23
                  show V E (wC D cy aa ad) 13 m23 199 [(0, .ref (aa f)), (1, .ref (aa k)), (2, .ref (aa wo)), (3, .int (iz (s))), (4, .int (iz (xt))), (5, .int (iz (m kf (s * 9 + 0)))), (6, .int (iz (en - sp))), (7, .int (iz (le))), (8, .int (iz (fy))), (9, .int (iz (ti))), (11, .int (iz (sp))), (12, .int (iz (bt)))] []
                  have i196 : m23 f 7 = mL f 7 := by rw [← hq23, mup_k _ _ _ (by omega)]; exact i183
                  have hkfz := N_kf
                  have hthr : m23 kf (s * 9 + 5) = m kf (s * 9 + 5) := by rw [← hq23, mup_k _ _ _ hkfz.2.2.2.2.2.1, ← hq22, mup_k _ _ _ hkfz.2.2.2.2.1, ← hq21, mup_k _ _ _ hkfz.2.2.2.1, ← hq20, mup_k _ _ _ hkfz.2.2.1, ← hq19, mup_k _ _ _ hkfz.2.1, e112]
                  refine v_aload_n C 0 dX2_burn_199 rfl ?_
                  refine v_get C f 5 (FlightAt.l0 hfl) (FlightAt.e0 hfl _) rfl inX2 (by decide) rfl qw328 dX2_burn_200 ?_
                  refine v_aload_n C 0 dX2_burn_203 rfl ?_
                  refine v_get C f 7 (FlightAt.l0 hfl) (FlightAt.e0 hfl _) rfl inX2 (by decide) rfl qw332 dX2_burn_204 ?_
                  refine v_aload_n C 1 dX2_burn_207 rfl ?_
                  refine v_iload_n C 3 dX2_burn_208 rfl ?_
                  refine v_iconst (z := 5) C dX2_burn_209 rfl ?_
                  refine v_callV (st := [.int (iz (m23 f 7)), .ref (aa fp)]) (n := 2) (q := k) C [.int (iz (s)), .int (iz (5))] (ct_Rocket_fact C.2.2.2.2.2.2.1 m23 (k) (kf) (ks) (kt) (kc) (s) (5) hk (by first | assumption | omega) (by first | assumption | omega)) (RocketAt.l0 hk) (RocketAt.e0 hk _) rfl qw590 qw15 qw972 rfl rfl ⟨Nat.le_of_ble_eq_true rfl, Nat.le_of_ble_eq_true rfl⟩ (by decide +kernel) qw588 qw589 rfl rfl (Nat.le_of_ble_eq_true rfl) dX2_burn_210 (fun r m24 hq24 => ?_)
                  obtain ⟨z24, rfl, rfl, rfl⟩ := hq24
                  show V E (wC D cy aa ad) 13 m23 213 [(0, .ref (aa f)), (1, .ref (aa k)), (2, .ref (aa wo)), (3, .int (iz (s))), (4, .int (iz (xt))), (5, .int (iz (m kf (s * 9 + 0)))), (6, .int (iz (en - sp))), (7, .int (iz (le))), (8, .int (iz (fy))), (9, .int (iz (ti))), (11, .int (iz (sp))), (12, .int (iz (bt)))] [.int (iz (m23 kf (s * 9 + 5))), .int (iz (m23 f 7)), .ref (aa fp)]
                  refine v_iload C 6 dX2_burn_213 rfl ?_
                  have hpm : 0 ≤ m kf (s * 9 + 5) * (en - (sp)) ∧ m kf (s * 9 + 5) * (en - (sp)) ≤ 999 * (en - (sp)) := ⟨Int.mul_nonneg (by omega) (by omega), Int.mul_le_mul_of_nonneg_right (by omega) (by omega)⟩
                  refine v_imul C dX2_burn_215 ?_
                  refine v_iload C 8 dX2_burn_216 rfl ?_
                  refine v_callS (st := [.int (iz (m23 f 7)), .ref (aa fp)]) (n := 2) C [.int (iz ((m23 kf (s * 9 + 5)) * (en - sp))), .int (iz (fy))] (ct_Weights_hundredfold C.2.2.2.2.2.2.1 m23 ((m23 kf (s * 9 + 5)) * (en - sp)) (fy) (by rw [hthr]; omega) (by first | assumption | omega)) qw697 qw8 qw982 rfl rfl ⟨Nat.le_of_ble_eq_true rfl, Nat.le_of_ble_eq_true rfl⟩ (by decide +kernel) qw696 rfl rfl (Nat.le_of_ble_eq_true rfl) dX2_burn_218 (fun r m25 hq25 => ?_)
                  obtain ⟨z25, rfl, rfl, rfl⟩ := hq25
                  show V E (wC D cy aa ad) 13 m23 221 [(0, .ref (aa f)), (1, .ref (aa k)), (2, .ref (aa wo)), (3, .int (iz (s))), (4, .int (iz (xt))), (5, .int (iz (m kf (s * 9 + 0)))), (6, .int (iz (en - sp))), (7, .int (iz (le))), (8, .int (iz (fy))), (9, .int (iz (ti))), (11, .int (iz (sp))), (12, .int (iz (bt)))] [.int (iz (100 * ((m23 kf (s * 9 + 5)) * (en - sp)) / fy)), .int (iz (m23 f 7)), .ref (aa fp)]
                  refine v_callSN (st := []) (n := 3) C [.ref (aa fp), .int (iz (m23 f 7)), .int (iz (100 * ((m23 kf (s * 9 + 5)) * (en - sp)) / fy))] (ct_StageRatios_put C.2.2.2.2.2.2.1 m23 (fp) (51) (m23 f 7) (100 * ((m23 kf (s * 9 + 5)) * (en - sp)) / fy) ⟨(FlightAt.l6 hfl), by decide, (FlightAt.e6 hfl)⟩ (by first | assumption | omega)) qw494 qw1 "StageRatios" (by decide +kernel) rfl rfl ⟨Nat.le_of_ble_eq_true rfl, Nat.le_of_ble_eq_true rfl⟩ (by decide +kernel) qw493 rfl rfl (Nat.le_of_ble_eq_true rfl) dX2_burn_221 (fun r m26 hq26 => ?_)
                  obtain ⟨rfl, hq26⟩ := hq26
                  show V E (wC D cy aa ad) 13 m26 224 [(0, .ref (aa f)), (1, .ref (aa k)), (2, .ref (aa wo)), (3, .int (iz (s))), (4, .int (iz (xt))), (5, .int (iz (m kf (s * 9 + 0)))), (6, .int (iz (en - sp))), (7, .int (iz (le))), (8, .int (iz (fy))), (9, .int (iz (ti))), (11, .int (iz (sp))), (12, .int (iz (bt)))] []
                  refine v_aload_n C 0 dX2_burn_224 rfl ?_
                  refine v_dup C dX2_burn_225 rfl ?_
                  refine v_get C f 7 (FlightAt.l0 hfl) (FlightAt.e0 hfl _) rfl inX2 (by decide) rfl qw332 dX2_burn_226 ?_
                  refine v_iconst (z := 1) C dX2_burn_229 rfl ?_
                  refine v_iadd C dX2_burn_230 ?_
                  refine v_put C f 7 ((m26 f 7) + 1) 7 rfl (FlightAt.l0 hfl) (FlightAt.e0 hfl _) rfl inX2 tyX2 tyX2_ok nmX2 (by decide) qw332 rfl rfl rfl (Nat.le_of_ble_eq_true rfl) (by rw [mup_r]; exact (FlightAt.e0 hfl _)) dX2_burn_231 (fun m27 em27 => ?_)
                  refine v_iload C 7 dX2_burn_234 rfl ?_
                  refine v_iload C 11 dX2_burn_236 rfl ?_
                  refine v_isub C dX2_burn_238 ?_
                  refine v_istore (L1 := [(7, .int (iz (le - bt))), (0, .ref (aa f)), (1, .ref (aa k)), (2, .ref (aa wo)), (3, .int (iz (s))), (4, .int (iz (xt))), (5, .int (iz (m kf (s * 9 + 0)))), (6, .int (iz (en - sp))), (8, .int (iz (fy))), (9, .int (iz (ti))), (11, .int (iz (sp))), (12, .int (iz (bt)))]) C dX2_burn_239 (by decide) rfl ?_
                  refine v_iload C 8 dX2_burn_241 rfl ?_
                  refine v_iload C 11 dX2_burn_243 rfl ?_
                  refine v_isub C dX2_burn_245 ?_
                  refine v_istore (L1 := [(8, .int (iz (fy - bt))), (7, .int (iz (le - bt))), (0, .ref (aa f)), (1, .ref (aa k)), (2, .ref (aa wo)), (3, .int (iz (s))), (4, .int (iz (xt))), (5, .int (iz (m kf (s * 9 + 0)))), (6, .int (iz (en - sp))), (9, .int (iz (ti))), (11, .int (iz (sp))), (12, .int (iz (bt)))]) C dX2_burn_246 (by decide) rfl ?_
                  refine v_iinc (L1 := [(9, .int (iz (ti + 1))), (8, .int (iz (fy - bt))), (7, .int (iz (le - bt))), (0, .ref (aa f)), (1, .ref (aa k)), (2, .ref (aa wo)), (3, .int (iz (s))), (4, .int (iz (xt))), (5, .int (iz (m kf (s * 9 + 0)))), (6, .int (iz (en - sp))), (11, .int (iz (sp))), (12, .int (iz (bt)))]) C 9 dX2_burn_248 rfl (by decide) rfl ?_
                  refine v_goto (tgt := 39) C dX2_burn_251 (by decide) ?_
                  obtain ⟨n, rfl⟩ : ∃ c, n = c + 1 := ⟨n - 1, by omega⟩
                  rw [buF_s (by omega), hst, hbr, List.append_cons] at hB
                  have hpush := TkL.push hFn hT em17 hq19 hq20 hq21 hq22 hq23 hq26 em27
                  refine v_sub [3, 4, 5, 6, 7, 8, 9, 2, 1, 0] rfl ?_
                  exact ih39 (en - sp) (le - bt) (fy - bt) (ti + 1) (n) (acc ++ [(s, ti, fy, fy - (bt), en - (sp), 100 * (m kf (s * 9 + 5) * (en - (sp))) / fy)]) m27 (by exact hB) (by first | assumption | omega) (by 
                                        rw [← List.append_assoc]
                                        have z := hpush.1
                                        rw [hthr, Int.mul_comm 100] at z
                                        rw [Int.mul_comm 100]
                                        exact z
                                      ) (by rw [List.length_append]; show ((acc.length + 1 : Nat) : Int) = _; omega) (by clear hB hpush hend hff; omega) (by rw [hpush.2.1, h9]; omega) (by rw [hpush.2.2.1]; exact h8) (by intro q a1 a2 a3 a4 a5 a6 a7; rw [hpush.2.2.2 q a1 a2 a3 a4 a5 a6 a7]; exact hf q a1 a2 a3 a4 a5 a6 a7) (by omega)
                refine v_sub [3, 4, 5, 6, 7, 8, 1, 9, 10, 11, 2, 0] rfl ?_
                exact K132 (if le < (m17 kf (s * 9 + 6)) * (en - sp) then le else (m17 kf (s * 9 + 6)) * (en - sp))  (by unfold brnZ; rw [e112])
              refine v_iload C 6 dX2_burn_78 rfl ?_
              refine v_iconst (z := 2) C dX2_burn_80 rfl ?_
              refine v_icmp_ne (tgt := 88) C dX2_burn_81 (by decide) (by omega) (by omega) (fun c28 => ?_) (fun c28 => ?_)
              · refine v_iload C 0 dX2_burn_88 rfl ?_
                refine v_iload C 7 dX2_burn_90 rfl ?_
                refine v_mmin (st := []) C qw980 qw17 qw978 qw979 ⟨Nat.le_of_ble_eq_true rfl, Nat.le_of_ble_eq_true rfl⟩ (by omega) (by omega) (by decide) dX2_burn_92 ?_
                refine v_sub [1, 2, 3, 4, 5, 6, 7, 8, 9, 10] rfl ?_
                exact K95  (if en < zf + xo then en else zf + xo)  (by 
                                    unfold stopZ; rw [hfd]; unfold flZ
                                    try rw [hzf, hxo]
                                    first
                                      | rw [if_neg (show ¬ m kf (s * 9 + 0) = 2 by assumption)]
                                      | (rw [if_pos (show m kf (s * 9 + 0) = 2 by assumption), if_neg (by omega)])
                                  )
              · refine v_iconst (z := 0) C dX2_burn_84 rfl ?_
                refine v_goto (tgt := 95) C dX2_burn_85 (by decide) ?_
                refine v_sub [1, 2, 3, 4, 5, 6, 7, 8, 9, 10] rfl ?_
                exact K95  (0)  (by 
                                    unfold stopZ; rw [hfd]; unfold flZ
                                    try rw [hzf, hxo]
                                    first
                                      | rw [if_neg (show ¬ m kf (s * 9 + 0) = 2 by assumption)]
                                      | (rw [if_pos (show m kf (s * 9 + 0) = 2 by assumption), if_neg (by omega)])
                                  )
            refine v_iload C 9 dX2_burn_63 rfl ?_
            refine v_iload C 4 dX2_burn_65 rfl ?_
            refine v_icmp_ne (tgt := 74) C dX2_burn_67 (by decide) (by omega) (by omega) (fun c29 => ?_) (fun c29 => ?_)
            · refine v_iconst (z := 0) C dX2_burn_74 rfl ?_
              refine v_sub [0, 1, 2, 3, 4, 5, 6, 7, 8, 9] rfl ?_
              exact K75  (0) (faC (mL ks) (mL kt) (mL kc) s ti (mL k 6).toNat)  (by first | rw [if_pos (by assumption)] | rw [if_neg (by assumption)]) (by rw [eKs, eKt, eKc, eK6])
            · refine v_iconst (z := 1) C dX2_burn_70 rfl ?_
              refine v_goto (tgt := 75) C dX2_burn_71 (by decide) ?_
              refine v_sub [0, 1, 2, 3, 4, 5, 6, 7, 8, 9] rfl ?_
              exact K75  (1) (faC (mL ks) (mL kt) (mL kc) s ti (mL k 6).toNat)  (by first | rw [if_pos (by assumption)] | rw [if_neg (by assumption)]) (by rw [eKs, eKt, eKc, eK6])
  refine v_sub [5, 6, 7, 8, 9, 4, 3, 2, 1, 0] rfl ?_
  exact K39 _ (m kf (s * 9 + 4)) (m wu s) (m wt s) (1) (18) ([]) m (by rw [hR]; exact ⟨rfl, rfl⟩) (by first | assumption | omega) (by rw [List.append_nil]; exact hT0) (by rfl) (by first | assumption | omega) (by first | assumption | omega) (by first | assumption | omega) (by intro q _ _ _ _ _ _ _; rfl) (Nat.lt_succ_self _)
