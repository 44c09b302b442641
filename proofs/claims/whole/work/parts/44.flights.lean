def rkQ (pw : Int → Int → Prop) (i f le : Int) : Prop := (i = 0 ∧ le = 41 ∧ f = -2) ∨ (0 < i ∧ (1 ≤ f ∧ f ≤ i) ∧ pw (f - 1) le ∧ ∀ j : Int, 0 ≤ j → j < i → ∃ x, pw j x ∧ (le < x ∨ (le = x ∧ f - 1 ≤ j)))
theorem rkQ.p {pw : Int → Int → Prop} {i f le : Int} (h : rkQ pw i f le) : rkP pw i f := by
  rcases h with ⟨a, b, c⟩ | ⟨a, b, c, d⟩
  · exact Or.inl ⟨c, by omega⟩
  · exact Or.inr ⟨b, le, c, d⟩
theorem rkP_step {pw : Int → Int → Prop} {i f le y : Int} (h : rkQ pw i f le) (hy : pw i y) (hi : 0 ≤ i) : (y < le → rkQ pw (i + 1) (i + 1) y) ∧ (¬ y < le → y ≤ 40 → rkQ pw (i + 1) f le) := by
  have e : i + 1 - 1 = i := by omega
  rcases h with ⟨a, b, c⟩ | ⟨a, b, c, d⟩
  · refine ⟨fun hl => Or.inr ⟨by omega, by omega, by rw [e]; exact hy, fun j h0 h1 => ?_⟩, fun h1 h2 => by omega⟩
    rw [show j = i by omega]; exact ⟨y, hy, Or.inr ⟨rfl, by omega⟩⟩
  · refine ⟨fun hl => Or.inr ⟨by omega, by omega, by rw [e]; exact hy, fun j h0 h1 => ?_⟩, fun hl hy2 => Or.inr ⟨by omega, by omega, c, fun j h0 h1 => ?_⟩⟩
    · by_cases q : j = i
      · rw [q]; exact ⟨y, hy, Or.inr ⟨rfl, by omega⟩⟩
      · obtain ⟨x, x1, x2⟩ := d j h0 (by omega)
        exact ⟨x, x1, Or.inl (by omega)⟩
    · by_cases q : j = i
      · rw [q]; exact ⟨y, hy, by omega⟩
      · exact d j h0 (by omega)
set_option maxHeartbeats 4000000 in
set_option maxRecDepth 100000 in
theorem ct_StageRatios_flyAsItIs {lau : Launch} {D : va_G} {cy : Nat → ClassId} {aa ad : Nat → Nat} (hI : wI (wC D cy aa ad)) (m : Mem) (k kf ks kt kc : Nat) (hk : RocketAt k kf ks kt kc) (hcu : (m 0 13).toNat = k) (hti : TI m k kf ks kt kc) : MT lau (wC D cy aa ad) yX10_flyAsItIs cX10_flyAsItIs 1 (none) ({ frames := 4, cells := 0, slots := 0, locals := 102 } : Room) m [.ref (aa 0)] (Pv (fun m' => (TkL m' 59 60 61 62 63 64 65 (ftl (m kf) (m ks) (m kt) (m kc) (m k) (m 5) (-1) 0) ∧ m' 59 8 = drA (flS (m kf) (m ks) (m kt) (m kc) (m k) (m 5) (-1) 0) (m k 5).toNat ∧ m' 59 9 = spA (m kf) (flS (m kf) (m ks) (m kt) (m kc) (m k) (m 5) (-1) 0) (m k 5).toNat ∧ RatL m' 51 52 53 (fpl (m kf) (m ks) (m kt) (m kc) (m k) (m 5) (-1) 0)) ∧ (WtIs m' 19 21 22 (m kf) (m k 5) (m 5 0) (uX (m 5)) ∧ (∀ j : Int, 0 ≤ j → j < 3 → m' 20 j = uX (m 5) j)) ∧ (∀ q, (q < 19 ∨ (23 ≤ q ∧ q < 51) ∨ (54 ≤ q ∧ q < 59) ∨ 66 ≤ q) → m' q = m q))) := by
  refine v_entry hI RX10 (by decide) rfl (Nat.le_of_ble_eq_true rfl) (fun E hE C X => ?_)
  subst hE
  show V E (wC D cy aa ad) 1 m 0 [(0, .ref (aa 0))] []
  obtain ⟨hrk, hX, -⟩ := id hti
  obtain ⟨hk5, hF, hup, hlw, hpl, hnf, hfa, -⟩ := id hrk
  have hkk : 73 ≤ k ∧ 73 ≤ kf ∧ 73 ≤ ks ∧ 73 ≤ kt ∧ 73 ≤ kc := by unfold RocketAt at hk; omega
  have hUr := hX.u hF
  have hDv := hX.dv hF hk5
  have hvd := hti.vd
  have hfo : faOk (m ks) (m kt) (m kc) (m k) := ⟨hpl, hnf, hfa⟩
  refine v_aload_n C 0 dX10_flyAsItIs_0 rfl ?_
  refine v_callV (st := []) (n := 0) (q := 0) C [] (ct_StageRatios_weighAsItIs C.2.2.2.2.2.2.1 m (k) (kf) (ks) (kt) (kc) (by first | assumption | omega) (by first | assumption | omega) (by first | assumption | omega)) lC0 (eC0 _) rfl qw674 qw1 qw671 rfl rfl ⟨Nat.le_of_ble_eq_true rfl, Nat.le_of_ble_eq_true rfl⟩ (by decide +kernel) qw673 qp18 rfl rfl (Nat.le_of_ble_eq_true rfl) dX10_flyAsItIs_1 (fun r m1 hq1 => ?_)
  obtain ⟨rfl, hq1⟩ := hq1
  show V E (wC D cy aa ad) 1 m1 4 [(0, .ref (aa 0))] []
  have hW := hq1.1
  have hUu := hq1.2.1
  have o1 := hq1.2.2
  have hcu1 : (m1 0 13).toNat = k := by rw [o1 0 (by decide)]; exact hcu
  have k1 := o1 k (by omega)
  have kf1 := o1 kf (by omega)
  have ks1 := o1 ks (by omega)
  have kt1 := o1 kt (by omega)
  have kc1 := o1 kc (by omega)
  refine v_aload_n C 0 dX10_flyAsItIs_4 rfl ?_
  refine v_get C 0 11 lC0 (eC0 _) rfl inX10 (by decide) rfl qw430 dX10_flyAsItIs_5 ?_
  refine v_aload_n C 0 dX10_flyAsItIs_8 rfl ?_
  refine v_get C 0 13 lC0 (eC0 _) rfl inX10 (by decide) rfl qw432 dX10_flyAsItIs_9 ?_
  refine v_st (st1 := [.ref (aa k), .ref (aa 59)]) (by rw [show (m1 0 13).toNat = k from by assumption]) ?_
  refine v_aload_n C 0 dX10_flyAsItIs_12 rfl ?_
  refine v_get C 0 4 lC0 (eC0 _) rfl inX10 (by decide) rfl qw423 dX10_flyAsItIs_13 ?_
  refine v_iconst (z := -1) C dX10_flyAsItIs_16 rfl ?_
  refine v_iconst (z := 0) C dX10_flyAsItIs_17 rfl ?_
  refine v_callV (st := []) (n := 4) (q := 59) C [.ref (aa k), .ref (aa 19), .int (iz (-1)), .int (iz (0))] (ct_Flight_fly C.2.2.2.2.2.2.1 m1 (59) (60) (61) (62) (63) (64) (65) (51) (52) (53) (54) (19) (20) (21) (22) (k) (kf) (ks) (kt) (kc) (-1) (0) (by unfold FlightAt; decide) (by unfold WeightsAt; decide) hk (by exact hrk.fr k1 kf1 ks1 kt1 kc1) (by rw [k1, kf1]; intro s h0 h1; rw [hUu s h0 (by omega), (hW.2 s h0 h1).1]; exact hvd.ut s h0 h1) (by first | assumption | omega) (by first | assumption | omega)) lC59 (eC59 _) rfl qw966 qw14 qw963 rfl rfl ⟨Nat.le_of_ble_eq_true rfl, Nat.le_of_ble_eq_true rfl⟩ (by decide +kernel) qw964 qw965 rfl rfl (Nat.le_of_ble_eq_true rfl) dX10_flyAsItIs_18 (fun r m2 hq2 => ?_)
  obtain ⟨rfl, hq2⟩ := hq2
  show V E (wC D cy aa ad) 1 m2 21 [(0, .ref (aa 0))] []
  refine v_vret C X dX10_flyAsItIs_21 ⟨rfl, ?_⟩
  rw [k1, kf1, ks1, kt1, kc1] at hq2
  have eS : ∀ j9 : Int, 0 ≤ j9 → j9 < ((m k 5).toNat : Nat) → stA (m kf) (m ks) (m kt) (m kc) (m k 6).toNat (m1 20) (m1 21) (-1) 0 j9 = flS (m kf) (m ks) (m kt) (m kc) (m k) (m 5) (-1) 0 j9 := fun j9 h0 h1 => stA_cg (hUu j9 h0 (by omega)) ((hW.2 j9 h0 (by omega)).1)
  have eT := tkA_cg (m k 5).toNat eS
  have eD := drA_cg (m k 5).toNat eS
  have eP := spA_cg (fa := m kf) (m k 5).toNat eS
  have eR := prA_cg (fa := m kf) (m k 5).toNat (fun s h0 h1 => ⟨eS s h0 h1, ((hW.2 s h0 (by omega)).1 : _ = stX (m kf) (m k) (m 5) s)⟩)
  rw [eT, eD, eP, eR] at hq2
  have o2 : ∀ q, (q < 51 ∨ (54 ≤ q ∧ q < 59) ∨ 66 ≤ q) → m2 q = m1 q := fun q h => hq2.2.2.2.2 q (by omega) (by omega) (by omega) (by omega) (by omega) (by omega) (by omega) (by omega) (by omega) (by omega)
  exact ⟨⟨hq2.1, hq2.2.1, hq2.2.2.1, hq2.2.2.2.1⟩, ⟨⟨by rw [o2 19 (by decide)]; exact hW.1, fun s h0 h1 => by rw [o2 21 (by decide), o2 22 (by decide)]; exact hW.2 s h0 h1⟩, fun j h0 h1 => by rw [o2 20 (by decide)]; exact hUu j h0 h1⟩, fun q h => by rw [o2 q (by omega)]; exact o1 q (by omega)⟩

set_option maxHeartbeats 4000000 in
set_option maxRecDepth 100000 in
theorem ct_StageRatios_powerFlown {lau : Launch} {D : va_G} {cy : Nat → ClassId} {aa ad : Nat → Nat} (hI : wI (wC D cy aa ad)) (m : Mem) (f fs ft fa fb fr fp ro rb rp rr : Nat) (k kf ks kt kc : Nat) (l : List (Int × Int)) (hfl : FlightAt f fs ft fa fb fr fp ro rb rp rr) (hk : RocketAt k kf ks kt kc) (hcu : (m 0 13).toNat = k) (hrk : RkIs m k kf ks kt kc) (hl : RatL m ro rb rp l) (hok : RatOk l) (hwt : wtL l ≤ 200) (hn : 1 ≤ numL l ∧ numL l ≤ 2 ^ 450) (hd : 1 ≤ denL l ∧ denL l ≤ 2 ^ 450) : MT lau (wC D cy aa ad) yX10_powerFlown cX10_powerFlown 2 (some .int) ({ frames := 4, cells := 0, slots := 0, locals := 123 } : Room) m [.ref (aa 0), .ref (aa f)] (Pi (fun z m' => (PwIs (numL l) (denL l) (m k 2) (m k 3) z) ∧ (∀ q, q ≠ 15 → q ≠ 16 → q ≠ 17 → q ≠ 18 → m' q = m q))) := by
  refine v_entry hI RX10 (by decide) rfl (Nat.le_of_ble_eq_true rfl) (fun E hE C X => ?_)
  subst hE
  show V E (wC D cy aa ad) 2 m 0 [(0, .ref (aa 0)), (1, .ref (aa f))] []
  obtain ⟨-, -, hup, hlw, -⟩ := id hrk
  refine v_aload_n C 0 dX10_powerFlown_0 rfl ?_
  refine v_get C 0 8 lC0 (eC0 _) rfl inX10 (by decide) rfl qw427 dX10_powerFlown_1 ?_
  refine v_aload_n C 1 dX10_powerFlown_4 rfl ?_
  refine v_get C f 6 (FlightAt.l0 hfl) (FlightAt.e0 hfl _) rfl inX2 (by decide) rfl qw331 dX10_powerFlown_5 ?_
  refine v_aload_n C 0 dX10_powerFlown_8 rfl ?_
  refine v_get C 0 13 lC0 (eC0 _) rfl inX10 (by decide) rfl qw432 dX10_powerFlown_9 ?_
  refine v_st (st1 := [.ref (aa k), .ref (aa ro), .ref (aa 7)]) (by rw [show (m 0 13).toNat = k from by assumption]) ?_
  refine v_get C k 2 (RocketAt.l0 hk) (RocketAt.e0 hk _) rfl inX6 (by decide) rfl qw373 dX10_powerFlown_12 ?_
  refine v_aload_n C 0 dX10_powerFlown_15 rfl ?_
  refine v_get C 0 13 lC0 (eC0 _) rfl inX10 (by decide) rfl qw432 dX10_powerFlown_16 ?_
  refine v_st (st1 := [.ref (aa k), .int (iz (m k 2)), .ref (aa ro), .ref (aa 7)]) (by rw [show (m 0 13).toNat = k from by assumption]) ?_
  refine v_get C k 3 (RocketAt.l0 hk) (RocketAt.e0 hk _) rfl inX6 (by decide) rfl qw376 dX10_powerFlown_19 ?_
  refine v_callV (st := []) (n := 3) (q := 7) C [.ref (aa ro), .int (iz (m k 2)), .int (iz (m k 3))] (ct_Scale_powerOf C.2.2.2.2.2.2.1 m (ro) (rb) (rp) (rr) (l) (m k 2) (m k 3) (by unfold FlightAt at hfl; unfold RatioAt; omega) (by first | assumption | omega) (by first | assumption | omega) (by first | assumption | omega) (by exact le_560b hn.2) (by exact le_560b hd.2) (by first | assumption | omega) (by first | assumption | omega) (by exact nb_ok (by omega) hn.2 hlw.1 (by omega)) (by exact nb_ok (by omega) hd.2 (by omega) hup.2)) lC7 (eC7 _) rfl qw738 qw10 qw735 rfl rfl ⟨Nat.le_of_ble_eq_true rfl, Nat.le_of_ble_eq_true rfl⟩ (by decide +kernel) qw736 qw737 rfl rfl (Nat.le_of_ble_eq_true rfl) dX10_powerFlown_22 (fun r m1 hq1 => ?_)
  obtain ⟨z1, rfl, hq1, hm1⟩ := hq1
  show V E (wC D cy aa ad) 2 m1 25 [(0, .ref (aa 0)), (1, .ref (aa f))] [.int (iz (z1))]
  refine v_iret C X rfl dX10_powerFlown_25 ⟨_, rfl, ?_, ?_⟩
  · exact hq1
  · exact hm1

set_option maxHeartbeats 4000000 in
set_option maxRecDepth 100000 in
theorem ct_StageRatios_powerAtRisk {lau : Launch} {D : va_G} {cy : Nat → ClassId} {aa ad : Nat → Nat} (hI : wI (wC D cy aa ad)) (m : Mem) (k kf ks kt kc : Nat) (s w : Int) (hk : RocketAt k kf ks kt kc) (hcu : (m 0 13).toNat = k) (hti : TI m k kf ks kt kc) (hs : -2147483648 ≤ s ∧ s ≤ 2147483647) (hw0 : -2147483648 ≤ w ∧ w ≤ 2147483647) (hW : WtIs m 19 21 22 (m kf) (m k 5) (m 5 0) (uX (m 5))) (hUu : ∀ j : Int, 0 ≤ j → j < 3 → m 20 j = uX (m 5) j) : MT lau (wC D cy aa ad) yX10_powerAtRisk cX10_powerAtRisk 3 (some .int) ({ frames := 5, cells := 0, slots := 0, locals := 144 } : Room) m [.ref (aa 0), .int (iz (s)), .int (iz (w))] (Pi (fun z m' => (pfA (m kf) (m ks) (m kt) (m kc) (m k) (m 5) s w z) ∧ (∀ q, (q < 15 ∨ (19 ≤ q ∧ q < 55) ∨ (58 ≤ q ∧ q < 66) ∨ 73 ≤ q) → m' q = m q))) := by
  refine v_entry hI RX10 (by decide) rfl (Nat.le_of_ble_eq_true rfl) (fun E hE C X => ?_)
  subst hE
  show V E (wC D cy aa ad) 3 m 0 [(0, .ref (aa 0)), (1, .int (iz (s))), (2, .int (iz (w)))] []
  obtain ⟨hrk, hX, -⟩ := id hti
  obtain ⟨hk5, hF, hup, hlw, hpl, hnf, hfa, -⟩ := id hrk
  have hkk : 73 ≤ k ∧ 73 ≤ kf ∧ 73 ≤ ks ∧ 73 ≤ kt ∧ 73 ≤ kc := by unfold RocketAt at hk; omega
  have hUr := hX.u hF
  have hDv := hX.dv hF hk5
  have hvd := hti.vd
  have hfo : faOk (m ks) (m kt) (m kc) (m k) := ⟨hpl, hnf, hfa⟩
  obtain ⟨ok1, ok2, ok3, ok4, ok5⟩ := fpl_ok (xs := s) (xt := w) hvd hfo
  refine v_aload_n C 0 dX10_powerAtRisk_0 rfl ?_
  refine v_get C 0 12 lC0 (eC0 _) rfl inX10 (by decide) rfl qw431 dX10_powerAtRisk_1 ?_
  refine v_aload_n C 0 dX10_powerAtRisk_4 rfl ?_
  refine v_get C 0 13 lC0 (eC0 _) rfl inX10 (by decide) rfl qw432 dX10_powerAtRisk_5 ?_
  refine v_st (st1 := [.ref (aa k), .ref (aa 66)]) (by rw [show (m 0 13).toNat = k from by assumption]) ?_
  refine v_aload_n C 0 dX10_powerAtRisk_8 rfl ?_
  refine v_get C 0 4 lC0 (eC0 _) rfl inX10 (by decide) rfl qw423 dX10_powerAtRisk_9 ?_
  refine v_iload_n C 1 dX10_powerAtRisk_12 rfl ?_
  refine v_iload_n C 2 dX10_powerAtRisk_13 rfl ?_
  refine v_callV (st := []) (n := 4) (q := 66) C [.ref (aa k), .ref (aa 19), .int (iz (s)), .int (iz (w))] (ct_Flight_fly C.2.2.2.2.2.2.1 m (66) (67) (68) (69) (70) (71) (72) (55) (56) (57) (58) (19) (20) (21) (22) (k) (kf) (ks) (kt) (kc) (s) (w) (by unfold FlightAt; decide) (by unfold WeightsAt; decide) hk (by first | assumption | omega) (by intro s h0 h1; rw [hUu s h0 (by omega), (hW.2 s h0 h1).1]; exact hvd.ut s h0 h1) (by first | assumption | omega) (by first | assumption | omega)) lC66 (eC66 _) rfl qw966 qw14 qw963 rfl rfl ⟨Nat.le_of_ble_eq_true rfl, Nat.le_of_ble_eq_true rfl⟩ (by decide +kernel) qw964 qw965 rfl rfl (Nat.le_of_ble_eq_true rfl) dX10_powerAtRisk_14 (fun r m1 hq1 => ?_)
  obtain ⟨rfl, hq1⟩ := hq1
  show V E (wC D cy aa ad) 3 m1 17 [(0, .ref (aa 0)), (1, .int (iz (s))), (2, .int (iz (w)))] []
  have eS : ∀ j9 : Int, 0 ≤ j9 → j9 < ((m k 5).toNat : Nat) → stA (m kf) (m ks) (m kt) (m kc) (m k 6).toNat (m 20) (m 21) s w j9 = flS (m kf) (m ks) (m kt) (m kc) (m k) (m 5) s w j9 := fun j9 h0 h1 => stA_cg (hUu j9 h0 (by omega)) ((hW.2 j9 h0 (by omega)).1)
  have eT := tkA_cg (m k 5).toNat eS
  have eD := drA_cg (m k 5).toNat eS
  have eP := spA_cg (fa := m kf) (m k 5).toNat eS
  have eR := prA_cg (fa := m kf) (m k 5).toNat (fun s h0 h1 => ⟨eS s h0 h1, ((hW.2 s h0 (by omega)).1 : _ = stX (m kf) (m k) (m 5) s)⟩)
  rw [eT, eD, eP, eR] at hq1
  have zl := hq1.2.2.2.1
  have o2 : ∀ q, (q < 55 ∨ (58 ≤ q ∧ q < 66) ∨ 73 ≤ q) → m1 q = m q := fun q h => hq1.2.2.2.2 q (by omega) (by omega) (by omega) (by omega) (by omega) (by omega) (by omega) (by omega) (by omega) (by omega)
  have hcu1 : (m1 0 13).toNat = k := by rw [o2 0 (by decide)]; exact hcu
  have k1 := o2 k (by omega)
  refine v_aload_n C 0 dX10_powerAtRisk_17 rfl ?_
  refine v_aload_n C 0 dX10_powerAtRisk_18 rfl ?_
  refine v_get C 0 12 lC0 (eC0 _) rfl inX10 (by decide) rfl qw431 dX10_powerAtRisk_19 ?_
  refine v_callV (st := []) (n := 1) (q := 0) C [.ref (aa 66)] (ct_StageRatios_powerFlown C.2.2.2.2.2.2.1 m1 (66) (67) (68) (69) (70) (71) (72) (55) (56) (57) (58) (k) (kf) (ks) (kt) (kc) (fpl (m kf) (m ks) (m kt) (m kc) (m k) (m 5) s w) (by unfold FlightAt; decide) (by first | assumption | omega) (by first | assumption | omega) (by exact hrk.fr k1 (o2 kf (by omega)) (o2 ks (by omega)) (o2 kt (by omega)) (o2 kc (by omega))) (by exact zl) (by exact ok1) (by exact ok2) (by exact ok3) (by exact ⟨ok4, ok5⟩)) lC0 (eC0 _) rfl qw996 qw1 qw993 rfl rfl ⟨Nat.le_of_ble_eq_true rfl, Nat.le_of_ble_eq_true rfl⟩ (by decide +kernel) qw995 qp30 rfl rfl (Nat.le_of_ble_eq_true rfl) dX10_powerAtRisk_22 (fun r m2 hq2 => ?_)
  obtain ⟨z2, rfl, hq2, hm2⟩ := hq2
  show V E (wC D cy aa ad) 3 m2 25 [(0, .ref (aa 0)), (1, .int (iz (s))), (2, .int (iz (w)))] [.int (iz (z2))]
  refine v_iret C X rfl dX10_powerAtRisk_25 ⟨_, rfl, ?_, ?_⟩
  · rw [k1] at hq2; exact hq2
  · exact fun q h => by rw [hm2 q (by omega) (by omega) (by omega) (by omega)]; exact o2 q (by omega)

set_option maxHeartbeats 4000000 in
set_option maxRecDepth 100000 in
theorem ct_StageRatios_flight {lau : Launch} {D : va_G} {cy : Nat → ClassId} {aa ad : Nat → Nat} (hI : wI (wC D cy aa ad)) (m : Mem) (k kf ks kt kc : Nat) (w : Int) (hci : CI m k kf ks kt kc) (hw : -2147483648 ≤ w ∧ w ≤ 2147483647) : MT lau (wC D cy aa ad) yX10_flight cX10_flight 2 (some .int) ({ frames := 5, cells := 0, slots := 0, locals := 144 } : Room) m [.ref (aa 0), .int (iz (w))] (Pi (fun z m' => (QP (qFli (m 0 15) (m kf) (m ks) (m kt) (m kc) (m k) (m 5) w) m m' z) ∧ CI m' k kf ks kt kc)) := by
  refine v_entry hI RX10 (by decide) rfl (Nat.le_of_ble_eq_true rfl) (fun E hE C X => ?_)
  subst hE
  show V E (wC D cy aa ad) 2 m 0 [(0, .ref (aa 0)), (1, .int (iz (w)))] []
  obtain ⟨hk, hcu, htd, -⟩ := id hci
  have ht01 : m 0 15 = 0 ∨ m 0 15 = 1 := htd.imp (fun a => a) (fun a => a.1)
  refine v_aload_n C 0 dX10_flight_0 rfl ?_
  refine v_get C 0 15 lC0 (eC0 _) rfl inX10 (by decide) rfl qw434 dX10_flight_1 ?_
  refine v_if_eq (tgt := 16) C dX10_flight_4 (by decide) (by omega) (fun c1 => ?_) (fun c1 => ?_)
  · refine v_aload_n C 0 dX10_flight_16 rfl ?_
    refine v_iconst (z := 1) C dX10_flight_17 rfl ?_
    refine v_callV (st := []) (n := 1) (q := 0) C [.int (iz (1))] (ct_StageRatios_refuse C.2.2.2.2.2.2.1 m (1) ) lC0 (eC0 _) rfl qw502 qw1 qw499 rfl rfl ⟨Nat.le_of_ble_eq_true rfl, Nat.le_of_ble_eq_true rfl⟩ (by decide +kernel) qw501 qp0 rfl rfl (Nat.le_of_ble_eq_true rfl) dX10_flight_18 (fun r m2 hq2 => ?_)
    obtain ⟨z2, rfl, rfl, hq2⟩ := hq2
    show V E (wC D cy aa ad) 2 m2 21 [(0, .ref (aa 0)), (1, .int (iz (w)))] [.int (iz (-1))]
    refine v_iret C X rfl dX10_flight_21 ⟨_, rfl, ?_, ?_⟩
    · rw [← hq2]
      exact ⟨1, Or.inr ⟨fun h => by omega, rfl, rfl⟩, by decide, CQ.of (fun _ _ => rfl)⟩
    · rw [← hq2]; exact hci.of (fun _ _ => rfl)
  · refine v_iload_n C 1 dX10_flight_7 rfl ?_
    refine v_if_lt (tgt := 16) C dX10_flight_8 (by decide) (by omega) (fun c3 => ?_) (fun c3 => ?_)
    · refine v_aload_n C 0 dX10_flight_16 rfl ?_
      refine v_iconst (z := 1) C dX10_flight_17 rfl ?_
      refine v_callV (st := []) (n := 1) (q := 0) C [.int (iz (1))] (ct_StageRatios_refuse C.2.2.2.2.2.2.1 m (1) ) lC0 (eC0 _) rfl qw502 qw1 qw499 rfl rfl ⟨Nat.le_of_ble_eq_true rfl, Nat.le_of_ble_eq_true rfl⟩ (by decide +kernel) qw501 qp0 rfl rfl (Nat.le_of_ble_eq_true rfl) dX10_flight_18 (fun r m4 hq4 => ?_)
      obtain ⟨z4, rfl, rfl, hq4⟩ := hq4
      show V E (wC D cy aa ad) 2 m4 21 [(0, .ref (aa 0)), (1, .int (iz (w)))] [.int (iz (-1))]
      refine v_iret C X rfl dX10_flight_21 ⟨_, rfl, ?_, ?_⟩
      · rw [← hq4]
        exact ⟨1, Or.inr ⟨fun h => by omega, rfl, rfl⟩, by decide, CQ.of (fun _ _ => rfl)⟩
      · rw [← hq4]; exact hci.of (fun _ _ => rfl)
    · refine v_iload_n C 1 dX10_flight_11 rfl ?_
      refine v_iconst (z := 5) C dX10_flight_12 rfl ?_
      refine v_icmp_le (tgt := 22) C dX10_flight_13 (by decide) (by omega) (by omega) (fun c5 => ?_) (fun c5 => ?_)
      · obtain ⟨hT1, hti⟩ := htd.resolve_left (by omega)
        obtain ⟨hrk, hX, -⟩ := id hti
        obtain ⟨hk5, hF, hup, hlw, hpl, hnf, hfa, -⟩ := id hrk
        have hkk : 73 ≤ k ∧ 73 ≤ kf ∧ 73 ≤ ks ∧ 73 ≤ kt ∧ 73 ≤ kc := by unfold RocketAt at hk; omega
        have hUr := hX.u hF
        have hDv := hX.dv hF hk5
        have hvd := hti.vd
        have hfo : faOk (m ks) (m kt) (m kc) (m k) := ⟨hpl, hnf, hfa⟩
        refine v_aload_n C 0 dX10_flight_22 rfl ?_
        refine v_callV (st := []) (n := 0) (q := 0) C [] (ct_StageRatios_flyAsItIs C.2.2.2.2.2.2.1 m (k) (kf) (ks) (kt) (kc) (by first | assumption | omega) (by first | assumption | omega) (by first | assumption | omega)) lC0 (eC0 _) rfl qw962 qw1 qw959 rfl rfl ⟨Nat.le_of_ble_eq_true rfl, Nat.le_of_ble_eq_true rfl⟩ (by decide +kernel) qw961 qp28 rfl rfl (Nat.le_of_ble_eq_true rfl) dX10_flight_23 (fun r m6 hq6 => ?_)
        obtain ⟨rfl, hq6⟩ := hq6
        show V E (wC D cy aa ad) 2 m6 26 [(0, .ref (aa 0)), (1, .int (iz (w)))] []
        have hTk := hq6.1.1
        have hdr8 := hq6.1.2.1
        have hst9 := hq6.1.2.2.1
        have hRl := hq6.1.2.2.2
        have hW := hq6.2.1.1
        have hUu := hq6.2.1.2
        have o1 := hq6.2.2
        have hcu1 : (m6 0 13).toNat = k := by rw [o1 0 (by decide)]; exact hcu
        have k1 := o1 k (by omega)
        have e7 := hTk.1
        have hle := ftl_len (xs := -1) (xt := 0) hvd hfo
        have hpr : ∀ i : Int, 0 ≤ i → i < m6 59 7 → -2147483648 ≤ m6 65 i ∧ m6 65 i ≤ 2147483647 := fun i h0 h1 => by
          obtain ⟨q, hq⟩ : ∃ q, (ftl (m kf) (m ks) (m kt) (m kc) (m k) (m 5) (-1) 0)[i.toNat]? = some q := ⟨_, List.getElem?_eq_getElem (by omega)⟩
          have y := (hTk.2 _ q hq).2.2.2.2.2
          rw [show ((i.toNat : Nat) : Int) = i by omega] at y
          have z := ftl_rng hvd hfo q (List.mem_of_getElem? hq)
          omega
        have emn : mnA (m6 65) (m6 59 7).toNat = mnA (pshF (ftl (m kf) (m ks) (m kt) (m kc) (m k) (m 5) (-1) 0)) (ftl (m kf) (m ks) (m kt) (m kc) (m k) (m 5) (-1) 0).length := by rw [e7, Int.toNat_natCast]; exact mnA_cg _ (fun i h0 h1 => hTk.psh i h0 h1)
        obtain ⟨ok1, ok2, ok3, ok4, ok5⟩ := fpl_ok (xs := -1) (xt := 0) hvd hfo
        refine v_iload_n C 1 dX10_flight_26 rfl ?_
        refine v_table C dX10_flight_27 (by omega) (fun tgt ht c7 => ?_) (fun tgt off c7a c7b ho ht => ?_) ⟨120, by decide⟩ (fun ha hb => ?_)
        · obtain rfl : tgt = 120 := by omega
          refine v_aload_n C 0 dX10_flight_120 rfl ?_
          refine v_aload_n C 0 dX10_flight_121 rfl ?_
          refine v_aload_n C 0 dX10_flight_122 rfl ?_
          refine v_get C 0 11 lC0 (eC0 _) rfl inX10 (by decide) rfl qw430 dX10_flight_123 ?_
          refine v_callV (st := [.ref (aa 0)]) (n := 1) (q := 0) C [.ref (aa 59)] (ct_StageRatios_powerFlown C.2.2.2.2.2.2.1 m6 (59) (60) (61) (62) (63) (64) (65) (51) (52) (53) (54) (k) (kf) (ks) (kt) (kc) (fpl (m kf) (m ks) (m kt) (m kc) (m k) (m 5) (-1) 0) (by unfold FlightAt; decide) (by first | assumption | omega) (by first | assumption | omega) (by exact hrk.fr k1 (o1 kf (by omega)) (o1 ks (by omega)) (o1 kt (by omega)) (o1 kc (by omega))) (by exact hRl) (by exact ok1) (by exact ok2) (by exact ok3) (by exact ⟨ok4, ok5⟩)) lC0 (eC0 _) rfl qw996 qw1 qw993 rfl rfl ⟨Nat.le_of_ble_eq_true rfl, Nat.le_of_ble_eq_true rfl⟩ (by decide +kernel) qw995 qp30 rfl rfl (Nat.le_of_ble_eq_true rfl) dX10_flight_126 (fun r m8 hq8 => ?_)
          obtain ⟨z8, rfl, hq8, hm8⟩ := hq8
          show V E (wC D cy aa ad) 2 m8 129 [(0, .ref (aa 0)), (1, .int (iz (w)))] [.int (iz (z8)), .ref (aa 0)]
          refine v_callV (st := []) (n := 1) (q := 0) C [.int (iz (z8))] (ct_StageRatios_answer C.2.2.2.2.2.2.1 m8 (z8) ) lC0 (eC0 _) rfl qw640 qw1 qw637 rfl rfl ⟨Nat.le_of_ble_eq_true rfl, Nat.le_of_ble_eq_true rfl⟩ (by decide +kernel) qw639 qp16 rfl rfl (Nat.le_of_ble_eq_true rfl) dX10_flight_129 (fun r m9 hq9 => ?_)
          obtain ⟨z9, rfl, rfl, hq9⟩ := hq9
          show V E (wC D cy aa ad) 2 m9 132 [(0, .ref (aa 0)), (1, .int (iz (w)))] [.int (iz (z8))]
          refine v_iret C X rfl dX10_flight_132 ⟨_, rfl, ?_, ?_⟩
          · rw [← hq9]
            refine ⟨0, ?_, by decide, CQ.of (fun q h => by rw [hm8 q (by omega) (by omega) (by omega) (by omega)]; exact o1 q (by omega))⟩
            obtain rfl : w = 5 := by omega
            exact Or.inl ⟨hT1, ⟨by omega, by omega⟩, rfl, fun h => by omega, fun h => by omega, fun h => by omega, fun h => by omega, fun h => by omega, fun _ => by rw [k1] at hq8; exact hq8⟩
          · rw [← hq9]; exact hci.of (fun q h => by rw [hm8 q (by omega) (by omega) (by omega) (by omega)]; exact o1 q (by omega))
        · rcases (show w = 0 ∨ w = 1 ∨ w = 2 ∨ w = 3 ∨ w = 4 by omega) with c7 | c7 | c7 | c7 | c7
          · have ho : off = 33 := by rw [c7] at ho; exact (Option.some.inj ho).symm
            obtain rfl : tgt = 60 := by omega
            refine v_aload_n C 0 dX10_flight_60 rfl ?_
            refine v_aload_n C 0 dX10_flight_61 rfl ?_
            refine v_get C 0 11 lC0 (eC0 _) rfl inX10 (by decide) rfl qw430 dX10_flight_62 ?_
            refine v_get C 59 7 lC59 (eC59 _) rfl inX2 (by decide) rfl qw333 dX10_flight_65 ?_
            refine v_callV (st := []) (n := 1) (q := 0) C [.int (iz (m6 59 7))] (ct_StageRatios_answer C.2.2.2.2.2.2.1 m6 (m6 59 7) ) lC0 (eC0 _) rfl qw640 qw1 qw637 rfl rfl ⟨Nat.le_of_ble_eq_true rfl, Nat.le_of_ble_eq_true rfl⟩ (by decide +kernel) qw639 qp16 rfl rfl (Nat.le_of_ble_eq_true rfl) dX10_flight_68 (fun r m10 hq10 => ?_)
            obtain ⟨z10, rfl, rfl, hq10⟩ := hq10
            show V E (wC D cy aa ad) 2 m10 71 [(0, .ref (aa 0)), (1, .int (iz (w)))] [.int (iz ((m6 59 7)))]
            refine v_iret C X rfl dX10_flight_71 ⟨_, rfl, ?_, ?_⟩
            · rw [← hq10]
              refine ⟨0, ?_, by decide, CQ.of (fun q h => o1 q (by omega))⟩
              obtain rfl : w = 0 := by omega
              exact Or.inl ⟨hT1, ⟨by omega, by omega⟩, rfl, fun _ => e7, fun h => by omega, fun h => by omega, fun h => by omega, fun h => by omega, fun h => by omega⟩
            · rw [← hq10]; exact hci.of (fun q h => o1 q (by omega))
          · have ho : off = 45 := by rw [c7] at ho; exact (Option.some.inj ho).symm
            obtain rfl : tgt = 72 := by omega
            refine v_aload_n C 0 dX10_flight_72 rfl ?_
            refine v_aload_n C 0 dX10_flight_73 rfl ?_
            refine v_get C 0 11 lC0 (eC0 _) rfl inX10 (by decide) rfl qw430 dX10_flight_74 ?_
            refine v_callV (st := [.ref (aa 0)]) (n := 0) (q := 59) C [] (ct_Flight_leastPush C.2.2.2.2.2.2.1 m6 (59) (60) (61) (62) (63) (64) (65) (51) (52) (53) (54) (by unfold FlightAt; decide) (by omega) (by exact hpr)) lC59 (eC59 _) rfl qw987 qw14 qw984 rfl rfl ⟨Nat.le_of_ble_eq_true rfl, Nat.le_of_ble_eq_true rfl⟩ (by decide +kernel) qw985 qw986 rfl rfl (Nat.le_of_ble_eq_true rfl) dX10_flight_77 (fun r m11 hq11 => ?_)
            obtain ⟨z11, rfl, rfl, rfl⟩ := hq11
            show V E (wC D cy aa ad) 2 m6 80 [(0, .ref (aa 0)), (1, .int (iz (w)))] [.int (iz ((if mnA (m6 65) (m6 59 7).toNat < 1 then -2 else m6 65 (mnA (m6 65) (m6 59 7).toNat - 1)))), .ref (aa 0)]
            refine v_callV (st := []) (n := 1) (q := 0) C [.int (iz ((if mnA (m6 65) (m6 59 7).toNat < 1 then -2 else m6 65 (mnA (m6 65) (m6 59 7).toNat - 1))))] (ct_StageRatios_answer C.2.2.2.2.2.2.1 m6 ((if mnA (m6 65) (m6 59 7).toNat < 1 then -2 else m6 65 (mnA (m6 65) (m6 59 7).toNat - 1))) ) lC0 (eC0 _) rfl qw640 qw1 qw637 rfl rfl ⟨Nat.le_of_ble_eq_true rfl, Nat.le_of_ble_eq_true rfl⟩ (by decide +kernel) qw639 qp16 rfl rfl (Nat.le_of_ble_eq_true rfl) dX10_flight_80 (fun r m12 hq12 => ?_)
            obtain ⟨z12, rfl, rfl, hq12⟩ := hq12
            show V E (wC D cy aa ad) 2 m12 83 [(0, .ref (aa 0)), (1, .int (iz (w)))] [.int (iz (((if mnA (m6 65) (m6 59 7).toNat < 1 then -2 else m6 65 (mnA (m6 65) (m6 59 7).toNat - 1)))))]
            refine v_iret C X rfl dX10_flight_83 ⟨_, rfl, ?_, ?_⟩
            · rw [← hq12]
              refine ⟨0, ?_, by decide, CQ.of (fun q h => o1 q (by omega))⟩
              obtain rfl : w = 1 := by omega
              exact Or.inl ⟨hT1, ⟨by omega, by omega⟩, rfl, fun h => by omega, fun _ => by
                  rw [emn]
                  split
                  · rfl
                  · rename_i hc
                    have r := mnA_rng (pshF (ftl (m kf) (m ks) (m kt) (m kc) (m k) (m 5) (-1) 0)) (ftl (m kf) (m ks) (m kt) (m kc) (m k) (m 5) (-1) 0).length
                    have hl0 : 0 < (ftl (m kf) (m ks) (m kt) (m kc) (m k) (m 5) (-1) 0).length := by
                      apply Classical.byContradiction; intro y
                      have := r.1 (by omega); omega
                    have r2 := r.2 hl0
                    exact hTk.psh _ (by omega) (by omega), fun h => by omega, fun h => by omega, fun h => by omega, fun h => by omega⟩
            · rw [← hq12]; exact hci.of (fun q h => o1 q (by omega))
          · have ho : off = 57 := by rw [c7] at ho; exact (Option.some.inj ho).symm
            obtain rfl : tgt = 84 := by omega
            refine v_aload_n C 0 dX10_flight_84 rfl ?_
            refine v_aload_n C 0 dX10_flight_85 rfl ?_
            refine v_get C 0 11 lC0 (eC0 _) rfl inX10 (by decide) rfl qw430 dX10_flight_86 ?_
            refine v_callV (st := [.ref (aa 0)]) (n := 0) (q := 59) C [] (ct_Flight_firstOfLeastPush C.2.2.2.2.2.2.1 m6 (59) (60) (61) (62) (63) (64) (65) (51) (52) (53) (54) (by unfold FlightAt; decide) (by omega) (by exact hpr)) lC59 (eC59 _) rfl qw991 qw14 qw992 rfl rfl ⟨Nat.le_of_ble_eq_true rfl, Nat.le_of_ble_eq_true rfl⟩ (by decide +kernel) qw989 qw990 rfl rfl (Nat.le_of_ble_eq_true rfl) dX10_flight_89 (fun r m13 hq13 => ?_)
            obtain ⟨z13, rfl, rfl, rfl⟩ := hq13
            show V E (wC D cy aa ad) 2 m6 92 [(0, .ref (aa 0)), (1, .int (iz (w)))] [.int (iz (mnA (m6 65) (m6 59 7).toNat)), .ref (aa 0)]
            refine v_callV (st := []) (n := 1) (q := 0) C [.int (iz (mnA (m6 65) (m6 59 7).toNat))] (ct_StageRatios_answer C.2.2.2.2.2.2.1 m6 (mnA (m6 65) (m6 59 7).toNat) ) lC0 (eC0 _) rfl qw640 qw1 qw637 rfl rfl ⟨Nat.le_of_ble_eq_true rfl, Nat.le_of_ble_eq_true rfl⟩ (by decide +kernel) qw639 qp16 rfl rfl (Nat.le_of_ble_eq_true rfl) dX10_flight_92 (fun r m14 hq14 => ?_)
            obtain ⟨z14, rfl, rfl, hq14⟩ := hq14
            show V E (wC D cy aa ad) 2 m14 95 [(0, .ref (aa 0)), (1, .int (iz (w)))] [.int (iz ((mnA (m6 65) (m6 59 7).toNat)))]
            refine v_iret C X rfl dX10_flight_95 ⟨_, rfl, ?_, ?_⟩
            · rw [← hq14]
              refine ⟨0, ?_, by decide, CQ.of (fun q h => o1 q (by omega))⟩
              obtain rfl : w = 2 := by omega
              exact Or.inl ⟨hT1, ⟨by omega, by omega⟩, rfl, fun h => by omega, fun h => by omega, fun _ => emn, fun h => by omega, fun h => by omega, fun h => by omega⟩
            · rw [← hq14]; exact hci.of (fun q h => o1 q (by omega))
          · have ho : off = 69 := by rw [c7] at ho; exact (Option.some.inj ho).symm
            obtain rfl : tgt = 96 := by omega
            refine v_aload_n C 0 dX10_flight_96 rfl ?_
            refine v_aload_n C 0 dX10_flight_97 rfl ?_
            refine v_get C 0 11 lC0 (eC0 _) rfl inX10 (by decide) rfl qw430 dX10_flight_98 ?_
            refine v_get C 59 8 lC59 (eC59 _) rfl inX2 (by decide) rfl qw335 dX10_flight_101 ?_
            refine v_callV (st := []) (n := 1) (q := 0) C [.int (iz (m6 59 8))] (ct_StageRatios_answer C.2.2.2.2.2.2.1 m6 (m6 59 8) ) lC0 (eC0 _) rfl qw640 qw1 qw637 rfl rfl ⟨Nat.le_of_ble_eq_true rfl, Nat.le_of_ble_eq_true rfl⟩ (by decide +kernel) qw639 qp16 rfl rfl (Nat.le_of_ble_eq_true rfl) dX10_flight_104 (fun r m15 hq15 => ?_)
            obtain ⟨z15, rfl, rfl, hq15⟩ := hq15
            show V E (wC D cy aa ad) 2 m15 107 [(0, .ref (aa 0)), (1, .int (iz (w)))] [.int (iz ((m6 59 8)))]
            refine v_iret C X rfl dX10_flight_107 ⟨_, rfl, ?_, ?_⟩
            · rw [← hq15]
              refine ⟨0, ?_, by decide, CQ.of (fun q h => o1 q (by omega))⟩
              obtain rfl : w = 3 := by omega
              exact Or.inl ⟨hT1, ⟨by omega, by omega⟩, rfl, fun h => by omega, fun h => by omega, fun h => by omega, fun _ => hdr8, fun h => by omega, fun h => by omega⟩
            · rw [← hq15]; exact hci.of (fun q h => o1 q (by omega))
          · have ho : off = 81 := by rw [c7] at ho; exact (Option.some.inj ho).symm
            obtain rfl : tgt = 108 := by omega
            refine v_aload_n C 0 dX10_flight_108 rfl ?_
            refine v_aload_n C 0 dX10_flight_109 rfl ?_
            refine v_get C 0 11 lC0 (eC0 _) rfl inX10 (by decide) rfl qw430 dX10_flight_110 ?_
            refine v_get C 59 9 lC59 (eC59 _) rfl inX2 (by decide) rfl qw337 dX10_flight_113 ?_
            refine v_callV (st := []) (n := 1) (q := 0) C [.int (iz (m6 59 9))] (ct_StageRatios_answer C.2.2.2.2.2.2.1 m6 (m6 59 9) ) lC0 (eC0 _) rfl qw640 qw1 qw637 rfl rfl ⟨Nat.le_of_ble_eq_true rfl, Nat.le_of_ble_eq_true rfl⟩ (by decide +kernel) qw639 qp16 rfl rfl (Nat.le_of_ble_eq_true rfl) dX10_flight_116 (fun r m16 hq16 => ?_)
            obtain ⟨z16, rfl, rfl, hq16⟩ := hq16
            show V E (wC D cy aa ad) 2 m16 119 [(0, .ref (aa 0)), (1, .int (iz (w)))] [.int (iz ((m6 59 9)))]
            refine v_iret C X rfl dX10_flight_119 ⟨_, rfl, ?_, ?_⟩
            · rw [← hq16]
              refine ⟨0, ?_, by decide, CQ.of (fun q h => o1 q (by omega))⟩
              obtain rfl : w = 4 := by omega
              exact Or.inl ⟨hT1, ⟨by omega, by omega⟩, rfl, fun h => by omega, fun h => by omega, fun h => by omega, fun h => by omega, fun _ => hst9, fun h => by omega⟩
            · rw [← hq16]; exact hci.of (fun q h => o1 q (by omega))
        · rcases (show w = 0 ∨ w = 1 ∨ w = 2 ∨ w = 3 ∨ w = 4 by omega) with c7 | c7 | c7 | c7 | c7
          · exact ⟨60, 33, by rw [c7]; rfl, by decide⟩
          · exact ⟨72, 45, by rw [c7]; rfl, by decide⟩
          · exact ⟨84, 57, by rw [c7]; rfl, by decide⟩
          · exact ⟨96, 69, by rw [c7]; rfl, by decide⟩
          · exact ⟨108, 81, by rw [c7]; rfl, by decide⟩
      · refine v_aload_n C 0 dX10_flight_16 rfl ?_
        refine v_iconst (z := 1) C dX10_flight_17 rfl ?_
        refine v_callV (st := []) (n := 1) (q := 0) C [.int (iz (1))] (ct_StageRatios_refuse C.2.2.2.2.2.2.1 m (1) ) lC0 (eC0 _) rfl qw502 qw1 qw499 rfl rfl ⟨Nat.le_of_ble_eq_true rfl, Nat.le_of_ble_eq_true rfl⟩ (by decide +kernel) qw501 qp0 rfl rfl (Nat.le_of_ble_eq_true rfl) dX10_flight_18 (fun r m17 hq17 => ?_)
        obtain ⟨z17, rfl, rfl, hq17⟩ := hq17
        show V E (wC D cy aa ad) 2 m17 21 [(0, .ref (aa 0)), (1, .int (iz (w)))] [.int (iz (-1))]
        refine v_iret C X rfl dX10_flight_21 ⟨_, rfl, ?_, ?_⟩
        · rw [← hq17]
          exact ⟨1, Or.inr ⟨fun h => by omega, rfl, rfl⟩, by decide, CQ.of (fun _ _ => rfl)⟩
        · rw [← hq17]; exact hci.of (fun _ _ => rfl)

set_option maxHeartbeats 4000000 in
set_option maxRecDepth 100000 in
theorem ct_StageRatios_tick {lau : Launch} {D : va_G} {cy : Nat → ClassId} {aa ad : Nat → Nat} (hI : wI (wC D cy aa ad)) (m : Mem) (k kf ks kt kc : Nat) (i w : Int) (hci : CI m k kf ks kt kc) (hi : -2147483648 ≤ i ∧ i ≤ 2147483647) (hw : -2147483648 ≤ w ∧ w ≤ 2147483647) : MT lau (wC D cy aa ad) yX10_tick cX10_tick 3 (some .int) ({ frames := 5, cells := 0, slots := 0, locals := 122 } : Room) m [.ref (aa 0), .int (iz (i)), .int (iz (w))] (Pi (fun z m' => (QP (qTic (m 0 15) (m kf) (m ks) (m kt) (m kc) (m k) (m 5) i w) m m' z) ∧ CI m' k kf ks kt kc)) := by
  refine v_entry hI RX10 (by decide) rfl (Nat.le_of_ble_eq_true rfl) (fun E hE C X => ?_)
  subst hE
  show V E (wC D cy aa ad) 3 m 0 [(0, .ref (aa 0)), (1, .int (iz (i))), (2, .int (iz (w)))] []
  obtain ⟨hk, hcu, htd, -⟩ := id hci
  have ht01 : m 0 15 = 0 ∨ m 0 15 = 1 := htd.imp (fun a => a) (fun a => a.1)
  refine v_aload_n C 0 dX10_tick_0 rfl ?_
  refine v_get C 0 15 lC0 (eC0 _) rfl inX10 (by decide) rfl qw434 dX10_tick_1 ?_
  refine v_if_eq (tgt := 21) C dX10_tick_4 (by decide) (by omega) (fun c1 => ?_) (fun c1 => ?_)
  · refine v_aload_n C 0 dX10_tick_21 rfl ?_
    refine v_iconst (z := 1) C dX10_tick_22 rfl ?_
    refine v_callV (st := []) (n := 1) (q := 0) C [.int (iz (1))] (ct_StageRatios_refuse C.2.2.2.2.2.2.1 m (1) ) lC0 (eC0 _) rfl qw502 qw1 qw499 rfl rfl ⟨Nat.le_of_ble_eq_true rfl, Nat.le_of_ble_eq_true rfl⟩ (by decide +kernel) qw501 qp0 rfl rfl (Nat.le_of_ble_eq_true rfl) dX10_tick_23 (fun r m2 hq2 => ?_)
    obtain ⟨z2, rfl, rfl, hq2⟩ := hq2
    show V E (wC D cy aa ad) 3 m2 26 [(0, .ref (aa 0)), (1, .int (iz (i))), (2, .int (iz (w)))] [.int (iz (-1))]
    refine v_iret C X rfl dX10_tick_26 ⟨_, rfl, ?_, ?_⟩
    · rw [← hq2]
      exact ⟨1, Or.inr ⟨fun h => by omega, rfl, rfl⟩, by decide, CQ.of (fun _ _ => rfl)⟩
    · rw [← hq2]; exact hci.of (fun _ _ => rfl)
  · refine v_iload_n C 1 dX10_tick_7 rfl ?_
    refine v_iconst (z := 1) C dX10_tick_8 rfl ?_
    refine v_icmp_lt (tgt := 21) C dX10_tick_9 (by decide) (by omega) (by omega) (fun c3 => ?_) (fun c3 => ?_)
    · refine v_aload_n C 0 dX10_tick_21 rfl ?_
      refine v_iconst (z := 1) C dX10_tick_22 rfl ?_
      refine v_callV (st := []) (n := 1) (q := 0) C [.int (iz (1))] (ct_StageRatios_refuse C.2.2.2.2.2.2.1 m (1) ) lC0 (eC0 _) rfl qw502 qw1 qw499 rfl rfl ⟨Nat.le_of_ble_eq_true rfl, Nat.le_of_ble_eq_true rfl⟩ (by decide +kernel) qw501 qp0 rfl rfl (Nat.le_of_ble_eq_true rfl) dX10_tick_23 (fun r m4 hq4 => ?_)
      obtain ⟨z4, rfl, rfl, hq4⟩ := hq4
      show V E (wC D cy aa ad) 3 m4 26 [(0, .ref (aa 0)), (1, .int (iz (i))), (2, .int (iz (w)))] [.int (iz (-1))]
      refine v_iret C X rfl dX10_tick_26 ⟨_, rfl, ?_, ?_⟩
      · rw [← hq4]
        exact ⟨1, Or.inr ⟨fun h => by omega, rfl, rfl⟩, by decide, CQ.of (fun _ _ => rfl)⟩
      · rw [← hq4]; exact hci.of (fun _ _ => rfl)
    · refine v_iload_n C 2 dX10_tick_12 rfl ?_
      refine v_if_lt (tgt := 21) C dX10_tick_13 (by decide) (by omega) (fun c5 => ?_) (fun c5 => ?_)
      · refine v_aload_n C 0 dX10_tick_21 rfl ?_
        refine v_iconst (z := 1) C dX10_tick_22 rfl ?_
        refine v_callV (st := []) (n := 1) (q := 0) C [.int (iz (1))] (ct_StageRatios_refuse C.2.2.2.2.2.2.1 m (1) ) lC0 (eC0 _) rfl qw502 qw1 qw499 rfl rfl ⟨Nat.le_of_ble_eq_true rfl, Nat.le_of_ble_eq_true rfl⟩ (by decide +kernel) qw501 qp0 rfl rfl (Nat.le_of_ble_eq_true rfl) dX10_tick_23 (fun r m6 hq6 => ?_)
        obtain ⟨z6, rfl, rfl, hq6⟩ := hq6
        show V E (wC D cy aa ad) 3 m6 26 [(0, .ref (aa 0)), (1, .int (iz (i))), (2, .int (iz (w)))] [.int (iz (-1))]
        refine v_iret C X rfl dX10_tick_26 ⟨_, rfl, ?_, ?_⟩
        · rw [← hq6]
          exact ⟨1, Or.inr ⟨fun h => by omega, rfl, rfl⟩, by decide, CQ.of (fun _ _ => rfl)⟩
        · rw [← hq6]; exact hci.of (fun _ _ => rfl)
      · refine v_iload_n C 2 dX10_tick_16 rfl ?_
        refine v_iconst (z := 4) C dX10_tick_17 rfl ?_
        refine v_icmp_le (tgt := 27) C dX10_tick_18 (by decide) (by omega) (by omega) (fun c7 => ?_) (fun c7 => ?_)
        · obtain ⟨hT1, hti⟩ := htd.resolve_left (by omega)
          obtain ⟨hrk, hX, -⟩ := id hti
          obtain ⟨hk5, hF, hup, hlw, hpl, hnf, hfa, -⟩ := id hrk
          have hkk : 73 ≤ k ∧ 73 ≤ kf ∧ 73 ≤ ks ∧ 73 ≤ kt ∧ 73 ≤ kc := by unfold RocketAt at hk; omega
          have hUr := hX.u hF
          have hDv := hX.dv hF hk5
          have hvd := hti.vd
          have hfo : faOk (m ks) (m kt) (m kc) (m k) := ⟨hpl, hnf, hfa⟩
          refine v_aload_n C 0 dX10_tick_27 rfl ?_
          refine v_callV (st := []) (n := 0) (q := 0) C [] (ct_StageRatios_flyAsItIs C.2.2.2.2.2.2.1 m (k) (kf) (ks) (kt) (kc) (by first | assumption | omega) (by first | assumption | omega) (by first | assumption | omega)) lC0 (eC0 _) rfl qw962 qw1 qw959 rfl rfl ⟨Nat.le_of_ble_eq_true rfl, Nat.le_of_ble_eq_true rfl⟩ (by decide +kernel) qw961 qp28 rfl rfl (Nat.le_of_ble_eq_true rfl) dX10_tick_28 (fun r m8 hq8 => ?_)
          obtain ⟨rfl, hq8⟩ := hq8
          show V E (wC D cy aa ad) 3 m8 31 [(0, .ref (aa 0)), (1, .int (iz (i))), (2, .int (iz (w)))] []
          have hTk := hq8.1.1
          have hdr8 := hq8.1.2.1
          have hst9 := hq8.1.2.2.1
          have hRl := hq8.1.2.2.2
          have hW := hq8.2.1.1
          have hUu := hq8.2.1.2
          have o1 := hq8.2.2
          have hcu1 : (m8 0 13).toNat = k := by rw [o1 0 (by decide)]; exact hcu
          have k1 := o1 k (by omega)
          have e7 := hTk.1
          have hle := ftl_len (xs := -1) (xt := 0) hvd hfo
          have hpr : ∀ i : Int, 0 ≤ i → i < m8 59 7 → -2147483648 ≤ m8 65 i ∧ m8 65 i ≤ 2147483647 := fun i h0 h1 => by
            obtain ⟨q, hq⟩ : ∃ q, (ftl (m kf) (m ks) (m kt) (m kc) (m k) (m 5) (-1) 0)[i.toNat]? = some q := ⟨_, List.getElem?_eq_getElem (by omega)⟩
            have y := (hTk.2 _ q hq).2.2.2.2.2
            rw [show ((i.toNat : Nat) : Int) = i by omega] at y
            have z := ftl_rng hvd hfo q (List.mem_of_getElem? hq)
            omega
          have emn : mnA (m8 65) (m8 59 7).toNat = mnA (pshF (ftl (m kf) (m ks) (m kt) (m kc) (m k) (m 5) (-1) 0)) (ftl (m kf) (m ks) (m kt) (m kc) (m k) (m 5) (-1) 0).length := by rw [e7, Int.toNat_natCast]; exact mnA_cg _ (fun i h0 h1 => hTk.psh i h0 h1)
          obtain ⟨ok1, ok2, ok3, ok4, ok5⟩ := fpl_ok (xs := -1) (xt := 0) hvd hfo
          refine v_iload_n C 1 dX10_tick_31 rfl ?_
          refine v_aload_n C 0 dX10_tick_32 rfl ?_
          refine v_get C 0 11 lC0 (eC0 _) rfl inX10 (by decide) rfl qw430 dX10_tick_33 ?_
          refine v_get C 59 7 lC59 (eC59 _) rfl inX2 (by decide) rfl qw333 dX10_tick_36 ?_
          refine v_icmp_le (tgt := 48) C dX10_tick_39 (by decide) (by omega) (by omega) (fun c9 => ?_) (fun c9 => ?_)
          · obtain ⟨q0, hq0⟩ : ∃ q, (ftl (m kf) (m ks) (m kt) (m kc) (m k) (m 5) (-1) 0)[(i - 1).toNat]? = some q := ⟨_, List.getElem?_eq_getElem (by omega)⟩
            have hqv := hTk.2 _ q0 hq0
            rw [show (((i - 1).toNat : Nat) : Int) = i - 1 by omega] at hqv
            refine v_iload_n C 2 dX10_tick_48 rfl ?_
            refine v_table C dX10_tick_49 (by omega) (fun tgt ht c10 => ?_) (fun tgt off c10a c10b ho ht => ?_) ⟨152, by decide⟩ (fun ha hb => ?_)
            · obtain rfl : tgt = 152 := by omega
              refine v_aload_n C 0 dX10_tick_152 rfl ?_
              refine v_aload_n C 0 dX10_tick_153 rfl ?_
              refine v_get C 0 11 lC0 (eC0 _) rfl inX10 (by decide) rfl qw430 dX10_tick_154 ?_
              refine v_get C 59 5 lC59 (eC59 _) rfl inX2 (by decide) rfl qw329 dX10_tick_157 ?_
              refine v_iload_n C 1 dX10_tick_160 rfl ?_
              refine v_iconst (z := 1) C dX10_tick_161 rfl ?_
              refine v_isub C dX10_tick_162 ?_
              refine v_callS (st := [.ref (aa 0)]) (n := 2) C [.ref (aa 65), .int (iz (i - 1))] (ct_StageRatios_at C.2.2.2.2.2.2.1 m8 (65) (51) (i - 1) ⟨lC65, by decide, eC65⟩ (by first | assumption | omega)) qw618 qw1 qw653 rfl rfl ⟨Nat.le_of_ble_eq_true rfl, Nat.le_of_ble_eq_true rfl⟩ (by decide +kernel) qw617 rfl rfl (Nat.le_of_ble_eq_true rfl) dX10_tick_163 (fun r m11 hq11 => ?_)
              obtain ⟨z11, rfl, rfl, rfl⟩ := hq11
              show V E (wC D cy aa ad) 3 m8 166 [(0, .ref (aa 0)), (1, .int (iz (i))), (2, .int (iz (w)))] [.int (iz (m8 65 (i - 1))), .ref (aa 0)]
              refine v_callV (st := []) (n := 1) (q := 0) C [.int (iz (m8 65 (i - 1)))] (ct_StageRatios_answer C.2.2.2.2.2.2.1 m8 (m8 65 (i - 1)) ) lC0 (eC0 _) rfl qw640 qw1 qw637 rfl rfl ⟨Nat.le_of_ble_eq_true rfl, Nat.le_of_ble_eq_true rfl⟩ (by decide +kernel) qw639 qp16 rfl rfl (Nat.le_of_ble_eq_true rfl) dX10_tick_166 (fun r m12 hq12 => ?_)
              obtain ⟨z12, rfl, rfl, hq12⟩ := hq12
              show V E (wC D cy aa ad) 3 m12 169 [(0, .ref (aa 0)), (1, .int (iz (i))), (2, .int (iz (w)))] [.int (iz ((m8 65 (i - 1))))]
              refine v_iret C X rfl dX10_tick_169 ⟨_, rfl, ?_, ?_⟩
              · rw [← hq12]
                refine ⟨0, ?_, by decide, CQ.of (fun q h => o1 q (by omega))⟩
                obtain rfl : w = 4 := by omega
                exact Or.inl ⟨⟨hT1, ⟨by omega, by omega⟩, by omega, by omega⟩, rfl, q0, hq0, hqv.2.2.2.2.2⟩
              · rw [← hq12]; exact hci.of (fun q h => o1 q (by omega))
            · rcases (show w = 0 ∨ w = 1 ∨ w = 2 ∨ w = 3 by omega) with c10 | c10 | c10 | c10
              · have ho : off = 31 := by rw [c10] at ho; exact (Option.some.inj ho).symm
                obtain rfl : tgt = 80 := by omega
                refine v_aload_n C 0 dX10_tick_80 rfl ?_
                refine v_aload_n C 0 dX10_tick_81 rfl ?_
                refine v_get C 0 11 lC0 (eC0 _) rfl inX10 (by decide) rfl qw430 dX10_tick_82 ?_
                refine v_get C 59 0 lC59 (eC59 _) rfl inX2 (by decide) rfl qw319 dX10_tick_85 ?_
                refine v_iload_n C 1 dX10_tick_88 rfl ?_
                refine v_iconst (z := 1) C dX10_tick_89 rfl ?_
                refine v_isub C dX10_tick_90 ?_
                refine v_callS (st := [.ref (aa 0)]) (n := 2) C [.ref (aa 60), .int (iz (i - 1))] (ct_StageRatios_at C.2.2.2.2.2.2.1 m8 (60) (51) (i - 1) ⟨lC60, by decide, eC60⟩ (by first | assumption | omega)) qw618 qw1 qw653 rfl rfl ⟨Nat.le_of_ble_eq_true rfl, Nat.le_of_ble_eq_true rfl⟩ (by decide +kernel) qw617 rfl rfl (Nat.le_of_ble_eq_true rfl) dX10_tick_91 (fun r m13 hq13 => ?_)
                obtain ⟨z13, rfl, rfl, rfl⟩ := hq13
                show V E (wC D cy aa ad) 3 m8 94 [(0, .ref (aa 0)), (1, .int (iz (i))), (2, .int (iz (w)))] [.int (iz (m8 60 (i - 1))), .ref (aa 0)]
                refine v_callV (st := []) (n := 1) (q := 0) C [.int (iz (m8 60 (i - 1)))] (ct_StageRatios_answer C.2.2.2.2.2.2.1 m8 (m8 60 (i - 1)) ) lC0 (eC0 _) rfl qw640 qw1 qw637 rfl rfl ⟨Nat.le_of_ble_eq_true rfl, Nat.le_of_ble_eq_true rfl⟩ (by decide +kernel) qw639 qp16 rfl rfl (Nat.le_of_ble_eq_true rfl) dX10_tick_94 (fun r m14 hq14 => ?_)
                obtain ⟨z14, rfl, rfl, hq14⟩ := hq14
                show V E (wC D cy aa ad) 3 m14 97 [(0, .ref (aa 0)), (1, .int (iz (i))), (2, .int (iz (w)))] [.int (iz ((m8 60 (i - 1))))]
                refine v_iret C X rfl dX10_tick_97 ⟨_, rfl, ?_, ?_⟩
                · rw [← hq14]
                  refine ⟨0, ?_, by decide, CQ.of (fun q h => o1 q (by omega))⟩
                  obtain rfl : w = 0 := by omega
                  exact Or.inl ⟨⟨hT1, ⟨by omega, by omega⟩, by omega, by omega⟩, rfl, q0, hq0, hqv.1⟩
                · rw [← hq14]; exact hci.of (fun q h => o1 q (by omega))
              · have ho : off = 49 := by rw [c10] at ho; exact (Option.some.inj ho).symm
                obtain rfl : tgt = 98 := by omega
                refine v_aload_n C 0 dX10_tick_98 rfl ?_
                refine v_aload_n C 0 dX10_tick_99 rfl ?_
                refine v_get C 0 11 lC0 (eC0 _) rfl inX10 (by decide) rfl qw430 dX10_tick_100 ?_
                refine v_get C 59 2 lC59 (eC59 _) rfl inX2 (by decide) rfl qw323 dX10_tick_103 ?_
                refine v_iload_n C 1 dX10_tick_106 rfl ?_
                refine v_iconst (z := 1) C dX10_tick_107 rfl ?_
                refine v_isub C dX10_tick_108 ?_
                refine v_callS (st := [.ref (aa 0)]) (n := 2) C [.ref (aa 62), .int (iz (i - 1))] (ct_StageRatios_at C.2.2.2.2.2.2.1 m8 (62) (51) (i - 1) ⟨lC62, by decide, eC62⟩ (by first | assumption | omega)) qw618 qw1 qw653 rfl rfl ⟨Nat.le_of_ble_eq_true rfl, Nat.le_of_ble_eq_true rfl⟩ (by decide +kernel) qw617 rfl rfl (Nat.le_of_ble_eq_true rfl) dX10_tick_109 (fun r m15 hq15 => ?_)
                obtain ⟨z15, rfl, rfl, rfl⟩ := hq15
                show V E (wC D cy aa ad) 3 m8 112 [(0, .ref (aa 0)), (1, .int (iz (i))), (2, .int (iz (w)))] [.int (iz (m8 62 (i - 1))), .ref (aa 0)]
                refine v_callV (st := []) (n := 1) (q := 0) C [.int (iz (m8 62 (i - 1)))] (ct_StageRatios_answer C.2.2.2.2.2.2.1 m8 (m8 62 (i - 1)) ) lC0 (eC0 _) rfl qw640 qw1 qw637 rfl rfl ⟨Nat.le_of_ble_eq_true rfl, Nat.le_of_ble_eq_true rfl⟩ (by decide +kernel) qw639 qp16 rfl rfl (Nat.le_of_ble_eq_true rfl) dX10_tick_112 (fun r m16 hq16 => ?_)
                obtain ⟨z16, rfl, rfl, hq16⟩ := hq16
                show V E (wC D cy aa ad) 3 m16 115 [(0, .ref (aa 0)), (1, .int (iz (i))), (2, .int (iz (w)))] [.int (iz ((m8 62 (i - 1))))]
                refine v_iret C X rfl dX10_tick_115 ⟨_, rfl, ?_, ?_⟩
                · rw [← hq16]
                  refine ⟨0, ?_, by decide, CQ.of (fun q h => o1 q (by omega))⟩
                  obtain rfl : w = 1 := by omega
                  exact Or.inl ⟨⟨hT1, ⟨by omega, by omega⟩, by omega, by omega⟩, rfl, q0, hq0, hqv.2.2.1⟩
                · rw [← hq16]; exact hci.of (fun q h => o1 q (by omega))
              · have ho : off = 67 := by rw [c10] at ho; exact (Option.some.inj ho).symm
                obtain rfl : tgt = 116 := by omega
                refine v_aload_n C 0 dX10_tick_116 rfl ?_
                refine v_aload_n C 0 dX10_tick_117 rfl ?_
                refine v_get C 0 11 lC0 (eC0 _) rfl inX10 (by decide) rfl qw430 dX10_tick_118 ?_
                refine v_get C 59 3 lC59 (eC59 _) rfl inX2 (by decide) rfl qw325 dX10_tick_121 ?_
                refine v_iload_n C 1 dX10_tick_124 rfl ?_
                refine v_iconst (z := 1) C dX10_tick_125 rfl ?_
                refine v_isub C dX10_tick_126 ?_
                refine v_callS (st := [.ref (aa 0)]) (n := 2) C [.ref (aa 63), .int (iz (i - 1))] (ct_StageRatios_at C.2.2.2.2.2.2.1 m8 (63) (51) (i - 1) ⟨lC63, by decide, eC63⟩ (by first | assumption | omega)) qw618 qw1 qw653 rfl rfl ⟨Nat.le_of_ble_eq_true rfl, Nat.le_of_ble_eq_true rfl⟩ (by decide +kernel) qw617 rfl rfl (Nat.le_of_ble_eq_true rfl) dX10_tick_127 (fun r m17 hq17 => ?_)
                obtain ⟨z17, rfl, rfl, rfl⟩ := hq17
                show V E (wC D cy aa ad) 3 m8 130 [(0, .ref (aa 0)), (1, .int (iz (i))), (2, .int (iz (w)))] [.int (iz (m8 63 (i - 1))), .ref (aa 0)]
                refine v_callV (st := []) (n := 1) (q := 0) C [.int (iz (m8 63 (i - 1)))] (ct_StageRatios_answer C.2.2.2.2.2.2.1 m8 (m8 63 (i - 1)) ) lC0 (eC0 _) rfl qw640 qw1 qw637 rfl rfl ⟨Nat.le_of_ble_eq_true rfl, Nat.le_of_ble_eq_true rfl⟩ (by decide +kernel) qw639 qp16 rfl rfl (Nat.le_of_ble_eq_true rfl) dX10_tick_130 (fun r m18 hq18 => ?_)
                obtain ⟨z18, rfl, rfl, hq18⟩ := hq18
                show V E (wC D cy aa ad) 3 m18 133 [(0, .ref (aa 0)), (1, .int (iz (i))), (2, .int (iz (w)))] [.int (iz ((m8 63 (i - 1))))]
                refine v_iret C X rfl dX10_tick_133 ⟨_, rfl, ?_, ?_⟩
                · rw [← hq18]
                  refine ⟨0, ?_, by decide, CQ.of (fun q h => o1 q (by omega))⟩
                  obtain rfl : w = 2 := by omega
                  exact Or.inl ⟨⟨hT1, ⟨by omega, by omega⟩, by omega, by omega⟩, rfl, q0, hq0, hqv.2.2.2.1⟩
                · rw [← hq18]; exact hci.of (fun q h => o1 q (by omega))
              · have ho : off = 85 := by rw [c10] at ho; exact (Option.some.inj ho).symm
                obtain rfl : tgt = 134 := by omega
                refine v_aload_n C 0 dX10_tick_134 rfl ?_
                refine v_aload_n C 0 dX10_tick_135 rfl ?_
                refine v_get C 0 11 lC0 (eC0 _) rfl inX10 (by decide) rfl qw430 dX10_tick_136 ?_
                refine v_get C 59 4 lC59 (eC59 _) rfl inX2 (by decide) rfl qw327 dX10_tick_139 ?_
                refine v_iload_n C 1 dX10_tick_142 rfl ?_
                refine v_iconst (z := 1) C dX10_tick_143 rfl ?_
                refine v_isub C dX10_tick_144 ?_
                refine v_callS (st := [.ref (aa 0)]) (n := 2) C [.ref (aa 64), .int (iz (i - 1))] (ct_StageRatios_at C.2.2.2.2.2.2.1 m8 (64) (51) (i - 1) ⟨lC64, by decide, eC64⟩ (by first | assumption | omega)) qw618 qw1 qw653 rfl rfl ⟨Nat.le_of_ble_eq_true rfl, Nat.le_of_ble_eq_true rfl⟩ (by decide +kernel) qw617 rfl rfl (Nat.le_of_ble_eq_true rfl) dX10_tick_145 (fun r m19 hq19 => ?_)
                obtain ⟨z19, rfl, rfl, rfl⟩ := hq19
                show V E (wC D cy aa ad) 3 m8 148 [(0, .ref (aa 0)), (1, .int (iz (i))), (2, .int (iz (w)))] [.int (iz (m8 64 (i - 1))), .ref (aa 0)]
                refine v_callV (st := []) (n := 1) (q := 0) C [.int (iz (m8 64 (i - 1)))] (ct_StageRatios_answer C.2.2.2.2.2.2.1 m8 (m8 64 (i - 1)) ) lC0 (eC0 _) rfl qw640 qw1 qw637 rfl rfl ⟨Nat.le_of_ble_eq_true rfl, Nat.le_of_ble_eq_true rfl⟩ (by decide +kernel) qw639 qp16 rfl rfl (Nat.le_of_ble_eq_true rfl) dX10_tick_148 (fun r m20 hq20 => ?_)
                obtain ⟨z20, rfl, rfl, hq20⟩ := hq20
                show V E (wC D cy aa ad) 3 m20 151 [(0, .ref (aa 0)), (1, .int (iz (i))), (2, .int (iz (w)))] [.int (iz ((m8 64 (i - 1))))]
                refine v_iret C X rfl dX10_tick_151 ⟨_, rfl, ?_, ?_⟩
                · rw [← hq20]
                  refine ⟨0, ?_, by decide, CQ.of (fun q h => o1 q (by omega))⟩
                  obtain rfl : w = 3 := by omega
                  exact Or.inl ⟨⟨hT1, ⟨by omega, by omega⟩, by omega, by omega⟩, rfl, q0, hq0, hqv.2.2.2.2.1⟩
                · rw [← hq20]; exact hci.of (fun q h => o1 q (by omega))
            · rcases (show w = 0 ∨ w = 1 ∨ w = 2 ∨ w = 3 by omega) with c10 | c10 | c10 | c10
              · exact ⟨80, 31, by rw [c10]; rfl, by decide⟩
              · exact ⟨98, 49, by rw [c10]; rfl, by decide⟩
              · exact ⟨116, 67, by rw [c10]; rfl, by decide⟩
              · exact ⟨134, 85, by rw [c10]; rfl, by decide⟩
          · refine v_aload_n C 0 dX10_tick_42 rfl ?_
            refine v_iconst (z := 1) C dX10_tick_43 rfl ?_
            refine v_callV (st := []) (n := 1) (q := 0) C [.int (iz (1))] (ct_StageRatios_refuse C.2.2.2.2.2.2.1 m8 (1) ) lC0 (eC0 _) rfl qw502 qw1 qw499 rfl rfl ⟨Nat.le_of_ble_eq_true rfl, Nat.le_of_ble_eq_true rfl⟩ (by decide +kernel) qw501 qp0 rfl rfl (Nat.le_of_ble_eq_true rfl) dX10_tick_44 (fun r m21 hq21 => ?_)
            obtain ⟨z21, rfl, rfl, hq21⟩ := hq21
            show V E (wC D cy aa ad) 3 m21 47 [(0, .ref (aa 0)), (1, .int (iz (i))), (2, .int (iz (w)))] [.int (iz (-1))]
            refine v_iret C X rfl dX10_tick_47 ⟨_, rfl, ?_, ?_⟩
            · rw [← hq21]
              exact ⟨1, Or.inr ⟨fun h => by omega, rfl, rfl⟩, by decide, CQ.of (fun q h => o1 q (by omega))⟩
            · rw [← hq21]; exact hci.of (fun q h => o1 q (by omega))
        · refine v_aload_n C 0 dX10_tick_21 rfl ?_
          refine v_iconst (z := 1) C dX10_tick_22 rfl ?_
          refine v_callV (st := []) (n := 1) (q := 0) C [.int (iz (1))] (ct_StageRatios_refuse C.2.2.2.2.2.2.1 m (1) ) lC0 (eC0 _) rfl qw502 qw1 qw499 rfl rfl ⟨Nat.le_of_ble_eq_true rfl, Nat.le_of_ble_eq_true rfl⟩ (by decide +kernel) qw501 qp0 rfl rfl (Nat.le_of_ble_eq_true rfl) dX10_tick_23 (fun r m22 hq22 => ?_)
          obtain ⟨z22, rfl, rfl, hq22⟩ := hq22
          show V E (wC D cy aa ad) 3 m22 26 [(0, .ref (aa 0)), (1, .int (iz (i))), (2, .int (iz (w)))] [.int (iz (-1))]
          refine v_iret C X rfl dX10_tick_26 ⟨_, rfl, ?_, ?_⟩
          · rw [← hq22]
            exact ⟨1, Or.inr ⟨fun h => by omega, rfl, rfl⟩, by decide, CQ.of (fun _ _ => rfl)⟩
          · rw [← hq22]; exact hci.of (fun _ _ => rfl)

set_option maxHeartbeats 4000000 in
set_option maxRecDepth 100000 in
theorem ct_StageRatios_risk {lau : Launch} {D : va_G} {cy : Nat → ClassId} {aa ad : Nat → Nat} (hI : wI (wC D cy aa ad)) (m : Mem) (k kf ks kt kc : Nat) (s w : Int) (hci : CI m k kf ks kt kc) (hs : -2147483648 ≤ s ∧ s ≤ 2147483647) (hw : -2147483648 ≤ w ∧ w ≤ 2147483647) : MT lau (wC D cy aa ad) yX10_risk cX10_risk 3 (some .int) ({ frames := 6, cells := 0, slots := 0, locals := 166 } : Room) m [.ref (aa 0), .int (iz (s)), .int (iz (w))] (Pi (fun z m' => (QP (qRis (m 0 15) (m kf) (m ks) (m kt) (m kc) (m k) (m 5) s w) m m' z) ∧ CI m' k kf ks kt kc)) := by
  refine v_entry hI RX10 (by decide) rfl (Nat.le_of_ble_eq_true rfl) (fun E hE C X => ?_)
  subst hE
  show V E (wC D cy aa ad) 3 m 0 [(0, .ref (aa 0)), (1, .int (iz (s))), (2, .int (iz (w)))] []
  obtain ⟨hk, hcu, htd, -⟩ := id hci
  have ht01 : m 0 15 = 0 ∨ m 0 15 = 1 := htd.imp (fun a => a) (fun a => a.1)
  refine v_aload_n C 0 dX10_risk_0 rfl ?_
  refine v_iload_n C 1 dX10_risk_1 rfl ?_
  refine v_callV (st := []) (n := 1) (q := 0) C [.int (iz (s))] (ct_StageRatios_has C.2.2.2.2.2.2.1 m (k) (kf) (ks) (kt) (kc) (s) (by first | assumption | omega) (by first | assumption | omega) (by first | assumption | omega) (by first | assumption | omega)) lC0 (eC0 _) rfl qw661 qw1 qw658 rfl rfl ⟨Nat.le_of_ble_eq_true rfl, Nat.le_of_ble_eq_true rfl⟩ (by decide +kernel) qw660 qp17 rfl rfl (Nat.le_of_ble_eq_true rfl) dX10_risk_2 (fun r m1 hq1 => ?_)
  obtain ⟨z1, rfl, ⟨rfl, hq1, rfl⟩ | ⟨rfl, hq1, rfl⟩⟩ := hq1
  · show V E (wC D cy aa ad) 3 m 5 [(0, .ref (aa 0)), (1, .int (iz (s))), (2, .int (iz (w)))] [.int (iz (1))]
    refine v_if_ne (tgt := 14) C dX10_risk_5 (by decide) (by omega) (fun c2 => ?_) (fun c2 => by exact absurd c2 (by decide))
    have hhs := hq1
    obtain ⟨hT1, hs0⟩ := id hhs
    obtain ⟨-, hti⟩ := htd.resolve_left (by omega)
    obtain ⟨hrk, hX, -⟩ := id hti
    obtain ⟨hk5, hF, hup, hlw, hpl, hnf, hfa, -⟩ := id hrk
    have hkk : 73 ≤ k ∧ 73 ≤ kf ∧ 73 ≤ ks ∧ 73 ≤ kt ∧ 73 ≤ kc := by unfold RocketAt at hk; omega
    have hUr := hX.u hF
    have hDv := hX.dv hF hk5
    have hvd := hti.vd
    have hfo : faOk (m ks) (m kt) (m kc) (m k) := ⟨hpl, hnf, hfa⟩
    refine v_iload_n C 2 dX10_risk_14 rfl ?_
    refine v_iconst (z := 1) C dX10_risk_15 rfl ?_
    refine v_icmp_lt (tgt := 25) C dX10_risk_16 (by decide) (by omega) (by omega) (fun c3 => ?_) (fun c3 => ?_)
    · refine v_aload_n C 0 dX10_risk_25 rfl ?_
      refine v_iconst (z := 2) C dX10_risk_26 rfl ?_
      refine v_callV (st := []) (n := 1) (q := 0) C [.int (iz (2))] (ct_StageRatios_refuse C.2.2.2.2.2.2.1 m (2) ) lC0 (eC0 _) rfl qw502 qw1 qw499 rfl rfl ⟨Nat.le_of_ble_eq_true rfl, Nat.le_of_ble_eq_true rfl⟩ (by decide +kernel) qw501 qp0 rfl rfl (Nat.le_of_ble_eq_true rfl) dX10_risk_27 (fun r m4 hq4 => ?_)
      obtain ⟨z4, rfl, rfl, hq4⟩ := hq4
      show V E (wC D cy aa ad) 3 m4 30 [(0, .ref (aa 0)), (1, .int (iz (s))), (2, .int (iz (w)))] [.int (iz (-1))]
      refine v_iret C X rfl dX10_risk_30 ⟨_, rfl, ?_, ?_⟩
      · rw [← hq4]
        exact ⟨2, Or.inr (Or.inl ⟨hq1, by omega, rfl, rfl⟩), by decide, CQ.of (fun _ _ => rfl)⟩
      · rw [← hq4]; exact hci.of (fun _ _ => rfl)
    · refine v_iload_n C 2 dX10_risk_19 rfl ?_
      refine v_bipush (z := 99) C dX10_risk_20 (by decide) ?_
      refine v_icmp_le (tgt := 31) C dX10_risk_22 (by decide) (by omega) (by omega) (fun c5 => ?_) (fun c5 => ?_)
      · refine v_aload_n C 0 dX10_risk_31 rfl ?_
        refine v_callV (st := []) (n := 0) (q := 0) C [] (ct_StageRatios_weighAsItIs C.2.2.2.2.2.2.1 m (k) (kf) (ks) (kt) (kc) (by first | assumption | omega) (by first | assumption | omega) (by first | assumption | omega)) lC0 (eC0 _) rfl qw674 qw1 qw671 rfl rfl ⟨Nat.le_of_ble_eq_true rfl, Nat.le_of_ble_eq_true rfl⟩ (by decide +kernel) qw673 qp18 rfl rfl (Nat.le_of_ble_eq_true rfl) dX10_risk_32 (fun r m6 hq6 => ?_)
        obtain ⟨rfl, hq6⟩ := hq6
        show V E (wC D cy aa ad) 3 m6 35 [(0, .ref (aa 0)), (1, .int (iz (s))), (2, .int (iz (w)))] []
        have o1 := hq6.2.2
        have hW := hq6.1
        have hcu1 : (m6 0 13).toNat = k := by rw [o1 0 (by decide)]; exact hcu
        have k1 := o1 k (by omega)
        have kf1 := o1 kf (by omega)
        have hstr := fun (j : Int) (h0 : 0 ≤ j) (h1 : j ≤ m k 5) => stZ_rng (s := j) hF hk5.2 hX.1 hDv.2.2 h0 h1
        have e51 := o1 5 (by omega)
        have ks1 := o1 ks (by omega)
        have kt1 := o1 kt (by omega)
        have kc1 := o1 kc (by omega)
        have o15 : ∀ q : Nat, (q < 15 ∨ 73 ≤ q) → m6 q = m q := fun q h => o1 q (by omega)
        have hti1 := hti.keep hk o15
        refine v_aload_n C 0 dX10_risk_35 rfl ?_
        refine v_aload_n C 0 dX10_risk_36 rfl ?_
        refine v_iload_n C 1 dX10_risk_37 rfl ?_
        refine v_iload_n C 2 dX10_risk_38 rfl ?_
        refine v_callV (st := [.ref (aa 0)]) (n := 2) (q := 0) C [.int (iz (s)), .int (iz (w))] (ct_StageRatios_powerAtRisk C.2.2.2.2.2.2.1 m6 (k) (kf) (ks) (kt) (kc) (s) (w) (by first | assumption | omega) (by first | assumption | omega) (by first | assumption | omega) (by first | assumption | omega) (by first | assumption | omega) (by rw [k1, kf1, e51]; exact hW) (by rw [e51]; exact hq6.2.1)) lC0 (eC0 _) rfl qw1008 qw1 qw1005 rfl rfl ⟨Nat.le_of_ble_eq_true rfl, Nat.le_of_ble_eq_true rfl⟩ (by decide +kernel) qw1007 qp31 rfl rfl (Nat.le_of_ble_eq_true rfl) dX10_risk_39 (fun r m7 hq7 => ?_)
        obtain ⟨z7, rfl, hq7, hm7⟩ := hq7
        show V E (wC D cy aa ad) 3 m7 42 [(0, .ref (aa 0)), (1, .int (iz (s))), (2, .int (iz (w)))] [.int (iz (z7)), .ref (aa 0)]
        refine v_callV (st := []) (n := 1) (q := 0) C [.int (iz (z7))] (ct_StageRatios_answer C.2.2.2.2.2.2.1 m7 (z7) ) lC0 (eC0 _) rfl qw640 qw1 qw637 rfl rfl ⟨Nat.le_of_ble_eq_true rfl, Nat.le_of_ble_eq_true rfl⟩ (by decide +kernel) qw639 qp16 rfl rfl (Nat.le_of_ble_eq_true rfl) dX10_risk_42 (fun r m8 hq8 => ?_)
        obtain ⟨z8, rfl, rfl, hq8⟩ := hq8
        show V E (wC D cy aa ad) 3 m8 45 [(0, .ref (aa 0)), (1, .int (iz (s))), (2, .int (iz (w)))] [.int (iz (z7))]
        refine v_iret C X rfl dX10_risk_45 ⟨_, rfl, ?_, ?_⟩
        · rw [← hq8]
          refine ⟨0, ?_, by decide, CQ.of (fun q h => by rw [hm7 q (by omega)]; exact o1 q (by omega))⟩
          rw [k1, kf1, ks1, kt1, kc1, e51] at hq7
          exact Or.inl ⟨hhs, ⟨by omega, by omega⟩, rfl, hq7⟩
        · rw [← hq8]; exact hci.of (fun q h => by rw [hm7 q (by omega)]; exact o1 q (by omega))
      · refine v_aload_n C 0 dX10_risk_25 rfl ?_
        refine v_iconst (z := 2) C dX10_risk_26 rfl ?_
        refine v_callV (st := []) (n := 1) (q := 0) C [.int (iz (2))] (ct_StageRatios_refuse C.2.2.2.2.2.2.1 m (2) ) lC0 (eC0 _) rfl qw502 qw1 qw499 rfl rfl ⟨Nat.le_of_ble_eq_true rfl, Nat.le_of_ble_eq_true rfl⟩ (by decide +kernel) qw501 qp0 rfl rfl (Nat.le_of_ble_eq_true rfl) dX10_risk_27 (fun r m9 hq9 => ?_)
        obtain ⟨z9, rfl, rfl, hq9⟩ := hq9
        show V E (wC D cy aa ad) 3 m9 30 [(0, .ref (aa 0)), (1, .int (iz (s))), (2, .int (iz (w)))] [.int (iz (-1))]
        refine v_iret C X rfl dX10_risk_30 ⟨_, rfl, ?_, ?_⟩
        · rw [← hq9]
          exact ⟨2, Or.inr (Or.inl ⟨hq1, by omega, rfl, rfl⟩), by decide, CQ.of (fun _ _ => rfl)⟩
        · rw [← hq9]; exact hci.of (fun _ _ => rfl)
  · show V E (wC D cy aa ad) 3 m 5 [(0, .ref (aa 0)), (1, .int (iz (s))), (2, .int (iz (w)))] [.int (iz (0))]
    refine v_if_ne (tgt := 14) C dX10_risk_5 (by decide) (by omega) (fun c10 => by exact absurd c10 (by decide)) (fun c10 => ?_)
    refine v_aload_n C 0 dX10_risk_8 rfl ?_
    refine v_iconst (z := 1) C dX10_risk_9 rfl ?_
    refine v_callV (st := []) (n := 1) (q := 0) C [.int (iz (1))] (ct_StageRatios_refuse C.2.2.2.2.2.2.1 m (1) ) lC0 (eC0 _) rfl qw502 qw1 qw499 rfl rfl ⟨Nat.le_of_ble_eq_true rfl, Nat.le_of_ble_eq_true rfl⟩ (by decide +kernel) qw501 qp0 rfl rfl (Nat.le_of_ble_eq_true rfl) dX10_risk_10 (fun r m11 hq11 => ?_)
    obtain ⟨z11, rfl, rfl, hq11⟩ := hq11
    show V E (wC D cy aa ad) 3 m11 13 [(0, .ref (aa 0)), (1, .int (iz (s))), (2, .int (iz (w)))] [.int (iz (-1))]
    refine v_iret C X rfl dX10_risk_13 ⟨_, rfl, ?_, ?_⟩
    · rw [← hq11]
      exact ⟨1, Or.inr (Or.inr ⟨hq1, rfl, rfl⟩), by decide, CQ.of (fun _ _ => rfl)⟩
    · rw [← hq11]; exact hci.of (fun _ _ => rfl)

set_option maxHeartbeats 4000000 in
set_option maxRecDepth 100000 in
theorem ct_StageRatios_riskiest {lau : Launch} {D : va_G} {cy : Nat → ClassId} {aa ad : Nat → Nat} (hI : wI (wC D cy aa ad)) (m : Mem) (k kf ks kt kc : Nat) (hci : CI m k kf ks kt kc) : MT lau (wC D cy aa ad) yX10_riskiest cX10_riskiest 5 (some .int) ({ frames := 6, cells := 0, slots := 0, locals := 166 } : Room) m [.ref (aa 0)] (Pi (fun z m' => (QP (qRkt (m 0 15) (m kf) (m ks) (m kt) (m kc) (m k) (m 5)) m m' z) ∧ CI m' k kf ks kt kc)) := by
  refine v_entry hI RX10 (by decide) rfl (Nat.le_of_ble_eq_true rfl) (fun E hE C X => ?_)
  subst hE
  show V E (wC D cy aa ad) 5 m 0 [(0, .ref (aa 0))] []
  obtain ⟨hk, hcu, htd, -⟩ := id hci
  have ht01 : m 0 15 = 0 ∨ m 0 15 = 1 := htd.imp (fun a => a) (fun a => a.1)
  refine v_aload_n C 0 dX10_riskiest_0 rfl ?_
  refine v_get C 0 15 lC0 (eC0 _) rfl inX10 (by decide) rfl qw434 dX10_riskiest_1 ?_
  refine v_if_ne (tgt := 13) C dX10_riskiest_4 (by decide) (by omega) (fun c1 => ?_) (fun c1 => ?_)
  · obtain ⟨hT1, hti⟩ := htd.resolve_left (by omega)
    obtain ⟨hrk, hX, -⟩ := id hti
    obtain ⟨hk5, hF, hup, hlw, hpl, hnf, hfa, -⟩ := id hrk
    have hkk : 73 ≤ k ∧ 73 ≤ kf ∧ 73 ≤ ks ∧ 73 ≤ kt ∧ 73 ≤ kc := by unfold RocketAt at hk; omega
    have hUr := hX.u hF
    have hDv := hX.dv hF hk5
    have hvd := hti.vd
    have hfo : faOk (m ks) (m kt) (m kc) (m k) := ⟨hpl, hnf, hfa⟩
    refine v_aload_n C 0 dX10_riskiest_13 rfl ?_
    refine v_callV (st := []) (n := 0) (q := 0) C [] (ct_StageRatios_flyAsItIs C.2.2.2.2.2.2.1 m (k) (kf) (ks) (kt) (kc) (by first | assumption | omega) (by first | assumption | omega) (by first | assumption | omega)) lC0 (eC0 _) rfl qw962 qw1 qw959 rfl rfl ⟨Nat.le_of_ble_eq_true rfl, Nat.le_of_ble_eq_true rfl⟩ (by decide +kernel) qw961 qp28 rfl rfl (Nat.le_of_ble_eq_true rfl) dX10_riskiest_14 (fun r m2 hq2 => ?_)
    obtain ⟨rfl, hq2⟩ := hq2
    show V E (wC D cy aa ad) 5 m2 17 [(0, .ref (aa 0))] []
    have hTk := hq2.1.1
    have hdr8 := hq2.1.2.1
    have hst9 := hq2.1.2.2.1
    have hRl := hq2.1.2.2.2
    have hW := hq2.2.1.1
    have hUu := hq2.2.1.2
    have o1 := hq2.2.2
    have hcu1 : (m2 0 13).toNat = k := by rw [o1 0 (by decide)]; exact hcu
    have k1 := o1 k (by omega)
    have e7 := hTk.1
    have hle := ftl_len (xs := -1) (xt := 0) hvd hfo
    have hpr : ∀ i : Int, 0 ≤ i → i < m2 59 7 → -2147483648 ≤ m2 65 i ∧ m2 65 i ≤ 2147483647 := fun i h0 h1 => by
      obtain ⟨q, hq⟩ : ∃ q, (ftl (m kf) (m ks) (m kt) (m kc) (m k) (m 5) (-1) 0)[i.toNat]? = some q := ⟨_, List.getElem?_eq_getElem (by omega)⟩
      have y := (hTk.2 _ q hq).2.2.2.2.2
      rw [show ((i.toNat : Nat) : Int) = i by omega] at y
      have z := ftl_rng hvd hfo q (List.mem_of_getElem? hq)
      omega
    have emn : mnA (m2 65) (m2 59 7).toNat = mnA (pshF (ftl (m kf) (m ks) (m kt) (m kc) (m k) (m 5) (-1) 0)) (ftl (m kf) (m ks) (m kt) (m kc) (m k) (m 5) (-1) 0).length := by rw [e7, Int.toNat_natCast]; exact mnA_cg _ (fun i h0 h1 => hTk.psh i h0 h1)
    obtain ⟨ok1, ok2, ok3, ok4, ok5⟩ := fpl_ok (xs := -1) (xt := 0) hvd hfo
    have e51 := o1 5 (by omega)
    have kf1 := o1 kf (by omega)
    refine v_bipush (z := -2) C dX10_riskiest_17 (by decide) ?_
    refine v_istore_n (L1 := [(1, .int (iz (-2))), (0, .ref (aa 0))]) C dX10_riskiest_19 (by decide) rfl ?_
    refine v_bipush (z := 41) C dX10_riskiest_20 (by decide) ?_
    refine v_istore_n (L1 := [(2, .int (iz (41))), (1, .int (iz (-2))), (0, .ref (aa 0))]) C dX10_riskiest_22 (by decide) rfl ?_
    refine v_iconst (z := 0) C dX10_riskiest_23 rfl ?_
    refine v_istore_n (L1 := [(3, .int (iz (0))), (2, .int (iz (41))), (1, .int (iz (-2))), (0, .ref (aa 0))]) C dX10_riskiest_24 (by decide) rfl ?_
    have K25 : ∀ (nK : Nat) (f : Int) (le : Int) (i : Int) (mI : Mem) (hi : 0 ≤ i ∧ i ≤ (ftl (m kf) (m ks) (m kt) (m kc) (m k) (m 5) (-1) 0).length) (hrk2 : rkQ (fun i y => ∃ q, (ftl (m kf) (m ks) (m kt) (m kc) (m k) (m 5) (-1) 0)[i.toNat]? = some q ∧ pfA (m kf) (m ks) (m kt) (m kc) (m k) (m 5) q.1 q.2.1 y) i f le) (hle2 : -2 ≤ le ∧ le ≤ 41) (fI : ∀ q, (q < 15 ∨ (23 ≤ q ∧ q < 51) ∨ 73 ≤ q) → mI q = m q) (fI2 : ∀ q, (19 ≤ q ∧ q < 23 ∨ 51 ≤ q ∧ q < 54 ∨ 59 ≤ q ∧ q < 66) → mI q = m2 q), ((ftl (m kf) (m ks) (m kt) (m kc) (m k) (m 5) (-1) 0).length - i).toNat < nK → V E (wC D cy aa ad) 5 mI 25 [(0, .ref (aa 0)), (1, .int (iz (f))), (2, .int (iz (le))), (3, .int (iz (i)))] [] := by
      intro nK
      induction nK with
      | zero => intro f le i mI hi hrk2 hle2 fI fI2 hn; exact absurd hn (Nat.not_lt_zero _)
      | succ nK ih25 =>
        intro f le i mI hi hrk2 hle2 fI fI2 hn25
        have fI15 : ∀ q : Nat, (q < 15 ∨ 73 ≤ q) → mI q = m q := fun q h => fI q (by omega)
        have kI := fI k (by omega)
        have kfI := fI kf (by omega)
        have ksI := fI ks (by omega)
        have ktI := fI kt (by omega)
        have kcI := fI kc (by omega)
        have e5I := fI 5 (by omega)
        have hcuI : (mI 0 13).toNat = k := by rw [fI 0 (by decide)]; exact hcu
        have htiI := hti.keep hk fI15
        have hTkI : TkL mI 59 60 61 62 63 64 65 (ftl (m kf) (m ks) (m kt) (m kc) (m k) (m 5) (-1) 0) := hTk.fr (by rw [fI2 59 (by omega)]) (fI2 60 (by omega)) (fI2 61 (by omega)) (fI2 62 (by omega)) (fI2 63 (by omega)) (fI2 64 (by omega)) (fI2 65 (by omega))
        have e7I := hTkI.1
        have hWI : WtIs mI 19 21 22 (mI kf) (mI k 5) (mI 5 0) (uX (mI 5)) := by rw [kI, kfI, e5I]; exact ⟨by rw [fI2 19 (by omega)]; exact hW.1, fun s h0 h1 => by rw [fI2 21 (by omega), fI2 22 (by omega)]; exact hW.2 s h0 h1⟩
        have hUuI : ∀ j : Int, 0 ≤ j → j < 3 → mI 20 j = uX (mI 5) j := by rw [fI2 20 (by omega), e5I]; exact hUu
        refine v_iload_n C 3 dX10_riskiest_25 rfl ?_
        refine v_aload_n C 0 dX10_riskiest_26 rfl ?_
        refine v_get C 0 11 lC0 (eC0 _) rfl inX10 (by decide) rfl qw430 dX10_riskiest_27 ?_
        refine v_get C 59 7 lC59 (eC59 _) rfl inX2 (by decide) rfl qw333 dX10_riskiest_30 ?_
        refine v_icmp_ge (tgt := 83) C dX10_riskiest_33 (by decide) (by omega) (by omega) (fun c3 => ?_) (fun c3 => ?_)
        · refine v_aload_n C 0 dX10_riskiest_83 rfl ?_
          refine v_iload_n C 1 dX10_riskiest_84 rfl ?_
          refine v_callV (st := []) (n := 1) (q := 0) C [.int (iz (f))] (ct_StageRatios_answer C.2.2.2.2.2.2.1 mI (f) ) lC0 (eC0 _) rfl qw640 qw1 qw637 rfl rfl ⟨Nat.le_of_ble_eq_true rfl, Nat.le_of_ble_eq_true rfl⟩ (by decide +kernel) qw639 qp16 rfl rfl (Nat.le_of_ble_eq_true rfl) dX10_riskiest_85 (fun r m4 hq4 => ?_)
          obtain ⟨z4, rfl, rfl, hq4⟩ := hq4
          show V E (wC D cy aa ad) 5 m4 88 [(0, .ref (aa 0)), (1, .int (iz (f))), (2, .int (iz (le))), (3, .int (iz (i)))] [.int (iz (f))]
          refine v_iret C X rfl dX10_riskiest_88 ⟨_, rfl, ?_, ?_⟩
          · rw [← hq4]
            refine ⟨0, ?_, by decide, CQ.of fI15⟩
            refine Or.inl ⟨hT1, rfl, ?_⟩
            rw [show i = ((ftl (m kf) (m ks) (m kt) (m kc) (m k) (m 5) (-1) 0).length : Int) by omega] at hrk2
            exact hrk2.p
          · rw [← hq4]; exact hci.of fI15
        · refine v_aload_n C 0 dX10_riskiest_36 rfl ?_
          refine v_aload_n C 0 dX10_riskiest_37 rfl ?_
          refine v_get C 0 11 lC0 (eC0 _) rfl inX10 (by decide) rfl qw430 dX10_riskiest_38 ?_
          refine v_get C 59 0 lC59 (eC59 _) rfl inX2 (by decide) rfl qw319 dX10_riskiest_41 ?_
          refine v_iload_n C 3 dX10_riskiest_44 rfl ?_
          refine v_callS (st := [.ref (aa 0)]) (n := 2) C [.ref (aa 60), .int (iz (i))] (ct_StageRatios_at C.2.2.2.2.2.2.1 mI (60) (51) (i) ⟨lC60, by decide, eC60⟩ (by first | assumption | omega)) qw618 qw1 qw653 rfl rfl ⟨Nat.le_of_ble_eq_true rfl, Nat.le_of_ble_eq_true rfl⟩ (by decide +kernel) qw617 rfl rfl (Nat.le_of_ble_eq_true rfl) dX10_riskiest_45 (fun r m5 hq5 => ?_)
          obtain ⟨z5, rfl, rfl, rfl⟩ := hq5
          show V E (wC D cy aa ad) 5 mI 48 [(0, .ref (aa 0)), (1, .int (iz (f))), (2, .int (iz (le))), (3, .int (iz (i)))] [.int (iz (mI 60 i)), .ref (aa 0)]
          obtain ⟨q0, hq0⟩ : ∃ q, (ftl (m kf) (m ks) (m kt) (m kc) (m k) (m 5) (-1) 0)[i.toNat]? = some q := ⟨_, List.getElem?_eq_getElem (by omega)⟩
          have hqv := hTkI.2 _ q0 hq0
          rw [show ((i.toNat : Nat) : Int) = i by omega] at hqv
          have hqr := ftl_rng hvd hfo q0 (List.mem_of_getElem? hq0)
          refine v_aload_n C 0 dX10_riskiest_48 rfl ?_
          refine v_get C 0 11 lC0 (eC0 _) rfl inX10 (by decide) rfl qw430 dX10_riskiest_49 ?_
          refine v_get C 59 1 lC59 (eC59 _) rfl inX2 (by decide) rfl qw321 dX10_riskiest_52 ?_
          refine v_iload_n C 3 dX10_riskiest_55 rfl ?_
          refine v_callS (st := [.int (iz (mI 60 i)), .ref (aa 0)]) (n := 2) C [.ref (aa 61), .int (iz (i))] (ct_StageRatios_at C.2.2.2.2.2.2.1 mI (61) (51) (i) ⟨lC61, by decide, eC61⟩ (by first | assumption | omega)) qw618 qw1 qw653 rfl rfl ⟨Nat.le_of_ble_eq_true rfl, Nat.le_of_ble_eq_true rfl⟩ (by decide +kernel) qw617 rfl rfl (Nat.le_of_ble_eq_true rfl) dX10_riskiest_56 (fun r m6 hq6 => ?_)
          obtain ⟨z6, rfl, rfl, rfl⟩ := hq6
          show V E (wC D cy aa ad) 5 mI 59 [(0, .ref (aa 0)), (1, .int (iz (f))), (2, .int (iz (le))), (3, .int (iz (i)))] [.int (iz (mI 61 i)), .int (iz (mI 60 i)), .ref (aa 0)]
          refine v_callV (st := []) (n := 2) (q := 0) C [.int (iz (mI 60 i)), .int (iz (mI 61 i))] (ct_StageRatios_powerAtRisk C.2.2.2.2.2.2.1 mI (k) (kf) (ks) (kt) (kc) (mI 60 i) (mI 61 i) (by first | assumption | omega) (by first | assumption | omega) (by first | assumption | omega) (by rw [hqv.1]; omega) (by rw [hqv.2.1]; omega) (by exact hWI) (by exact hUuI)) lC0 (eC0 _) rfl qw1008 qw1 qw1005 rfl rfl ⟨Nat.le_of_ble_eq_true rfl, Nat.le_of_ble_eq_true rfl⟩ (by decide +kernel) qw1007 qp31 rfl rfl (Nat.le_of_ble_eq_true rfl) dX10_riskiest_59 (fun r m7 hq7 => ?_)
          obtain ⟨z7, rfl, hq7, hm7⟩ := hq7
          show V E (wC D cy aa ad) 5 m7 62 [(0, .ref (aa 0)), (1, .int (iz (f))), (2, .int (iz (le))), (3, .int (iz (i)))] [.int (iz (z7))]
          rw [kI, kfI, ksI, ktI, kcI, e5I, hqv.1, hqv.2.1] at hq7
          have hpy : pfA (m kf) (m ks) (m kt) (m kc) (m k) (m 5) q0.1 q0.2.1 z7 := hq7
          have hzr := PwIs.rng hpy
          have hstep := rkP_step (pw := (fun i y => ∃ q, (ftl (m kf) (m ks) (m kt) (m kc) (m k) (m 5) (-1) 0)[i.toNat]? = some q ∧ pfA (m kf) (m ks) (m kt) (m kc) (m k) (m 5) q.1 q.2.1 y)) hrk2 ⟨q0, hq0, hpy⟩ hi.1
          have o59 := hm7
          refine v_istore (L1 := [(4, .int (iz (z7))), (0, .ref (aa 0)), (1, .int (iz (f))), (2, .int (iz (le))), (3, .int (iz (i)))]) C dX10_riskiest_62 (by decide) rfl ?_
          have K77 : ∀ (f2 : Int) (l2 : Int) (hrk3 : rkQ (fun i y => ∃ q, (ftl (m kf) (m ks) (m kt) (m kc) (m k) (m 5) (-1) 0)[i.toNat]? = some q ∧ pfA (m kf) (m ks) (m kt) (m kc) (m k) (m 5) q.1 q.2.1 y) (i + 1) f2 l2) (hle3 : -2 ≤ l2 ∧ l2 ≤ 41), V E (wC D cy aa ad) 5 m7 77 [(0, .ref (aa 0)), (1, .int (iz (f2))), (2, .int (iz (l2))), (3, .int (iz (i)))] [] := by
            intro f2 l2  hrk3 hle3
            refine v_iinc (L1 := [(3, .int (iz (i + 1))), (0, .ref (aa 0)), (1, .int (iz (f2))), (2, .int (iz (l2)))]) C 3 dX10_riskiest_77 rfl (by decide) rfl ?_
            refine v_goto (tgt := 25) C dX10_riskiest_80 (by decide) ?_
            refine v_sub [1, 2, 3, 0] rfl ?_
            exact ih25 (f2) (l2) (i + 1) m7 (by omega) (by exact hrk3) (by exact hle3) (by intro q h; rw [o59 q (by omega)]; exact fI q h) (by intro q h; rw [o59 q (by omega)]; exact fI2 q h) (by omega)
          refine v_iload C 0 dX10_riskiest_64 rfl ?_
          refine v_iload_n C 3 dX10_riskiest_66 rfl ?_
          refine v_icmp_ge (tgt := 77) C dX10_riskiest_67 (by decide) (by omega) (by omega) (fun c8 => ?_) (fun c8 => ?_)
          · refine v_sub [1, 2, 3, 4] rfl ?_
            exact K77  (f) (le)  (by first | exact hstep.1 (by omega) | exact hstep.2 (by omega) (by omega)) (by omega)
          · refine v_iload C 0 dX10_riskiest_70 rfl ?_
            refine v_istore_n (L1 := [(2, .int (iz (z7))), (4, .int (iz (z7))), (0, .ref (aa 0)), (1, .int (iz (f))), (3, .int (iz (i)))]) C dX10_riskiest_72 (by decide) rfl ?_
            refine v_iload_n C 4 dX10_riskiest_73 rfl ?_
            refine v_iconst (z := 1) C dX10_riskiest_74 rfl ?_
            refine v_iadd C dX10_riskiest_75 ?_
            refine v_istore_n (L1 := [(1, .int (iz (i + 1))), (2, .int (iz (z7))), (4, .int (iz (z7))), (0, .ref (aa 0)), (3, .int (iz (i)))]) C dX10_riskiest_76 (by decide) rfl ?_
            refine v_sub [3, 0, 1, 4] rfl ?_
            exact K77  (i + 1) (z7)  (by first | exact hstep.1 (by omega) | exact hstep.2 (by omega) (by omega)) (by omega)
    refine v_sub [3, 2, 1, 0] rfl ?_
    exact K25 _ (-2) (41) (0) m2 (by first | assumption | omega) (by exact Or.inl ⟨rfl, rfl, rfl⟩) (by omega) (by intro q h; exact o1 q (by omega)) (by intro q _; rfl) (Nat.lt_succ_self _)
  · refine v_aload_n C 0 dX10_riskiest_7 rfl ?_
    refine v_iconst (z := 1) C dX10_riskiest_8 rfl ?_
    refine v_callV (st := []) (n := 1) (q := 0) C [.int (iz (1))] (ct_StageRatios_refuse C.2.2.2.2.2.2.1 m (1) ) lC0 (eC0 _) rfl qw502 qw1 qw499 rfl rfl ⟨Nat.le_of_ble_eq_true rfl, Nat.le_of_ble_eq_true rfl⟩ (by decide +kernel) qw501 qp0 rfl rfl (Nat.le_of_ble_eq_true rfl) dX10_riskiest_9 (fun r m9 hq9 => ?_)
    obtain ⟨z9, rfl, rfl, hq9⟩ := hq9
    show V E (wC D cy aa ad) 5 m9 12 [(0, .ref (aa 0))] [.int (iz (-1))]
    refine v_iret C X rfl dX10_riskiest_12 ⟨_, rfl, ?_, ?_⟩
    · rw [← hq9]
      exact ⟨1, Or.inr ⟨by omega, rfl, rfl⟩, by decide, CQ.of (fun _ _ => rfl)⟩
    · rw [← hq9]; exact hci.of (fun _ _ => rfl)

set_option maxHeartbeats 4000000 in
set_option maxRecDepth 100000 in
theorem ct_StageRatios_arrives {lau : Launch} {D : va_G} {cy : Nat → ClassId} {aa ad : Nat → Nat} (hI : wI (wC D cy aa ad)) (m : Mem) (k kf ks kt kc : Nat) (hci : CI m k kf ks kt kc) : MT lau (wC D cy aa ad) yX10_arrives cX10_arrives 1 (some .int) ({ frames := 5, cells := 0, slots := 0, locals := 144 } : Room) m [.ref (aa 0)] (Pi (fun z m' => (QP (qArr (m 0 15) (m kf) (m ks) (m kt) (m kc) (m k) (m 5)) m m' z) ∧ CI m' k kf ks kt kc)) := by
  refine v_entry hI RX10 (by decide) rfl (Nat.le_of_ble_eq_true rfl) (fun E hE C X => ?_)
  subst hE
  show V E (wC D cy aa ad) 1 m 0 [(0, .ref (aa 0))] []
  obtain ⟨hk, hcu, htd, -⟩ := id hci
  have ht01 : m 0 15 = 0 ∨ m 0 15 = 1 := htd.imp (fun a => a) (fun a => a.1)
  refine v_aload_n C 0 dX10_arrives_0 rfl ?_
  refine v_get C 0 15 lC0 (eC0 _) rfl inX10 (by decide) rfl qw434 dX10_arrives_1 ?_
  refine v_if_ne (tgt := 13) C dX10_arrives_4 (by decide) (by omega) (fun c1 => ?_) (fun c1 => ?_)
  · obtain ⟨hT1, hti⟩ := htd.resolve_left (by omega)
    obtain ⟨hrk, hX, -⟩ := id hti
    obtain ⟨hk5, hF, hup, hlw, hpl, hnf, hfa, -⟩ := id hrk
    have hkk : 73 ≤ k ∧ 73 ≤ kf ∧ 73 ≤ ks ∧ 73 ≤ kt ∧ 73 ≤ kc := by unfold RocketAt at hk; omega
    have hUr := hX.u hF
    have hDv := hX.dv hF hk5
    have hvd := hti.vd
    have hfo : faOk (m ks) (m kt) (m kc) (m k) := ⟨hpl, hnf, hfa⟩
    refine v_aload_n C 0 dX10_arrives_13 rfl ?_
    refine v_callV (st := []) (n := 0) (q := 0) C [] (ct_StageRatios_flyAsItIs C.2.2.2.2.2.2.1 m (k) (kf) (ks) (kt) (kc) (by first | assumption | omega) (by first | assumption | omega) (by first | assumption | omega)) lC0 (eC0 _) rfl qw962 qw1 qw959 rfl rfl ⟨Nat.le_of_ble_eq_true rfl, Nat.le_of_ble_eq_true rfl⟩ (by decide +kernel) qw961 qp28 rfl rfl (Nat.le_of_ble_eq_true rfl) dX10_arrives_14 (fun r m2 hq2 => ?_)
    obtain ⟨rfl, hq2⟩ := hq2
    show V E (wC D cy aa ad) 1 m2 17 [(0, .ref (aa 0))] []
    have hTk := hq2.1.1
    have hdr8 := hq2.1.2.1
    have hst9 := hq2.1.2.2.1
    have hRl := hq2.1.2.2.2
    have hW := hq2.2.1.1
    have hUu := hq2.2.1.2
    have o1 := hq2.2.2
    have hcu1 : (m2 0 13).toNat = k := by rw [o1 0 (by decide)]; exact hcu
    have k1 := o1 k (by omega)
    have e7 := hTk.1
    have hle := ftl_len (xs := -1) (xt := 0) hvd hfo
    have hpr : ∀ i : Int, 0 ≤ i → i < m2 59 7 → -2147483648 ≤ m2 65 i ∧ m2 65 i ≤ 2147483647 := fun i h0 h1 => by
      obtain ⟨q, hq⟩ : ∃ q, (ftl (m kf) (m ks) (m kt) (m kc) (m k) (m 5) (-1) 0)[i.toNat]? = some q := ⟨_, List.getElem?_eq_getElem (by omega)⟩
      have y := (hTk.2 _ q hq).2.2.2.2.2
      rw [show ((i.toNat : Nat) : Int) = i by omega] at y
      have z := ftl_rng hvd hfo q (List.mem_of_getElem? hq)
      omega
    have emn : mnA (m2 65) (m2 59 7).toNat = mnA (pshF (ftl (m kf) (m ks) (m kt) (m kc) (m k) (m 5) (-1) 0)) (ftl (m kf) (m ks) (m kt) (m kc) (m k) (m 5) (-1) 0).length := by rw [e7, Int.toNat_natCast]; exact mnA_cg _ (fun i h0 h1 => hTk.psh i h0 h1)
    obtain ⟨ok1, ok2, ok3, ok4, ok5⟩ := fpl_ok (xs := -1) (xt := 0) hvd hfo
    refine v_aload_n C 0 dX10_arrives_17 rfl ?_
    refine v_aload_n C 0 dX10_arrives_18 rfl ?_
    refine v_aload_n C 0 dX10_arrives_19 rfl ?_
    refine v_get C 0 11 lC0 (eC0 _) rfl inX10 (by decide) rfl qw430 dX10_arrives_20 ?_
    refine v_callV (st := [.ref (aa 0)]) (n := 1) (q := 0) C [.ref (aa 59)] (ct_StageRatios_powerFlown C.2.2.2.2.2.2.1 m2 (59) (60) (61) (62) (63) (64) (65) (51) (52) (53) (54) (k) (kf) (ks) (kt) (kc) (fpl (m kf) (m ks) (m kt) (m kc) (m k) (m 5) (-1) 0) (by unfold FlightAt; decide) (by first | assumption | omega) (by first | assumption | omega) (by exact hrk.fr k1 (o1 kf (by omega)) (o1 ks (by omega)) (o1 kt (by omega)) (o1 kc (by omega))) (by exact hRl) (by exact ok1) (by exact ok2) (by exact ok3) (by exact ⟨ok4, ok5⟩)) lC0 (eC0 _) rfl qw996 qw1 qw993 rfl rfl ⟨Nat.le_of_ble_eq_true rfl, Nat.le_of_ble_eq_true rfl⟩ (by decide +kernel) qw995 qp30 rfl rfl (Nat.le_of_ble_eq_true rfl) dX10_arrives_23 (fun r m3 hq3 => ?_)
    obtain ⟨z3, rfl, hq3, hm3⟩ := hq3
    show V E (wC D cy aa ad) 1 m3 26 [(0, .ref (aa 0))] [.int (iz (z3)), .ref (aa 0)]
    rw [k1] at hq3
    have e51 : m3 5 = m 5 := by rw [hm3 5 (by omega) (by omega) (by omega) (by omega)]; exact o1 5 (by omega)
    have hp1 := hX.2.1
    have hir := hq3.iff (k := m 5 1) (by omega) hlw.1 hlw.2 (by omega) (by omega)
    have hzr := hq3.rng
    refine v_aload_n C 0 dX10_arrives_26 rfl ?_
    refine v_get C 0 2 lC0 (eC0 _) rfl inX10 (by decide) rfl qw421 dX10_arrives_27 ?_
    refine v_iconst (z := 1) C dX10_arrives_30 rfl ?_
    refine v_callS (st := [.int (iz (z3)), .ref (aa 0)]) (n := 2) C [.ref (aa 5), .int (iz (1))] (ct_StageRatios_at C.2.2.2.2.2.2.1 m3 (5) (11) (1) ⟨lC5, by decide, eC5⟩ (by first | assumption | omega)) qw618 qw1 qw653 rfl rfl ⟨Nat.le_of_ble_eq_true rfl, Nat.le_of_ble_eq_true rfl⟩ (by decide +kernel) qw617 rfl rfl (Nat.le_of_ble_eq_true rfl) dX10_arrives_31 (fun r m4 hq4 => ?_)
    obtain ⟨z4, rfl, rfl, rfl⟩ := hq4
    show V E (wC D cy aa ad) 1 m3 34 [(0, .ref (aa 0))] [.int (iz (m3 5 1)), .int (iz (z3)), .ref (aa 0)]
    have e5x : m3 5 1 = m 5 1 := by rw [e51]
    refine v_icmp_lt (tgt := 41) C dX10_arrives_34 (by decide) (by omega) (by omega) (fun c5 => ?_) (fun c5 => ?_)
    · have hho : ((0 : Int) = 1 ∧ rch (numL (fpl (m kf) (m ks) (m kt) (m kc) (m k) (m 5) (-1) 0)) (denL (fpl (m kf) (m ks) (m kt) (m kc) (m k) (m 5) (-1) 0)) (m k 2) (m k 3) (m 5 1).toNat) ∨ ((0 : Int) = 0 ∧ ¬ rch (numL (fpl (m kf) (m ks) (m kt) (m kc) (m k) (m 5) (-1) 0)) (denL (fpl (m kf) (m ks) (m kt) (m kc) (m k) (m 5) (-1) 0)) (m k 2) (m k 3) (m 5 1).toNat) := Or.inr ⟨rfl, fun h => by have := hir.mpr h; omega⟩
      refine v_iconst (z := 0) C dX10_arrives_41 rfl ?_
      refine v_callV (st := []) (n := 1) (q := 0) C [.int (iz (0))] (ct_StageRatios_answer C.2.2.2.2.2.2.1 m3 (0) ) lC0 (eC0 _) rfl qw640 qw1 qw637 rfl rfl ⟨Nat.le_of_ble_eq_true rfl, Nat.le_of_ble_eq_true rfl⟩ (by decide +kernel) qw639 qp16 rfl rfl (Nat.le_of_ble_eq_true rfl) dX10_arrives_42 (fun r m6 hq6 => ?_)
      obtain ⟨z6, rfl, rfl, hq6⟩ := hq6
      show V E (wC D cy aa ad) 1 m6 45 [(0, .ref (aa 0))] [.int (iz (0))]
      refine v_iret C X rfl dX10_arrives_45 ⟨_, rfl, ?_, ?_⟩
      · rw [← hq6]
        refine ⟨0, ?_, by decide, CQ.of (fun q h => by rw [hm3 q (by omega) (by omega) (by omega) (by omega)]; exact o1 q (by omega))⟩
        exact Or.inl ⟨hT1, rfl, hho⟩
      · rw [← hq6]; exact hci.of (fun q h => by rw [hm3 q (by omega) (by omega) (by omega) (by omega)]; exact o1 q (by omega))
    · have hho : ((1 : Int) = 1 ∧ rch (numL (fpl (m kf) (m ks) (m kt) (m kc) (m k) (m 5) (-1) 0)) (denL (fpl (m kf) (m ks) (m kt) (m kc) (m k) (m 5) (-1) 0)) (m k 2) (m k 3) (m 5 1).toNat) ∨ ((1 : Int) = 0 ∧ ¬ rch (numL (fpl (m kf) (m ks) (m kt) (m kc) (m k) (m 5) (-1) 0)) (denL (fpl (m kf) (m ks) (m kt) (m kc) (m k) (m 5) (-1) 0)) (m k 2) (m k 3) (m 5 1).toNat) := Or.inl ⟨rfl, hir.mp (by omega)⟩
      refine v_iconst (z := 1) C dX10_arrives_37 rfl ?_
      refine v_goto (tgt := 42) C dX10_arrives_38 (by decide) ?_
      refine v_callV (st := []) (n := 1) (q := 0) C [.int (iz (1))] (ct_StageRatios_answer C.2.2.2.2.2.2.1 m3 (1) ) lC0 (eC0 _) rfl qw640 qw1 qw637 rfl rfl ⟨Nat.le_of_ble_eq_true rfl, Nat.le_of_ble_eq_true rfl⟩ (by decide +kernel) qw639 qp16 rfl rfl (Nat.le_of_ble_eq_true rfl) dX10_arrives_42 (fun r m7 hq7 => ?_)
      obtain ⟨z7, rfl, rfl, hq7⟩ := hq7
      show V E (wC D cy aa ad) 1 m7 45 [(0, .ref (aa 0))] [.int (iz (1))]
      refine v_iret C X rfl dX10_arrives_45 ⟨_, rfl, ?_, ?_⟩
      · rw [← hq7]
        refine ⟨0, ?_, by decide, CQ.of (fun q h => by rw [hm3 q (by omega) (by omega) (by omega) (by omega)]; exact o1 q (by omega))⟩
        exact Or.inl ⟨hT1, rfl, hho⟩
      · rw [← hq7]; exact hci.of (fun q h => by rw [hm3 q (by omega) (by omega) (by omega) (by omega)]; exact o1 q (by omega))
  · refine v_aload_n C 0 dX10_arrives_7 rfl ?_
    refine v_iconst (z := 1) C dX10_arrives_8 rfl ?_
    refine v_callV (st := []) (n := 1) (q := 0) C [.int (iz (1))] (ct_StageRatios_refuse C.2.2.2.2.2.2.1 m (1) ) lC0 (eC0 _) rfl qw502 qw1 qw499 rfl rfl ⟨Nat.le_of_ble_eq_true rfl, Nat.le_of_ble_eq_true rfl⟩ (by decide +kernel) qw501 qp0 rfl rfl (Nat.le_of_ble_eq_true rfl) dX10_arrives_9 (fun r m8 hq8 => ?_)
    obtain ⟨z8, rfl, rfl, hq8⟩ := hq8
    show V E (wC D cy aa ad) 1 m8 12 [(0, .ref (aa 0))] [.int (iz (-1))]
    refine v_iret C X rfl dX10_arrives_12 ⟨_, rfl, ?_, ?_⟩
    · rw [← hq8]
      exact ⟨1, Or.inr ⟨by omega, rfl, rfl⟩, by decide, CQ.of (fun _ _ => rfl)⟩
    · rw [← hq8]; exact hci.of (fun _ _ => rfl)

set_option maxHeartbeats 4000000 in
set_option maxRecDepth 100000 in
theorem ct_StageRatios_flown {lau : Launch} {D : va_G} {cy : Nat → ClassId} {aa ad : Nat → Nat} (hI : wI (wC D cy aa ad)) (m : Mem) (k kf ks kt kc : Nat) (up : Int) (hci : CI m k kf ks kt kc) (hu : up = 0 ∨ up = 1) : MT lau (wC D cy aa ad) yX10_flown cX10_flown 2 (some .int) ({ frames := 5, cells := 0, slots := 0, locals := 122 } : Room) m [.ref (aa 0), .int (iz (up))] (Pi (fun z m' => (QP (qFlo (m 0 15) (m kf) (m ks) (m kt) (m kc) (m k) (m 5) up) m m' z) ∧ CI m' k kf ks kt kc)) := by
  refine v_entry hI RX10 (by decide) rfl (Nat.le_of_ble_eq_true rfl) (fun E hE C X => ?_)
  subst hE
  show V E (wC D cy aa ad) 2 m 0 [(0, .ref (aa 0)), (1, .int (iz (up)))] []
  obtain ⟨hk, hcu, htd, -⟩ := id hci
  have ht01 : m 0 15 = 0 ∨ m 0 15 = 1 := htd.imp (fun a => a) (fun a => a.1)
  refine v_aload_n C 0 dX10_flown_0 rfl ?_
  refine v_get C 0 15 lC0 (eC0 _) rfl inX10 (by decide) rfl qw434 dX10_flown_1 ?_
  refine v_if_ne (tgt := 13) C dX10_flown_4 (by decide) (by omega) (fun c1 => ?_) (fun c1 => ?_)
  · obtain ⟨hT1, hti⟩ := htd.resolve_left (by omega)
    obtain ⟨hrk, hX, -⟩ := id hti
    obtain ⟨hk5, hF, hup, hlw, hpl, hnf, hfa, -⟩ := id hrk
    have hkk : 73 ≤ k ∧ 73 ≤ kf ∧ 73 ≤ ks ∧ 73 ≤ kt ∧ 73 ≤ kc := by unfold RocketAt at hk; omega
    have hUr := hX.u hF
    have hDv := hX.dv hF hk5
    have hvd := hti.vd
    have hfo : faOk (m ks) (m kt) (m kc) (m k) := ⟨hpl, hnf, hfa⟩
    refine v_aload_n C 0 dX10_flown_13 rfl ?_
    refine v_callV (st := []) (n := 0) (q := 0) C [] (ct_StageRatios_flyAsItIs C.2.2.2.2.2.2.1 m (k) (kf) (ks) (kt) (kc) (by first | assumption | omega) (by first | assumption | omega) (by first | assumption | omega)) lC0 (eC0 _) rfl qw962 qw1 qw959 rfl rfl ⟨Nat.le_of_ble_eq_true rfl, Nat.le_of_ble_eq_true rfl⟩ (by decide +kernel) qw961 qp28 rfl rfl (Nat.le_of_ble_eq_true rfl) dX10_flown_14 (fun r m2 hq2 => ?_)
    obtain ⟨rfl, hq2⟩ := hq2
    show V E (wC D cy aa ad) 2 m2 17 [(0, .ref (aa 0)), (1, .int (iz (up)))] []
    have hTk := hq2.1.1
    have hdr8 := hq2.1.2.1
    have hst9 := hq2.1.2.2.1
    have hRl := hq2.1.2.2.2
    have hW := hq2.2.1.1
    have hUu := hq2.2.1.2
    have o1 := hq2.2.2
    have hcu1 : (m2 0 13).toNat = k := by rw [o1 0 (by decide)]; exact hcu
    have k1 := o1 k (by omega)
    have e7 := hTk.1
    have hle := ftl_len (xs := -1) (xt := 0) hvd hfo
    have hpr : ∀ i : Int, 0 ≤ i → i < m2 59 7 → -2147483648 ≤ m2 65 i ∧ m2 65 i ≤ 2147483647 := fun i h0 h1 => by
      obtain ⟨q, hq⟩ : ∃ q, (ftl (m kf) (m ks) (m kt) (m kc) (m k) (m 5) (-1) 0)[i.toNat]? = some q := ⟨_, List.getElem?_eq_getElem (by omega)⟩
      have y := (hTk.2 _ q hq).2.2.2.2.2
      rw [show ((i.toNat : Nat) : Int) = i by omega] at y
      have z := ftl_rng hvd hfo q (List.mem_of_getElem? hq)
      omega
    have emn : mnA (m2 65) (m2 59 7).toNat = mnA (pshF (ftl (m kf) (m ks) (m kt) (m kc) (m k) (m 5) (-1) 0)) (ftl (m kf) (m ks) (m kt) (m kc) (m k) (m 5) (-1) 0).length := by rw [e7, Int.toNat_natCast]; exact mnA_cg _ (fun i h0 h1 => hTk.psh i h0 h1)
    obtain ⟨ok1, ok2, ok3, ok4, ok5⟩ := fpl_ok (xs := -1) (xt := 0) hvd hfo
    refine v_aload_n C 0 dX10_flown_17 rfl ?_
    refine v_aload_n C 0 dX10_flown_18 rfl ?_
    refine v_get C 0 11 lC0 (eC0 _) rfl inX10 (by decide) rfl qw430 dX10_flown_19 ?_
    refine v_get C 59 6 lC59 (eC59 _) rfl inX2 (by decide) rfl qw331 dX10_flown_22 ?_
    refine v_iload_n C 1 dX10_flown_25 rfl ?_
    refine v_callV (st := [.ref (aa 0)]) (n := 1) (q := 51) C [.int (iz (up))] (ct_Ratio_lowest C.2.2.2.2.2.2.1 m2 (51) (52) (53) (54) (fpl (m kf) (m ks) (m kt) (m kc) (m k) (m 5) (-1) 0) (up) (by unfold RatioAt; decide) (by exact hRl) (by exact ok1) (by first | assumption | omega)) lC51 (eC51 _) rfl qw781 qw9 qw778 rfl rfl ⟨Nat.le_of_ble_eq_true rfl, Nat.le_of_ble_eq_true rfl⟩ (by decide +kernel) qw779 qw780 rfl rfl (Nat.le_of_ble_eq_true rfl) dX10_flown_26 (fun r m3 hq3 => ?_)
    obtain ⟨z3, rfl, rfl, hq3⟩ := hq3
    show V E (wC D cy aa ad) 2 m3 29 [(0, .ref (aa 0)), (1, .int (iz (up)))] [.int (iz (lowA (fun j0 => if up = 1 then exL j0 (fpl (m kf) (m ks) (m kt) (m kc) (m k) (m 5) (-1) 0) else -exL j0 (fpl (m kf) (m ks) (m kt) (m kc) (m k) (m 5) (-1) 0)) 399)), .ref (aa 0)]
    refine v_callV (st := []) (n := 1) (q := 0) C [.int (iz (lowA (fun j0 => if up = 1 then exL j0 (fpl (m kf) (m ks) (m kt) (m kc) (m k) (m 5) (-1) 0) else -exL j0 (fpl (m kf) (m ks) (m kt) (m kc) (m k) (m 5) (-1) 0)) 399))] (ct_StageRatios_answer C.2.2.2.2.2.2.1 m3 (lowA (fun j0 => if up = 1 then exL j0 (fpl (m kf) (m ks) (m kt) (m kc) (m k) (m 5) (-1) 0) else -exL j0 (fpl (m kf) (m ks) (m kt) (m kc) (m k) (m 5) (-1) 0)) 399) ) lC0 (eC0 _) rfl qw640 qw1 qw637 rfl rfl ⟨Nat.le_of_ble_eq_true rfl, Nat.le_of_ble_eq_true rfl⟩ (by decide +kernel) qw639 qp16 rfl rfl (Nat.le_of_ble_eq_true rfl) dX10_flown_29 (fun r m4 hq4 => ?_)
    obtain ⟨z4, rfl, rfl, hq4⟩ := hq4
    show V E (wC D cy aa ad) 2 m4 32 [(0, .ref (aa 0)), (1, .int (iz (up)))] [.int (iz ((lowA (fun j0 => if up = 1 then exL j0 (fpl (m kf) (m ks) (m kt) (m kc) (m k) (m 5) (-1) 0) else -exL j0 (fpl (m kf) (m ks) (m kt) (m kc) (m k) (m 5) (-1) 0)) 399)))]
    refine v_iret C X rfl dX10_flown_32 ⟨_, rfl, ?_, ?_⟩
    · rw [← hq4]
      refine ⟨0, ?_, by decide, CQ.of (fun q h => by rw [hq3 q (by omega)]; exact o1 q (by omega))⟩
      exact Or.inl ⟨hT1, rfl, rfl⟩
    · rw [← hq4]; exact hci.of (fun q h => by rw [hq3 q (by omega)]; exact o1 q (by omega))
  · refine v_aload_n C 0 dX10_flown_7 rfl ?_
    refine v_iconst (z := 1) C dX10_flown_8 rfl ?_
    refine v_callV (st := []) (n := 1) (q := 0) C [.int (iz (1))] (ct_StageRatios_refuse C.2.2.2.2.2.2.1 m (1) ) lC0 (eC0 _) rfl qw502 qw1 qw499 rfl rfl ⟨Nat.le_of_ble_eq_true rfl, Nat.le_of_ble_eq_true rfl⟩ (by decide +kernel) qw501 qp0 rfl rfl (Nat.le_of_ble_eq_true rfl) dX10_flown_9 (fun r m5 hq5 => ?_)
    obtain ⟨z5, rfl, rfl, hq5⟩ := hq5
    show V E (wC D cy aa ad) 2 m5 12 [(0, .ref (aa 0)), (1, .int (iz (up)))] [.int (iz (-1))]
    refine v_iret C X rfl dX10_flown_12 ⟨_, rfl, ?_, ?_⟩
    · rw [← hq5]
      exact ⟨1, Or.inr ⟨by omega, rfl, rfl⟩, by decide, CQ.of (fun _ _ => rfl)⟩
    · rw [← hq5]; exact hci.of (fun _ _ => rfl)

set_option maxHeartbeats 4000000 in
set_option maxRecDepth 100000 in
theorem ct_StageRatios_weakest {lau : Launch} {D : va_G} {cy : Nat → ClassId} {aa ad : Nat → Nat} (hI : wI (wC D cy aa ad)) (m : Mem) (k kf ks kt kc : Nat) (i : Int) (hci : CI m k kf ks kt kc) (hi : -2147483648 ≤ i ∧ i ≤ 2147483647) : MT lau (wC D cy aa ad) yX10_weakest cX10_weakest 4 (some .int) ({ frames := 4, cells := 0, slots := 0, locals := 92 } : Room) m [.ref (aa 0), .int (iz (i))] (Pi (fun z m' => (qWek (m 0 15) (m kf) (m k) (m 5) i z ∧ -1 ≤ z ∧ z ≤ 2) ∧ (∀ q, (q < 15 ∨ 73 ≤ q) → m' q = m q))) := by
  refine v_entry hI RX10 (by decide) rfl (Nat.le_of_ble_eq_true rfl) (fun E hE C X => ?_)
  subst hE
  show V E (wC D cy aa ad) 4 m 0 [(0, .ref (aa 0)), (1, .int (iz (i)))] []
  obtain ⟨hk, hcu, htd, -⟩ := id hci
  have ht01 : m 0 15 = 0 ∨ m 0 15 = 1 := htd.imp (fun a => a) (fun a => a.1)
  refine v_aload_n C 0 dX10_weakest_0 rfl ?_
  refine v_get C 0 15 lC0 (eC0 _) rfl inX10 (by decide) rfl qw434 dX10_weakest_1 ?_
  refine v_if_eq (tgt := 11) C dX10_weakest_4 (by decide) (by omega) (fun c1 => ?_) (fun c1 => ?_)
  · refine v_iconst (z := -1) C dX10_weakest_11 rfl ?_
    refine v_iret C X rfl dX10_weakest_12 ⟨_, rfl, ?_, ?_⟩
    · first
        | exact ⟨Or.inr ⟨by omega, rfl⟩, by omega⟩
        | (by_cases hT : m 0 15 = 1
           · exact ⟨Or.inl ⟨hT, Or.inl ⟨rfl, Or.inl (by omega)⟩⟩, by omega⟩
           · exact ⟨Or.inr ⟨hT, rfl⟩, by omega⟩)
    · exact fun _ _ => rfl
  · refine v_iload_n C 1 dX10_weakest_7 rfl ?_
    refine v_if_ge (tgt := 13) C dX10_weakest_8 (by decide) (by omega) (fun c2 => ?_) (fun c2 => ?_)
    · obtain ⟨hT1, hti⟩ := htd.resolve_left (by omega)
      obtain ⟨hrk, hX, -⟩ := id hti
      obtain ⟨hk5, hF, hup, hlw, hpl, hnf, hfa, -⟩ := id hrk
      have hkk : 73 ≤ k ∧ 73 ≤ kf ∧ 73 ≤ ks ∧ 73 ≤ kt ∧ 73 ≤ kc := by unfold RocketAt at hk; omega
      have hUr := hX.u hF
      have hDv := hX.dv hF hk5
      refine v_aload_n C 0 dX10_weakest_13 rfl ?_
      refine v_callV (st := []) (n := 0) (q := 0) C [] (ct_StageRatios_weighAsItIs C.2.2.2.2.2.2.1 m (k) (kf) (ks) (kt) (kc) (by first | assumption | omega) (by first | assumption | omega) (by first | assumption | omega)) lC0 (eC0 _) rfl qw674 qw1 qw671 rfl rfl ⟨Nat.le_of_ble_eq_true rfl, Nat.le_of_ble_eq_true rfl⟩ (by decide +kernel) qw673 qp18 rfl rfl (Nat.le_of_ble_eq_true rfl) dX10_weakest_14 (fun r m3 hq3 => ?_)
      obtain ⟨rfl, hq3⟩ := hq3
      show V E (wC D cy aa ad) 4 m3 17 [(0, .ref (aa 0)), (1, .int (iz (i)))] []
      have o1 := hq3.2.2
      have hW := hq3.1
      have hcu1 : (m3 0 13).toNat = k := by rw [o1 0 (by decide)]; exact hcu
      have k1 := o1 k (by omega)
      have kf1 := o1 kf (by omega)
      have hstr := fun (j : Int) (h0 : 0 ≤ j) (h1 : j ≤ m k 5) => stZ_rng (s := j) hF hk5.2 hX.1 hDv.2.2 h0 h1
      have k15 : m3 k 5 = m k 5 := by rw [k1]
      refine v_iload_n C 1 dX10_weakest_17 rfl ?_
      refine v_istore_n (L1 := [(2, .int (iz (i))), (0, .ref (aa 0)), (1, .int (iz (i)))]) C dX10_weakest_18 (by decide) rfl ?_
      refine v_iconst (z := 0) C dX10_weakest_19 rfl ?_
      refine v_istore_n (L1 := [(3, .int (iz (0))), (2, .int (iz (i))), (0, .ref (aa 0)), (1, .int (iz (i)))]) C dX10_weakest_20 (by decide) rfl ?_
      have K21 : ∀ (nK : Nat) (le : Int) (s : Int) (hs : 0 ≤ s ∧ s ≤ m k 5) (hle : 0 ≤ le ∧ le ≤ i ∧ le + cnP (fun c => ¬ (fun s => hoZ (m kf) s (stX (m kf) (m k) (m 5) s)) c) s.toNat = i), (m k 5 - s).toNat < nK → V E (wC D cy aa ad) 4 m3 21 [(0, .ref (aa 0)), (1, .int (iz (i))), (2, .int (iz (le))), (3, .int (iz (s)))] [] := by
        intro nK
        induction nK with
        | zero => intro le s  hs hle hn; exact absurd hn (Nat.not_lt_zero _)
        | succ nK ih21 =>
          intro le s  hs hle hn21
          have es : (s + 1).toNat = s.toNat + 1 := by omega
          have es2 : ((s.toNat : Nat) : Int) = s := by omega
          refine v_iload_n C 3 dX10_weakest_21 rfl ?_
          refine v_aload_n C 0 dX10_weakest_22 rfl ?_
          refine v_get C 0 13 lC0 (eC0 _) rfl inX10 (by decide) rfl qw432 dX10_weakest_23 ?_
          refine v_st (st1 := [.ref (aa k), .int (iz (s))]) (by rw [show (m3 0 13).toNat = k from by assumption]) ?_
          refine v_get C k 5 (RocketAt.l0 hk) (RocketAt.e0 hk _) rfl inX6 (by decide) rfl qw387 dX10_weakest_26 ?_
          refine v_icmp_ge (tgt := 62) C dX10_weakest_29 (by decide) (by omega) (by omega) (fun c4 => ?_) (fun c4 => ?_)
          · refine v_iconst (z := -1) C dX10_weakest_62 rfl ?_
            refine v_iret C X rfl dX10_weakest_63 ⟨_, rfl, ?_, ?_⟩
            · exact ⟨Or.inl ⟨hT1, Or.inl ⟨rfl, Or.inr (by rw [show s = m k 5 by omega] at hle; omega)⟩⟩, by omega⟩
            · exact fun q h => o1 q (by omega)
          · have K56 : ∀ (l2 : Int) (hle2 : 0 ≤ l2 ∧ l2 ≤ i ∧ l2 + cnP (fun c => ¬ (fun s => hoZ (m kf) s (stX (m kf) (m k) (m 5) s)) c) (s + 1).toNat = i), V E (wC D cy aa ad) 4 m3 56 [(0, .ref (aa 0)), (1, .int (iz (i))), (2, .int (iz (l2))), (3, .int (iz (s)))] [] := by
              intro l2  hle2
              refine v_iinc (L1 := [(3, .int (iz (s + 1))), (0, .ref (aa 0)), (1, .int (iz (i))), (2, .int (iz (l2)))]) C 3 dX10_weakest_56 rfl (by decide) rfl ?_
              refine v_goto (tgt := 21) C dX10_weakest_59 (by decide) ?_
              refine v_sub [1, 2, 3, 0] rfl ?_
              exact ih21 (l2) (s + 1)  (by first | assumption | omega) (by exact hle2) (by omega)
            refine v_aload_n C 0 dX10_weakest_32 rfl ?_
            refine v_get C 0 4 lC0 (eC0 _) rfl inX10 (by decide) rfl qw423 dX10_weakest_33 ?_
            refine v_aload_n C 0 dX10_weakest_36 rfl ?_
            refine v_get C 0 13 lC0 (eC0 _) rfl inX10 (by decide) rfl qw432 dX10_weakest_37 ?_
            refine v_st (st1 := [.ref (aa k), .ref (aa 19)]) (by rw [show (m3 0 13).toNat = k from by assumption]) ?_
            refine v_iload_n C 3 dX10_weakest_40 rfl ?_
            refine v_callV (st := []) (n := 2) (q := 19) C [.ref (aa k), .int (iz (s))] (ct_Weights_holdsAt C.2.2.2.2.2.2.1 m3 (19) (20) (21) (22) (k) (kf) (ks) (kt) (kc) (s) (m k 5) (by unfold WeightsAt; decide) hk (by exact hk5.2) (by first | assumption | omega) (by rw [kf1]; exact hF) (by rw [(hW.2 s (by omega) (by omega)).1]; have := hstr s (by omega) (by omega); omega)) lC19 (eC19 _) rfl qw689 qw8 qw686 rfl rfl ⟨Nat.le_of_ble_eq_true rfl, Nat.le_of_ble_eq_true rfl⟩ (by decide +kernel) qw687 qw688 rfl rfl (Nat.le_of_ble_eq_true rfl) dX10_weakest_41 (fun r m5 hq5 => ?_)
            obtain ⟨z5, rfl, ⟨rfl, hq5, rfl⟩ | ⟨rfl, hq5, rfl⟩⟩ := hq5
            · show V E (wC D cy aa ad) 4 m3 44 [(0, .ref (aa 0)), (1, .int (iz (i))), (2, .int (iz (le))), (3, .int (iz (s)))] [.int (iz (1))]
              rw [kf1, (hW.2 s (by omega) (by omega)).1] at hq5
              refine v_if_ne (tgt := 56) C dX10_weakest_44 (by decide) (by omega) (fun c6 => ?_) (fun c6 => by exact absurd c6 (by decide))
              refine v_sub [0, 1, 2, 3] rfl ?_
              exact K56  (le)  (by 
                                rw [es]
                                first
                                  | (rw [cnP_n (by rw [es2]; exact fun y => y hq5)]; exact hle)
                                  | (rw [cnP_y (by rw [es2]; exact hq5)]; omega)
                              )
            · show V E (wC D cy aa ad) 4 m3 44 [(0, .ref (aa 0)), (1, .int (iz (i))), (2, .int (iz (le))), (3, .int (iz (s)))] [.int (iz (0))]
              rw [kf1, (hW.2 s (by omega) (by omega)).1] at hq5
              refine v_if_ne (tgt := 56) C dX10_weakest_44 (by decide) (by omega) (fun c7 => by exact absurd c7 (by decide)) (fun c7 => ?_)
              refine v_iload_n C 2 dX10_weakest_47 rfl ?_
              refine v_if_ne (tgt := 53) C dX10_weakest_48 (by decide) (by omega) (fun c8 => ?_) (fun c8 => ?_)
              · refine v_iinc (L1 := [(2, .int (iz (le + (-1)))), (0, .ref (aa 0)), (1, .int (iz (i))), (3, .int (iz (s)))]) C 2 dX10_weakest_53 rfl (by decide) rfl ?_
                refine v_sub [1, 2, 0, 3] rfl ?_
                exact K56  (le + (-1))  (by 
                                    rw [es]
                                    first
                                      | (rw [cnP_n (by rw [es2]; exact fun y => y hq5)]; exact hle)
                                      | (rw [cnP_y (by rw [es2]; exact hq5)]; omega)
                                  )
              · refine v_iload_n C 3 dX10_weakest_51 rfl ?_
                refine v_iret C X rfl dX10_weakest_52 ⟨_, rfl, ?_, ?_⟩
                · exact ⟨Or.inl ⟨hT1, Or.inr ⟨⟨by omega, by omega⟩, hq5, by omega⟩⟩, by omega⟩
                · exact fun q h => o1 q (by omega)
      refine v_sub [2, 3, 1, 0] rfl ?_
      exact K21 _ (i) (0)  (by first | assumption | omega) (by exact ⟨by omega, by omega, by show i + 0 = i; omega⟩) (Nat.lt_succ_self _)
    · refine v_iconst (z := -1) C dX10_weakest_11 rfl ?_
      refine v_iret C X rfl dX10_weakest_12 ⟨_, rfl, ?_, ?_⟩
      · first
          | exact ⟨Or.inr ⟨by omega, rfl⟩, by omega⟩
          | (by_cases hT : m 0 15 = 1
             · exact ⟨Or.inl ⟨hT, Or.inl ⟨rfl, Or.inl (by omega)⟩⟩, by omega⟩
             · exact ⟨Or.inr ⟨hT, rfl⟩, by omega⟩)
      · exact fun _ _ => rfl
