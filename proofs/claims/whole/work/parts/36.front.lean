def fsA (fa : Int → Int) (n P c b : Int) : Prop := numL (spT fa n P (unZ b)) * denL (spT fa n P (unZ c)) < numL (spT fa n P (unZ c)) * denL (spT fa n P (unZ b))
theorem fsA_ord {fa : Int → Int} {n P : Int} (hF : FaOk fa n) (hn : 1 ≤ n ∧ n ≤ 3) (hP : 1 ≤ P ∧ P ≤ 40) : OrdS (fsA fa n P) := by
  have d : ∀ c, cdR c → 1 ≤ denL (spT fa n P (unZ c)) := fun c h => ((un_dv hn hP h.1 h.2).al hF).2.2.2.1
  refine ⟨fun a b _ _ h k => ?_, fun a b c ha hb hc h k => ?_⟩
  · unfold fsA at h k; omega
  · unfold fsA at h k ⊢
    exact crs_tr (d a ha) (d b hb) (d c hc) h k
/-- counted for THE FRONT; the weight of a code -/
def cnA (fa : Int → Int) (n P : Int) (lo hi : Int → Int) (c : Int) : Prop := inB lo hi c ∧ woM fa n (unZ c) ∧ hoA fa n P (unZ c)
def weA (fa : Int → Int) (n P c : Int) : Int := stZ fa n P (unZ c) 0
theorem Ce1.pos {g fa : Int → Int} {n up lw P c : Int} (h : Ce1 g fa n up lw P c) (h0 : 0 ≤ g c) : woM fa n (unZ c) ∧ hoA fa n P (unZ c) ∧ paA fa n up lw P (unZ c) (g c % 64) ∧ g c / 64 = weA fa n P c := by
  rcases h with ⟨a, b, z, c1, d, e⟩ | ⟨-, e⟩
  · refine ⟨a, b, ?_, ?_⟩
    · rw [show g c % 64 = z by omega]; exact d
    · unfold weA; omega
  · omega
theorem Ce1.cn {g fa : Int → Int} {n up lw P c : Int} {lo hi : Int → Int} (h : Ce1 g fa n up lw P c) (hF : FaOk fa n) (hn : 1 ≤ n ∧ n ≤ 3) (hP : 1 ≤ P ∧ P ≤ 40) (h0 : 0 ≤ c) (h1 : c < 4913) : (0 ≤ g c ∧ inB lo hi c) ↔ cnA fa n P lo hi c := by
  constructor
  · intro k; have := h.pos k.1; exact ⟨k.2, this.1, this.2.1⟩
  · intro k
    refine ⟨?_, k.1⟩
    rcases h with ⟨a, b, z, c1, d, e⟩ | ⟨e, -⟩
    · have s := stZ_rng (s := 0) hF hn.2 hP (un_dv hn hP h0 h1).2.2 (by omega) (by omega)
      omega
    · exact absurd k.2 e
theorem getLast_app (l : List Int) (a : Int) : (l ++ [a]).getLast? = some a := by simp
theorem getLast_at {l : List Int} {b : Int} (h : l.getLast? = some b) : l[l.length - 1]? = some b := by rw [← h]; exact (List.getLast?_eq_getElem? ..).symm
theorem frL_codes {p : Int → Prop} {w : Int → Int} {fs : Int → Int → Prop} {bm : Int → Int} {M : Nat} (h : BmOk p w fs 4913 400 bm) (hM : M ≤ 400) {q : Int} (hq : q ∈ frL fs bm M) : (0 ≤ q ∧ q < 4913) ∧ p q := by
  obtain ⟨x, a, b, rfl, d⟩ := frL_mem hq
  rcases h x a (by omega) with ⟨e, -⟩ | ⟨e, f, -⟩
  · omega
  · exact ⟨e, f⟩
set_option maxHeartbeats 4000000 in
set_option maxRecDepth 100000 in
theorem ct_Front_isFaster {lau : Launch} {D : va_G} {cy : Nat → ClassId} {aa ad : Nat → Nat} (hI : wI (wC D cy aa ad)) (m : Mem) (k kf ks kt kc : Nat) (P c b : Int) (hk : RocketAt k kf ks kt kc) (hrk : RkIs m k kf ks kt kc) (hP : 1 ≤ P ∧ P ≤ 40) (hgc : (0 ≤ c ∧ c < 4913) ∧ 0 ≤ m 9 c) (hgb : (0 ≤ b ∧ b < 4913) ∧ 0 ≤ m 9 b) (hca : CeOk (m 9) (m kf) (m k 5) (m k 2) (m k 3) P) : MT lau (wC D cy aa ad) yX3_isFaster cX3_isFaster 5 (some .boolean) ({ frames := 4, cells := 0, slots := 0, locals := 95 } : Room) m [.ref (aa 12), .ref (aa k), .int (iz (P)), .int (iz (c)), .int (iz (b))] (Pi (fun z m' => (1 = z ∧ (fsA (m kf) (m k 5) P c b) ∧ (∀ q, (q < 15 ∨ (19 ≤ q ∧ q < 27) ∨ (31 ≤ q ∧ q < 43) ∨ 51 ≤ q) → m' q = m q)) ∨ (0 = z ∧ ¬ (fsA (m kf) (m k 5) P c b) ∧ (∀ q, (q < 15 ∨ (19 ≤ q ∧ q < 27) ∨ (31 ≤ q ∧ q < 43) ∨ 51 ≤ q) → m' q = m q)))) := by
  refine v_entry hI RX3 (by decide) rfl (Nat.le_of_ble_eq_true rfl) (fun E hE C X => ?_)
  subst hE
  show V E (wC D cy aa ad) 5 m 0 [(0, .ref (aa 12)), (1, .ref (aa k)), (2, .int (iz (P))), (3, .int (iz (c))), (4, .int (iz (b)))] []
  have hkk : 73 ≤ k ∧ 73 ≤ kf ∧ 73 ≤ ks ∧ 73 ≤ kt ∧ 73 ≤ kc := by unfold RocketAt at hk; omega
  obtain ⟨hk5, hF, hup, hlw, -⟩ := id hrk
  have hce := hca.rng hF hk5 hP
  have rc := hce c hgc.1.1 hgc.1.2
  have rb := hce b hgb.1.1 hgb.1.2
  have pc := ((hca c hgc.1.1 hgc.1.2).pos hgc.2).2.2.1
  have pb := ((hca b hgb.1.1 hgb.1.2).pos hgb.2).2.2.1
  obtain ⟨al1, al2, al3, al4, al5⟩ := (un_dv hk5 hP hgc.1.1 hgc.1.2).al hF
  obtain ⟨bl1, bl2, bl3, bl4, bl5⟩ := (un_dv hk5 hP hgb.1.1 hgb.1.2).al hF
  unfold paA at pc pb
  refine v_aload_n C 0 dX3_isFaster_0 rfl ?_
  refine v_get C 12 4 lC12 (eC12 _) rfl inX3 (by decide) rfl qw286 dX3_isFaster_1 ?_
  refine v_iload_n C 3 dX3_isFaster_4 rfl ?_
  refine v_callV (st := []) (n := 1) (q := 8) C [.int (iz (c))] (ct_Choice_powerOf C.2.2.2.2.2.2.1 m (c) (by exact hgc.1) (by omega)) lC8 (eC8 _) rfl qw861 qw12 qw915 rfl rfl ⟨Nat.le_of_ble_eq_true rfl, Nat.le_of_ble_eq_true rfl⟩ (by decide +kernel) qw859 qw860 rfl rfl (Nat.le_of_ble_eq_true rfl) dX3_isFaster_5 (fun r m1 hq1 => ?_)
  obtain ⟨z1, rfl, rfl, rfl⟩ := hq1
  show V E (wC D cy aa ad) 5 m 8 [(0, .ref (aa 12)), (1, .ref (aa k)), (2, .int (iz (P))), (3, .int (iz (c))), (4, .int (iz (b)))] [.int (iz (m 9 c % 64))]
  refine v_aload_n C 0 dX3_isFaster_8 rfl ?_
  refine v_get C 12 4 lC12 (eC12 _) rfl inX3 (by decide) rfl qw286 dX3_isFaster_9 ?_
  refine v_iload C 4 dX3_isFaster_12 rfl ?_
  refine v_callV (st := [.int (iz (m 9 c % 64))]) (n := 1) (q := 8) C [.int (iz (b))] (ct_Choice_powerOf C.2.2.2.2.2.2.1 m (b) (by exact hgb.1) (by omega)) lC8 (eC8 _) rfl qw861 qw12 qw915 rfl rfl ⟨Nat.le_of_ble_eq_true rfl, Nat.le_of_ble_eq_true rfl⟩ (by decide +kernel) qw859 qw860 rfl rfl (Nat.le_of_ble_eq_true rfl) dX3_isFaster_14 (fun r m2 hq2 => ?_)
  obtain ⟨z2, rfl, rfl, rfl⟩ := hq2
  show V E (wC D cy aa ad) 5 m 17 [(0, .ref (aa 12)), (1, .ref (aa k)), (2, .int (iz (P))), (3, .int (iz (c))), (4, .int (iz (b)))] [.int (iz (m 9 b % 64)), .int (iz (m 9 c % 64))]
  refine v_icmp_eq (tgt := 46) C dX3_isFaster_17 (by decide) (by omega) (by omega) (fun c3 => ?_) (fun c3 => ?_)
  · refine v_aload_n C 0 dX3_isFaster_46 rfl ?_
    refine v_get C 12 6 lC12 (eC12 _) rfl inX3 (by decide) rfl qw288 dX3_isFaster_47 ?_
    refine v_aload_n C 1 dX3_isFaster_50 rfl ?_
    refine v_iload_n C 2 dX3_isFaster_51 rfl ?_
    refine v_iload_n C 3 dX3_isFaster_52 rfl ?_
    refine v_callV (st := []) (n := 3) (q := 27) C [.ref (aa k), .int (iz (P)), .int (iz (c))] (ct_Weights_weighCode C.2.2.2.2.2.2.1 m (27) (28) (29) (30) (k) (kf) (ks) (kt) (kc) (P) (c) (by unfold WeightsAt; decide) hk (by exact hk5) (by first | assumption | omega) (by first | assumption | omega) (by exact hgc.1)) lC27 (eC27 _) rfl qw919 qw8 qw916 rfl rfl ⟨Nat.le_of_ble_eq_true rfl, Nat.le_of_ble_eq_true rfl⟩ (by decide +kernel) qw917 qw918 rfl rfl (Nat.le_of_ble_eq_true rfl) dX3_isFaster_53 (fun r m4 hq4 => ?_)
    obtain ⟨rfl, hq4⟩ := hq4
    show V E (wC D cy aa ad) 5 m4 56 [(0, .ref (aa 12)), (1, .ref (aa k)), (2, .int (iz (P))), (3, .int (iz (c))), (4, .int (iz (b)))] []
    have o53 : ∀ q, (q < 27 ∨ 31 ≤ q) → m4 q = m q := fun q h => hq4.2.2 q (by omega) (by omega) (by omega) (by omega)
    have k53 : m4 k = m k := o53 k (by omega)
    have kf53 : m4 kf = m kf := o53 kf (by omega)
    refine v_aload_n C 0 dX3_isFaster_56 rfl ?_
    refine v_get C 12 6 lC12 (eC12 _) rfl inX3 (by decide) rfl qw288 dX3_isFaster_57 ?_
    refine v_aload_n C 1 dX3_isFaster_60 rfl ?_
    refine v_aload_n C 0 dX3_isFaster_61 rfl ?_
    refine v_get C 12 7 lC12 (eC12 _) rfl inX3 (by decide) rfl qw289 dX3_isFaster_62 ?_
    refine v_callV (st := []) (n := 2) (q := 27) C [.ref (aa k), .ref (aa 43)] (ct_Weights_speedInto C.2.2.2.2.2.2.1 m4 (27) (28) (29) (30) (k) (kf) (ks) (kt) (kc) (43) (44) (45) (46) (by unfold WeightsAt; decide) hk (by unfold RatioAt; decide) (by rw [k53]; exact hk5)) lC27 (eC27 _) rfl qw725 qw8 qw922 rfl rfl ⟨Nat.le_of_ble_eq_true rfl, Nat.le_of_ble_eq_true rfl⟩ (by decide +kernel) qw723 qw724 rfl rfl (Nat.le_of_ble_eq_true rfl) dX3_isFaster_65 (fun r m5 hq5 => ?_)
    obtain ⟨rfl, hq5⟩ := hq5
    show V E (wC D cy aa ad) 5 m5 68 [(0, .ref (aa 12)), (1, .ref (aa k)), (2, .int (iz (P))), (3, .int (iz (c))), (4, .int (iz (b)))] []
    have z1 := hq5.1
    rw [k53, kf53, hq4.2.1.spT] at z1
    have o65 : ∀ q, (q < 43 ∨ 46 ≤ q) → m5 q = m4 q := fun q h => hq5.2 q (by omega) (by omega) (by omega)
    have k65 : m5 k = m k := by rw [o65 k (by omega), k53]
    have kf65 : m5 kf = m kf := by rw [o65 kf (by omega), kf53]
    refine v_aload_n C 0 dX3_isFaster_68 rfl ?_
    refine v_get C 12 6 lC12 (eC12 _) rfl inX3 (by decide) rfl qw288 dX3_isFaster_69 ?_
    refine v_aload_n C 1 dX3_isFaster_72 rfl ?_
    refine v_iload_n C 2 dX3_isFaster_73 rfl ?_
    refine v_iload C 4 dX3_isFaster_74 rfl ?_
    refine v_callV (st := []) (n := 3) (q := 27) C [.ref (aa k), .int (iz (P)), .int (iz (b))] (ct_Weights_weighCode C.2.2.2.2.2.2.1 m5 (27) (28) (29) (30) (k) (kf) (ks) (kt) (kc) (P) (b) (by unfold WeightsAt; decide) hk (by rw [k65]; exact hk5) (by rw [k65, kf65]; exact hF) (by first | assumption | omega) (by exact hgb.1)) lC27 (eC27 _) rfl qw919 qw8 qw916 rfl rfl ⟨Nat.le_of_ble_eq_true rfl, Nat.le_of_ble_eq_true rfl⟩ (by decide +kernel) qw917 qw918 rfl rfl (Nat.le_of_ble_eq_true rfl) dX3_isFaster_76 (fun r m6 hq6 => ?_)
    obtain ⟨rfl, hq6⟩ := hq6
    show V E (wC D cy aa ad) 5 m6 79 [(0, .ref (aa 12)), (1, .ref (aa k)), (2, .int (iz (P))), (3, .int (iz (c))), (4, .int (iz (b)))] []
    have w2 := hq6.2.1
    rw [k65, kf65] at w2
    have o76 : ∀ q, (q < 27 ∨ 31 ≤ q) → m6 q = m5 q := fun q h => hq6.2.2 q (by omega) (by omega) (by omega) (by omega)
    have k76 : m6 k = m k := by rw [o76 k (by omega), k65]
    have kf76 : m6 kf = m kf := by rw [o76 kf (by omega), kf65]
    refine v_aload_n C 0 dX3_isFaster_79 rfl ?_
    refine v_get C 12 6 lC12 (eC12 _) rfl inX3 (by decide) rfl qw288 dX3_isFaster_80 ?_
    refine v_aload_n C 1 dX3_isFaster_83 rfl ?_
    refine v_aload_n C 0 dX3_isFaster_84 rfl ?_
    refine v_get C 12 8 lC12 (eC12 _) rfl inX3 (by decide) rfl qw290 dX3_isFaster_85 ?_
    refine v_callV (st := []) (n := 2) (q := 27) C [.ref (aa k), .ref (aa 47)] (ct_Weights_speedInto C.2.2.2.2.2.2.1 m6 (27) (28) (29) (30) (k) (kf) (ks) (kt) (kc) (47) (48) (49) (50) (by unfold WeightsAt; decide) hk (by unfold RatioAt; decide) (by rw [k76]; exact hk5)) lC27 (eC27 _) rfl qw725 qw8 qw922 rfl rfl ⟨Nat.le_of_ble_eq_true rfl, Nat.le_of_ble_eq_true rfl⟩ (by decide +kernel) qw723 qw724 rfl rfl (Nat.le_of_ble_eq_true rfl) dX3_isFaster_88 (fun r m7 hq7 => ?_)
    obtain ⟨rfl, hq7⟩ := hq7
    show V E (wC D cy aa ad) 5 m7 91 [(0, .ref (aa 12)), (1, .ref (aa k)), (2, .int (iz (P))), (3, .int (iz (c))), (4, .int (iz (b)))] []
    have z2 := hq7.1
    rw [k76, kf76, w2.spT] at z2
    have o88 : ∀ q, (q < 47 ∨ 50 ≤ q) → m7 q = m6 q := fun q h => hq7.2 q (by omega) (by omega) (by omega)
    refine v_aload_n C 0 dX3_isFaster_91 rfl ?_
    refine v_get C 12 5 lC12 (eC12 _) rfl inX3 (by decide) rfl qw287 dX3_isFaster_92 ?_
    refine v_aload_n C 0 dX3_isFaster_95 rfl ?_
    refine v_get C 12 7 lC12 (eC12 _) rfl inX3 (by decide) rfl qw289 dX3_isFaster_96 ?_
    refine v_aload_n C 0 dX3_isFaster_99 rfl ?_
    refine v_get C 12 8 lC12 (eC12 _) rfl inX3 (by decide) rfl qw290 dX3_isFaster_100 ?_
    refine v_callV (st := []) (n := 2) (q := 7) C [.ref (aa 43), .ref (aa 47)] (ct_Scale_compare C.2.2.2.2.2.2.1 m7 (43) (44) (45) (46) (47) (48) (49) (50) (spT (m kf) (m k 5) P (unZ c)) (spT (m kf) (m k 5) P (unZ b)) (by unfold RatioAt; decide) (by unfold RatioAt; decide) (by exact z1.fr (by rw [o88 43 (by omega), o76 43 (by omega)]) (by rw [o88 44 (by omega), o76 44 (by omega)]) (by rw [o88 45 (by omega), o76 45 (by omega)])) (by exact z2) (by exact al1) (by exact bl1) (by exact al2) (by exact le_560 al3) (by exact le_560 (Int.le_trans al5 al3)) (by exact bl2) (by exact le_560 bl3) (by exact le_560 (Int.le_trans bl5 bl3)) (by exact lt_768 (by omega) (by omega) al3 (Int.le_trans bl5 bl3)) (by exact lt_768 (by omega) (by omega) (Int.le_trans al5 al3) bl3)) lC7 (eC7 _) rfl qw811 qw10 qw923 rfl rfl ⟨Nat.le_of_ble_eq_true rfl, Nat.le_of_ble_eq_true rfl⟩ (by decide +kernel) qw809 qw810 rfl rfl (Nat.le_of_ble_eq_true rfl) dX3_isFaster_103 (fun r m8 hq8 => ?_)
    obtain ⟨z8, rfl, rfl, hq8⟩ := hq8
    show V E (wC D cy aa ad) 5 m8 106 [(0, .ref (aa 12)), (1, .ref (aa k)), (2, .int (iz (P))), (3, .int (iz (c))), (4, .int (iz (b)))] [.int (iz ((if numL (spT (m kf) (m k 5) P (unZ b)) * denL (spT (m kf) (m k 5) P (unZ c)) < numL (spT (m kf) (m k 5) P (unZ c)) * denL (spT (m kf) (m k 5) P (unZ b)) then 1 else if numL (spT (m kf) (m k 5) P (unZ c)) * denL (spT (m kf) (m k 5) P (unZ b)) < numL (spT (m kf) (m k 5) P (unZ b)) * denL (spT (m kf) (m k 5) P (unZ c)) then -1 else 0)))]
    refine v_if_le (tgt := 113) C dX3_isFaster_106 (by decide) (by split <;> (try split) <;> omega) (fun c9 => ?_) (fun c9 => ?_)
    · have hcv : ¬ fsA (m kf) (m k 5) P c b := by
        unfold fsA
        split at c9
        · omega
        · omega
      refine v_iconst (z := 0) C dX3_isFaster_113 rfl ?_
      refine v_iret C X (by decide) dX3_isFaster_114 ⟨_, rfl, Or.inr ⟨rfl, ?_, ?_⟩⟩
      · exact hcv
      · exact fun q h => by rw [hq8 q (by omega) (by omega) (by omega) (by omega), o88 q (by omega), o76 q (by omega), o65 q (by omega), o53 q (by omega)]
    · have hcv : fsA (m kf) (m k 5) P c b := by
        unfold fsA
        split at c9
        · assumption
        · split at c9 <;> omega
      refine v_iconst (z := 1) C dX3_isFaster_109 rfl ?_
      refine v_goto (tgt := 114) C dX3_isFaster_110 (by decide) ?_
      refine v_iret C X (by decide) dX3_isFaster_114 ⟨_, rfl, Or.inl ⟨rfl, ?_, ?_⟩⟩
      · exact hcv
      · exact fun q h => by rw [hq8 q (by omega) (by omega) (by omega) (by omega), o88 q (by omega), o76 q (by omega), o65 q (by omega), o53 q (by omega)]
  · refine v_aload_n C 0 dX3_isFaster_20 rfl ?_
    refine v_get C 12 4 lC12 (eC12 _) rfl inX3 (by decide) rfl qw286 dX3_isFaster_21 ?_
    refine v_iload_n C 3 dX3_isFaster_24 rfl ?_
    refine v_callV (st := []) (n := 1) (q := 8) C [.int (iz (c))] (ct_Choice_powerOf C.2.2.2.2.2.2.1 m (c) (by exact hgc.1) (by omega)) lC8 (eC8 _) rfl qw861 qw12 qw915 rfl rfl ⟨Nat.le_of_ble_eq_true rfl, Nat.le_of_ble_eq_true rfl⟩ (by decide +kernel) qw859 qw860 rfl rfl (Nat.le_of_ble_eq_true rfl) dX3_isFaster_25 (fun r m10 hq10 => ?_)
    obtain ⟨z10, rfl, rfl, rfl⟩ := hq10
    show V E (wC D cy aa ad) 5 m 28 [(0, .ref (aa 12)), (1, .ref (aa k)), (2, .int (iz (P))), (3, .int (iz (c))), (4, .int (iz (b)))] [.int (iz (m 9 c % 64))]
    refine v_aload_n C 0 dX3_isFaster_28 rfl ?_
    refine v_get C 12 4 lC12 (eC12 _) rfl inX3 (by decide) rfl qw286 dX3_isFaster_29 ?_
    refine v_iload C 4 dX3_isFaster_32 rfl ?_
    refine v_callV (st := [.int (iz (m 9 c % 64))]) (n := 1) (q := 8) C [.int (iz (b))] (ct_Choice_powerOf C.2.2.2.2.2.2.1 m (b) (by exact hgb.1) (by omega)) lC8 (eC8 _) rfl qw861 qw12 qw915 rfl rfl ⟨Nat.le_of_ble_eq_true rfl, Nat.le_of_ble_eq_true rfl⟩ (by decide +kernel) qw859 qw860 rfl rfl (Nat.le_of_ble_eq_true rfl) dX3_isFaster_34 (fun r m11 hq11 => ?_)
    obtain ⟨z11, rfl, rfl, rfl⟩ := hq11
    show V E (wC D cy aa ad) 5 m 37 [(0, .ref (aa 12)), (1, .ref (aa k)), (2, .int (iz (P))), (3, .int (iz (c))), (4, .int (iz (b)))] [.int (iz (m 9 b % 64)), .int (iz (m 9 c % 64))]
    refine v_icmp_le (tgt := 44) C dX3_isFaster_37 (by decide) (by omega) (by omega) (fun c12 => ?_) (fun c12 => ?_)
    · refine v_iconst (z := 0) C dX3_isFaster_44 rfl ?_
      refine v_iret C X (by decide) dX3_isFaster_45 ⟨_, rfl, Or.inr ⟨rfl, ?_, ?_⟩⟩
      · unfold fsA
        first
          | exact pc.fst pb al4 bl4 (by omega) (by omega) hlw.1 hlw.2 (by omega) (by omega)
          | (have z := pb.fst pc bl4 al4 (by omega) (by omega) hlw.1 hlw.2 (by omega) (by omega); omega)
      · exact fun q _ => rfl
    · refine v_iconst (z := 1) C dX3_isFaster_40 rfl ?_
      refine v_goto (tgt := 45) C dX3_isFaster_41 (by decide) ?_
      refine v_iret C X (by decide) dX3_isFaster_45 ⟨_, rfl, Or.inl ⟨rfl, ?_, ?_⟩⟩
      · unfold fsA
        first
          | exact pc.fst pb al4 bl4 (by omega) (by omega) hlw.1 hlw.2 (by omega) (by omega)
          | (have z := pb.fst pc bl4 al4 (by omega) (by omega) hlw.1 hlw.2 (by omega) (by omega); omega)
      · exact fun q _ => rfl

def FrC (p : Int → Prop) (w : Int → Int) (fs : Int → Int → Prop) (co : Int → Int) (n : Int) : Prop := ∃ l : List Int, FrIs p w fs l ∧ n = l.length ∧ ∀ (i : Nat) (q : Int), l[i]? = some q → co i = q
set_option maxHeartbeats 4000000 in
set_option maxRecDepth 100000 in
theorem ct_Front_draw {lau : Launch} {D : va_G} {cy : Nat → ClassId} {aa ad : Nat → Nat} (hI : wI (wC D cy aa ad)) (m : Mem) (k kf ks kt kc : Nat) (P ch : Int) (hk : RocketAt k kf ks kt kc) (hrk : RkIs m k kf ks kt kc) (hP : 1 ≤ P ∧ P ≤ 40) (hch : 0 ≤ ch ∧ ch ≤ 1000000) (hdr : 0 ≤ m 12 3 ∧ m 12 3 ≤ 1000000) (hca : CeOk (m 9) (m kf) (m k 5) (m k 2) (m k 3) P) (hlh : ∀ j : Int, 0 ≤ j → j < 3 → (0 ≤ m 10 j ∧ m 10 j ≤ 16) ∧ (0 ≤ m 11 j ∧ m 11 j ≤ 16)) (hdo : m 12 3 = ch → FrC (cnA (m kf) (m k 5) P (m 10) (m 11)) (weA (m kf) (m k 5) P) (fsA (m kf) (m k 5) P) (m 14) (m 12 2)) : MT lau (wC D cy aa ad) yX3_draw cX3_draw 7 (none) ({ frames := 5, cells := 0, slots := 0, locals := 119 } : Room) m [.ref (aa 12), .ref (aa k), .int (iz (P)), .int (iz (ch))] (Pv (fun m' => m' 12 3 = ch ∧ FrC (cnA (m kf) (m k 5) P (m 10) (m 11)) (weA (m kf) (m k 5) P) (fsA (m kf) (m k 5) P) (m' 14) (m' 12 2) ∧ (∀ q, (q < 12 ∨ (19 ≤ q ∧ q < 27) ∨ (31 ≤ q ∧ q < 43) ∨ 51 ≤ q) → m' q = m q))) := by
  refine v_entry hI RX3 (by decide) rfl (Nat.le_of_ble_eq_true rfl) (fun E hE C X => ?_)
  subst hE
  show V E (wC D cy aa ad) 7 m 0 [(0, .ref (aa 12)), (1, .ref (aa k)), (2, .int (iz (P))), (3, .int (iz (ch)))] []
  have hkk : 73 ≤ k ∧ 73 ≤ kf ∧ 73 ≤ ks ∧ 73 ≤ kt ∧ 73 ≤ kc := by unfold RocketAt at hk; omega
  obtain ⟨hk5, hF, hup, hlw, -⟩ := id hrk
  have hce := hca.rng hF hk5 hP
  have hord := fsA_ord (P := P) hF hk5 hP
  have hcn : ∀ c : Int, 0 ≤ c → c < 4913 → ((0 ≤ m 9 c ∧ inB (m 10) (m 11) c) ↔ (cnA (m kf) (m k 5) P (m 10) (m 11)) c) := fun c h0 h1 => (hca c h0 h1).cn hF hk5 hP h0 h1
  refine v_aload_n C 0 dX3_draw_0 rfl ?_
  refine v_get C 12 3 lC12 (eC12 _) rfl inX3 (by decide) rfl qw285 dX3_draw_1 ?_
  refine v_iload_n C 3 dX3_draw_4 rfl ?_
  refine v_icmp_ne (tgt := 9) C dX3_draw_5 (by decide) (by omega) (by omega) (fun c1 => ?_) (fun c1 => ?_)
  · refine v_aload_n C 0 dX3_draw_9 rfl ?_
    refine v_iload_n C 3 dX3_draw_10 rfl ?_
    refine v_put C 12 3 (ch) 3 rfl lC12 (eC12 _) rfl inX3 tyX3 tyX3_ok nmX3 (by decide) qw285 rfl rfl rfl (Nat.le_of_ble_eq_true rfl) (by rw [mup_r]; exact (eC12 _)) dX3_draw_11 (fun m2 em2 => ?_)
    refine v_iconst (z := 0) C dX3_draw_14 rfl ?_
    refine v_istore (L1 := [(4, .int (iz (0))), (0, .ref (aa 12)), (1, .ref (aa k)), (2, .int (iz (P))), (3, .int (iz (ch)))]) C dX3_draw_15 (by decide) rfl ?_
    have K17 : ∀ (nK : Nat) (i : Int) (mA : Mem) (hi : 0 ≤ i ∧ i ≤ 400) (hA : ∀ j : Int, 0 ≤ j → j < i → mA 13 j = -1) (h3A : mA 12 3 = ch) (hfA : ∀ q, (q < 12 ∨ 14 ≤ q) → mA q = m q), (400 - i).toNat < nK → V E (wC D cy aa ad) 7 mA 17 [(0, .ref (aa 12)), (1, .ref (aa k)), (2, .int (iz (P))), (3, .int (iz (ch))), (4, .int (iz (i)))] [] := by
      intro nK
      induction nK with
      | zero => intro i mA hi hA h3A hfA hn; exact absurd hn (Nat.not_lt_zero _)
      | succ nK ih17 =>
        intro i mA hi hA h3A hfA hn17
        refine v_iload C 4 dX3_draw_17 rfl ?_
        refine v_aload_n C 0 dX3_draw_19 rfl ?_
        refine v_get C 12 0 lC12 (eC12 _) rfl inX3 (by decide) rfl qw280 dX3_draw_20 ?_
        refine v_alen C 13 0 lC13 (eC13 _) rfl dX3_draw_23 ?_
        refine v_st (st1 := [.int (iz (400)), .int (iz (i))]) rfl ?_
        refine v_icmp_ge (tgt := 41) C dX3_draw_24 (by decide) (by omega) (by omega) (fun c3 => ?_) (fun c3 => ?_)
        · refine v_iconst (z := 0) C dX3_draw_41 rfl ?_
          refine v_istore (L1 := [(4, .int (iz (0))), (0, .ref (aa 12)), (1, .ref (aa k)), (2, .int (iz (P))), (3, .int (iz (ch)))]) C dX3_draw_42 (by decide) rfl ?_
          have K44 : ∀ (nK : Nat) (c : Int) (mB : Mem) (hc : 0 ≤ c ∧ c ≤ 4913) (hbm : BmOk (cnA (m kf) (m k 5) P (m 10) (m 11)) (weA (m kf) (m k 5) P) (fsA (m kf) (m k 5) P) c 400 (mB 13)) (h3B : mB 12 3 = ch) (hfB : ∀ q, (q < 12 ∨ (19 ≤ q ∧ q < 27) ∨ (31 ≤ q ∧ q < 43) ∨ 51 ≤ q) → mB q = m q), (4913 - c).toNat < nK → V E (wC D cy aa ad) 7 mB 44 [(0, .ref (aa 12)), (1, .ref (aa k)), (2, .int (iz (P))), (3, .int (iz (ch))), (4, .int (iz (c)))] [] := by
            intro nK
            induction nK with
            | zero => intro c mB hc hbm h3B hfB hn; exact absurd hn (Nat.not_lt_zero _)
            | succ nK ih44 =>
              intro c mB hc hbm h3B hfB hn44
              have k_mB : mB k = m k := hfB k (by omega)
              have kf_mB : mB kf = m kf := hfB kf (by omega)
              have e9_mB : mB 9 = m 9 := hfB 9 (by omega)
              have el_mB : mB 10 = m 10 := hfB 10 (by omega)
              have eh_mB : mB 11 = m 11 := hfB 11 (by omega)
              refine v_iload C 4 dX3_draw_44 rfl ?_
              refine v_aload_n C 0 dX3_draw_46 rfl ?_
              refine v_get C 12 4 lC12 (eC12 _) rfl inX3 (by decide) rfl qw286 dX3_draw_47 ?_
              refine v_callV (st := [.int (iz (c))]) (n := 0) (q := 8) C [] (ct_Choice_cellCount C.2.2.2.2.2.2.1 mB  ) lC8 (eC8 _) rfl qw907 qw12 qw904 rfl rfl ⟨Nat.le_of_ble_eq_true rfl, Nat.le_of_ble_eq_true rfl⟩ (by decide +kernel) qw905 qw906 rfl rfl (Nat.le_of_ble_eq_true rfl) dX3_draw_50 (fun r m4 hq4 => ?_)
              obtain ⟨z4, rfl, rfl, rfl⟩ := hq4
              show V E (wC D cy aa ad) 7 mB 53 [(0, .ref (aa 12)), (1, .ref (aa k)), (2, .int (iz (P))), (3, .int (iz (ch))), (4, .int (iz (c)))] [.int (iz (4913)), .int (iz (c))]
              refine v_icmp_ge (tgt := 125) C dX3_draw_53 (by decide) (by omega) (by omega) (fun c5 => ?_) (fun c5 => ?_)
              · refine v_aload_n C 0 dX3_draw_125 rfl ?_
                refine v_iconst (z := 0) C dX3_draw_126 rfl ?_
                refine v_put C 12 2 (0) 2 rfl lC12 (eC12 _) rfl inX3 tyX3 tyX3_ok nmX3 (by decide) qw283 rfl rfl rfl (Nat.le_of_ble_eq_true rfl) (by rw [mup_r]; exact (eC12 _)) dX3_draw_127 (fun m6 em6 => ?_)
                refine v_iconst (z := 0) C dX3_draw_130 rfl ?_
                refine v_istore (L1 := [(4, .int (iz (0))), (0, .ref (aa 12)), (1, .ref (aa k)), (2, .int (iz (P))), (3, .int (iz (ch)))]) C dX3_draw_131 (by decide) rfl ?_
                have K133 : ∀ (nK : Nat) (i : Int) (mD : Mem) (hi : 0 ≤ i ∧ i ≤ 400) (hbD : mD 13 = mB 13) (h2D : mD 12 2 = (frL (fsA (m kf) (m k 5) P) (mB 13) i.toNat).length) (h14 : ∀ (j : Nat) (q : Int), (frL (fsA (m kf) (m k 5) P) (mB 13) i.toNat)[j]? = some q → mD 14 j = q) (h3D : mD 12 3 = ch) (hfD : ∀ q, (q < 12 ∨ (19 ≤ q ∧ q < 27) ∨ (31 ≤ q ∧ q < 43) ∨ 51 ≤ q) → mD q = m q), (400 - i).toNat < nK → V E (wC D cy aa ad) 7 mD 133 [(0, .ref (aa 12)), (1, .ref (aa k)), (2, .int (iz (P))), (3, .int (iz (ch))), (4, .int (iz (i)))] [] := by
                  intro nK
                  induction nK with
                  | zero => intro i mD hi hbD h2D h14 h3D hfD hn; exact absurd hn (Nat.not_lt_zero _)
                  | succ nK ih133 =>
                    intro i mD hi hbD h2D h14 h3D hfD hn133
                    have k_mD : mD k = m k := hfD k (by omega)
                    have kf_mD : mD kf = m kf := hfD kf (by omega)
                    have e9_mD : mD 9 = m 9 := hfD 9 (by omega)
                    have el_mD : mD 10 = m 10 := hfD 10 (by omega)
                    have eh_mD : mD 11 = m 11 := hfD 11 (by omega)
                    have hbf : BmOk (cnA (m kf) (m k 5) P (m 10) (m 11)) (weA (m kf) (m k 5) P) (fsA (m kf) (m k 5) P) 4913 400 (mB 13) := by rw [show (4913 : Int) = c by omega]; exact hbm
                    obtain ⟨l, hl⟩ : ∃ l, l = frL (fsA (m kf) (m k 5) P) (mB 13) i.toNat := ⟨_, rfl⟩
                    have hll := frL_len (fsA (m kf) (m k 5) P) (mB 13) i.toNat
                    rw [← hl] at h2D h14 hll
                    have eiN : ((i.toNat : Nat) : Int) = i := by omega
                    have eiS : (i + 1).toNat = i.toNat + 1 := by omega
                    have hnx : (¬ (0 ≤ mB 13 i ∧ ∀ b, l.getLast? = some b → (fsA (m kf) (m k 5) P) (mB 13 i) b) ∧ frL (fsA (m kf) (m k 5) P) (mB 13) (i + 1).toNat = l) ∨ ((0 ≤ mB 13 i ∧ ∀ b, l.getLast? = some b → (fsA (m kf) (m k 5) P) (mB 13 i) b) ∧ frL (fsA (m kf) (m k 5) P) (mB 13) (i + 1).toNat = l ++ [mB 13 i]) := by
                      by_cases z : 0 ≤ mB 13 i ∧ ∀ b, l.getLast? = some b → (fsA (m kf) (m k 5) P) (mB 13 i) b
                      · exact Or.inr ⟨z, by rw [eiS, frL_y (by rw [eiN, ← hl]; exact z), ← hl, eiN]⟩
                      · exact Or.inl ⟨z, by rw [eiS, frL_n (by rw [eiN, ← hl]; exact z), ← hl]⟩
                    refine v_iload C 4 dX3_draw_133 rfl ?_
                    refine v_aload_n C 0 dX3_draw_135 rfl ?_
                    refine v_get C 12 0 lC12 (eC12 _) rfl inX3 (by decide) rfl qw280 dX3_draw_136 ?_
                    refine v_alen C 13 0 lC13 (eC13 _) rfl dX3_draw_139 ?_
                    refine v_st (st1 := [.int (iz (400)), .int (iz (i))]) rfl ?_
                    refine v_icmp_ge (tgt := 217) C dX3_draw_140 (by decide) (by omega) (by omega) (fun c7 => ?_) (fun c7 => ?_)
                    · refine v_vret C X dX3_draw_217 ⟨rfl, ?_⟩
                      exact ⟨h3D, ⟨l, ⟨mB 13, hbf, by rw [hl, show i.toNat = 400 by omega]⟩, h2D, h14⟩, hfD⟩
                    · have K211 : ∀  (mE : Mem) (hbE : mE 13 = mB 13) (h2E : mE 12 2 = (frL (fsA (m kf) (m k 5) P) (mB 13) (i + 1).toNat).length) (h14E : ∀ (j : Nat) (q : Int), (frL (fsA (m kf) (m k 5) P) (mB 13) (i + 1).toNat)[j]? = some q → mE 14 j = q) (h3E : mE 12 3 = ch) (hfE : ∀ q, (q < 12 ∨ (19 ≤ q ∧ q < 27) ∨ (31 ≤ q ∧ q < 43) ∨ 51 ≤ q) → mE q = m q), V E (wC D cy aa ad) 7 mE 211 [(0, .ref (aa 12)), (1, .ref (aa k)), (2, .int (iz (P))), (3, .int (iz (ch))), (4, .int (iz (i)))] [] := by
                        intro  mE hbE h2E h14E h3E hfE
                        refine v_iinc (L1 := [(4, .int (iz (i + 1))), (0, .ref (aa 12)), (1, .ref (aa k)), (2, .int (iz (P))), (3, .int (iz (ch)))]) C 4 dX3_draw_211 rfl (by decide) rfl ?_
                        refine v_goto (tgt := 133) C dX3_draw_214 (by decide) ?_
                        refine v_sub [1, 2, 3, 4, 0] rfl ?_
                        exact ih133 (i + 1) mE (by first | assumption | omega) (by exact hbE) (by exact h2E) (by exact h14E) (by exact h3E) (by exact hfE) (by omega)
                      have hcb : mD 13 i = mB 13 i := by rw [hbD]
                      have hrg : mB 13 i = -1 ∨ ((0 ≤ mB 13 i ∧ mB 13 i < 4913) ∧ 0 ≤ m 9 (mB 13 i)) := by
                        rcases hbf i (by omega) (by omega) with ⟨y, -⟩ | ⟨y, y2, -⟩
                        · exact Or.inl y
                        · exact Or.inr ⟨y, ((hcn _ y.1 y.2).mpr y2).1⟩
                      refine v_aload_n C 0 dX3_draw_143 rfl ?_
                      refine v_get C 12 0 lC12 (eC12 _) rfl inX3 (by decide) rfl qw280 dX3_draw_144 ?_
                      refine v_iload C 4 dX3_draw_147 rfl ?_
                      refine v_iald C 13 lC13 (eC13 _) (by decide) (by omega) dX3_draw_149 ?_
                      refine v_istore (L1 := [(5, .int (iz (mD 13 i))), (0, .ref (aa 12)), (1, .ref (aa k)), (2, .int (iz (P))), (3, .int (iz (ch))), (4, .int (iz (i)))]) C dX3_draw_150 (by decide) rfl ?_
                      refine v_iload C 0 dX3_draw_152 rfl ?_
                      refine v_if_lt (tgt := 211) C dX3_draw_154 (by decide) (by omega) (fun c8 => ?_) (fun c8 => ?_)
                      · refine v_sub [1, 2, 3, 4, 5] rfl ?_
                        exact K211   mD (by 
                                                    first
                                                      | exact hbD
                                                      | (rw [NO_h182 13 (by omega)]; exact hbD)
                                                      | (rw [NO_em208, mup_k _ _ _ (by decide), ← NO_q198, mup_k _ _ _ (by decide)]; exact hbF)
                                                  ) (by 
                                                    first
                                                      | (rw [NO_em208, mup_s, ← NO_q198, mup_k _ _ _ (by decide), h2F, hfr2, List.length_append]; show (l.length : Int) + 1 = ((l.length + 1 : Nat) : Int); omega)
                                                      | (rcases hnx with ⟨y1, y2⟩ | ⟨y1, y2⟩
                                                         · rw [y2]; exact h2D
                                                         · exfalso; omega)
                                                      | (rcases hnx with ⟨y1, y2⟩ | ⟨y1, y2⟩
                                                         · rw [y2, NO_h182 12 (by omega)]; exact h2D
                                                         · exact absurd (y1.2 _ hlast) (by rw [← hcb]; exact NO_q182))
                                                  ) (by 
                                                    first
                                                      | (rw [NO_em208, mup_k _ _ _ (by decide), ← NO_q198, mup_r, hfr2, h2F]
                                                         intro j q hj
                                                         by_cases e : j < l.length
                                                         · rw [List.getElem?_append_left e] at hj; exact (if_neg (by omega)).trans (h14F j q hj)
                                                         · have ej : j = l.length := by have := (List.getElem?_eq_some_iff.mp hj).1; rw [List.length_append] at this; have : j < l.length + 1 := this; omega
                                                           subst ej
                                                           rw [List.getElem?_append_right (by omega), Nat.sub_self] at hj
                                                           cases hj
                                                           rw [← hcb]; exact if_pos rfl)
                                                      | (rcases hnx with ⟨y1, y2⟩ | ⟨y1, y2⟩
                                                         · rw [y2]; exact h14
                                                         · exfalso; omega)
                                                      | (rcases hnx with ⟨y1, y2⟩ | ⟨y1, y2⟩
                                                         · rw [y2, NO_h182 14 (by omega)]; exact h14
                                                         · exact absurd (y1.2 _ hlast) (by rw [← hcb]; exact NO_q182))
                                                  ) (by 
                                                    first
                                                      | exact h3D
                                                      | (rw [NO_h182 12 (by omega)]; exact h3D)
                                                      | (rw [NO_em208, mup_j _ _ (by decide), ← NO_q198, mup_k _ _ _ (by decide)]; exact h3F)
                                                  ) (by 
                                                    first
                                                      | exact hfD
                                                      | (intro q h; rw [NO_h182 q (by omega)]; exact hfD q h)
                                                      | (intro q h; rw [NO_em208, mup_k _ _ _ (by omega), ← NO_q198, mup_k _ _ _ (by omega)]; exact hfF q h)
                                                  )
                      · have K188 : ∀  (mF : Mem) (hfr2 : frL (fsA (m kf) (m k 5) P) (mB 13) (i + 1).toNat = l ++ [mB 13 i]) (hbF : mF 13 = mB 13) (h2F : mF 12 2 = l.length) (h14F : ∀ (j : Nat) (q : Int), l[j]? = some q → mF 14 j = q) (h3F : mF 12 3 = ch) (hfF : ∀ q, (q < 12 ∨ (19 ≤ q ∧ q < 27) ∨ (31 ≤ q ∧ q < 43) ∨ 51 ≤ q) → mF q = m q), V E (wC D cy aa ad) 7 mF 188 [(0, .ref (aa 12)), (1, .ref (aa k)), (2, .int (iz (P))), (3, .int (iz (ch))), (4, .int (iz (i))), (5, .int (iz (mD 13 i)))] [] := by
                          intro  mF hfr2 hbF h2F h14F h3F hfF
                          refine v_aload_n C 0 dX3_draw_188 rfl ?_
                          refine v_get C 12 1 lC12 (eC12 _) rfl inX3 (by decide) rfl qw281 dX3_draw_189 ?_
                          refine v_aload_n C 0 dX3_draw_192 rfl ?_
                          refine v_get C 12 2 lC12 (eC12 _) rfl inX3 (by decide) rfl qw283 dX3_draw_193 ?_
                          refine v_iload C 5 dX3_draw_196 rfl ?_
                          refine v_callSN (st := []) (n := 3) C [.ref (aa 14), .int (iz (mF 12 2)), .int (iz (mD 13 i))] (ct_StageRatios_put C.2.2.2.2.2.2.1 mF (14) (400) (mF 12 2) (mD 13 i) ⟨lC14, by decide, eC14⟩ (by first | assumption | omega)) qw494 qw1 "StageRatios" (by decide +kernel) rfl rfl ⟨Nat.le_of_ble_eq_true rfl, Nat.le_of_ble_eq_true rfl⟩ (by decide +kernel) qw493 rfl rfl (Nat.le_of_ble_eq_true rfl) dX3_draw_198 (fun r m9 hq9 => ?_)
                          obtain ⟨rfl, hq9⟩ := hq9
                          show V E (wC D cy aa ad) 7 m9 201 [(0, .ref (aa 12)), (1, .ref (aa k)), (2, .int (iz (P))), (3, .int (iz (ch))), (4, .int (iz (i))), (5, .int (iz (mD 13 i)))] []
                          refine v_aload_n C 0 dX3_draw_201 rfl ?_
                          refine v_dup C dX3_draw_202 rfl ?_
                          refine v_get C 12 2 lC12 (eC12 _) rfl inX3 (by decide) rfl qw283 dX3_draw_203 ?_
                          refine v_iconst (z := 1) C dX3_draw_206 rfl ?_
                          refine v_iadd C dX3_draw_207 ?_
                          refine v_put C 12 2 ((m9 12 2) + 1) 2 rfl lC12 (eC12 _) rfl inX3 tyX3 tyX3_ok nmX3 (by decide) qw283 rfl rfl rfl (Nat.le_of_ble_eq_true rfl) (by rw [mup_r]; exact (eC12 _)) dX3_draw_208 (fun m10 em10 => ?_)
                          refine v_sub [0, 1, 2, 3, 4] rfl ?_
                          exact K211   m10 (by 
                                                        first
                                                          | exact hbD
                                                          | (rw [NO_h182 13 (by omega)]; exact hbD)
                                                          | (rw [em10, mup_k _ _ _ (by decide), ← hq9, mup_k _ _ _ (by decide)]; exact hbF)
                                                      ) (by 
                                                        first
                                                          | (rw [em10, mup_s, ← hq9, mup_k _ _ _ (by decide), h2F, hfr2, List.length_append]; show (l.length : Int) + 1 = ((l.length + 1 : Nat) : Int); omega)
                                                          | (rcases hnx with ⟨y1, y2⟩ | ⟨y1, y2⟩
                                                             · rw [y2]; exact h2D
                                                             · exfalso; omega)
                                                          | (rcases hnx with ⟨y1, y2⟩ | ⟨y1, y2⟩
                                                             · rw [y2, NO_h182 12 (by omega)]; exact h2D
                                                             · exact absurd (y1.2 _ hlast) (by rw [← hcb]; exact NO_q182))
                                                      ) (by 
                                                        first
                                                          | (rw [em10, mup_k _ _ _ (by decide), ← hq9, mup_r, hfr2, h2F]
                                                             intro j q hj
                                                             by_cases e : j < l.length
                                                             · rw [List.getElem?_append_left e] at hj; exact (if_neg (by omega)).trans (h14F j q hj)
                                                             · have ej : j = l.length := by have := (List.getElem?_eq_some_iff.mp hj).1; rw [List.length_append] at this; have : j < l.length + 1 := this; omega
                                                               subst ej
                                                               rw [List.getElem?_append_right (by omega), Nat.sub_self] at hj
                                                               cases hj
                                                               rw [← hcb]; exact if_pos rfl)
                                                          | (rcases hnx with ⟨y1, y2⟩ | ⟨y1, y2⟩
                                                             · rw [y2]; exact h14
                                                             · exfalso; omega)
                                                          | (rcases hnx with ⟨y1, y2⟩ | ⟨y1, y2⟩
                                                             · rw [y2, NO_h182 14 (by omega)]; exact h14
                                                             · exact absurd (y1.2 _ hlast) (by rw [← hcb]; exact NO_q182))
                                                      ) (by 
                                                        first
                                                          | exact h3D
                                                          | (rw [NO_h182 12 (by omega)]; exact h3D)
                                                          | (rw [em10, mup_j _ _ (by decide), ← hq9, mup_k _ _ _ (by decide)]; exact h3F)
                                                      ) (by 
                                                        first
                                                          | exact hfD
                                                          | (intro q h; rw [NO_h182 q (by omega)]; exact hfD q h)
                                                          | (intro q h; rw [em10, mup_k _ _ _ (by omega), ← hq9, mup_k _ _ _ (by omega)]; exact hfF q h)
                                                      )
                        refine v_aload_n C 1 dX3_draw_157 rfl ?_
                        refine v_get C 12 2 lC12 (eC12 _) rfl inX3 (by decide) rfl qw283 dX3_draw_158 ?_
                        refine v_if_eq (tgt := 188) C dX3_draw_161 (by decide) (by omega) (fun c11 => ?_) (fun c11 => ?_)
                        · refine v_sub [1, 2, 3, 4, 5, 0] rfl ?_
                          exact K188   mD (by 
                                                        rcases hnx with ⟨y1, y2⟩ | ⟨y1, y2⟩
                                                        · exfalso
                                                          first
                                                            | exact y1 ⟨by omega, fun b hb => by rw [hlast] at hb; cases hb; rw [← hcb]; exact NO_q182⟩
                                                            | (have e0 : l = [] := List.length_eq_zero_iff.mp (by omega)
                                                               exact y1 ⟨by omega, fun b hb => by rw [e0] at hb; cases hb⟩)
                                                        · exact y2
                                                      ) (by 
                                                        first
                                                          | exact hbD
                                                          | (rw [NO_h182 13 (by omega)]; exact hbD)
                                                      ) (by 
                                                        first
                                                          | exact h2D
                                                          | (rw [NO_h182 12 (by omega)]; exact h2D)
                                                      ) (by 
                                                        first
                                                          | exact h14
                                                          | (rw [NO_h182 14 (by omega)]; exact h14)
                                                      ) (by 
                                                        first
                                                          | exact h3D
                                                          | (rw [NO_h182 12 (by omega)]; exact h3D)
                                                      ) (by 
                                                        first
                                                          | exact hfD
                                                          | (intro q h; rw [NO_h182 q (by omega)]; exact hfD q h)
                                                      )
                        · obtain ⟨q0, hq0⟩ : ∃ q, l[l.length - 1]? = some q := ⟨_, List.getElem?_eq_getElem (by omega)⟩
                          have eq0 : mD 14 (mD 12 2 - 1) = q0 := by rw [show mD 12 2 - 1 = ((l.length - 1 : Nat) : Int) by omega]; exact h14 _ q0 hq0
                          have hlast : l.getLast? = some (mD 14 (mD 12 2 - 1)) := by rw [eq0, ← hq0]; exact List.getLast?_eq_getElem? ..
                          have hmq := frL_codes hbf (M := i.toNat) (by omega) (q := q0) (by rw [← hl]; exact List.mem_of_getElem? hq0)
                          refine v_aload_n C 1 dX3_draw_164 rfl ?_
                          refine v_aload_n C 2 dX3_draw_165 rfl ?_
                          refine v_iload_n C 3 dX3_draw_166 rfl ?_
                          refine v_iload C 0 dX3_draw_167 rfl ?_
                          refine v_aload_n C 1 dX3_draw_169 rfl ?_
                          refine v_get C 12 1 lC12 (eC12 _) rfl inX3 (by decide) rfl qw281 dX3_draw_170 ?_
                          refine v_aload_n C 1 dX3_draw_173 rfl ?_
                          refine v_get C 12 2 lC12 (eC12 _) rfl inX3 (by decide) rfl qw283 dX3_draw_174 ?_
                          refine v_iconst (z := 1) C dX3_draw_177 rfl ?_
                          refine v_isub C dX3_draw_178 ?_
                          refine v_callSN (st := [.int (iz (mD 13 i)), .int (iz (P)), .ref (aa k), .ref (aa 12)]) (n := 2) C [.ref (aa 14), .int (iz ((mD 12 2) - 1))] (ct_StageRatios_at C.2.2.2.2.2.2.1 mD (14) (400) ((mD 12 2) - 1) ⟨lC14, by decide, eC14⟩ (by first | assumption | omega)) qw618 qw1 "StageRatios" (by decide +kernel) rfl rfl ⟨Nat.le_of_ble_eq_true rfl, Nat.le_of_ble_eq_true rfl⟩ (by decide +kernel) qw617 rfl rfl (Nat.le_of_ble_eq_true rfl) dX3_draw_179 (fun r m12 hq12 => ?_)
                          obtain ⟨z12, rfl, rfl, rfl⟩ := hq12
                          show V E (wC D cy aa ad) 7 mD 182 [(5, .int (iz (mD 13 i))), (0, .ref (aa 12)), (1, .ref (aa k)), (2, .int (iz (P))), (3, .int (iz (ch))), (4, .int (iz (i)))] [.int (iz (mD 14 ((mD 12 2) - 1))), .int (iz (mD 13 i)), .int (iz (P)), .ref (aa k), .ref (aa 12)]
                          refine v_callV (st := []) (n := 4) (q := 12) C [.ref (aa k), .int (iz (P)), .int (iz (mD 13 i)), .int (iz (mD 14 ((mD 12 2) - 1)))] (ct_Front_isFaster C.2.2.2.2.2.2.1 mD (k) (kf) (ks) (kt) (kc) (P) (mD 13 i) (mD 14 ((mD 12 2) - 1)) hk (by exact hrk.fr k_mD kf_mD (hfD ks (by omega)) (hfD kt (by omega)) (hfD kc (by omega))) (by first | assumption | omega) (by 
                                                          rw [e9_mD, hcb]; rcases hrg with y | y
                                                          · omega
                                                          · exact y
                                                      ) (by rw [e9_mD, eq0]; exact ⟨hmq.1, ((hcn _ hmq.1.1 hmq.1.2).mpr hmq.2).1⟩) (by rw [e9_mD, k_mD, kf_mD]; exact hca)) lC12 (eC12 _) rfl qw914 qw13 qw911 rfl rfl ⟨Nat.le_of_ble_eq_true rfl, Nat.le_of_ble_eq_true rfl⟩ (by decide +kernel) qw913 qp27 rfl rfl (Nat.le_of_ble_eq_true rfl) dX3_draw_182 (fun r m13 hq13 => ?_)
                          obtain ⟨z13, rfl, ⟨rfl, hq13, hm13⟩ | ⟨rfl, hq13, hm13⟩⟩ := hq13
                          · show V E (wC D cy aa ad) 7 m13 185 [(5, .int (iz (mD 13 i))), (0, .ref (aa 12)), (1, .ref (aa k)), (2, .int (iz (P))), (3, .int (iz (ch))), (4, .int (iz (i)))] [.int (iz (1))]
                            rw [k_mD, kf_mD] at hq13
                            refine v_if_eq (tgt := 211) C dX3_draw_185 (by decide) (by omega) (fun c14 => by exact absurd c14 (by decide)) (fun c14 => ?_)
                            refine v_sub [1, 2, 3, 4, 5, 0] rfl ?_
                            exact K188   m13 (by 
                                                            rcases hnx with ⟨y1, y2⟩ | ⟨y1, y2⟩
                                                            · exfalso
                                                              first
                                                                | exact y1 ⟨by omega, fun b hb => by rw [hlast] at hb; cases hb; rw [← hcb]; exact hq13⟩
                                                                | (have e0 : l = [] := List.length_eq_zero_iff.mp (by omega)
                                                                   exact y1 ⟨by omega, fun b hb => by rw [e0] at hb; cases hb⟩)
                                                            · exact y2
                                                          ) (by 
                                                            first
                                                              | exact hbD
                                                              | (rw [hm13 13 (by omega)]; exact hbD)
                                                          ) (by 
                                                            first
                                                              | exact h2D
                                                              | (rw [hm13 12 (by omega)]; exact h2D)
                                                          ) (by 
                                                            first
                                                              | exact h14
                                                              | (rw [hm13 14 (by omega)]; exact h14)
                                                          ) (by 
                                                            first
                                                              | exact h3D
                                                              | (rw [hm13 12 (by omega)]; exact h3D)
                                                          ) (by 
                                                            first
                                                              | exact hfD
                                                              | (intro q h; rw [hm13 q (by omega)]; exact hfD q h)
                                                          )
                          · show V E (wC D cy aa ad) 7 m13 185 [(5, .int (iz (mD 13 i))), (0, .ref (aa 12)), (1, .ref (aa k)), (2, .int (iz (P))), (3, .int (iz (ch))), (4, .int (iz (i)))] [.int (iz (0))]
                            rw [k_mD, kf_mD] at hq13
                            refine v_if_eq (tgt := 211) C dX3_draw_185 (by decide) (by omega) (fun c15 => ?_) (fun c15 => by exact absurd c15 (by decide))
                            refine v_sub [1, 2, 3, 4, 5] rfl ?_
                            exact K211   m13 (by 
                                                            first
                                                              | exact hbD
                                                              | (rw [hm13 13 (by omega)]; exact hbD)
                                                              | (rw [NO_em208, mup_k _ _ _ (by decide), ← NO_q198, mup_k _ _ _ (by decide)]; exact hbF)
                                                          ) (by 
                                                            first
                                                              | (rw [NO_em208, mup_s, ← NO_q198, mup_k _ _ _ (by decide), h2F, hfr2, List.length_append]; show (l.length : Int) + 1 = ((l.length + 1 : Nat) : Int); omega)
                                                              | (rcases hnx with ⟨y1, y2⟩ | ⟨y1, y2⟩
                                                                 · rw [y2]; exact h2D
                                                                 · exfalso; omega)
                                                              | (rcases hnx with ⟨y1, y2⟩ | ⟨y1, y2⟩
                                                                 · rw [y2, hm13 12 (by omega)]; exact h2D
                                                                 · exact absurd (y1.2 _ hlast) (by rw [← hcb]; exact hq13))
                                                          ) (by 
                                                            first
                                                              | (rw [NO_em208, mup_k _ _ _ (by decide), ← NO_q198, mup_r, hfr2, h2F]
                                                                 intro j q hj
                                                                 by_cases e : j < l.length
                                                                 · rw [List.getElem?_append_left e] at hj; exact (if_neg (by omega)).trans (h14F j q hj)
                                                                 · have ej : j = l.length := by have := (List.getElem?_eq_some_iff.mp hj).1; rw [List.length_append] at this; have : j < l.length + 1 := this; omega
                                                                   subst ej
                                                                   rw [List.getElem?_append_right (by omega), Nat.sub_self] at hj
                                                                   cases hj
                                                                   rw [← hcb]; exact if_pos rfl)
                                                              | (rcases hnx with ⟨y1, y2⟩ | ⟨y1, y2⟩
                                                                 · rw [y2]; exact h14
                                                                 · exfalso; omega)
                                                              | (rcases hnx with ⟨y1, y2⟩ | ⟨y1, y2⟩
                                                                 · rw [y2, hm13 14 (by omega)]; exact h14
                                                                 · exact absurd (y1.2 _ hlast) (by rw [← hcb]; exact hq13))
                                                          ) (by 
                                                            first
                                                              | exact h3D
                                                              | (rw [hm13 12 (by omega)]; exact h3D)
                                                              | (rw [NO_em208, mup_j _ _ (by decide), ← NO_q198, mup_k _ _ _ (by decide)]; exact h3F)
                                                          ) (by 
                                                            first
                                                              | exact hfD
                                                              | (intro q h; rw [hm13 q (by omega)]; exact hfD q h)
                                                              | (intro q h; rw [NO_em208, mup_k _ _ _ (by omega), ← NO_q198, mup_k _ _ _ (by omega)]; exact hfF q h)
                                                          )
                refine v_sub [1, 2, 3, 4, 0] rfl ?_
                exact K133 _ (0) m6 (by first | assumption | omega) (by rw [em6, mup_k _ _ _ (by decide)]) (by rw [em6, mup_s]; rfl) (by intro j q h; cases h) (by rw [em6, mup_j _ _ (by decide)]; exact h3B) (by intro q h; rw [em6, mup_k _ _ _ (by omega)]; exact hfB q h) (Nat.lt_succ_self _)
              · have K119 : ∀  (mC : Mem) (hbm2 : BmOk (cnA (m kf) (m k 5) P (m 10) (m 11)) (weA (m kf) (m k 5) P) (fsA (m kf) (m k 5) P) (c + 1) 400 (mC 13)) (h3C : mC 12 3 = ch) (hfC : ∀ q, (q < 12 ∨ (19 ≤ q ∧ q < 27) ∨ (31 ≤ q ∧ q < 43) ∨ 51 ≤ q) → mC q = m q), V E (wC D cy aa ad) 7 mC 119 [(0, .ref (aa 12)), (1, .ref (aa k)), (2, .int (iz (P))), (3, .int (iz (ch))), (4, .int (iz (c)))] [] := by
                  intro  mC hbm2 h3C hfC
                  refine v_iinc (L1 := [(4, .int (iz (c + 1))), (0, .ref (aa 12)), (1, .ref (aa k)), (2, .int (iz (P))), (3, .int (iz (ch)))]) C 4 dX3_draw_119 rfl (by decide) rfl ?_
                  refine v_goto (tgt := 44) C dX3_draw_122 (by decide) ?_
                  refine v_sub [1, 2, 3, 4, 0] rfl ?_
                  exact ih44 (c + 1) mC (by first | assumption | omega) (by exact hbm2) (by exact h3C) (by exact hfC) (by omega)
                have hcc := hce c (by omega) (by omega)
                refine v_aload_n C 0 dX3_draw_56 rfl ?_
                refine v_get C 12 4 lC12 (eC12 _) rfl inX3 (by decide) rfl qw286 dX3_draw_57 ?_
                refine v_iload C 4 dX3_draw_60 rfl ?_
                refine v_callV (st := []) (n := 1) (q := 8) C [.int (iz (c))] (ct_Choice_counts C.2.2.2.2.2.2.1 mB (c) (by first | assumption | omega) (by rw [el_mB, eh_mB]; exact hlh) (by rw [e9_mB]; exact hce)) lC8 (eC8 _) rfl qw852 qw12 qw908 rfl rfl ⟨Nat.le_of_ble_eq_true rfl, Nat.le_of_ble_eq_true rfl⟩ (by decide +kernel) qw850 qw851 rfl rfl (Nat.le_of_ble_eq_true rfl) dX3_draw_62 (fun r m16 hq16 => ?_)
                obtain ⟨z16, rfl, ⟨rfl, hq16, rfl⟩ | ⟨rfl, hq16, rfl⟩⟩ := hq16
                · show V E (wC D cy aa ad) 7 mB 65 [(0, .ref (aa 12)), (1, .ref (aa k)), (2, .int (iz (P))), (3, .int (iz (ch))), (4, .int (iz (c)))] [.int (iz (1))]
                  rw [e9_mB, el_mB, eh_mB] at hq16
                  have hct := (hcn c hc.1 (by omega)).mp hq16
                  have hwr := (hca c hc.1 (by omega)).pos hq16.1
                  refine v_if_eq (tgt := 119) C dX3_draw_65 (by decide) (by omega) (fun c17 => by exact absurd c17 (by decide)) (fun c17 => ?_)
                  refine v_aload_n C 0 dX3_draw_68 rfl ?_
                  refine v_get C 12 4 lC12 (eC12 _) rfl inX3 (by decide) rfl qw286 dX3_draw_69 ?_
                  refine v_iload C 4 dX3_draw_72 rfl ?_
                  refine v_callV (st := []) (n := 1) (q := 8) C [.int (iz (c))] (ct_Choice_weightOf C.2.2.2.2.2.2.1 mB (c) (by first | assumption | omega) (by rw [e9_mB]; exact ⟨hq16.1, hcc.2⟩)) lC8 (eC8 _) rfl qw865 qw12 qw909 rfl rfl ⟨Nat.le_of_ble_eq_true rfl, Nat.le_of_ble_eq_true rfl⟩ (by decide +kernel) qw863 qw864 rfl rfl (Nat.le_of_ble_eq_true rfl) dX3_draw_74 (fun r m18 hq18 => ?_)
                  obtain ⟨z18, rfl, rfl, rfl⟩ := hq18
                  show V E (wC D cy aa ad) 7 mB 77 [(0, .ref (aa 12)), (1, .ref (aa k)), (2, .int (iz (P))), (3, .int (iz (ch))), (4, .int (iz (c)))] [.int (iz (mB 9 c / 64))]
                  have hwe : mB 9 c / 64 = (weA (m kf) (m k 5) P) c := by rw [e9_mB]; exact hwr.2.2.2
                  have hwb : 0 ≤ mB 9 c / 64 ∧ mB 9 c / 64 < 400 := by
                    have := stZ_rng (s := 0) hF hk5.2 hP (un_dv hk5 hP hc.1 (show c < 4913 by omega)).2.2 (by omega) (by omega)
                    rw [hwe]; unfold weA; omega
                  refine v_istore (L1 := [(5, .int (iz (mB 9 c / 64))), (0, .ref (aa 12)), (1, .ref (aa k)), (2, .int (iz (P))), (3, .int (iz (ch))), (4, .int (iz (c)))]) C dX3_draw_77 (by decide) rfl ?_
                  refine v_aload_n C 1 dX3_draw_79 rfl ?_
                  refine v_get C 12 0 lC12 (eC12 _) rfl inX3 (by decide) rfl qw280 dX3_draw_80 ?_
                  refine v_iload C 0 dX3_draw_83 rfl ?_
                  refine v_callSN (st := []) (n := 2) C [.ref (aa 13), .int (iz (mB 9 c / 64))] (ct_StageRatios_at C.2.2.2.2.2.2.1 mB (13) (400) (mB 9 c / 64) ⟨lC13, by decide, eC13⟩ (by first | assumption | omega)) qw618 qw1 "StageRatios" (by decide +kernel) rfl rfl ⟨Nat.le_of_ble_eq_true rfl, Nat.le_of_ble_eq_true rfl⟩ (by decide +kernel) qw617 rfl rfl (Nat.le_of_ble_eq_true rfl) dX3_draw_85 (fun r m19 hq19 => ?_)
                  obtain ⟨z19, rfl, rfl, rfl⟩ := hq19
                  show V E (wC D cy aa ad) 7 mB 88 [(5, .int (iz (mB 9 c / 64))), (0, .ref (aa 12)), (1, .ref (aa k)), (2, .int (iz (P))), (3, .int (iz (ch))), (4, .int (iz (c)))] [.int (iz (mB 13 (mB 9 c / 64)))]
                  have hbx : mB 13 (mB 9 c / 64) = -1 ∨ ((0 ≤ mB 13 (mB 9 c / 64) ∧ mB 13 (mB 9 c / 64) < c) ∧ (cnA (m kf) (m k 5) P (m 10) (m 11)) (mB 13 (mB 9 c / 64))) := by
                    rcases hbm _ hwb.1 hwb.2 with ⟨y, -⟩ | ⟨y, y2, -⟩
                    · exact Or.inl y
                    · exact Or.inr ⟨y, y2⟩
                  refine v_istore (L1 := [(6, .int (iz (mB 13 (mB 9 c / 64)))), (5, .int (iz (mB 9 c / 64))), (0, .ref (aa 12)), (1, .ref (aa k)), (2, .int (iz (P))), (3, .int (iz (ch))), (4, .int (iz (c)))]) C dX3_draw_88 (by decide) rfl ?_
                  refine v_iload C 0 dX3_draw_90 rfl ?_
                  refine v_if_lt (tgt := 108) C dX3_draw_92 (by decide) (by omega) (fun c20 => ?_) (fun c20 => ?_)
                  · refine v_aload_n C 2 dX3_draw_108 rfl ?_
                    refine v_get C 12 0 lC12 (eC12 _) rfl inX3 (by decide) rfl qw280 dX3_draw_109 ?_
                    refine v_iload C 1 dX3_draw_112 rfl ?_
                    refine v_iload C 6 dX3_draw_114 rfl ?_
                    refine v_callSN (st := []) (n := 3) C [.ref (aa 13), .int (iz (mB 9 c / 64)), .int (iz (c))] (ct_StageRatios_put C.2.2.2.2.2.2.1 mB (13) (400) (mB 9 c / 64) (c) ⟨lC13, by decide, eC13⟩ (by first | assumption | omega)) qw494 qw1 "StageRatios" (by decide +kernel) rfl rfl ⟨Nat.le_of_ble_eq_true rfl, Nat.le_of_ble_eq_true rfl⟩ (by decide +kernel) qw493 rfl rfl (Nat.le_of_ble_eq_true rfl) dX3_draw_116 (fun r m21 hq21 => ?_)
                    obtain ⟨rfl, hq21⟩ := hq21
                    show V E (wC D cy aa ad) 7 m21 119 [(6, .int (iz (mB 13 (mB 9 c / 64)))), (5, .int (iz (mB 9 c / 64))), (0, .ref (aa 12)), (1, .ref (aa k)), (2, .int (iz (P))), (3, .int (iz (ch))), (4, .int (iz (c)))] []
                    refine v_sub [2, 3, 4, 5, 6] rfl ?_
                    exact K119   m21 (by 
                                            first
                                              | exact hbm.skip (fun z => hq16 ((hcn c (by omega) (by omega)).mpr z))
                                              | (rw [NO_h102 13 (by omega)]; exact hbm.keep (by rw [← hwe]; omega) (by rw [← hwe]; exact NO_q102))
                                              | (rw [← hq21, mup_r, NO_h102 13 (by omega)]; exact hbm.new hord hct hc.1 (by omega) (Or.inr (by rw [← hwe]; exact NO_q102)) (by rw [← hwe]; exact if_pos rfl) (fun x h => by rw [← hwe] at h; exact if_neg h))
                                              | (rw [← hq21, mup_r]; exact hbm.new hord hct hc.1 (by omega) (Or.inl (by rw [← hwe]; omega)) (by rw [← hwe]; exact if_pos rfl) (fun x h => by rw [← hwe] at h; exact if_neg h))
                                          ) (by 
                                            first
                                              | exact h3B
                                              | (rw [NO_h102 12 (by omega)]; exact h3B)
                                              | (rw [← hq21, mup_k _ _ _ (by decide)]; first | exact h3B | (rw [NO_h102 12 (by omega)]; exact h3B))
                                          ) (by 
                                            first
                                              | exact hfB
                                              | (intro q h; rw [NO_h102 q (by omega)]; exact hfB q h)
                                              | (intro q h; rw [← hq21, mup_k _ _ _ (by omega)]; first | exact hfB q h | (rw [NO_h102 q (by omega)]; exact hfB q h))
                                          )
                  · refine v_aload_n C 2 dX3_draw_95 rfl ?_
                    refine v_aload_n C 3 dX3_draw_96 rfl ?_
                    refine v_iload_n C 4 dX3_draw_97 rfl ?_
                    refine v_iload C 6 dX3_draw_98 rfl ?_
                    refine v_iload C 0 dX3_draw_100 rfl ?_
                    refine v_callV (st := []) (n := 4) (q := 12) C [.ref (aa k), .int (iz (P)), .int (iz (c)), .int (iz (mB 13 (mB 9 c / 64)))] (ct_Front_isFaster C.2.2.2.2.2.2.1 mB (k) (kf) (ks) (kt) (kc) (P) (c) (mB 13 (mB 9 c / 64)) hk (by exact hrk.fr k_mB kf_mB (hfB ks (by omega)) (hfB kt (by omega)) (hfB kc (by omega))) (by first | assumption | omega) (by rw [e9_mB]; exact ⟨⟨hc.1, by omega⟩, hq16.1⟩) (by 
                                              rcases hbx with y | y
                                              · omega
                                              · exact ⟨⟨y.1.1, by omega⟩, by have z := ((hcn _ y.1.1 (by omega)).mpr y.2).1; rw [← e9_mB] at z; exact z⟩
                                          ) (by rw [e9_mB, k_mB, kf_mB]; exact hca)) lC12 (eC12 _) rfl qw914 qw13 qw911 rfl rfl ⟨Nat.le_of_ble_eq_true rfl, Nat.le_of_ble_eq_true rfl⟩ (by decide +kernel) qw913 qp27 rfl rfl (Nat.le_of_ble_eq_true rfl) dX3_draw_102 (fun r m22 hq22 => ?_)
                    obtain ⟨z22, rfl, ⟨rfl, hq22, hm22⟩ | ⟨rfl, hq22, hm22⟩⟩ := hq22
                    · show V E (wC D cy aa ad) 7 m22 105 [(6, .int (iz (mB 13 (mB 9 c / 64)))), (5, .int (iz (mB 9 c / 64))), (0, .ref (aa 12)), (1, .ref (aa k)), (2, .int (iz (P))), (3, .int (iz (ch))), (4, .int (iz (c)))] [.int (iz (1))]
                      rw [k_mB, kf_mB] at hq22
                      refine v_if_eq (tgt := 119) C dX3_draw_105 (by decide) (by omega) (fun c23 => by exact absurd c23 (by decide)) (fun c23 => ?_)
                      refine v_aload_n C 2 dX3_draw_108 rfl ?_
                      refine v_get C 12 0 lC12 (eC12 _) rfl inX3 (by decide) rfl qw280 dX3_draw_109 ?_
                      refine v_iload C 1 dX3_draw_112 rfl ?_
                      refine v_iload C 6 dX3_draw_114 rfl ?_
                      refine v_callSN (st := []) (n := 3) C [.ref (aa 13), .int (iz (mB 9 c / 64)), .int (iz (c))] (ct_StageRatios_put C.2.2.2.2.2.2.1 m22 (13) (400) (mB 9 c / 64) (c) ⟨lC13, by decide, eC13⟩ (by first | assumption | omega)) qw494 qw1 "StageRatios" (by decide +kernel) rfl rfl ⟨Nat.le_of_ble_eq_true rfl, Nat.le_of_ble_eq_true rfl⟩ (by decide +kernel) qw493 rfl rfl (Nat.le_of_ble_eq_true rfl) dX3_draw_116 (fun r m24 hq24 => ?_)
                      obtain ⟨rfl, hq24⟩ := hq24
                      show V E (wC D cy aa ad) 7 m24 119 [(6, .int (iz (mB 13 (mB 9 c / 64)))), (5, .int (iz (mB 9 c / 64))), (0, .ref (aa 12)), (1, .ref (aa k)), (2, .int (iz (P))), (3, .int (iz (ch))), (4, .int (iz (c)))] []
                      refine v_sub [2, 3, 4, 5, 6] rfl ?_
                      exact K119   m24 (by 
                                                first
                                                  | exact hbm.skip (fun z => hq16 ((hcn c (by omega) (by omega)).mpr z))
                                                  | (rw [hm22 13 (by omega)]; exact hbm.keep (by rw [← hwe]; omega) (by rw [← hwe]; exact hq22))
                                                  | (rw [← hq24, mup_r, hm22 13 (by omega)]; exact hbm.new hord hct hc.1 (by omega) (Or.inr (by rw [← hwe]; exact hq22)) (by rw [← hwe]; exact if_pos rfl) (fun x h => by rw [← hwe] at h; exact if_neg h))
                                                  | (rw [← hq24, mup_r]; exact hbm.new hord hct hc.1 (by omega) (Or.inl (by rw [← hwe]; omega)) (by rw [← hwe]; exact if_pos rfl) (fun x h => by rw [← hwe] at h; exact if_neg h))
                                              ) (by 
                                                first
                                                  | exact h3B
                                                  | (rw [hm22 12 (by omega)]; exact h3B)
                                                  | (rw [← hq24, mup_k _ _ _ (by decide)]; first | exact h3B | (rw [hm22 12 (by omega)]; exact h3B))
                                              ) (by 
                                                first
                                                  | exact hfB
                                                  | (intro q h; rw [hm22 q (by omega)]; exact hfB q h)
                                                  | (intro q h; rw [← hq24, mup_k _ _ _ (by omega)]; first | exact hfB q h | (rw [hm22 q (by omega)]; exact hfB q h))
                                              )
                    · show V E (wC D cy aa ad) 7 m22 105 [(6, .int (iz (mB 13 (mB 9 c / 64)))), (5, .int (iz (mB 9 c / 64))), (0, .ref (aa 12)), (1, .ref (aa k)), (2, .int (iz (P))), (3, .int (iz (ch))), (4, .int (iz (c)))] [.int (iz (0))]
                      rw [k_mB, kf_mB] at hq22
                      refine v_if_eq (tgt := 119) C dX3_draw_105 (by decide) (by omega) (fun c25 => ?_) (fun c25 => by exact absurd c25 (by decide))
                      refine v_sub [2, 3, 4, 5, 6] rfl ?_
                      exact K119   m22 (by 
                                                first
                                                  | exact hbm.skip (fun z => hq16 ((hcn c (by omega) (by omega)).mpr z))
                                                  | (rw [hm22 13 (by omega)]; exact hbm.keep (by rw [← hwe]; omega) (by rw [← hwe]; exact hq22))
                                                  | (rw [← NO_q116, mup_r, hm22 13 (by omega)]; exact hbm.new hord hct hc.1 (by omega) (Or.inr (by rw [← hwe]; exact hq22)) (by rw [← hwe]; exact if_pos rfl) (fun x h => by rw [← hwe] at h; exact if_neg h))
                                                  | (rw [← NO_q116, mup_r]; exact hbm.new hord hct hc.1 (by omega) (Or.inl (by rw [← hwe]; omega)) (by rw [← hwe]; exact if_pos rfl) (fun x h => by rw [← hwe] at h; exact if_neg h))
                                              ) (by 
                                                first
                                                  | exact h3B
                                                  | (rw [hm22 12 (by omega)]; exact h3B)
                                                  | (rw [← NO_q116, mup_k _ _ _ (by decide)]; first | exact h3B | (rw [hm22 12 (by omega)]; exact h3B))
                                              ) (by 
                                                first
                                                  | exact hfB
                                                  | (intro q h; rw [hm22 q (by omega)]; exact hfB q h)
                                                  | (intro q h; rw [← NO_q116, mup_k _ _ _ (by omega)]; first | exact hfB q h | (rw [hm22 q (by omega)]; exact hfB q h))
                                              )
                · show V E (wC D cy aa ad) 7 mB 65 [(0, .ref (aa 12)), (1, .ref (aa k)), (2, .int (iz (P))), (3, .int (iz (ch))), (4, .int (iz (c)))] [.int (iz (0))]
                  rw [e9_mB, el_mB, eh_mB] at hq16
                  refine v_if_eq (tgt := 119) C dX3_draw_65 (by decide) (by omega) (fun c26 => ?_) (fun c26 => by exact absurd c26 (by decide))
                  refine v_sub [0, 1, 2, 3, 4] rfl ?_
                  exact K119   mB (by 
                                        first
                                          | exact hbm.skip (fun z => hq16 ((hcn c (by omega) (by omega)).mpr z))
                                          | (rw [NO_h102 13 (by omega)]; exact hbm.keep (by rw [← hwe]; omega) (by rw [← hwe]; exact NO_q102))
                                          | (rw [← NO_q116, mup_r, NO_h102 13 (by omega)]; exact hbm.new hord hct hc.1 (by omega) (Or.inr (by rw [← hwe]; exact NO_q102)) (by rw [← hwe]; exact if_pos rfl) (fun x h => by rw [← hwe] at h; exact if_neg h))
                                          | (rw [← NO_q116, mup_r]; exact hbm.new hord hct hc.1 (by omega) (Or.inl (by rw [← hwe]; omega)) (by rw [← hwe]; exact if_pos rfl) (fun x h => by rw [← hwe] at h; exact if_neg h))
                                      ) (by 
                                        first
                                          | exact h3B
                                          | (rw [NO_h102 12 (by omega)]; exact h3B)
                                          | (rw [← NO_q116, mup_k _ _ _ (by decide)]; first | exact h3B | (rw [NO_h102 12 (by omega)]; exact h3B))
                                      ) (by 
                                        first
                                          | exact hfB
                                          | (intro q h; rw [NO_h102 q (by omega)]; exact hfB q h)
                                          | (intro q h; rw [← NO_q116, mup_k _ _ _ (by omega)]; first | exact hfB q h | (rw [NO_h102 q (by omega)]; exact hfB q h))
                                      )
          refine v_sub [1, 2, 3, 4, 0] rfl ?_
          exact K44 _ (0) mA (by first | assumption | omega) (by intro x h0 h1; exact Or.inl ⟨hA x h0 (by omega), fun c h2 h3 => by omega⟩) (by exact h3A) (by intro q h; exact hfA q (by omega)) (Nat.lt_succ_self _)
        · refine v_aload_n C 0 dX3_draw_27 rfl ?_
          refine v_get C 12 0 lC12 (eC12 _) rfl inX3 (by decide) rfl qw280 dX3_draw_28 ?_
          refine v_iload C 4 dX3_draw_31 rfl ?_
          refine v_iconst (z := -1) C dX3_draw_33 rfl ?_
          refine v_iast C 13 lC13 eC13 (by decide) (by omega) dX3_draw_34 (fun m27 em27 => ?_)
          refine v_iinc (L1 := [(4, .int (iz (i + 1))), (0, .ref (aa 12)), (1, .ref (aa k)), (2, .int (iz (P))), (3, .int (iz (ch)))]) C 4 dX3_draw_35 rfl (by decide) rfl ?_
          refine v_goto (tgt := 17) C dX3_draw_38 (by decide) ?_
          refine v_sub [1, 2, 3, 4, 0] rfl ?_
          exact ih17 (i + 1) m27 (by first | assumption | omega) (by 
                        intro j h0 h1; rw [em27, mup_r]
                        by_cases e : j = i
                        · exact if_pos e
                        · exact (if_neg e).trans (hA j h0 (by omega))
                      ) (by rw [em27, mup_k _ _ _ (by decide)]; exact h3A) (by intro q h; rw [em27, mup_k _ _ _ (by omega)]; exact hfA q h) (by omega)
    refine v_sub [1, 2, 3, 4, 0] rfl ?_
    exact K17 _ (0) m2 (by first | assumption | omega) (by intro j h0 h1; omega) (by rw [em2, mup_s]) (by intro q h; rw [em2, mup_k _ _ _ (by omega)]) (Nat.lt_succ_self _)
  · refine v_vret C X dX3_draw_8 ⟨rfl, ?_⟩
    exact ⟨by omega, hdo (by omega), fun q _ => rfl⟩
