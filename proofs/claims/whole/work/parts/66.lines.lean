/-! the class's reader: its lines -/
noncomputable def tNew (b : Int → Int) (n : Int) (nm : Int → List Int) (s p : Int) : Rs Int := @ite _ (isNm b n p) (Classical.propDecidable _) (if naZ nm (wlZ b n p) s ≠ -1 then .inl (3, skZ b n p) else .inr (nxZ b n p)) (.inl (1, skZ b n p))
def tKind (b : Int → Int) (n p : Int) : Rs (Int × Int) := if kdZ b n p = 1 ∧ grZ (wlZ b n p) ≠ 0 then .inr (grZ (wlZ b n p), nxZ b n p) else .inl (1, skZ b n p)
theorem grZ_0 {l : List Int} : grZ l = 0 ∨ (2 ≤ grZ l ∧ grZ l ≤ 4) := by
  by_cases c : grZ l = 0
  · exact Or.inl c
  · exact Or.inr (grZ_rng c)
def DrC (m : Mem) (k kf ks kt kc : Nat) (σ : Sg) : Prop := m 3 8 = σ.h 7 ∧ m k 5 = σ.h 5 ∧ m k 6 = σ.h 6 ∧ (σ.h 7 = 1 → m k 0 = σ.h 0 ∧ m k 1 = σ.h 1 ∧ m k 2 = σ.h 2 ∧ m k 3 = σ.h 3 ∧ m k 4 = σ.h 4) ∧ (∀ j : Int, 0 ≤ j → j < σ.h 5 * 9 → m kf j = σ.fa j) ∧ (∀ s : Int, 0 ≤ s → s < σ.h 5 → m 4 s = enZ 27 96 (σ.nm s)) ∧ ∀ i : Int, 0 ≤ i → i < σ.h 6 → m ks i = σ.ft i ∧ m kt i = σ.fk i ∧ m kc i = σ.fc i
/-- only the tape's, the reader's, the names' and the draft's places -/
def FRd (m m' : Mem) (k kf ks kt kc : Nat) : Prop := m' 1 1 = m 1 1 ∧ (∀ j : Int, 2 ≤ j → j ≤ 7 → m' 3 j = m 3 j) ∧ ∀ q, q ≠ 1 → q ≠ 3 → q ≠ 4 → q ≠ k → q ≠ kf → q ≠ ks → q ≠ kt → q ≠ kc → m' q = m q
theorem FRd.rfl' (m : Mem) (k kf ks kt kc : Nat) : FRd m m k kf ks kt kc := ⟨rfl, fun _ _ _ => rfl, fun _ _ _ _ _ _ _ _ _ => rfl⟩
theorem FRd.tr {m m1 m2 : Mem} {k kf ks kt kc : Nat} (h : FRd m m1 k kf ks kt kc) (g : FRd m1 m2 k kf ks kt kc) : FRd m m2 k kf ks kt kc := ⟨g.1.trans h.1, fun j a b => (g.2.1 j a b).trans (h.2.1 j a b), fun q a b c d e f u v => (g.2.2 q a b c d e f u v).trans (h.2.2 q a b c d e f u v)⟩
theorem FW.rd {m m' : Mem} (h : FW m m') (k kf ks kt kc : Nat) : FRd m m' k kf ks kt kc := ⟨h.1, h.2.2.1, fun q a b _ _ _ _ _ _ => h.2.2.2 q a b⟩
theorem DrC.fw {m m' : Mem} {k kf ks kt kc : Nat} {σ : Sg} (h : DrC m k kf ks kt kc σ) (hk : RocketAt k kf ks kt kc) (g : FW m m') : DrC m' k kf ks kt kc σ := by
  have kk : 73 ≤ k ∧ 73 ≤ kf ∧ 73 ≤ ks ∧ 73 ≤ kt ∧ 73 ≤ kc := by unfold RocketAt at hk; omega
  unfold DrC at h ⊢
  rw [g.2.1, g.2.2.2 k (by omega) (by omega), g.2.2.2 kf (by omega) (by omega), g.2.2.2 ks (by omega) (by omega), g.2.2.2 kt (by omega) (by omega), g.2.2.2 kc (by omega) (by omega), g.2.2.2 4 (by omega) (by omega)]; exact h
set_option maxHeartbeats 4000000 in
set_option maxRecDepth 100000 in
theorem ct_Reader_takeNewName {lau : Launch} {D : va_G} {cy : Nat → ClassId} {aa ad : Nat → Nat} (hI : wI (wC D cy aa ad)) (m : Mem) (b : Int → Int) (n p : Int) (nm : Int → List Int) (s : Int) (hb : BtOk b) (hn : 0 ≤ n ∧ n ≤ 700) (hT : TkC m b n p) (hp : 0 ≤ p ∧ p ≤ n) (hrd : RdOk m) (hs : 0 ≤ s ∧ s ≤ 2) (hnm : ∀ j : Int, 0 ≤ j → j < s → m 4 j = enZ 27 96 (nm j)) (hno : ∀ j : Int, 0 ≤ j → j < s → wdOk (nm j)) : MT lau (wC D cy aa ad) yX5_takeNewName cX5_takeNewName 2 (some .boolean) ({ frames := 2, cells := 0, slots := 0, locals := 43 } : Room) m [.ref (aa 3), .int (iz (s))] (Pi (fun z m' => (1 = z ∧ (IsR (tNew b n nm s p)) ∧ RsM (tNew b n nm s p) m m' (fun x => TkC m' b n x ∧ m' 4 s = enZ 27 96 (wlZ b n p)) ∧ m' 1 1 = m 1 1 ∧ m' 3 8 = m 3 8 ∧ (∀ j : Int, 2 ≤ j → j ≤ 7 → m' 3 j = m 3 j) ∧ (∀ j : Int, j ≠ s → m' 4 j = m 4 j) ∧ ∀ q, q ≠ 1 → q ≠ 3 → q ≠ 4 → m' q = m q) ∨ (0 = z ∧ ¬ (IsR (tNew b n nm s p)) ∧ RsM (tNew b n nm s p) m m' (fun x => TkC m' b n x ∧ m' 4 s = enZ 27 96 (wlZ b n p)) ∧ m' 1 1 = m 1 1 ∧ m' 3 8 = m 3 8 ∧ (∀ j : Int, 2 ≤ j → j ≤ 7 → m' 3 j = m 3 j) ∧ (∀ j : Int, j ≠ s → m' 4 j = m 4 j) ∧ ∀ q, q ≠ 1 → q ≠ 3 → q ≠ 4 → m' q = m q))) := by
  refine v_entry hI RX5 (by decide) rfl (Nat.le_of_ble_eq_true rfl) (fun E hE C X => ?_)
  subst hE
  show V E (wC D cy aa ad) 2 m 0 [(0, .ref (aa 3)), (1, .int (iz (s)))] []
  obtain ⟨t2, t5, tk, ts, tx, tw, tn⟩ := id hT
  have tr := tk_rngP (b := b) hp.2
  refine v_aload_n C 0 dX5_takeNewName_0 rfl ?_
  refine v_callV (st := []) (n := 0) (q := 3) C [] (ct_Reader_isName C.2.2.2.2.2.2.1 m (b) (n) (p) (by exact hb) (by first | assumption | omega) (by exact hT) (by first | assumption | omega) (by exact hrd)) lC3 (eC3 _) rfl qw569 qw3 qw566 rfl rfl ⟨Nat.le_of_ble_eq_true rfl, Nat.le_of_ble_eq_true rfl⟩ (by decide +kernel) qw568 qp10 rfl rfl (Nat.le_of_ble_eq_true rfl) dX5_takeNewName_1 (fun r m1 hq1 => ?_)
  obtain ⟨z1, rfl, ⟨rfl, hq1, rfl⟩ | ⟨rfl, hq1, rfl⟩⟩ := hq1
  · show V E (wC D cy aa ad) 2 m 4 [(0, .ref (aa 3)), (1, .int (iz (s)))] [.int (iz (1))]
    have hwl := wl_ok hp.2 hq1.1
    have e4 := tw hq1.1
    refine v_if_ne (tgt := 13) C dX5_takeNewName_4 (by decide) (by omega) (fun c2 => ?_) (fun c2 => by exact absurd c2 (by decide))
    refine v_aload_n C 0 dX5_takeNewName_13 rfl ?_
    refine v_aload_n C 0 dX5_takeNewName_14 rfl ?_
    refine v_get C 3 0 lC3 (eC3 _) rfl inX5 (by decide) rfl qw130 dX5_takeNewName_15 ?_
    refine v_get C 1 4 lC1 (eC1 _) rfl inX8 (by decide) rfl qw44 dX5_takeNewName_18 ?_
    refine v_iload_n C 1 dX5_takeNewName_21 rfl ?_
    refine v_callV (st := []) (n := 2) (q := 3) C [.long (lz (m 1 4)), .int (iz (s))] (ct_Reader_nameAt C.2.2.2.2.2.2.1 m (nm) (wlZ b n p) (m 1 4) (s) (by exact e4) (by exact hwl) (by first | assumption | omega) (by exact hnm) (by exact hno)) lC3 (eC3 _) rfl qw573 qw3 qw570 rfl rfl ⟨Nat.le_of_ble_eq_true rfl, Nat.le_of_ble_eq_true rfl⟩ (by decide +kernel) qw572 qp11 rfl rfl (Nat.le_of_ble_eq_true rfl) dX5_takeNewName_22 (fun r m3 hq3 => ?_)
    obtain ⟨z3, rfl, rfl, rfl⟩ := hq3
    show V E (wC D cy aa ad) 2 m 25 [(0, .ref (aa 3)), (1, .int (iz (s)))] [.int (iz (naZ nm (wlZ b n p) s))]
    have hnr := naZ_rng (nm := nm) (w := wlZ b n p) hs.1
    refine v_if_lt (tgt := 34) C dX5_takeNewName_25 (by decide) (by omega) (fun c4 => ?_) (fun c4 => ?_)
    · have hE : tNew b n nm s p = .inr (nxZ b n p) := (if_pos hq1).trans (if_neg (fun y => by omega))
      refine v_iload_n C 1 dX5_takeNewName_34 rfl ?_
      refine v_if_lt (tgt := 60) C dX5_takeNewName_35 (by decide) (by omega) (fun c5 => ?_) (fun c5 => ?_)
      · exfalso; omega
      · refine v_iload_n C 1 dX5_takeNewName_38 rfl ?_
        refine v_aload_n C 0 dX5_takeNewName_39 rfl ?_
        refine v_get C 3 1 lC3 (eC3 _) rfl inX5 (by decide) rfl qw131 dX5_takeNewName_40 ?_
        refine v_alen C 4 1 lC4 (eC4 _) rfl dX5_takeNewName_43 ?_
        refine v_st (st1 := [.int (iz (3)), .int (iz (s))]) rfl ?_
        refine v_icmp_ge (tgt := 60) C dX5_takeNewName_44 (by decide) (by omega) (by omega) (fun c6 => ?_) (fun c6 => ?_)
        · exfalso; omega
        · refine v_aload_n C 0 dX5_takeNewName_47 rfl ?_
          refine v_get C 3 1 lC3 (eC3 _) rfl inX5 (by decide) rfl qw131 dX5_takeNewName_48 ?_
          refine v_iload_n C 1 dX5_takeNewName_51 rfl ?_
          refine v_aload_n C 0 dX5_takeNewName_52 rfl ?_
          refine v_get C 3 0 lC3 (eC3 _) rfl inX5 (by decide) rfl qw130 dX5_takeNewName_53 ?_
          refine v_get C 1 4 lC1 (eC1 _) rfl inX8 (by decide) rfl qw44 dX5_takeNewName_56 ?_
          refine v_last C 4 lC4 eC4 (by decide) (by omega) dX5_takeNewName_59 (fun m7 em7 => ?_)
          refine v_aload_n C 0 dX5_takeNewName_60 rfl ?_
          refine v_get C 3 0 lC3 (eC3 _) rfl inX5 (by decide) rfl qw130 dX5_takeNewName_61 ?_
          refine v_callV (st := []) (n := 0) (q := 1) C [] (ct_Tape_step C.2.2.2.2.2.2.1 m7 (b) (n) (nxZ b n p) (by exact hb) (by exact hn) (by rw [em7, mup_k _ _ _ (by decide)]; exact t2) (by rw [em7, mup_k _ _ _ (by decide)]; exact t5) (by rw [em7, mup_k _ _ _ (by decide)]; exact tx) (by omega)) lC1 (eC1 _) rfl qw518 qw2 qw540 rfl rfl ⟨Nat.le_of_ble_eq_true rfl, Nat.le_of_ble_eq_true rfl⟩ (by decide +kernel) qw516 qw517 rfl rfl (Nat.le_of_ble_eq_true rfl) dX5_takeNewName_64 (fun r m8 hq8 => ?_)
          obtain ⟨rfl, hq8⟩ := hq8
          show V E (wC D cy aa ad) 2 m8 67 [(0, .ref (aa 3)), (1, .int (iz (s)))] []
          refine v_iconst (z := 1) C dX5_takeNewName_67 rfl ?_
          refine v_iret C X (by decide) dX5_takeNewName_68 ⟨_, rfl, Or.inl ⟨rfl, ?_, ?_⟩⟩
          · exact ⟨_, hE⟩
          · have z : ∀ q, q ≠ 1 → q ≠ 4 → m8 q = m q := fun q h1 h4 => by rw [hq8.2.2 q h1, em7, mup_k _ _ _ h4]
            exact ⟨RsM.or hE ⟨⟨hq8.1, by rw [hq8.2.2 4 (by decide), em7, mup_s, e4]⟩, by rw [z 3 (by decide) (by decide)]⟩, by rw [hq8.2.1, em7, mup_k _ _ _ (by decide)], by rw [z 3 (by decide) (by decide)], fun j _ _ => by rw [z 3 (by decide) (by decide)], fun j h => by rw [hq8.2.2 4 (by decide), em7, mup_j _ _ h], fun q h1 _ h4 => z q h1 h4⟩
    · have hE : tNew b n nm s p = .inl (3, skZ b n p) := (if_pos hq1).trans (if_pos (fun y => by omega))
      refine v_aload_n C 0 dX5_takeNewName_28 rfl ?_
      refine v_iconst (z := 3) C dX5_takeNewName_29 rfl ?_
      refine v_callV (st := []) (n := 1) (q := 3) C [.int (iz (3))] (ct_Reader_stop C.2.2.2.2.2.2.1 m (3) ) lC3 (eC3 _) rfl qw535 qw3 qw532 rfl rfl ⟨Nat.le_of_ble_eq_true rfl, Nat.le_of_ble_eq_true rfl⟩ (by decide +kernel) qw534 qp3 rfl rfl (Nat.le_of_ble_eq_true rfl) dX5_takeNewName_30 (fun r m9 hq9 => ?_)
      obtain ⟨z9, rfl, rfl, hq9⟩ := hq9
      show V E (wC D cy aa ad) 2 m9 33 [(0, .ref (aa 3)), (1, .int (iz (s)))] [.int (iz (0))]
      refine v_iret C X (by decide) dX5_takeNewName_33 ⟨_, rfl, Or.inr ⟨rfl, ?_, ?_⟩⟩
      · exact IsR.no hE
      · exact ⟨RsM.ol hE ⟨hq9.2.1, hq9.2.2.1.trans ts⟩, hq9.1.1, hq9.1.2.1, hq9.1.2.2.1, fun j _ => by rw [hq9.1.2.2.2 4 (by decide) (by decide)], fun q a b _ => hq9.1.2.2.2 q a b⟩
  · show V E (wC D cy aa ad) 2 m 4 [(0, .ref (aa 3)), (1, .int (iz (s)))] [.int (iz (0))]
    have hE : tNew b n nm s p = .inl (1, skZ b n p) := if_neg hq1
    refine v_if_ne (tgt := 13) C dX5_takeNewName_4 (by decide) (by omega) (fun c10 => by exact absurd c10 (by decide)) (fun c10 => ?_)
    refine v_aload_n C 0 dX5_takeNewName_7 rfl ?_
    refine v_iconst (z := 1) C dX5_takeNewName_8 rfl ?_
    refine v_callV (st := []) (n := 1) (q := 3) C [.int (iz (1))] (ct_Reader_stop C.2.2.2.2.2.2.1 m (1) ) lC3 (eC3 _) rfl qw535 qw3 qw532 rfl rfl ⟨Nat.le_of_ble_eq_true rfl, Nat.le_of_ble_eq_true rfl⟩ (by decide +kernel) qw534 qp3 rfl rfl (Nat.le_of_ble_eq_true rfl) dX5_takeNewName_9 (fun r m11 hq11 => ?_)
    obtain ⟨z11, rfl, rfl, hq11⟩ := hq11
    show V E (wC D cy aa ad) 2 m11 12 [(0, .ref (aa 3)), (1, .int (iz (s)))] [.int (iz (0))]
    refine v_iret C X (by decide) dX5_takeNewName_12 ⟨_, rfl, Or.inr ⟨rfl, ?_, ?_⟩⟩
    · exact IsR.no hE
    · exact ⟨RsM.ol hE ⟨hq11.2.1, hq11.2.2.1.trans ts⟩, hq11.1.1, hq11.1.2.1, hq11.1.2.2.1, fun j _ => by rw [hq11.1.2.2.2 4 (by decide) (by decide)], fun q a b _ => hq11.1.2.2.2 q a b⟩

set_option maxHeartbeats 4000000 in
set_option maxRecDepth 100000 in
theorem ct_Reader_takeKind {lau : Launch} {D : va_G} {cy : Nat → ClassId} {aa ad : Nat → Nat} (hI : wI (wC D cy aa ad)) (m : Mem) (b : Int → Int) (n p : Int) (k kf ks kt kc : Nat) (s : Int) (hb : BtOk b) (hn : 0 ≤ n ∧ n ≤ 700) (hT : TkC m b n p) (hp : 0 ≤ p ∧ p ≤ n) (hrd : RdOk m) (hk : RocketAt k kf ks kt kc) (hs : 0 ≤ s ∧ s ≤ 2) : MT lau (wC D cy aa ad) yX5_takeKind cX5_takeKind 4 (some .boolean) ({ frames := 2, cells := 0, slots := 0, locals := 45 } : Room) m [.ref (aa 3), .ref (aa k), .int (iz (s))] (Pi (fun z m' => (1 = z ∧ (IsR (tKind b n p)) ∧ RsM (tKind b n p) m m' (fun x => TkC m' b n x.2 ∧ m' kf (s * 9 + 0) = x.1) ∧ m' 1 1 = m 1 1 ∧ m' 3 8 = m 3 8 ∧ (∀ j : Int, 2 ≤ j → j ≤ 7 → m' 3 j = m 3 j) ∧ (∀ j : Int, j ≠ s * 9 + 0 → m' kf j = m kf j) ∧ ∀ q, q ≠ 1 → q ≠ 3 → q ≠ kf → m' q = m q) ∨ (0 = z ∧ ¬ (IsR (tKind b n p)) ∧ RsM (tKind b n p) m m' (fun x => TkC m' b n x.2 ∧ m' kf (s * 9 + 0) = x.1) ∧ m' 1 1 = m 1 1 ∧ m' 3 8 = m 3 8 ∧ (∀ j : Int, 2 ≤ j → j ≤ 7 → m' 3 j = m 3 j) ∧ (∀ j : Int, j ≠ s * 9 + 0 → m' kf j = m kf j) ∧ ∀ q, q ≠ 1 → q ≠ 3 → q ≠ kf → m' q = m q))) := by
  refine v_entry hI RX5 (by decide) rfl (Nat.le_of_ble_eq_true rfl) (fun E hE C X => ?_)
  subst hE
  show V E (wC D cy aa ad) 4 m 0 [(0, .ref (aa 3)), (1, .ref (aa k)), (2, .int (iz (s)))] []
  obtain ⟨t2, t5, tk, ts, tx, tw, tn⟩ := id hT
  have tr := tk_rngP (b := b) hp.2
  have hkk : 73 ≤ k ∧ 73 ≤ kf ∧ 73 ≤ ks ∧ 73 ≤ kt ∧ 73 ≤ kc := by unfold RocketAt at hk; omega
  refine v_aload_n C 0 dX5_takeKind_0 rfl ?_
  refine v_get C 3 0 lC3 (eC3 _) rfl inX5 (by decide) rfl qw130 dX5_takeKind_1 ?_
  have K26 : ∀ (g : Int) (hg : (g = 0 ∧ ¬ (kdZ b n p = 1 ∧ grZ (wlZ b n p) ≠ 0)) ∨ ((2 ≤ g ∧ g ≤ 4) ∧ kdZ b n p = 1 ∧ g = grZ (wlZ b n p))), V E (wC D cy aa ad) 4 m 26 [(0, .ref (aa 3)), (1, .ref (aa k)), (2, .int (iz (s)))] [.int (iz (g))] := by
    intro g  hg
    refine v_istore_n (L1 := [(3, .int (iz (g))), (0, .ref (aa 3)), (1, .ref (aa k)), (2, .int (iz (s)))]) C dX5_takeKind_26 (by decide) rfl ?_
    refine v_iload_n C 0 dX5_takeKind_27 rfl ?_
    refine v_if_ne (tgt := 37) C dX5_takeKind_28 (by decide) (by omega) (fun c1 => ?_) (fun c1 => ?_)
    · have hg2 := hg.resolve_left (fun y => by omega)
      have hE : tKind b n p = .inr (g, nxZ b n p) := (if_pos ⟨hg2.2.1, fun y => by omega⟩).trans (by rw [hg2.2.2])
      refine v_aload_n C 2 dX5_takeKind_37 rfl ?_
      refine v_iload_n C 3 dX5_takeKind_38 rfl ?_
      refine v_iconst (z := 0) C dX5_takeKind_39 rfl ?_
      refine v_iload_n C 0 dX5_takeKind_40 rfl ?_
      refine v_callV (st := []) (n := 3) (q := k) C [.int (iz (s)), .int (iz (0)), .int (iz (g))] (ct_Rocket_setFact C.2.2.2.2.2.2.1 m (k) (kf) (ks) (kt) (kc) (s) (0) (g) hk (by omega) (by omega)) (RocketAt.l0 hk) (RocketAt.e0 hk _) rfl qw585 qw15 qw582 rfl rfl ⟨Nat.le_of_ble_eq_true rfl, Nat.le_of_ble_eq_true rfl⟩ (by decide +kernel) qw583 qw584 rfl rfl (Nat.le_of_ble_eq_true rfl) dX5_takeKind_41 (fun r m2 hq2 => ?_)
      obtain ⟨rfl, hq2⟩ := hq2
      show V E (wC D cy aa ad) 4 m2 44 [(3, .int (iz (g))), (0, .ref (aa 3)), (1, .ref (aa k)), (2, .int (iz (s)))] []
      refine v_aload_n C 1 dX5_takeKind_44 rfl ?_
      refine v_get C 3 0 lC3 (eC3 _) rfl inX5 (by decide) rfl qw130 dX5_takeKind_45 ?_
      refine v_callV (st := []) (n := 0) (q := 1) C [] (ct_Tape_step C.2.2.2.2.2.2.1 m2 (b) (n) (nxZ b n p) (by exact hb) (by exact hn) (by rw [← hq2, mup_k _ _ _ (by omega)]; exact t2) (by rw [← hq2, mup_k _ _ _ (by omega)]; exact t5) (by rw [← hq2, mup_k _ _ _ (by omega)]; exact tx) (by omega)) lC1 (eC1 _) rfl qw518 qw2 qw540 rfl rfl ⟨Nat.le_of_ble_eq_true rfl, Nat.le_of_ble_eq_true rfl⟩ (by decide +kernel) qw516 qw517 rfl rfl (Nat.le_of_ble_eq_true rfl) dX5_takeKind_48 (fun r m3 hq3 => ?_)
      obtain ⟨rfl, hq3⟩ := hq3
      show V E (wC D cy aa ad) 4 m3 51 [(3, .int (iz (g))), (0, .ref (aa 3)), (1, .ref (aa k)), (2, .int (iz (s)))] []
      refine v_iconst (z := 1) C dX5_takeKind_51 rfl ?_
      refine v_iret C X (by decide) dX5_takeKind_52 ⟨_, rfl, Or.inl ⟨rfl, ?_, ?_⟩⟩
      · exact ⟨_, hE⟩
      · have z : ∀ q, q ≠ 1 → q ≠ kf → m3 q = m q := fun q h1 h4 => by rw [hq3.2.2 q h1, ← hq2, mup_k _ _ _ h4]
        exact ⟨RsM.or hE ⟨⟨hq3.1, by rw [hq3.2.2 kf (by omega), ← hq2, mup_s]⟩, by rw [z 3 (by decide) (by omega)]⟩, by rw [hq3.2.1, ← hq2, mup_k _ _ _ (by omega)], by rw [z 3 (by decide) (by omega)], fun j _ _ => by rw [z 3 (by decide) (by omega)], fun j h => by rw [hq3.2.2 kf (by omega), ← hq2, mup_j _ _ h], fun q h1 _ h4 => z q h1 h4⟩
    · have hE : tKind b n p = .inl (1, skZ b n p) := if_neg (hg.resolve_right (fun y => by omega)).2
      refine v_aload_n C 1 dX5_takeKind_31 rfl ?_
      refine v_iconst (z := 1) C dX5_takeKind_32 rfl ?_
      refine v_callV (st := []) (n := 1) (q := 3) C [.int (iz (1))] (ct_Reader_stop C.2.2.2.2.2.2.1 m (1) ) lC3 (eC3 _) rfl qw535 qw3 qw532 rfl rfl ⟨Nat.le_of_ble_eq_true rfl, Nat.le_of_ble_eq_true rfl⟩ (by decide +kernel) qw534 qp3 rfl rfl (Nat.le_of_ble_eq_true rfl) dX5_takeKind_33 (fun r m4 hq4 => ?_)
      obtain ⟨z4, rfl, rfl, hq4⟩ := hq4
      show V E (wC D cy aa ad) 4 m4 36 [(3, .int (iz (g))), (0, .ref (aa 3)), (1, .ref (aa k)), (2, .int (iz (s)))] [.int (iz (0))]
      refine v_iret C X (by decide) dX5_takeKind_36 ⟨_, rfl, Or.inr ⟨rfl, ?_, ?_⟩⟩
      · exact IsR.no hE
      · exact ⟨RsM.ol hE ⟨hq4.2.1, hq4.2.2.1.trans ts⟩, hq4.1.1, hq4.1.2.1, hq4.1.2.2.1, fun j _ => by rw [hq4.1.2.2.2 kf (by omega) (by omega)], fun q a b _ => hq4.1.2.2.2 q a b⟩
  refine v_get C 1 2 lC1 (eC1 _) rfl inX8 (by decide) rfl qw40 dX5_takeKind_4 ?_
  refine v_iconst (z := 1) C dX5_takeKind_7 rfl ?_
  refine v_icmp_ne (tgt := 25) C dX5_takeKind_8 (by decide) (by omega) (by omega) (fun c5 => ?_) (fun c5 => ?_)
  · have cc8 := c5
    refine v_iconst (z := 0) C dX5_takeKind_25 rfl ?_
    refine v_sub [0, 1, 2] rfl ?_
    exact K26  (0)  (by 
            first
              | exact Or.inl ⟨rfl, fun y => cc8 (tk.trans y.1)⟩
              | (have k1 : kdZ b n p = 1 := tk.symm.trans cc8
                 rcases grZ_0 (l := wlZ b n p) with y | y
                 · exact Or.inl ⟨y, fun u => u.2 y⟩
                 · exact Or.inr ⟨y, k1, rfl⟩)
          )
  · have cc8 := c5
    refine v_aload_n C 0 dX5_takeKind_11 rfl ?_
    refine v_aload_n C 0 dX5_takeKind_12 rfl ?_
    refine v_get C 3 0 lC3 (eC3 _) rfl inX5 (by decide) rfl qw130 dX5_takeKind_13 ?_
    refine v_get C 1 4 lC1 (eC1 _) rfl inX8 (by decide) rfl qw44 dX5_takeKind_16 ?_
    refine v_callV (st := []) (n := 1) (q := 3) C [.long (lz (m 1 4))] (ct_Reader_gradeOf C.2.2.2.2.2.2.1 m (wlZ b n p) (m 1 4) (by exact tw (tk.symm.trans cc8)) (by exact wl_ok hp.2 (tk.symm.trans cc8)) (by exact hrd)) lC3 (eC3 _) rfl qw581 qw3 qw578 rfl rfl ⟨Nat.le_of_ble_eq_true rfl, Nat.le_of_ble_eq_true rfl⟩ (by decide +kernel) qw580 qp13 rfl rfl (Nat.le_of_ble_eq_true rfl) dX5_takeKind_19 (fun r m6 hq6 => ?_)
    obtain ⟨z6, rfl, rfl, rfl⟩ := hq6
    show V E (wC D cy aa ad) 4 m 22 [(0, .ref (aa 3)), (1, .ref (aa k)), (2, .int (iz (s)))] [.int (iz (grZ (wlZ b n p)))]
    refine v_goto (tgt := 26) C dX5_takeKind_22 (by decide) ?_
    refine v_sub [0, 1, 2] rfl ?_
    exact K26  (grZ (wlZ b n p))  (by 
            first
              | exact Or.inl ⟨rfl, fun y => cc8 (tk.trans y.1)⟩
              | (have k1 : kdZ b n p = 1 := tk.symm.trans cc8
                 rcases grZ_0 (l := wlZ b n p) with y | y
                 · exact Or.inl ⟨y, fun u => u.2 y⟩
                 · exact Or.inr ⟨y, k1, rfl⟩)
          )

set_option maxHeartbeats 4000000 in
set_option maxRecDepth 100000 in
theorem ct_Reader_readRocket {lau : Launch} {D : va_G} {cy : Nat → ClassId} {aa ad : Nat → Nat} (hI : wI (wC D cy aa ad)) (m : Mem) (b : Int → Int) (n p : Int) (k kf ks kt kc : Nat) (σ : Sg) (hb : BtOk b) (hn : 0 ≤ n ∧ n ≤ 700) (hT : TkC m b n p) (hp : 0 ≤ p ∧ p ≤ n) (hrd : RdOk m) (hk : RocketAt k kf ks kt kc) (hσ : SgOk σ) (hD : DrC m k kf ks kt kc σ) (h7 : ¬ σ.h 7 = 1) : MT lau (wC D cy aa ad) yX5_readRocket cX5_readRocket 2 (some .boolean) ({ frames := 6, cells := 0, slots := 0, locals := 129 } : Room) m [.ref (aa 3), .ref (aa k)] (Pi (fun z m' => (1 = z ∧ (IsR (oRocket b n σ p)) ∧ RsM (oRocket b n σ p) m m' (fun x => TkC m' b n x.2 ∧ DrC m' k kf ks kt kc x.1) ∧ FRd m m' k kf ks kt kc) ∨ (0 = z ∧ ¬ (IsR (oRocket b n σ p)) ∧ RsM (oRocket b n σ p) m m' (fun x => TkC m' b n x.2 ∧ DrC m' k kf ks kt kc x.1) ∧ FRd m m' k kf ks kt kc))) := by
  refine v_entry hI RX5 (by decide) rfl (Nat.le_of_ble_eq_true rfl) (fun E hE C X => ?_)
  subst hE
  show V E (wC D cy aa ad) 2 m 0 [(0, .ref (aa 3)), (1, .ref (aa k))] []
  obtain ⟨t2, t5, tk, ts, tx, tw, tn⟩ := id hT
  have tr := tk_rngP (b := b) hp.2
  have hkk : 73 ≤ k ∧ kf = k + 1 ∧ ks = k + 2 ∧ kt = k + 3 ∧ kc = k + 4 := by unfold RocketAt at hk; omega
  refine v_aload_n C 0 dX5_readRocket_0 rfl ?_
  refine v_iconst (z := 1) C dX5_readRocket_1 rfl ?_
  refine v_put C 3 8 (1) 8 rfl lC3 (eC3 _) rfl inX5 tyX5 tyX5_ok nmX5 (by decide) qw138 rfl (by decide) rfl (Nat.le_of_ble_eq_true rfl) (by rw [mup_r]; exact (eC3 _)) dX5_readRocket_2 (fun m1 em1 => ?_)
  refine v_aload_n C 0 dX5_readRocket_5 rfl ?_
  refine v_get C 3 0 lC3 (eC3 _) rfl inX5 (by decide) rfl qw130 dX5_readRocket_6 ?_
  refine v_callV (st := []) (n := 0) (q := 1) C [] (ct_Tape_step C.2.2.2.2.2.2.1 m1 (b) (n) (nxZ b n p) (by exact hb) (by exact hn) (by rw [em1, mup_k _ _ _ (by decide)]; exact t2) (by rw [em1, mup_k _ _ _ (by decide)]; exact t5) (by rw [em1, mup_k _ _ _ (by decide)]; exact tx) (by omega)) lC1 (eC1 _) rfl qw518 qw2 qw540 rfl rfl ⟨Nat.le_of_ble_eq_true rfl, Nat.le_of_ble_eq_true rfl⟩ (by decide +kernel) qw516 qw517 rfl rfl (Nat.le_of_ble_eq_true rfl) dX5_readRocket_9 (fun r m2 hq2 => ?_)
  obtain ⟨rfl, hq2⟩ := hq2
  show V E (wC D cy aa ad) 2 m2 12 [(0, .ref (aa 3)), (1, .ref (aa k))] []
  have hT_ := hq2.1
  have hp_ : 0 ≤ nxZ b n p ∧ nxZ b n p ≤ n := by omega
  obtain ⟨p0, hp0⟩ : ∃ p0, p0 = nxZ b n p := ⟨_, rfl⟩
  rw [← hp0] at hT_ hp_
  have f9 : FRd m m2 k kf ks kt kc := ⟨by rw [hq2.2.1, em1, mup_k _ _ _ (by decide)], fun j a b => by rw [hq2.2.2 3 (by decide), em1, mup_j _ _ (by omega)], fun q h1 h3 _ _ _ _ _ _ => by rw [hq2.2.2 q h1, em1, mup_k _ _ _ h3]⟩
  have g9 : ∀ q, 4 ≤ q → m2 q = m q := fun q h => by rw [hq2.2.2 q (by omega), em1, mup_k _ _ _ (by omega)]
  have b9 : m2 3 8 = 1 := by rw [hq2.2.2 3 (by decide), em1, mup_s]
  have n9 : m2 3 10 = m 3 10 := by rw [hq2.2.2 3 (by decide), em1, mup_j _ _ (by decide)]
  refine v_aload_n C 0 dX5_readRocket_12 rfl ?_
  refine v_ldcs C 6 rfl dX5_readRocket_13 ?_
  refine v_callV (st := []) (n := 1) (q := 3) C [.ref (ad (2 * 6))] (ct_Reader_takeWord C.2.2.2.2.2.2.1 m2 (b) (n) (p0) (6) ("StageRatios$Reader") (116) ("payload") (w_payload) (by exact hb) (by exact hn) (by exact hT_) (by exact hp_) rfl) lC3 (eC3 _) rfl qw545 qw3 qw542 rfl rfl ⟨Nat.le_of_ble_eq_true rfl, Nat.le_of_ble_eq_true rfl⟩ (by decide +kernel) qw544 qp5 rfl rfl (Nat.le_of_ble_eq_true rfl) dX5_readRocket_15 (fun r m3 hq3 => ?_)
  obtain ⟨z3, rfl, ⟨rfl, hq3, hm3⟩ | ⟨rfl, hq3, hm3⟩⟩ := hq3
  · show V E (wC D cy aa ad) 2 m3 18 [(0, .ref (aa 3)), (1, .ref (aa k))] [.int (iz (1))]
    obtain ⟨u0, W0⟩ := hq3
    have TW0 := hm3.1.r W0
    have pw0 := tWord_i W0 hp_.2
    have fW0 := f9.tr (hm3.2.rd k kf ks kt kc)
    refine v_if_eq (tgt := 31) C dX5_readRocket_18 (by decide) (by omega) (fun c4 => by exact absurd c4 (by decide)) (fun c4 => ?_)
    refine v_aload_n C 0 dX5_readRocket_21 rfl ?_
    refine v_iconst (z := 1) C dX5_readRocket_22 rfl ?_
    refine v_bipush (z := 40) C dX5_readRocket_23 (by decide) ?_
    refine v_callV (st := []) (n := 2) (q := 3) C [.int (iz (1)), .int (iz (40))] (ct_Reader_takeWhole C.2.2.2.2.2.2.1 m3 (b) (n) (u0) (1) (40) (by exact hb) (by exact hn) (by exact TW0.1) (by omega) (by first | assumption | omega) (by first | assumption | omega)) lC3 (eC3 _) rfl qw549 qw3 qw546 rfl rfl ⟨Nat.le_of_ble_eq_true rfl, Nat.le_of_ble_eq_true rfl⟩ (by decide +kernel) qw548 qp6 rfl rfl (Nat.le_of_ble_eq_true rfl) dX5_readRocket_25 (fun r m5 hq5 => ?_)
    obtain ⟨z5, rfl, ⟨rfl, hq5, hm5⟩ | ⟨rfl, hq5, hm5⟩⟩ := hq5
    · show V E (wC D cy aa ad) 2 m5 28 [(0, .ref (aa 3)), (1, .ref (aa k))] [.int (iz (1))]
      obtain ⟨x0, V0⟩ := hq5
      have TN0 := hm5.1.r V0
      have P0 : tPart b n w_payload (1) (40) (nxZ b n p) = .inr x0 := (bnd_r (by rw [← hp0]; exact W0) _).trans V0
      have p0_ : 0 ≤ x0.2 ∧ x0.2 ≤ n := by have := tWhole_i V0 pw0.2.1; omega
      have b0_ := (tWhole_i V0 pw0.2.1).1
      refine v_if_ne (tgt := 33) C dX5_readRocket_28 (by decide) (by omega) (fun c6 => ?_) (fun c6 => by exact absurd c6 (by decide))
      refine v_aload_n C 1 dX5_readRocket_33 rfl ?_
      refine v_aload_n C 0 dX5_readRocket_34 rfl ?_
      refine v_get C 3 9 lC3 (eC3 _) rfl inX5 (by decide) rfl qw139 dX5_readRocket_35 ?_
      refine v_put C k 0 (m5 3 9) 0 rfl (RocketAt.l0 hk) (RocketAt.e0 hk _) rfl inX6 tyX6 tyX6_ok nmX6 (by decide) qw366 rfl rfl rfl (Nat.le_of_ble_eq_true rfl) (by rw [mup_r]; exact (RocketAt.e0 hk _)) dX5_readRocket_38 (fun m7 em7 => ?_)
      have f38 : FRd m m7 k kf ks kt kc := (fW0.tr (hm5.2.rd k kf ks kt kc)).tr ⟨by rw [em7, mup_k _ _ _ (by omega)], fun j _ _ => by rw [em7, mup_k _ _ _ (by omega)], fun q _ _ _ h _ _ _ _ => by rw [em7, mup_k _ _ _ h]⟩
      have T38 : TkC m7 b n x0.2 := TN0.1.1.fr (by rw [em7, mup_k _ _ _ (by omega)]) (by rw [em7, mup_k _ _ _ (by omega)])
      have g38 : ∀ q, 4 ≤ q → q ≠ k → m7 q = m q := fun q h h2 => by rw [em7, mup_k _ _ _ h2, hm5.2.2.2.2 q (by omega) (by omega), hm3.2.2.2.2 q (by omega) (by omega), g9 q h]
      have v38 : m7 k 0 = x0.1 := by rw [em7, mup_s]; exact TN0.1.2
      have w38 : ∀ j : Int, j ≠ 0 → m7 k j = m2 k j := fun j h => by rw [em7, mup_j _ _ h, hm5.2.2.2.2 k (by omega) (by omega), hm3.2.2.2.2 k (by omega) (by omega)]
      have b38 : m7 3 8 = 1 := by rw [em7, mup_k _ _ _ (by omega), hm5.2.2.1, hm3.2.2.1]; exact b9
      have n38 : m7 3 10 = m 3 10 := by rw [em7, mup_k _ _ _ (by omega), TN0.2, TW0.2]; exact n9
      refine v_aload_n C 0 dX5_readRocket_41 rfl ?_
      refine v_ldcs C 7 rfl dX5_readRocket_42 ?_
      refine v_callV (st := []) (n := 1) (q := 3) C [.ref (ad (2 * 7))] (ct_Reader_takeWord C.2.2.2.2.2.2.1 m7 (b) (n) (x0.2) (7) ("StageRatios$Reader") (128) ("mark") (w_mark) (by exact hb) (by exact hn) (by exact T38) (by exact p0_) rfl) lC3 (eC3 _) rfl qw545 qw3 qw542 rfl rfl ⟨Nat.le_of_ble_eq_true rfl, Nat.le_of_ble_eq_true rfl⟩ (by decide +kernel) qw544 qp5 rfl rfl (Nat.le_of_ble_eq_true rfl) dX5_readRocket_44 (fun r m8 hq8 => ?_)
      obtain ⟨z8, rfl, ⟨rfl, hq8, hm8⟩ | ⟨rfl, hq8, hm8⟩⟩ := hq8
      · show V E (wC D cy aa ad) 2 m8 47 [(0, .ref (aa 3)), (1, .ref (aa k))] [.int (iz (1))]
        obtain ⟨u1, W1⟩ := hq8
        have TW1 := hm8.1.r W1
        have pw1 := tWord_i W1 p0_.2
        have fW1 := f38.tr (hm8.2.rd k kf ks kt kc)
        refine v_if_eq (tgt := 60) C dX5_readRocket_47 (by decide) (by omega) (fun c9 => by exact absurd c9 (by decide)) (fun c9 => ?_)
        refine v_aload_n C 0 dX5_readRocket_50 rfl ?_
        refine v_iconst (z := 2) C dX5_readRocket_51 rfl ?_
        refine v_bipush (z := 99) C dX5_readRocket_52 (by decide) ?_
        refine v_callV (st := []) (n := 2) (q := 3) C [.int (iz (2)), .int (iz (99))] (ct_Reader_takeWhole C.2.2.2.2.2.2.1 m8 (b) (n) (u1) (2) (99) (by exact hb) (by exact hn) (by exact TW1.1) (by omega) (by first | assumption | omega) (by first | assumption | omega)) lC3 (eC3 _) rfl qw549 qw3 qw546 rfl rfl ⟨Nat.le_of_ble_eq_true rfl, Nat.le_of_ble_eq_true rfl⟩ (by decide +kernel) qw548 qp6 rfl rfl (Nat.le_of_ble_eq_true rfl) dX5_readRocket_54 (fun r m10 hq10 => ?_)
        obtain ⟨z10, rfl, ⟨rfl, hq10, hm10⟩ | ⟨rfl, hq10, hm10⟩⟩ := hq10
        · show V E (wC D cy aa ad) 2 m10 57 [(0, .ref (aa 3)), (1, .ref (aa k))] [.int (iz (1))]
          obtain ⟨x1, V1⟩ := hq10
          have TN1 := hm10.1.r V1
          have P1 : tPart b n w_mark (2) (99) (x0.2) = .inr x1 := (bnd_r (W1) _).trans V1
          have p1_ : 0 ≤ x1.2 ∧ x1.2 ≤ n := by have := tWhole_i V1 pw1.2.1; omega
          have b1_ := (tWhole_i V1 pw1.2.1).1
          refine v_if_ne (tgt := 62) C dX5_readRocket_57 (by decide) (by omega) (fun c11 => ?_) (fun c11 => by exact absurd c11 (by decide))
          refine v_aload_n C 1 dX5_readRocket_62 rfl ?_
          refine v_aload_n C 0 dX5_readRocket_63 rfl ?_
          refine v_get C 3 9 lC3 (eC3 _) rfl inX5 (by decide) rfl qw139 dX5_readRocket_64 ?_
          refine v_put C k 2 (m10 3 9) 2 rfl (RocketAt.l0 hk) (RocketAt.e0 hk _) rfl inX6 tyX6 tyX6_ok nmX6 (by decide) qw372 rfl rfl rfl (Nat.le_of_ble_eq_true rfl) (by rw [mup_r]; exact (RocketAt.e0 hk _)) dX5_readRocket_67 (fun m12 em12 => ?_)
          have f67 : FRd m m12 k kf ks kt kc := (fW1.tr (hm10.2.rd k kf ks kt kc)).tr ⟨by rw [em12, mup_k _ _ _ (by omega)], fun j _ _ => by rw [em12, mup_k _ _ _ (by omega)], fun q _ _ _ h _ _ _ _ => by rw [em12, mup_k _ _ _ h]⟩
          have T67 : TkC m12 b n x1.2 := TN1.1.1.fr (by rw [em12, mup_k _ _ _ (by omega)]) (by rw [em12, mup_k _ _ _ (by omega)])
          have g67 : ∀ q, 4 ≤ q → q ≠ k → m12 q = m q := fun q h h2 => by rw [em12, mup_k _ _ _ h2, hm10.2.2.2.2 q (by omega) (by omega), hm8.2.2.2.2 q (by omega) (by omega), g38 q h h2]
          have v67 : m12 k 2 = x1.1 := by rw [em12, mup_s]; exact TN1.1.2
          have w67 : ∀ j : Int, j ≠ 2 → m12 k j = m7 k j := fun j h => by rw [em12, mup_j _ _ h, hm10.2.2.2.2 k (by omega) (by omega), hm8.2.2.2.2 k (by omega) (by omega)]
          have b67 : m12 3 8 = 1 := by rw [em12, mup_k _ _ _ (by omega), hm10.2.2.1, hm8.2.2.1]; exact b38
          have n67 : m12 3 10 = m 3 10 := by rw [em12, mup_k _ _ _ (by omega), TN1.2, TW1.2]; exact n38
          refine v_aload_n C 0 dX5_readRocket_70 rfl ?_
          refine v_ldcs C 8 rfl dX5_readRocket_71 ?_
          refine v_callV (st := []) (n := 1) (q := 3) C [.ref (ad (2 * 8))] (ct_Reader_takeWord C.2.2.2.2.2.2.1 m12 (b) (n) (x1.2) (8) ("StageRatios$Reader") (133) ("by") (w_by) (by exact hb) (by exact hn) (by exact T67) (by exact p1_) rfl) lC3 (eC3 _) rfl qw545 qw3 qw542 rfl rfl ⟨Nat.le_of_ble_eq_true rfl, Nat.le_of_ble_eq_true rfl⟩ (by decide +kernel) qw544 qp5 rfl rfl (Nat.le_of_ble_eq_true rfl) dX5_readRocket_73 (fun r m13 hq13 => ?_)
          obtain ⟨z13, rfl, ⟨rfl, hq13, hm13⟩ | ⟨rfl, hq13, hm13⟩⟩ := hq13
          · show V E (wC D cy aa ad) 2 m13 76 [(0, .ref (aa 3)), (1, .ref (aa k))] [.int (iz (1))]
            obtain ⟨u2, W2⟩ := hq13
            have TW2 := hm13.1.r W2
            have pw2 := tWord_i W2 p1_.2
            have fW2 := f67.tr (hm13.2.rd k kf ks kt kc)
            refine v_if_eq (tgt := 93) C dX5_readRocket_76 (by decide) (by omega) (fun c14 => by exact absurd c14 (by decide)) (fun c14 => ?_)
            refine v_aload_n C 0 dX5_readRocket_79 rfl ?_
            refine v_iconst (z := 1) C dX5_readRocket_80 rfl ?_
            refine v_aload_n C 1 dX5_readRocket_81 rfl ?_
            have k2 : m13 k 2 - 1 = x1.1 - 1 := by rw [hm13.2.2.2.2 k (by omega) (by omega), v67]
            have kr2 : -2147483648 ≤ m13 k 2 - 1 ∧ m13 k 2 - 1 ≤ 2147483647 := by rw [k2]; omega
            refine v_get C k 2 (RocketAt.l0 hk) (RocketAt.e0 hk _) rfl inX6 (by decide) rfl qw372 dX5_readRocket_82 ?_
            refine v_iconst (z := 1) C dX5_readRocket_85 rfl ?_
            refine v_isub C dX5_readRocket_86 ?_
            refine v_callV (st := []) (n := 2) (q := 3) C [.int (iz (1)), .int (iz ((m13 k 2) - 1))] (ct_Reader_takeWhole C.2.2.2.2.2.2.1 m13 (b) (n) (u2) (1) ((m13 k 2) - 1) (by exact hb) (by exact hn) (by exact TW2.1) (by omega) (by first | assumption | omega) (by first | assumption | omega)) lC3 (eC3 _) rfl qw549 qw3 qw546 rfl rfl ⟨Nat.le_of_ble_eq_true rfl, Nat.le_of_ble_eq_true rfl⟩ (by decide +kernel) qw548 qp6 rfl rfl (Nat.le_of_ble_eq_true rfl) dX5_readRocket_87 (fun r m15 hq15 => ?_)
            obtain ⟨z15, rfl, ⟨rfl, hq15, hm15⟩ | ⟨rfl, hq15, hm15⟩⟩ := hq15
            · show V E (wC D cy aa ad) 2 m15 90 [(0, .ref (aa 3)), (1, .ref (aa k))] [.int (iz (1))]
              obtain ⟨x2, V2⟩ := hq15
              have TN2 := hm15.1.r V2
              rw [k2] at V2
              have P2 : tPart b n w_by (1) (x1.1 - 1) (x1.2) = .inr x2 := (bnd_r (W2) _).trans V2
              have p2_ : 0 ≤ x2.2 ∧ x2.2 ≤ n := by have := tWhole_i V2 pw2.2.1; omega
              have b2_ := (tWhole_i V2 pw2.2.1).1
              refine v_if_ne (tgt := 95) C dX5_readRocket_90 (by decide) (by omega) (fun c16 => ?_) (fun c16 => by exact absurd c16 (by decide))
              refine v_aload_n C 1 dX5_readRocket_95 rfl ?_
              refine v_aload_n C 0 dX5_readRocket_96 rfl ?_
              refine v_get C 3 9 lC3 (eC3 _) rfl inX5 (by decide) rfl qw139 dX5_readRocket_97 ?_
              refine v_put C k 3 (m15 3 9) 3 rfl (RocketAt.l0 hk) (RocketAt.e0 hk _) rfl inX6 tyX6 tyX6_ok nmX6 (by decide) qw377 rfl rfl rfl (Nat.le_of_ble_eq_true rfl) (by rw [mup_r]; exact (RocketAt.e0 hk _)) dX5_readRocket_100 (fun m17 em17 => ?_)
              have f100 : FRd m m17 k kf ks kt kc := (fW2.tr (hm15.2.rd k kf ks kt kc)).tr ⟨by rw [em17, mup_k _ _ _ (by omega)], fun j _ _ => by rw [em17, mup_k _ _ _ (by omega)], fun q _ _ _ h _ _ _ _ => by rw [em17, mup_k _ _ _ h]⟩
              have T100 : TkC m17 b n x2.2 := TN2.1.1.fr (by rw [em17, mup_k _ _ _ (by omega)]) (by rw [em17, mup_k _ _ _ (by omega)])
              have g100 : ∀ q, 4 ≤ q → q ≠ k → m17 q = m q := fun q h h2 => by rw [em17, mup_k _ _ _ h2, hm15.2.2.2.2 q (by omega) (by omega), hm13.2.2.2.2 q (by omega) (by omega), g67 q h h2]
              have v100 : m17 k 3 = x2.1 := by rw [em17, mup_s]; exact TN2.1.2
              have w100 : ∀ j : Int, j ≠ 3 → m17 k j = m12 k j := fun j h => by rw [em17, mup_j _ _ h, hm15.2.2.2.2 k (by omega) (by omega), hm13.2.2.2.2 k (by omega) (by omega)]
              have b100 : m17 3 8 = 1 := by rw [em17, mup_k _ _ _ (by omega), hm15.2.2.1, hm13.2.2.1]; exact b67
              have n100 : m17 3 10 = m 3 10 := by rw [em17, mup_k _ _ _ (by omega), TN2.2, TW2.2]; exact n67
              refine v_aload_n C 0 dX5_readRocket_103 rfl ?_
              refine v_ldcs C 9 rfl dX5_readRocket_104 ?_
              refine v_callV (st := []) (n := 1) (q := 3) C [.ref (ad (2 * 9))] (ct_Reader_takeWord C.2.2.2.2.2.2.1 m17 (b) (n) (x2.2) (9) ("StageRatios$Reader") (138) ("power") (w_power) (by exact hb) (by exact hn) (by exact T100) (by exact p2_) rfl) lC3 (eC3 _) rfl qw545 qw3 qw542 rfl rfl ⟨Nat.le_of_ble_eq_true rfl, Nat.le_of_ble_eq_true rfl⟩ (by decide +kernel) qw544 qp5 rfl rfl (Nat.le_of_ble_eq_true rfl) dX5_readRocket_106 (fun r m18 hq18 => ?_)
              obtain ⟨z18, rfl, ⟨rfl, hq18, hm18⟩ | ⟨rfl, hq18, hm18⟩⟩ := hq18
              · show V E (wC D cy aa ad) 2 m18 109 [(0, .ref (aa 3)), (1, .ref (aa k))] [.int (iz (1))]
                obtain ⟨u3, W3⟩ := hq18
                have TW3 := hm18.1.r W3
                have pw3 := tWord_i W3 p2_.2
                have fW3 := f100.tr (hm18.2.rd k kf ks kt kc)
                refine v_if_eq (tgt := 122) C dX5_readRocket_109 (by decide) (by omega) (fun c19 => by exact absurd c19 (by decide)) (fun c19 => ?_)
                refine v_aload_n C 0 dX5_readRocket_112 rfl ?_
                refine v_iconst (z := 1) C dX5_readRocket_113 rfl ?_
                refine v_bipush (z := 12) C dX5_readRocket_114 (by decide) ?_
                refine v_callV (st := []) (n := 2) (q := 3) C [.int (iz (1)), .int (iz (12))] (ct_Reader_takeWhole C.2.2.2.2.2.2.1 m18 (b) (n) (u3) (1) (12) (by exact hb) (by exact hn) (by exact TW3.1) (by omega) (by first | assumption | omega) (by first | assumption | omega)) lC3 (eC3 _) rfl qw549 qw3 qw546 rfl rfl ⟨Nat.le_of_ble_eq_true rfl, Nat.le_of_ble_eq_true rfl⟩ (by decide +kernel) qw548 qp6 rfl rfl (Nat.le_of_ble_eq_true rfl) dX5_readRocket_116 (fun r m20 hq20 => ?_)
                obtain ⟨z20, rfl, ⟨rfl, hq20, hm20⟩ | ⟨rfl, hq20, hm20⟩⟩ := hq20
                · show V E (wC D cy aa ad) 2 m20 119 [(0, .ref (aa 3)), (1, .ref (aa k))] [.int (iz (1))]
                  obtain ⟨x3, V3⟩ := hq20
                  have TN3 := hm20.1.r V3
                  have P3 : tPart b n w_power (1) (12) (x2.2) = .inr x3 := (bnd_r (W3) _).trans V3
                  have p3_ : 0 ≤ x3.2 ∧ x3.2 ≤ n := by have := tWhole_i V3 pw3.2.1; omega
                  have b3_ := (tWhole_i V3 pw3.2.1).1
                  refine v_if_ne (tgt := 124) C dX5_readRocket_119 (by decide) (by omega) (fun c21 => ?_) (fun c21 => by exact absurd c21 (by decide))
                  refine v_aload_n C 1 dX5_readRocket_124 rfl ?_
                  refine v_aload_n C 0 dX5_readRocket_125 rfl ?_
                  refine v_get C 3 9 lC3 (eC3 _) rfl inX5 (by decide) rfl qw139 dX5_readRocket_126 ?_
                  refine v_put C k 1 (m20 3 9) 1 rfl (RocketAt.l0 hk) (RocketAt.e0 hk _) rfl inX6 tyX6 tyX6_ok nmX6 (by decide) qw369 rfl rfl rfl (Nat.le_of_ble_eq_true rfl) (by rw [mup_r]; exact (RocketAt.e0 hk _)) dX5_readRocket_129 (fun m22 em22 => ?_)
                  have f129 : FRd m m22 k kf ks kt kc := (fW3.tr (hm20.2.rd k kf ks kt kc)).tr ⟨by rw [em22, mup_k _ _ _ (by omega)], fun j _ _ => by rw [em22, mup_k _ _ _ (by omega)], fun q _ _ _ h _ _ _ _ => by rw [em22, mup_k _ _ _ h]⟩
                  have T129 : TkC m22 b n x3.2 := TN3.1.1.fr (by rw [em22, mup_k _ _ _ (by omega)]) (by rw [em22, mup_k _ _ _ (by omega)])
                  have g129 : ∀ q, 4 ≤ q → q ≠ k → m22 q = m q := fun q h h2 => by rw [em22, mup_k _ _ _ h2, hm20.2.2.2.2 q (by omega) (by omega), hm18.2.2.2.2 q (by omega) (by omega), g100 q h h2]
                  have v129 : m22 k 1 = x3.1 := by rw [em22, mup_s]; exact TN3.1.2
                  have w129 : ∀ j : Int, j ≠ 1 → m22 k j = m17 k j := fun j h => by rw [em22, mup_j _ _ h, hm20.2.2.2.2 k (by omega) (by omega), hm18.2.2.2.2 k (by omega) (by omega)]
                  have b129 : m22 3 8 = 1 := by rw [em22, mup_k _ _ _ (by omega), hm20.2.2.1, hm18.2.2.1]; exact b100
                  have n129 : m22 3 10 = m 3 10 := by rw [em22, mup_k _ _ _ (by omega), TN3.2, TW3.2]; exact n100
                  refine v_aload_n C 0 dX5_readRocket_132 rfl ?_
                  refine v_ldcs C 10 rfl dX5_readRocket_133 ?_
                  refine v_callV (st := []) (n := 1) (q := 3) C [.ref (ad (2 * 10))] (ct_Reader_takeWord C.2.2.2.2.2.2.1 m22 (b) (n) (x3.2) (10) ("StageRatios$Reader") (143) ("pull") (w_pull) (by exact hb) (by exact hn) (by exact T129) (by exact p3_) rfl) lC3 (eC3 _) rfl qw545 qw3 qw542 rfl rfl ⟨Nat.le_of_ble_eq_true rfl, Nat.le_of_ble_eq_true rfl⟩ (by decide +kernel) qw544 qp5 rfl rfl (Nat.le_of_ble_eq_true rfl) dX5_readRocket_135 (fun r m23 hq23 => ?_)
                  obtain ⟨z23, rfl, ⟨rfl, hq23, hm23⟩ | ⟨rfl, hq23, hm23⟩⟩ := hq23
                  · show V E (wC D cy aa ad) 2 m23 138 [(0, .ref (aa 3)), (1, .ref (aa k))] [.int (iz (1))]
                    obtain ⟨u4, W4⟩ := hq23
                    have TW4 := hm23.1.r W4
                    have pw4 := tWord_i W4 p3_.2
                    have fW4 := f129.tr (hm23.2.rd k kf ks kt kc)
                    refine v_if_eq (tgt := 151) C dX5_readRocket_138 (by decide) (by omega) (fun c24 => by exact absurd c24 (by decide)) (fun c24 => ?_)
                    refine v_aload_n C 0 dX5_readRocket_141 rfl ?_
                    refine v_iconst (z := 0) C dX5_readRocket_142 rfl ?_
                    refine v_bipush (z := 99) C dX5_readRocket_143 (by decide) ?_
                    refine v_callV (st := []) (n := 2) (q := 3) C [.int (iz (0)), .int (iz (99))] (ct_Reader_takeWhole C.2.2.2.2.2.2.1 m23 (b) (n) (u4) (0) (99) (by exact hb) (by exact hn) (by exact TW4.1) (by omega) (by first | assumption | omega) (by first | assumption | omega)) lC3 (eC3 _) rfl qw549 qw3 qw546 rfl rfl ⟨Nat.le_of_ble_eq_true rfl, Nat.le_of_ble_eq_true rfl⟩ (by decide +kernel) qw548 qp6 rfl rfl (Nat.le_of_ble_eq_true rfl) dX5_readRocket_145 (fun r m25 hq25 => ?_)
                    obtain ⟨z25, rfl, ⟨rfl, hq25, hm25⟩ | ⟨rfl, hq25, hm25⟩⟩ := hq25
                    · show V E (wC D cy aa ad) 2 m25 148 [(0, .ref (aa 3)), (1, .ref (aa k))] [.int (iz (1))]
                      obtain ⟨x4, V4⟩ := hq25
                      have TN4 := hm25.1.r V4
                      have P4 : tPart b n w_pull (0) (99) (x3.2) = .inr x4 := (bnd_r (W4) _).trans V4
                      have p4_ : 0 ≤ x4.2 ∧ x4.2 ≤ n := by have := tWhole_i V4 pw4.2.1; omega
                      have b4_ := (tWhole_i V4 pw4.2.1).1
                      refine v_if_ne (tgt := 153) C dX5_readRocket_148 (by decide) (by omega) (fun c26 => ?_) (fun c26 => by exact absurd c26 (by decide))
                      refine v_aload_n C 1 dX5_readRocket_153 rfl ?_
                      refine v_aload_n C 0 dX5_readRocket_154 rfl ?_
                      refine v_get C 3 9 lC3 (eC3 _) rfl inX5 (by decide) rfl qw139 dX5_readRocket_155 ?_
                      refine v_put C k 4 (m25 3 9) 4 rfl (RocketAt.l0 hk) (RocketAt.e0 hk _) rfl inX6 tyX6 tyX6_ok nmX6 (by decide) qw382 rfl rfl rfl (Nat.le_of_ble_eq_true rfl) (by rw [mup_r]; exact (RocketAt.e0 hk _)) dX5_readRocket_158 (fun m27 em27 => ?_)
                      have f158 : FRd m m27 k kf ks kt kc := (fW4.tr (hm25.2.rd k kf ks kt kc)).tr ⟨by rw [em27, mup_k _ _ _ (by omega)], fun j _ _ => by rw [em27, mup_k _ _ _ (by omega)], fun q _ _ _ h _ _ _ _ => by rw [em27, mup_k _ _ _ h]⟩
                      have T158 : TkC m27 b n x4.2 := TN4.1.1.fr (by rw [em27, mup_k _ _ _ (by omega)]) (by rw [em27, mup_k _ _ _ (by omega)])
                      have g158 : ∀ q, 4 ≤ q → q ≠ k → m27 q = m q := fun q h h2 => by rw [em27, mup_k _ _ _ h2, hm25.2.2.2.2 q (by omega) (by omega), hm23.2.2.2.2 q (by omega) (by omega), g129 q h h2]
                      have v158 : m27 k 4 = x4.1 := by rw [em27, mup_s]; exact TN4.1.2
                      have w158 : ∀ j : Int, j ≠ 4 → m27 k j = m22 k j := fun j h => by rw [em27, mup_j _ _ h, hm25.2.2.2.2 k (by omega) (by omega), hm23.2.2.2.2 k (by omega) (by omega)]
                      have b158 : m27 3 8 = 1 := by rw [em27, mup_k _ _ _ (by omega), hm25.2.2.1, hm23.2.2.1]; exact b129
                      have n158 : m27 3 10 = m 3 10 := by rw [em27, mup_k _ _ _ (by omega), TN4.2, TW4.2]; exact n129
                      have hE : oRocket b n σ p = .inr ((hdR x0.1 x1.1 x2.1 x3.1 x4.1 σ.h, σ.2), x4.2) := (if_neg h7).trans <| (bnd_r P0 _).trans <| (bnd_r P1 _).trans <| (bnd_r P2 _).trans <| (bnd_r P3 _).trans <| (bnd_r P4 _).trans <| rfl
                      refine v_iconst (z := 1) C dX5_readRocket_161 rfl ?_
                      refine v_iret C X (by decide) dX5_readRocket_162 ⟨_, rfl, Or.inl ⟨rfl, ?_, ?_⟩⟩
                      · exact ⟨_, hE⟩
                      · refine ⟨RsM.or hE ⟨⟨T158, ?_⟩, n158⟩, f158⟩
                        obtain ⟨d1, d2, d3, d4, d5, d6, d7⟩ := hD
                        have z5 : ∀ j : Int, j ≠ 0 → j ≠ 1 → j ≠ 2 → j ≠ 3 → j ≠ 4 → m27 k j = m k j := fun j a b c d e => by rw [w158 j e, w129 j b, w100 j d, w67 j c, w38 j a, g9 k (by omega)]
                        refine ⟨b158, (z5 5 (by decide) (by decide) (by decide) (by decide) (by decide)).trans d2, (z5 6 (by decide) (by decide) (by decide) (by decide) (by decide)).trans d3, fun _ => ⟨?_, ?_, ?_, ?_, v158⟩, fun j a b => by rw [g158 kf (by omega) (by omega)]; exact d5 j a b, fun s a b => by rw [g158 4 (by omega) (by omega)]; exact d6 s a b, fun i a b => by rw [g158 ks (by omega) (by omega), g158 kt (by omega) (by omega), g158 kc (by omega) (by omega)]; exact d7 i a b⟩
                        · rw [w158 0 (by decide), w129 0 (by decide), w100 0 (by decide), w67 0 (by decide)]; exact v38
                        · rw [w158 1 (by decide)]; exact v129
                        · rw [w158 2 (by decide), w129 2 (by decide), w100 2 (by decide)]; exact v67
                        · rw [w158 3 (by decide), w129 3 (by decide)]; exact v100
                    · show V E (wC D cy aa ad) 2 m25 148 [(0, .ref (aa 3)), (1, .ref (aa k))] [.int (iz (0))]
                      obtain ⟨e, he⟩ := IsR.n hq25
                      have hE : oRocket b n σ p = .inl e := (if_neg h7).trans <| (bnd_r P0 _).trans <| (bnd_r P1 _).trans <| (bnd_r P2 _).trans <| (bnd_r P3 _).trans <| bnd_l ((bnd_r (W4) _).trans he) _
                      have hM := hm25.1.l (he)
                      have hF := fW4.tr (hm25.2.rd k kf ks kt kc)
                      refine v_if_ne (tgt := 153) C dX5_readRocket_148 (by decide) (by omega) (fun c28 => by exact absurd c28 (by decide)) (fun c28 => ?_)
                      refine v_iconst (z := 0) C dX5_readRocket_151 rfl ?_
                      refine v_iret C X (by decide) dX5_readRocket_152 ⟨_, rfl, Or.inr ⟨rfl, ?_, ?_⟩⟩
                      · exact IsR.no hE
                      · exact ⟨RsM.ol hE hM, hF⟩
                  · show V E (wC D cy aa ad) 2 m23 138 [(0, .ref (aa 3)), (1, .ref (aa k))] [.int (iz (0))]
                    obtain ⟨e, he⟩ := IsR.n hq23
                    have hE : oRocket b n σ p = .inl e := (if_neg h7).trans <| (bnd_r P0 _).trans <| (bnd_r P1 _).trans <| (bnd_r P2 _).trans <| (bnd_r P3 _).trans <| bnd_l ((bnd_l (he) _)) _
                    have hM := hm23.1.l he
                    have hF := f129.tr (hm23.2.rd k kf ks kt kc)
                    refine v_if_eq (tgt := 151) C dX5_readRocket_138 (by decide) (by omega) (fun c29 => ?_) (fun c29 => by exact absurd c29 (by decide))
                    refine v_iconst (z := 0) C dX5_readRocket_151 rfl ?_
                    refine v_iret C X (by decide) dX5_readRocket_152 ⟨_, rfl, Or.inr ⟨rfl, ?_, ?_⟩⟩
                    · exact IsR.no hE
                    · exact ⟨RsM.ol hE hM, hF⟩
                · show V E (wC D cy aa ad) 2 m20 119 [(0, .ref (aa 3)), (1, .ref (aa k))] [.int (iz (0))]
                  obtain ⟨e, he⟩ := IsR.n hq20
                  have hE : oRocket b n σ p = .inl e := (if_neg h7).trans <| (bnd_r P0 _).trans <| (bnd_r P1 _).trans <| (bnd_r P2 _).trans <| bnd_l ((bnd_r (W3) _).trans he) _
                  have hM := hm20.1.l (he)
                  have hF := fW3.tr (hm20.2.rd k kf ks kt kc)
                  refine v_if_ne (tgt := 124) C dX5_readRocket_119 (by decide) (by omega) (fun c30 => by exact absurd c30 (by decide)) (fun c30 => ?_)
                  refine v_iconst (z := 0) C dX5_readRocket_122 rfl ?_
                  refine v_iret C X (by decide) dX5_readRocket_123 ⟨_, rfl, Or.inr ⟨rfl, ?_, ?_⟩⟩
                  · exact IsR.no hE
                  · exact ⟨RsM.ol hE hM, hF⟩
              · show V E (wC D cy aa ad) 2 m18 109 [(0, .ref (aa 3)), (1, .ref (aa k))] [.int (iz (0))]
                obtain ⟨e, he⟩ := IsR.n hq18
                have hE : oRocket b n σ p = .inl e := (if_neg h7).trans <| (bnd_r P0 _).trans <| (bnd_r P1 _).trans <| (bnd_r P2 _).trans <| bnd_l ((bnd_l (he) _)) _
                have hM := hm18.1.l he
                have hF := f100.tr (hm18.2.rd k kf ks kt kc)
                refine v_if_eq (tgt := 122) C dX5_readRocket_109 (by decide) (by omega) (fun c31 => ?_) (fun c31 => by exact absurd c31 (by decide))
                refine v_iconst (z := 0) C dX5_readRocket_122 rfl ?_
                refine v_iret C X (by decide) dX5_readRocket_123 ⟨_, rfl, Or.inr ⟨rfl, ?_, ?_⟩⟩
                · exact IsR.no hE
                · exact ⟨RsM.ol hE hM, hF⟩
            · show V E (wC D cy aa ad) 2 m15 90 [(0, .ref (aa 3)), (1, .ref (aa k))] [.int (iz (0))]
              obtain ⟨e, he⟩ := IsR.n hq15
              rw [k2] at he
              have hE : oRocket b n σ p = .inl e := (if_neg h7).trans <| (bnd_r P0 _).trans <| (bnd_r P1 _).trans <| bnd_l ((bnd_r (W2) _).trans he) _
              have hM := hm15.1.l (by rw [k2]; exact he)
              have hF := fW2.tr (hm15.2.rd k kf ks kt kc)
              refine v_if_ne (tgt := 95) C dX5_readRocket_90 (by decide) (by omega) (fun c32 => by exact absurd c32 (by decide)) (fun c32 => ?_)
              refine v_iconst (z := 0) C dX5_readRocket_93 rfl ?_
              refine v_iret C X (by decide) dX5_readRocket_94 ⟨_, rfl, Or.inr ⟨rfl, ?_, ?_⟩⟩
              · exact IsR.no hE
              · exact ⟨RsM.ol hE hM, hF⟩
          · show V E (wC D cy aa ad) 2 m13 76 [(0, .ref (aa 3)), (1, .ref (aa k))] [.int (iz (0))]
            obtain ⟨e, he⟩ := IsR.n hq13
            have hE : oRocket b n σ p = .inl e := (if_neg h7).trans <| (bnd_r P0 _).trans <| (bnd_r P1 _).trans <| bnd_l ((bnd_l (he) _)) _
            have hM := hm13.1.l he
            have hF := f67.tr (hm13.2.rd k kf ks kt kc)
            refine v_if_eq (tgt := 93) C dX5_readRocket_76 (by decide) (by omega) (fun c33 => ?_) (fun c33 => by exact absurd c33 (by decide))
            refine v_iconst (z := 0) C dX5_readRocket_93 rfl ?_
            refine v_iret C X (by decide) dX5_readRocket_94 ⟨_, rfl, Or.inr ⟨rfl, ?_, ?_⟩⟩
            · exact IsR.no hE
            · exact ⟨RsM.ol hE hM, hF⟩
        · show V E (wC D cy aa ad) 2 m10 57 [(0, .ref (aa 3)), (1, .ref (aa k))] [.int (iz (0))]
          obtain ⟨e, he⟩ := IsR.n hq10
          have hE : oRocket b n σ p = .inl e := (if_neg h7).trans <| (bnd_r P0 _).trans <| bnd_l ((bnd_r (W1) _).trans he) _
          have hM := hm10.1.l (he)
          have hF := fW1.tr (hm10.2.rd k kf ks kt kc)
          refine v_if_ne (tgt := 62) C dX5_readRocket_57 (by decide) (by omega) (fun c34 => by exact absurd c34 (by decide)) (fun c34 => ?_)
          refine v_iconst (z := 0) C dX5_readRocket_60 rfl ?_
          refine v_iret C X (by decide) dX5_readRocket_61 ⟨_, rfl, Or.inr ⟨rfl, ?_, ?_⟩⟩
          · exact IsR.no hE
          · exact ⟨RsM.ol hE hM, hF⟩
      · show V E (wC D cy aa ad) 2 m8 47 [(0, .ref (aa 3)), (1, .ref (aa k))] [.int (iz (0))]
        obtain ⟨e, he⟩ := IsR.n hq8
        have hE : oRocket b n σ p = .inl e := (if_neg h7).trans <| (bnd_r P0 _).trans <| bnd_l ((bnd_l (he) _)) _
        have hM := hm8.1.l he
        have hF := f38.tr (hm8.2.rd k kf ks kt kc)
        refine v_if_eq (tgt := 60) C dX5_readRocket_47 (by decide) (by omega) (fun c35 => ?_) (fun c35 => by exact absurd c35 (by decide))
        refine v_iconst (z := 0) C dX5_readRocket_60 rfl ?_
        refine v_iret C X (by decide) dX5_readRocket_61 ⟨_, rfl, Or.inr ⟨rfl, ?_, ?_⟩⟩
        · exact IsR.no hE
        · exact ⟨RsM.ol hE hM, hF⟩
    · show V E (wC D cy aa ad) 2 m5 28 [(0, .ref (aa 3)), (1, .ref (aa k))] [.int (iz (0))]
      obtain ⟨e, he⟩ := IsR.n hq5
      have hE : oRocket b n σ p = .inl e := (if_neg h7).trans <| bnd_l ((bnd_r (by rw [← hp0]; exact W0) _).trans he) _
      have hM := hm5.1.l (he)
      have hF := fW0.tr (hm5.2.rd k kf ks kt kc)
      refine v_if_ne (tgt := 33) C dX5_readRocket_28 (by decide) (by omega) (fun c36 => by exact absurd c36 (by decide)) (fun c36 => ?_)
      refine v_iconst (z := 0) C dX5_readRocket_31 rfl ?_
      refine v_iret C X (by decide) dX5_readRocket_32 ⟨_, rfl, Or.inr ⟨rfl, ?_, ?_⟩⟩
      · exact IsR.no hE
      · exact ⟨RsM.ol hE hM, hF⟩
  · show V E (wC D cy aa ad) 2 m3 18 [(0, .ref (aa 3)), (1, .ref (aa k))] [.int (iz (0))]
    obtain ⟨e, he⟩ := IsR.n hq3
    have hE : oRocket b n σ p = .inl e := (if_neg h7).trans <| bnd_l ((bnd_l (by rw [← hp0]; exact he) _)) _
    have hM := hm3.1.l he
    have hF := f9.tr (hm3.2.rd k kf ks kt kc)
    refine v_if_eq (tgt := 31) C dX5_readRocket_18 (by decide) (by omega) (fun c37 => ?_) (fun c37 => by exact absurd c37 (by decide))
    refine v_iconst (z := 0) C dX5_readRocket_31 rfl ?_
    refine v_iret C X (by decide) dX5_readRocket_32 ⟨_, rfl, Or.inr ⟨rfl, ?_, ?_⟩⟩
    · exact IsR.no hE
    · exact ⟨RsM.ol hE hM, hF⟩
