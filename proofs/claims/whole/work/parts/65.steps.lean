/-! the class's reader: its steps -/
def RdOk (m : Mem) : Prop := m 3 2 = enZ 27 96 (wdC w_rocket) ∧ m 3 3 = enZ 27 96 (wdC w_stage) ∧ m 3 4 = enZ 27 96 (wdC w_fail) ∧ m 3 5 = enZ 27 96 (wdC w_solid) ∧ m 3 6 = enZ 27 96 (wdC w_oil) ∧ m 3 7 = enZ 27 96 (wdC w_gas)
/-- only the tape's and the reader's own places -/
def FW (m m' : Mem) : Prop := m' 1 1 = m 1 1 ∧ m' 3 8 = m 3 8 ∧ (∀ j : Int, 2 ≤ j → j ≤ 7 → m' 3 j = m 3 j) ∧ ∀ q, q ≠ 1 → q ≠ 3 → m' q = m q
theorem FW.rfl' (m : Mem) : FW m m := ⟨rfl, rfl, fun _ _ _ => rfl, fun _ _ _ => rfl⟩
theorem FW.tr {m m1 m2 : Mem} (h : FW m m1) (g : FW m1 m2) : FW m m2 := ⟨g.1.trans h.1, g.2.1.trans h.2.1, fun j a b => (g.2.2.1 j a b).trans (h.2.2.1 j a b), fun q a b => (g.2.2.2 q a b).trans (h.2.2.2 q a b)⟩
theorem RdOk.fr {m m' : Mem} (h : RdOk m) (g : ∀ j : Int, 2 ≤ j → j ≤ 7 → m' 3 j = m 3 j) : RdOk m' := by
  unfold RdOk at h ⊢
  rw [g 2 (by decide) (by decide), g 3 (by decide) (by decide), g 4 (by decide) (by decide), g 5 (by decide) (by decide), g 6 (by decide) (by decide), g 7 (by decide) (by decide)]; exact h
def IsR {α : Type} (x : Rs α) : Prop := ∃ a, x = .inr a
theorem IsR.n {α : Type} {x : Rs α} (h : ¬ IsR x) : ∃ e, x = .inl e := by
  cases x with
  | inl e => exact ⟨e, rfl⟩
  | inr a => exact absurd ⟨a, rfl⟩ h
theorem IsR.no {α : Type} {x : Rs α} {e : Int × Int} (h : x = .inl e) : ¬ IsR x := fun ⟨a, ha⟩ => by rw [h] at ha; cases ha
/-- what a step leaves behind -/
def RsM {α : Type} (x : Rs α) (m m' : Mem) (K : α → Prop) : Prop := match x with
  | .inr a => K a ∧ m' 3 10 = m 3 10
  | .inl e => m' 3 10 = e.1 ∧ m' 3 11 = e.2
theorem RsM.r {α : Type} {x : Rs α} {m m' : Mem} {K : α → Prop} {a : α} (h : RsM x m m' K) (e : x = .inr a) : K a ∧ m' 3 10 = m 3 10 := by rw [e] at h; exact h
theorem RsM.l {α : Type} {x : Rs α} {m m' : Mem} {K : α → Prop} {e : Int × Int} (h : RsM x m m' K) (y : x = .inl e) : m' 3 10 = e.1 ∧ m' 3 11 = e.2 := by rw [y] at h; exact h
theorem RsM.or {α : Type} {x : Rs α} {m m' : Mem} {K : α → Prop} {a : α} (e : x = .inr a) (h : K a ∧ m' 3 10 = m 3 10) : RsM x m m' K := by rw [e]; exact h
theorem RsM.ol {α : Type} {x : Rs α} {m m' : Mem} {K : α → Prop} {e : Int × Int} (y : x = .inl e) (h : m' 3 10 = e.1 ∧ m' 3 11 = e.2) : RsM x m m' K := by rw [y]; exact h
theorem en_ne {l k : List Int} (hl : wdOk l) (hk : wdOk k) (h : enZ 27 96 l ≠ enZ 27 96 k) : l ≠ k := fun y => h (by rw [y])
theorem en_eq {l k : List Int} (hl : wdOk l) (hk : wdOk k) (h : enZ 27 96 l = enZ 27 96 k) : l = k := en27_inj hl.2 hk.2 h
theorem wd_rocket : wdOk (wdC w_rocket) := wdC_ok (i := 0) (q := ("StageRatios$Reader", 15, "rocket", w_rocket)) rfl
theorem wd_stage : wdOk (wdC w_stage) := wdC_ok (i := 1) (q := ("StageRatios$Reader", 27, "stage", w_stage)) rfl
theorem wd_fail : wdOk (wdC w_fail) := wdC_ok (i := 2) (q := ("StageRatios$Reader", 32, "fail", w_fail)) rfl
theorem wd_solid : wdOk (wdC w_solid) := wdC_ok (i := 3) (q := ("StageRatios$Reader", 37, "solid", w_solid)) rfl
theorem wd_oil : wdOk (wdC w_oil) := wdC_ok (i := 4) (q := ("StageRatios$Reader", 42, "oil", w_oil)) rfl
theorem wd_gas : wdOk (wdC w_gas) := wdC_ok (i := 5) (q := ("StageRatios$Reader", 47, "gas", w_gas)) rfl
set_option maxHeartbeats 4000000 in
set_option maxRecDepth 100000 in
theorem ct_Reader_stop {lau : Launch} {D : va_G} {cy : Nat → ClassId} {aa ad : Nat → Nat} (hI : wI (wC D cy aa ad)) (m : Mem) (f : Int)  : MT lau (wC D cy aa ad) yX5_stop cX5_stop 2 (some .boolean) ({ frames := 0, cells := 0, slots := 0, locals := 0 } : Room) m [.ref (aa 3), .int (iz (f))] (Pi (fun z m' => 0 = z ∧ FW m m' ∧ m' 3 10 = f ∧ m' 3 11 = m 1 3 ∧ m' 3 8 = m 3 8 ∧ (∀ j : Int, j ≠ 10 → j ≠ 11 → m' 3 j = m 3 j) ∧ ∀ q, q ≠ 3 → m' q = m q)) := by
  refine v_entry hI RX5 (by decide) rfl (Nat.le_of_ble_eq_true rfl) (fun E hE C X => ?_)
  subst hE
  show V E (wC D cy aa ad) 2 m 0 [(0, .ref (aa 3)), (1, .int (iz (f)))] []
  refine v_aload_n C 0 dX5_stop_0 rfl ?_
  refine v_iload_n C 1 dX5_stop_1 rfl ?_
  refine v_put C 3 10 (f) 10 rfl lC3 (eC3 _) rfl inX5 tyX5 tyX5_ok nmX5 (by decide) qw140 rfl rfl rfl (Nat.le_of_ble_eq_true rfl) (by rw [mup_r]; exact (eC3 _)) dX5_stop_2 (fun m1 em1 => ?_)
  refine v_aload_n C 0 dX5_stop_5 rfl ?_
  refine v_aload_n C 0 dX5_stop_6 rfl ?_
  refine v_get C 3 0 lC3 (eC3 _) rfl inX5 (by decide) rfl qw130 dX5_stop_7 ?_
  refine v_get C 1 3 lC1 (eC1 _) rfl inX8 (by decide) rfl qw42 dX5_stop_10 ?_
  refine v_put C 3 11 (m1 1 3) 11 rfl lC3 (eC3 _) rfl inX5 tyX5 tyX5_ok nmX5 (by decide) qw142 rfl rfl rfl (Nat.le_of_ble_eq_true rfl) (by rw [mup_r]; exact (eC3 _)) dX5_stop_13 (fun m2 em2 => ?_)
  refine v_iconst (z := 0) C dX5_stop_16 rfl ?_
  refine v_iret C X (by decide) dX5_stop_17 ⟨_, rfl, ?_, ?_⟩
  · rfl
  · have z : ∀ q, q ≠ 3 → m2 q = m q := fun q h => by rw [em2, mup_k _ _ _ h, em1, mup_k _ _ _ h]
    have z3 : ∀ j : Int, j ≠ 10 → j ≠ 11 → m2 3 j = m 3 j := fun j h1 h2 => by rw [em2, mup_j _ _ h2, em1, mup_j _ _ h1]
    exact ⟨⟨by rw [z 1 (by decide)], z3 8 (by decide) (by decide), fun j a b => z3 j (by omega) (by omega), fun q _ b => z q b⟩, by rw [em2, mup_j _ _ (by decide), em1, mup_s], by rw [em2, mup_s, em1, mup_k _ _ _ (by decide)], z3 8 (by decide) (by decide), z3, z⟩

set_option maxHeartbeats 4000000 in
set_option maxRecDepth 100000 in
theorem ct_Reader_takeWord {lau : Launch} {D : va_G} {cy : Nat → ClassId} {aa ad : Nat → Nat} (hI : wI (wC D cy aa ad)) (m : Mem) (b : Int → Int) (n p : Int) (i9 : Nat) (own : String) (ix : Nat) (ttx : String) (bs : List Int32) (hb : BtOk b) (hn : 0 ≤ n ∧ n ≤ 700) (hT : TkC m b n p) (hp : 0 ≤ p ∧ p ≤ n) (hqs : strS[i9]? = some (own, ix, ttx, bs)) : MT lau (wC D cy aa ad) yX5_takeWord cX5_takeWord 2 (some .boolean) ({ frames := 5, cells := 0, slots := 0, locals := 108 } : Room) m [.ref (aa 3), .ref (ad (2 * i9))] (Pi (fun z m' => (1 = z ∧ (IsR (tWord b n bs p)) ∧ RsM (tWord b n bs p) m m' (fun q => TkC m' b n q) ∧ FW m m') ∨ (0 = z ∧ ¬ (IsR (tWord b n bs p)) ∧ RsM (tWord b n bs p) m m' (fun q => TkC m' b n q) ∧ FW m m'))) := by
  refine v_entry hI RX5 (by decide) rfl (Nat.le_of_ble_eq_true rfl) (fun E hE C X => ?_)
  subst hE
  show V E (wC D cy aa ad) 2 m 0 [(0, .ref (aa 3)), (1, .ref (ad (2 * i9)))] []
  obtain ⟨t2, t5, tk, ts, tx, tw, tn⟩ := id hT
  have tr := tk_rngP (b := b) hp.2
  have hbsk : wdOk (wdC bs) := wdC_ok hqs
  have hbr := hbsk.r27
  have hC : (kdZ b n p = 1 ∧ wlZ b n p = wdC bs) → tWord b n bs p = .inr (nxZ b n p) := fun y => if_pos y
  have hN : ¬ (kdZ b n p = 1 ∧ wlZ b n p = wdC bs) → tWord b n bs p = .inl (1, skZ b n p) := fun y => if_neg y
  refine v_aload_n C 0 dX5_takeWord_0 rfl ?_
  refine v_get C 3 0 lC3 (eC3 _) rfl inX5 (by decide) rfl qw130 dX5_takeWord_1 ?_
  refine v_get C 1 2 lC1 (eC1 _) rfl inX8 (by decide) rfl qw40 dX5_takeWord_4 ?_
  refine v_iconst (z := 1) C dX5_takeWord_7 rfl ?_
  refine v_icmp_ne (tgt := 26) C dX5_takeWord_8 (by decide) (by omega) (by omega) (fun c1 => ?_) (fun c1 => ?_)
  · have hno : ¬ (kdZ b n p = 1 ∧ wlZ b n p = wdC bs) := fun y => c1 (tk.trans y.1)
    refine v_aload_n C 0 dX5_takeWord_26 rfl ?_
    refine v_iconst (z := 1) C dX5_takeWord_27 rfl ?_
    refine v_callV (st := []) (n := 1) (q := 3) C [.int (iz (1))] (ct_Reader_stop C.2.2.2.2.2.2.1 m (1) ) lC3 (eC3 _) rfl qw535 qw3 qw532 rfl rfl ⟨Nat.le_of_ble_eq_true rfl, Nat.le_of_ble_eq_true rfl⟩ (by decide +kernel) qw534 qp3 rfl rfl (Nat.le_of_ble_eq_true rfl) dX5_takeWord_28 (fun r m2 hq2 => ?_)
    obtain ⟨z2, rfl, rfl, hq2⟩ := hq2
    show V E (wC D cy aa ad) 2 m2 31 [(0, .ref (aa 3)), (1, .ref (ad (2 * i9)))] [.int (iz (0))]
    refine v_iret C X (by decide) dX5_takeWord_31 ⟨_, rfl, Or.inr ⟨rfl, ?_, ?_⟩⟩
    · exact IsR.no (hN hno)
    · exact ⟨RsM.ol (hN hno) ⟨hq2.2.1, hq2.2.2.1.trans ts⟩, hq2.1⟩
  · have k1 : kdZ b n p = 1 := tk.symm.trans c1
    have hwl := wl_ok hp.2 k1
    have hwr := hwl.r27
    have e4 := tw k1
    refine v_aload_n C 0 dX5_takeWord_11 rfl ?_
    refine v_get C 3 0 lC3 (eC3 _) rfl inX5 (by decide) rfl qw130 dX5_takeWord_12 ?_
    refine v_get C 1 4 lC1 (eC1 _) rfl inX8 (by decide) rfl qw44 dX5_takeWord_15 ?_
    refine v_aload_n C 1 dX5_takeWord_18 rfl ?_
    refine v_callS (st := [.long (lz (m 1 4))]) (n := 1) C [.ref (ad (2 * i9))] (ct_Tape_numberOf C.2.2.2.2.2.2.1 m (i9) (own) (ix) (ttx) (bs) (by exact hqs)) qw72 qw2 qw70 rfl rfl ⟨Nat.le_of_ble_eq_true rfl, Nat.le_of_ble_eq_true rfl⟩ (by decide +kernel) qw71 rfl rfl (Nat.le_of_ble_eq_true rfl) dX5_takeWord_19 (fun r m3 hq3 => ?_)
    obtain ⟨z3, rfl, rfl, rfl⟩ := hq3
    show V E (wC D cy aa ad) 2 m 22 [(0, .ref (aa 3)), (1, .ref (ad (2 * i9)))] [.long (lz (enZ 27 96 (wdC bs))), .long (lz (m 1 4))]
    refine v_lc_eq (tgt := 32) C dX5_takeWord_22 dX5_takeWord_23 (by decide) (by first | (rw [e4]; omega) | omega) (by first | (rw [e4]; omega) | omega) (fun c4 => ?_) (fun c4 => ?_)
    · have hyes : kdZ b n p = 1 ∧ wlZ b n p = wdC bs := ⟨k1, en_eq hwl hbsk (e4.symm.trans c4)⟩
      refine v_aload_n C 0 dX5_takeWord_32 rfl ?_
      refine v_get C 3 0 lC3 (eC3 _) rfl inX5 (by decide) rfl qw130 dX5_takeWord_33 ?_
      refine v_callV (st := []) (n := 0) (q := 1) C [] (ct_Tape_step C.2.2.2.2.2.2.1 m (b) (n) (nxZ b n p) (by exact hb) (by exact hn) (by exact t2) (by exact t5) (by exact tx) (by omega)) lC1 (eC1 _) rfl qw518 qw2 qw540 rfl rfl ⟨Nat.le_of_ble_eq_true rfl, Nat.le_of_ble_eq_true rfl⟩ (by decide +kernel) qw516 qw517 rfl rfl (Nat.le_of_ble_eq_true rfl) dX5_takeWord_36 (fun r m5 hq5 => ?_)
      obtain ⟨rfl, hq5⟩ := hq5
      show V E (wC D cy aa ad) 2 m5 39 [(0, .ref (aa 3)), (1, .ref (ad (2 * i9)))] []
      refine v_iconst (z := 1) C dX5_takeWord_39 rfl ?_
      refine v_iret C X (by decide) dX5_takeWord_40 ⟨_, rfl, Or.inl ⟨rfl, ?_, ?_⟩⟩
      · exact ⟨_, hC hyes⟩
      · exact ⟨RsM.or (hC hyes) ⟨hq5.1, by rw [hq5.2.2 3 (by decide)]⟩, ⟨hq5.2.1, by rw [hq5.2.2 3 (by decide)], fun j _ _ => by rw [hq5.2.2 3 (by decide)], fun q h1 _ => hq5.2.2 q h1⟩⟩
    · have hno : ¬ (kdZ b n p = 1 ∧ wlZ b n p = wdC bs) := fun y => c4 (e4.trans (by rw [y.2]))
      refine v_aload_n C 0 dX5_takeWord_26 rfl ?_
      refine v_iconst (z := 1) C dX5_takeWord_27 rfl ?_
      refine v_callV (st := []) (n := 1) (q := 3) C [.int (iz (1))] (ct_Reader_stop C.2.2.2.2.2.2.1 m (1) ) lC3 (eC3 _) rfl qw535 qw3 qw532 rfl rfl ⟨Nat.le_of_ble_eq_true rfl, Nat.le_of_ble_eq_true rfl⟩ (by decide +kernel) qw534 qp3 rfl rfl (Nat.le_of_ble_eq_true rfl) dX5_takeWord_28 (fun r m6 hq6 => ?_)
      obtain ⟨z6, rfl, rfl, hq6⟩ := hq6
      show V E (wC D cy aa ad) 2 m6 31 [(0, .ref (aa 3)), (1, .ref (ad (2 * i9)))] [.int (iz (0))]
      refine v_iret C X (by decide) dX5_takeWord_31 ⟨_, rfl, Or.inr ⟨rfl, ?_, ?_⟩⟩
      · exact IsR.no (hN hno)
      · exact ⟨RsM.ol (hN hno) ⟨hq6.2.1, hq6.2.2.1.trans ts⟩, hq6.1⟩

set_option maxHeartbeats 4000000 in
set_option maxRecDepth 100000 in
theorem ct_Reader_takeWhole {lau : Launch} {D : va_G} {cy : Nat → ClassId} {aa ad : Nat → Nat} (hI : wI (wC D cy aa ad)) (m : Mem) (b : Int → Int) (n p : Int) (lo hi : Int) (hb : BtOk b) (hn : 0 ≤ n ∧ n ≤ 700) (hT : TkC m b n p) (hp : 0 ≤ p ∧ p ≤ n) (hlo : -2147483648 ≤ lo ∧ lo ≤ 2147483647) (hhi : -2147483648 ≤ hi ∧ hi ≤ 2147483647) : MT lau (wC D cy aa ad) yX5_takeWhole cX5_takeWhole 3 (some .boolean) ({ frames := 2, cells := 0, slots := 0, locals := 43 } : Room) m [.ref (aa 3), .int (iz (lo)), .int (iz (hi))] (Pi (fun z m' => (1 = z ∧ (IsR (tWhole b n lo hi p)) ∧ RsM (tWhole b n lo hi p) m m' (fun x => TkC m' b n x.2 ∧ m' 3 9 = x.1) ∧ FW m m') ∨ (0 = z ∧ ¬ (IsR (tWhole b n lo hi p)) ∧ RsM (tWhole b n lo hi p) m m' (fun x => TkC m' b n x.2 ∧ m' 3 9 = x.1) ∧ FW m m'))) := by
  refine v_entry hI RX5 (by decide) rfl (Nat.le_of_ble_eq_true rfl) (fun E hE C X => ?_)
  subst hE
  show V E (wC D cy aa ad) 3 m 0 [(0, .ref (aa 3)), (1, .int (iz (lo))), (2, .int (iz (hi)))] []
  obtain ⟨t2, t5, tk, ts, tx, tw, tn⟩ := id hT
  have tr := tk_rngP (b := b) hp.2
  refine v_aload_n C 0 dX5_takeWhole_0 rfl ?_
  refine v_get C 3 0 lC3 (eC3 _) rfl inX5 (by decide) rfl qw130 dX5_takeWhole_1 ?_
  refine v_get C 1 2 lC1 (eC1 _) rfl inX8 (by decide) rfl qw40 dX5_takeWhole_4 ?_
  refine v_iconst (z := 2) C dX5_takeWhole_7 rfl ?_
  refine v_icmp_eq (tgt := 17) C dX5_takeWhole_8 (by decide) (by omega) (by omega) (fun c1 => ?_) (fun c1 => ?_)
  · have k2 : kdZ b n p = 2 := tk.symm.trans c1
    have hnr := nm_rng hp.2 k2
    have e4 := tn k2
    refine v_aload_n C 0 dX5_takeWhole_17 rfl ?_
    refine v_get C 3 0 lC3 (eC3 _) rfl inX5 (by decide) rfl qw130 dX5_takeWhole_18 ?_
    refine v_get C 1 4 lC1 (eC1 _) rfl inX8 (by decide) rfl qw44 dX5_takeWhole_21 ?_
    refine v_iload_n C 1 dX5_takeWhole_24 rfl ?_
    refine v_i2l C (by omega) dX5_takeWhole_25 ?_
    refine v_lc_lt (tgt := 43) C dX5_takeWhole_26 dX5_takeWhole_27 (by decide) (by first | (rw [e4]; omega) | omega) (by first | (rw [e4]; omega) | omega) (fun c2 => ?_) (fun c2 => ?_)
    · have hno : tWhole b n lo hi p = .inl (4, skZ b n p) := (if_pos k2).trans (if_neg (fun y => by rw [e4] at c2; omega))
      refine v_aload_n C 0 dX5_takeWhole_43 rfl ?_
      refine v_iconst (z := 4) C dX5_takeWhole_44 rfl ?_
      refine v_callV (st := []) (n := 1) (q := 3) C [.int (iz (4))] (ct_Reader_stop C.2.2.2.2.2.2.1 m (4) ) lC3 (eC3 _) rfl qw535 qw3 qw532 rfl rfl ⟨Nat.le_of_ble_eq_true rfl, Nat.le_of_ble_eq_true rfl⟩ (by decide +kernel) qw534 qp3 rfl rfl (Nat.le_of_ble_eq_true rfl) dX5_takeWhole_45 (fun r m3 hq3 => ?_)
      obtain ⟨z3, rfl, rfl, hq3⟩ := hq3
      show V E (wC D cy aa ad) 3 m3 48 [(0, .ref (aa 3)), (1, .int (iz (lo))), (2, .int (iz (hi)))] [.int (iz (0))]
      refine v_iret C X (by decide) dX5_takeWhole_48 ⟨_, rfl, Or.inr ⟨rfl, ?_, ?_⟩⟩
      · exact IsR.no hno
      · exact ⟨RsM.ol hno ⟨hq3.2.1, hq3.2.2.1.trans ts⟩, hq3.1⟩
    · have hlo2 : lo ≤ nmZ b n p := by rw [e4] at c2; omega
      refine v_aload_n C 0 dX5_takeWhole_30 rfl ?_
      refine v_get C 3 0 lC3 (eC3 _) rfl inX5 (by decide) rfl qw130 dX5_takeWhole_31 ?_
      refine v_get C 1 4 lC1 (eC1 _) rfl inX8 (by decide) rfl qw44 dX5_takeWhole_34 ?_
      refine v_iload_n C 2 dX5_takeWhole_37 rfl ?_
      refine v_i2l C (by omega) dX5_takeWhole_38 ?_
      refine v_lc_le (tgt := 49) C dX5_takeWhole_39 dX5_takeWhole_40 (by decide) (by first | (rw [e4]; omega) | omega) (by first | (rw [e4]; omega) | omega) (fun c4 => ?_) (fun c4 => ?_)
      · have hyes : tWhole b n lo hi p = .inr (nmZ b n p, nxZ b n p) := (if_pos k2).trans (if_pos ⟨hlo2, by rw [e4] at c4; omega⟩)
        refine v_aload_n C 0 dX5_takeWhole_49 rfl ?_
        refine v_aload_n C 0 dX5_takeWhole_50 rfl ?_
        refine v_get C 3 0 lC3 (eC3 _) rfl inX5 (by decide) rfl qw130 dX5_takeWhole_51 ?_
        refine v_get C 1 4 lC1 (eC1 _) rfl inX8 (by decide) rfl qw44 dX5_takeWhole_54 ?_
        refine v_l2i C dX5_takeWhole_57 ?_
        refine v_put C 3 9 (m 1 4) 9 rfl lC3 (eC3 _) rfl inX5 tyX5 tyX5_ok nmX5 (by decide) qw139 rfl rfl rfl (Nat.le_of_ble_eq_true rfl) (by rw [mup_r]; exact (eC3 _)) dX5_takeWhole_58 (fun m5 em5 => ?_)
        refine v_aload_n C 0 dX5_takeWhole_61 rfl ?_
        refine v_get C 3 0 lC3 (eC3 _) rfl inX5 (by decide) rfl qw130 dX5_takeWhole_62 ?_
        refine v_callV (st := []) (n := 0) (q := 1) C [] (ct_Tape_step C.2.2.2.2.2.2.1 m5 (b) (n) (nxZ b n p) (by exact hb) (by exact hn) (by rw [em5, mup_k _ _ _ (by decide)]; exact t2) (by rw [em5, mup_k _ _ _ (by decide)]; exact t5) (by rw [em5, mup_k _ _ _ (by decide)]; exact tx) (by omega)) lC1 (eC1 _) rfl qw518 qw2 qw540 rfl rfl ⟨Nat.le_of_ble_eq_true rfl, Nat.le_of_ble_eq_true rfl⟩ (by decide +kernel) qw516 qw517 rfl rfl (Nat.le_of_ble_eq_true rfl) dX5_takeWhole_65 (fun r m6 hq6 => ?_)
        obtain ⟨rfl, hq6⟩ := hq6
        show V E (wC D cy aa ad) 3 m6 68 [(0, .ref (aa 3)), (1, .int (iz (lo))), (2, .int (iz (hi)))] []
        refine v_iconst (z := 1) C dX5_takeWhole_68 rfl ?_
        refine v_iret C X (by decide) dX5_takeWhole_69 ⟨_, rfl, Or.inl ⟨rfl, ?_, ?_⟩⟩
        · exact ⟨_, hyes⟩
        · have z3 : ∀ j : Int, j ≠ 9 → m6 3 j = m 3 j := fun j h => by rw [hq6.2.2 3 (by decide), em5, mup_j _ _ h]
          exact ⟨RsM.or hyes ⟨⟨hq6.1, by rw [hq6.2.2 3 (by decide), em5, mup_s, e4]⟩, z3 10 (by decide)⟩, ⟨hq6.2.1.trans (by rw [em5, mup_k _ _ _ (by decide)]), z3 8 (by decide), fun j a b => z3 j (by omega), fun q h1 h3 => by rw [hq6.2.2 q h1, em5, mup_k _ _ _ h3]⟩⟩
      · have hno : tWhole b n lo hi p = .inl (4, skZ b n p) := (if_pos k2).trans (if_neg (fun y => by rw [e4] at c4; omega))
        refine v_aload_n C 0 dX5_takeWhole_43 rfl ?_
        refine v_iconst (z := 4) C dX5_takeWhole_44 rfl ?_
        refine v_callV (st := []) (n := 1) (q := 3) C [.int (iz (4))] (ct_Reader_stop C.2.2.2.2.2.2.1 m (4) ) lC3 (eC3 _) rfl qw535 qw3 qw532 rfl rfl ⟨Nat.le_of_ble_eq_true rfl, Nat.le_of_ble_eq_true rfl⟩ (by decide +kernel) qw534 qp3 rfl rfl (Nat.le_of_ble_eq_true rfl) dX5_takeWhole_45 (fun r m7 hq7 => ?_)
        obtain ⟨z7, rfl, rfl, hq7⟩ := hq7
        show V E (wC D cy aa ad) 3 m7 48 [(0, .ref (aa 3)), (1, .int (iz (lo))), (2, .int (iz (hi)))] [.int (iz (0))]
        refine v_iret C X (by decide) dX5_takeWhole_48 ⟨_, rfl, Or.inr ⟨rfl, ?_, ?_⟩⟩
        · exact IsR.no hno
        · exact ⟨RsM.ol hno ⟨hq7.2.1, hq7.2.2.1.trans ts⟩, hq7.1⟩
  · have hno : tWhole b n lo hi p = .inl (1, skZ b n p) := if_neg (fun y => c1 (tk.trans y))
    refine v_aload_n C 0 dX5_takeWhole_11 rfl ?_
    refine v_iconst (z := 1) C dX5_takeWhole_12 rfl ?_
    refine v_callV (st := []) (n := 1) (q := 3) C [.int (iz (1))] (ct_Reader_stop C.2.2.2.2.2.2.1 m (1) ) lC3 (eC3 _) rfl qw535 qw3 qw532 rfl rfl ⟨Nat.le_of_ble_eq_true rfl, Nat.le_of_ble_eq_true rfl⟩ (by decide +kernel) qw534 qp3 rfl rfl (Nat.le_of_ble_eq_true rfl) dX5_takeWhole_13 (fun r m8 hq8 => ?_)
    obtain ⟨z8, rfl, rfl, hq8⟩ := hq8
    show V E (wC D cy aa ad) 3 m8 16 [(0, .ref (aa 3)), (1, .int (iz (lo))), (2, .int (iz (hi)))] [.int (iz (0))]
    refine v_iret C X (by decide) dX5_takeWhole_16 ⟨_, rfl, Or.inr ⟨rfl, ?_, ?_⟩⟩
    · exact IsR.no hno
    · exact ⟨RsM.ol hno ⟨hq8.2.1, hq8.2.2.1.trans ts⟩, hq8.1⟩

set_option maxHeartbeats 4000000 in
set_option maxRecDepth 100000 in
theorem ct_Reader_isName {lau : Launch} {D : va_G} {cy : Nat → ClassId} {aa ad : Nat → Nat} (hI : wI (wC D cy aa ad)) (m : Mem) (b : Int → Int) (n p : Int) (hb : BtOk b) (hn : 0 ≤ n ∧ n ≤ 700) (hT : TkC m b n p) (hp : 0 ≤ p ∧ p ≤ n) (hrd : RdOk m) : MT lau (wC D cy aa ad) yX5_isName cX5_isName 1 (some .boolean) ({ frames := 0, cells := 0, slots := 0, locals := 0 } : Room) m [.ref (aa 3)] (Pi (fun z m' => (1 = z ∧ (isNm b n p) ∧ m = m') ∨ (0 = z ∧ ¬ (isNm b n p) ∧ m = m'))) := by
  refine v_entry hI RX5 (by decide) rfl (Nat.le_of_ble_eq_true rfl) (fun E hE C X => ?_)
  subst hE
  show V E (wC D cy aa ad) 1 m 0 [(0, .ref (aa 3))] []
  obtain ⟨t2, t5, tk, ts, tx, tw, tn⟩ := id hT
  have tr := tk_rngP (b := b) hp.2
  have r1 := wd_rocket.r27
  have r2 := wd_stage.r27
  have r3 := wd_fail.r27
  refine v_aload_n C 0 dX5_isName_0 rfl ?_
  refine v_get C 3 0 lC3 (eC3 _) rfl inX5 (by decide) rfl qw130 dX5_isName_1 ?_
  refine v_get C 1 2 lC1 (eC1 _) rfl inX8 (by decide) rfl qw40 dX5_isName_4 ?_
  refine v_iconst (z := 1) C dX5_isName_7 rfl ?_
  refine v_icmp_ne (tgt := 60) C dX5_isName_8 (by decide) (by omega) (by omega) (fun c1 => ?_) (fun c1 => ?_)
  · have hno : ¬ isNm b n p := fun y => c1 (tk.trans y.1)
    refine v_iconst (z := 0) C dX5_isName_60 rfl ?_
    refine v_iret C X (by decide) dX5_isName_61 ⟨_, rfl, Or.inr ⟨rfl, ?_, ?_⟩⟩
    · first
        | exact hno
        | exact ⟨k1, hnrocket, hnstage, hnfail⟩
    · rfl
  · have k1 : kdZ b n p = 1 := tk.symm.trans c1
    have hwl := wl_ok hp.2 k1
    have hwr := hwl.r27
    have e4 := tw k1
    refine v_aload_n C 0 dX5_isName_11 rfl ?_
    refine v_get C 3 0 lC3 (eC3 _) rfl inX5 (by decide) rfl qw130 dX5_isName_12 ?_
    refine v_get C 1 4 lC1 (eC1 _) rfl inX8 (by decide) rfl qw44 dX5_isName_15 ?_
    refine v_aload_n C 0 dX5_isName_18 rfl ?_
    refine v_get C 3 2 lC3 (eC3 _) rfl inX5 (by decide) rfl qw132 dX5_isName_19 ?_
    refine v_lc_eq (tgt := 60) C dX5_isName_22 dX5_isName_23 (by decide) (by first | (rw [e4]; omega) | (rw [hrd.1]; omega)) (by first | (rw [e4]; omega) | (rw [hrd.1]; omega)) (fun c2 => ?_) (fun c2 => ?_)
    · have hno : ¬ isNm b n p := fun y => y.2.1 (en_eq hwl wd_rocket (e4.symm.trans (c2.trans hrd.1)))
      refine v_iconst (z := 0) C dX5_isName_60 rfl ?_
      refine v_iret C X (by decide) dX5_isName_61 ⟨_, rfl, Or.inr ⟨rfl, ?_, ?_⟩⟩
      · first
          | exact hno
          | exact ⟨k1, hnrocket, hnstage, hnfail⟩
      · rfl
    · have hnrocket : wlZ b n p ≠ wdC w_rocket := fun y => c2 (e4.trans (by rw [y, hrd.1]))
      refine v_aload_n C 0 dX5_isName_26 rfl ?_
      refine v_get C 3 0 lC3 (eC3 _) rfl inX5 (by decide) rfl qw130 dX5_isName_27 ?_
      refine v_get C 1 4 lC1 (eC1 _) rfl inX8 (by decide) rfl qw44 dX5_isName_30 ?_
      refine v_aload_n C 0 dX5_isName_33 rfl ?_
      refine v_get C 3 3 lC3 (eC3 _) rfl inX5 (by decide) rfl qw133 dX5_isName_34 ?_
      refine v_lc_eq (tgt := 60) C dX5_isName_37 dX5_isName_38 (by decide) (by first | (rw [e4]; omega) | (rw [hrd.2.1]; omega)) (by first | (rw [e4]; omega) | (rw [hrd.2.1]; omega)) (fun c3 => ?_) (fun c3 => ?_)
      · have hno : ¬ isNm b n p := fun y => y.2.2.1 (en_eq hwl wd_stage (e4.symm.trans (c3.trans hrd.2.1)))
        refine v_iconst (z := 0) C dX5_isName_60 rfl ?_
        refine v_iret C X (by decide) dX5_isName_61 ⟨_, rfl, Or.inr ⟨rfl, ?_, ?_⟩⟩
        · first
            | exact hno
            | exact ⟨k1, hnrocket, hnstage, hnfail⟩
        · rfl
      · have hnstage : wlZ b n p ≠ wdC w_stage := fun y => c3 (e4.trans (by rw [y, hrd.2.1]))
        refine v_aload_n C 0 dX5_isName_41 rfl ?_
        refine v_get C 3 0 lC3 (eC3 _) rfl inX5 (by decide) rfl qw130 dX5_isName_42 ?_
        refine v_get C 1 4 lC1 (eC1 _) rfl inX8 (by decide) rfl qw44 dX5_isName_45 ?_
        refine v_aload_n C 0 dX5_isName_48 rfl ?_
        refine v_get C 3 4 lC3 (eC3 _) rfl inX5 (by decide) rfl qw134 dX5_isName_49 ?_
        refine v_lc_eq (tgt := 60) C dX5_isName_52 dX5_isName_53 (by decide) (by first | (rw [e4]; omega) | (rw [hrd.2.2.1]; omega)) (by first | (rw [e4]; omega) | (rw [hrd.2.2.1]; omega)) (fun c4 => ?_) (fun c4 => ?_)
        · have hno : ¬ isNm b n p := fun y => y.2.2.2 (en_eq hwl wd_fail (e4.symm.trans (c4.trans hrd.2.2.1)))
          refine v_iconst (z := 0) C dX5_isName_60 rfl ?_
          refine v_iret C X (by decide) dX5_isName_61 ⟨_, rfl, Or.inr ⟨rfl, ?_, ?_⟩⟩
          · first
              | exact hno
              | exact ⟨k1, hnrocket, hnstage, hnfail⟩
          · rfl
        · have hnfail : wlZ b n p ≠ wdC w_fail := fun y => c4 (e4.trans (by rw [y, hrd.2.2.1]))
          refine v_iconst (z := 1) C dX5_isName_56 rfl ?_
          refine v_goto (tgt := 61) C dX5_isName_57 (by decide) ?_
          refine v_iret C X (by decide) dX5_isName_61 ⟨_, rfl, Or.inl ⟨rfl, ?_, ?_⟩⟩
          · first
              | exact hno
              | exact ⟨k1, hnrocket, hnstage, hnfail⟩
          · rfl

theorem naZ_go {nm : Int → List Int} {w : List Int} {k s : Int} (h : s < k) (hs : 0 ≤ s) : naF nm w (k - s).toNat s = if nm s = w then s else naF nm w (k - (s + 1)).toNat (s + 1) := by
  rw [show (k - s).toNat = (k - (s + 1)).toNat + 1 by omega]; rfl
theorem naZ_end {nm : Int → List Int} {w : List Int} {k s : Int} (h : ¬ s < k) : naF nm w (k - s).toNat s = -1 := by
  rw [show (k - s).toNat = 0 by omega]; rfl
set_option maxHeartbeats 4000000 in
set_option maxRecDepth 100000 in
theorem ct_Reader_nameAt {lau : Launch} {D : va_G} {cy : Nat → ClassId} {aa ad : Nat → Nat} (hI : wI (wC D cy aa ad)) (m : Mem) (nm : Int → List Int) (w : List Int) (v k3 : Int) (hv : v = enZ 27 96 w) (hw : wdOk w) (hk3 : 0 ≤ k3 ∧ k3 ≤ 3) (hnm : ∀ s : Int, 0 ≤ s → s < k3 → m 4 s = enZ 27 96 (nm s)) (hno : ∀ s : Int, 0 ≤ s → s < k3 → wdOk (nm s)) : MT lau (wC D cy aa ad) yX5_nameAt cX5_nameAt 5 (some .int) ({ frames := 0, cells := 0, slots := 0, locals := 0 } : Room) m [.ref (aa 3), .long (lz (v)), .int (iz (k3))] (Pi (fun z m' => naZ nm w k3 = z ∧ m = m')) := by
  refine v_entry hI RX5 (by decide) rfl (Nat.le_of_ble_eq_true rfl) (fun E hE C X => ?_)
  subst hE
  show V E (wC D cy aa ad) 5 m 0 [(0, .ref (aa 3)), (1, .long (lz (v))), (3, .int (iz (k3)))] []
  have hwr := hw.r27
  refine v_iconst (z := 0) C dX5_nameAt_0 rfl ?_
  refine v_istore (L1 := [(4, .int (iz (0))), (0, .ref (aa 3)), (1, .long (lz (v))), (3, .int (iz (k3)))]) C dX5_nameAt_1 (by decide) rfl ?_
  have K3 : ∀ (nK : Nat) (s : Int) (hs : 0 ≤ s ∧ s ≤ k3) (hz : naZ nm w k3 = naF nm w (k3 - s).toNat s), (k3 - s).toNat < nK → V E (wC D cy aa ad) 5 m 3 [(0, .ref (aa 3)), (1, .long (lz (v))), (3, .int (iz (k3))), (4, .int (iz (s)))] [] := by
    intro nK
    induction nK with
    | zero => intro s  hs hz hn; exact absurd hn (Nat.not_lt_zero _)
    | succ nK ih3 =>
      intro s  hs hz hn3
      refine v_iload C 3 dX5_nameAt_3 rfl ?_
      refine v_iload_n C 2 dX5_nameAt_5 rfl ?_
      refine v_icmp_ge (tgt := 40) C dX5_nameAt_6 (by decide) (by omega) (by omega) (fun c1 => ?_) (fun c1 => ?_)
      · refine v_iconst (z := -1) C dX5_nameAt_40 rfl ?_
        refine v_iret C X rfl dX5_nameAt_41 ⟨_, rfl, ?_, ?_⟩
        · rw [hz, naZ_end (by omega)]
        · rfl
      · refine v_iload C 3 dX5_nameAt_9 rfl ?_
        refine v_aload_n C 0 dX5_nameAt_11 rfl ?_
        refine v_get C 3 1 lC3 (eC3 _) rfl inX5 (by decide) rfl qw131 dX5_nameAt_12 ?_
        refine v_alen C 4 1 lC4 (eC4 _) rfl dX5_nameAt_15 ?_
        refine v_st (st1 := [.int (iz (3)), .int (iz (s))]) rfl ?_
        refine v_icmp_ge (tgt := 40) C dX5_nameAt_16 (by decide) (by omega) (by omega) (fun c2 => ?_) (fun c2 => ?_)
        · exfalso; omega
        · refine v_aload_n C 0 dX5_nameAt_19 rfl ?_
          refine v_get C 3 1 lC3 (eC3 _) rfl inX5 (by decide) rfl qw131 dX5_nameAt_20 ?_
          refine v_iload C 3 dX5_nameAt_23 rfl ?_
          refine v_lald C 4 lC4 (eC4 _) (by decide) (by omega) dX5_nameAt_25 ?_
          refine v_lload_n C 1 dX5_nameAt_26 rfl ?_
          have es := hnm s hs.1 (by omega)
          have os := hno s hs.1 (by omega)
          have osr := os.r27
          refine v_lc_ne (tgt := 34) C dX5_nameAt_27 dX5_nameAt_28 (by decide) (by first | (rw [es]; omega) | omega) (by first | (rw [es]; omega) | omega) (fun c3 => ?_) (fun c3 => ?_)
          · have hne : ¬ nm s = w := fun y => c3 (es.trans (by rw [y, hv]))
            refine v_iinc (L1 := [(4, .int (iz (s + 1))), (0, .ref (aa 3)), (1, .long (lz (v))), (3, .int (iz (k3)))]) C 3 dX5_nameAt_34 rfl (by decide) rfl ?_
            refine v_goto (tgt := 3) C dX5_nameAt_37 (by decide) ?_
            refine v_sub [1, 2, 3, 0] rfl ?_
            exact ih3 (s + 1)  (by omega) (by rw [hz, naZ_go (by omega) hs.1, if_neg hne]) (by omega)
          · have hye : nm s = w := en_eq os hw (es.symm.trans (c3.trans hv))
            refine v_iload C 3 dX5_nameAt_31 rfl ?_
            refine v_iret C X rfl dX5_nameAt_33 ⟨_, rfl, ?_, ?_⟩
            · rw [hz, naZ_go (by omega) hs.1, if_pos hye]
            · rfl
  refine v_sub [1, 2, 3, 0] rfl ?_
  exact K3 _ (0)  (by omega) (by show naF nm w k3.toNat 0 = naF nm w (k3 - 0).toNat 0; rw [show k3 - 0 = k3 by omega]) (Nat.lt_succ_self _)

set_option maxHeartbeats 4000000 in
set_option maxRecDepth 100000 in
theorem ct_Reader_gradeOf {lau : Launch} {D : va_G} {cy : Nat → ClassId} {aa ad : Nat → Nat} (hI : wI (wC D cy aa ad)) (m : Mem) (w : List Int) (v : Int) (hv : v = enZ 27 96 w) (hw : wdOk w) (hrd : RdOk m) : MT lau (wC D cy aa ad) yX5_gradeOf cX5_gradeOf 3 (some .int) ({ frames := 0, cells := 0, slots := 0, locals := 0 } : Room) m [.ref (aa 3), .long (lz (v))] (Pi (fun z m' => grZ w = z ∧ m = m')) := by
  refine v_entry hI RX5 (by decide) rfl (Nat.le_of_ble_eq_true rfl) (fun E hE C X => ?_)
  subst hE
  show V E (wC D cy aa ad) 3 m 0 [(0, .ref (aa 3)), (1, .long (lz (v)))] []
  have hwr := hw.r27
  have r1 := wd_solid.r27
  have r2 := wd_oil.r27
  have r3 := wd_gas.r27
  refine v_lload_n C 1 dX5_gradeOf_0 rfl ?_
  refine v_aload_n C 0 dX5_gradeOf_1 rfl ?_
  refine v_get C 3 5 lC3 (eC3 _) rfl inX5 (by decide) rfl qw135 dX5_gradeOf_2 ?_
  refine v_lc_ne (tgt := 11) C dX5_gradeOf_5 dX5_gradeOf_6 (by decide) (by first | (rw [hrd.2.2.2.1]; omega) | omega) (by first | (rw [hrd.2.2.2.1]; omega) | omega) (fun c1 => ?_) (fun c1 => ?_)
  · have hnsolid : ¬ w = wdC w_solid := fun y => c1 (by rw [hv, y, hrd.2.2.2.1])
    refine v_lload_n C 1 dX5_gradeOf_11 rfl ?_
    refine v_aload_n C 0 dX5_gradeOf_12 rfl ?_
    refine v_get C 3 6 lC3 (eC3 _) rfl inX5 (by decide) rfl qw136 dX5_gradeOf_13 ?_
    refine v_lc_ne (tgt := 22) C dX5_gradeOf_16 dX5_gradeOf_17 (by decide) (by first | (rw [hrd.2.2.2.2.1]; omega) | omega) (by first | (rw [hrd.2.2.2.2.1]; omega) | omega) (fun c2 => ?_) (fun c2 => ?_)
    · have hnoil : ¬ w = wdC w_oil := fun y => c2 (by rw [hv, y, hrd.2.2.2.2.1])
      refine v_lload_n C 1 dX5_gradeOf_22 rfl ?_
      refine v_aload_n C 0 dX5_gradeOf_23 rfl ?_
      refine v_get C 3 7 lC3 (eC3 _) rfl inX5 (by decide) rfl qw137 dX5_gradeOf_24 ?_
      refine v_lc_ne (tgt := 35) C dX5_gradeOf_27 dX5_gradeOf_28 (by decide) (by first | (rw [hrd.2.2.2.2.2]; omega) | omega) (by first | (rw [hrd.2.2.2.2.2]; omega) | omega) (fun c3 => ?_) (fun c3 => ?_)
      · have hngas : ¬ w = wdC w_gas := fun y => c3 (by rw [hv, y, hrd.2.2.2.2.2])
        refine v_iconst (z := 0) C dX5_gradeOf_35 rfl ?_
        refine v_iret C X rfl dX5_gradeOf_36 ⟨_, rfl, ?_, ?_⟩
        · unfold grZ
          first
            | (rw [if_pos hysolid])
            | (rw [if_neg hnsolid, if_pos hyoil])
            | (rw [if_neg hnsolid, if_neg hnoil, if_pos hygas])
            | (rw [if_neg hnsolid, if_neg hnoil, if_neg hngas])
        · rfl
      · have hygas : w = wdC w_gas := en_eq hw wd_gas (hv.symm.trans (c3.trans hrd.2.2.2.2.2))
        refine v_iconst (z := 4) C dX5_gradeOf_31 rfl ?_
        refine v_goto (tgt := 36) C dX5_gradeOf_32 (by decide) ?_
        refine v_iret C X rfl dX5_gradeOf_36 ⟨_, rfl, ?_, ?_⟩
        · unfold grZ
          first
            | (rw [if_pos hysolid])
            | (rw [if_neg hnsolid, if_pos hyoil])
            | (rw [if_neg hnsolid, if_neg hnoil, if_pos hygas])
            | (rw [if_neg hnsolid, if_neg hnoil, if_neg hngas])
        · rfl
    · have hyoil : w = wdC w_oil := en_eq hw wd_oil (hv.symm.trans (c2.trans hrd.2.2.2.2.1))
      refine v_iconst (z := 3) C dX5_gradeOf_20 rfl ?_
      refine v_iret C X rfl dX5_gradeOf_21 ⟨_, rfl, ?_, ?_⟩
      · unfold grZ
        first
          | (rw [if_pos hysolid])
          | (rw [if_neg hnsolid, if_pos hyoil])
          | (rw [if_neg hnsolid, if_neg hnoil, if_pos hygas])
          | (rw [if_neg hnsolid, if_neg hnoil, if_neg hngas])
      · rfl
  · have hysolid : w = wdC w_solid := en_eq hw wd_solid (hv.symm.trans (c1.trans hrd.2.2.2.1))
    refine v_iconst (z := 2) C dX5_gradeOf_9 rfl ?_
    refine v_iret C X rfl dX5_gradeOf_10 ⟨_, rfl, ?_, ?_⟩
    · unfold grZ
      first
        | (rw [if_pos hysolid])
        | (rw [if_neg hnsolid, if_pos hyoil])
        | (rw [if_neg hnsolid, if_neg hnoil, if_pos hygas])
        | (rw [if_neg hnsolid, if_neg hnoil, if_neg hngas])
    · rfl
