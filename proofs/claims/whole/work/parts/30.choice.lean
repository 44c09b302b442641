/-- in THE BOX; a cell that counts for a power; the best of them -/
def inB (lo hi : Int → Int) (c : Int) : Prop := ∀ s : Int, 0 ≤ s → s < 3 → lo s ≤ unZ c s ∧ unZ c s ≤ hi s
def caB (g lo hi : Int → Int) (k c : Int) : Prop := 0 ≤ g c ∧ inB lo hi c ∧ k ≤ g c % 64
def beB (g lo hi : Int → Int) (k n z : Int) : Prop := (z = -1 ∧ ∀ c : Int, 0 ≤ c → c < n → ¬ caB g lo hi k c) ∨ (0 ≤ z ∧ z < n ∧ caB g lo hi k z ∧ ∀ c : Int, 0 ≤ c → c < n → caB g lo hi k c → g z / 64 < g c / 64 ∨ (g z / 64 = g c / 64 ∧ z ≤ c))
def woM (fa : Int → Int) (n : Int) (U : Int → Int) : Prop := ∀ s : Int, 0 ≤ s → s < 3 → U s ≤ (if s < n then fa (s * 9 + 3) else 0)
set_option maxHeartbeats 4000000 in
set_option maxRecDepth 100000 in
theorem ct_Choice_cellCount {lau : Launch} {D : va_G} {cy : Nat → ClassId} {aa ad : Nat → Nat} (hI : wI (wC D cy aa ad)) (m : Mem)   : MT lau (wC D cy aa ad) yX1_cellCount cX1_cellCount 1 (some .int) ({ frames := 0, cells := 0, slots := 0, locals := 0 } : Room) m [.ref (aa 8)] (Pi (fun z m' => 4913 = z ∧ m = m')) := by
  refine v_entry hI RX1 (by decide) rfl (Nat.le_of_ble_eq_true rfl) (fun E hE C X => ?_)
  subst hE
  show V E (wC D cy aa ad) 1 m 0 [(0, .ref (aa 8))] []
  refine v_aload_n C 0 dX1_cellCount_0 rfl ?_
  refine v_get C 8 0 lC8 (eC8 _) rfl inX1 (by decide) rfl qw251 dX1_cellCount_1 ?_
  refine v_alen C 9 0 lC9 (eC9 _) rfl dX1_cellCount_4 ?_
  refine v_st (st1 := [.int (iz (4913))]) rfl ?_
  refine v_iret C X rfl dX1_cellCount_5 ⟨_, rfl, ?_, ?_⟩
  · rfl
  · rfl

set_option maxHeartbeats 4000000 in
set_option maxRecDepth 100000 in
theorem ct_Choice_forget {lau : Launch} {D : va_G} {cy : Nat → ClassId} {aa ad : Nat → Nat} (hI : wI (wC D cy aa ad)) (m : Mem)   : MT lau (wC D cy aa ad) yX1_forget cX1_forget 1 (none) ({ frames := 0, cells := 0, slots := 0, locals := 0 } : Room) m [.ref (aa 8)] (Pv (fun m' => mup m 8 5 0 = m')) := by
  refine v_entry hI RX1 (by decide) rfl (Nat.le_of_ble_eq_true rfl) (fun E hE C X => ?_)
  subst hE
  show V E (wC D cy aa ad) 1 m 0 [(0, .ref (aa 8))] []
  refine v_aload_n C 0 dX1_forget_0 rfl ?_
  refine v_iconst (z := 0) C dX1_forget_1 rfl ?_
  refine v_put C 8 5 (0) 5 rfl lC8 (eC8 _) rfl inX1 tyX1 tyX1_ok nmX1 (by decide) qw256 rfl rfl rfl (Nat.le_of_ble_eq_true rfl) (by rw [mup_r]; exact (eC8 _)) dX1_forget_2 (fun m1 em1 => ?_)
  refine v_vret C X dX1_forget_5 ⟨rfl, ?_⟩
  exact em1.symm

set_option maxHeartbeats 4000000 in
set_option maxRecDepth 100000 in
theorem ct_Choice_bound {lau : Launch} {D : va_G} {cy : Nat → ClassId} {aa ad : Nat → Nat} (hI : wI (wC D cy aa ad)) (m : Mem) (s a b : Int) (hs : 0 ≤ s ∧ s ≤ 2) : MT lau (wC D cy aa ad) yX1_bound cX1_bound 4 (none) ({ frames := 1, cells := 0, slots := 0, locals := 22 } : Room) m [.ref (aa 8), .int (iz (s)), .int (iz (a)), .int (iz (b))] (Pv (fun m' => mup (mup m 10 s a) 11 s b = m')) := by
  refine v_entry hI RX1 (by decide) rfl (Nat.le_of_ble_eq_true rfl) (fun E hE C X => ?_)
  subst hE
  show V E (wC D cy aa ad) 4 m 0 [(0, .ref (aa 8)), (1, .int (iz (s))), (2, .int (iz (a))), (3, .int (iz (b)))] []
  refine v_aload_n C 0 dX1_bound_0 rfl ?_
  refine v_get C 8 1 lC8 (eC8 _) rfl inX1 (by decide) rfl qw252 dX1_bound_1 ?_
  refine v_iload_n C 1 dX1_bound_4 rfl ?_
  refine v_iload_n C 2 dX1_bound_5 rfl ?_
  refine v_callSN (st := []) (n := 3) C [.ref (aa 10), .int (iz (s)), .int (iz (a))] (ct_StageRatios_put C.2.2.2.2.2.2.1 m (10) (3) (s) (a) ⟨lC10, by decide, eC10⟩ (by first | assumption | omega)) qw494 qw1 "StageRatios" (by decide +kernel) rfl rfl ⟨Nat.le_of_ble_eq_true rfl, Nat.le_of_ble_eq_true rfl⟩ (by decide +kernel) qw493 rfl rfl (Nat.le_of_ble_eq_true rfl) dX1_bound_6 (fun r m1 hq1 => ?_)
  obtain ⟨rfl, hq1⟩ := hq1
  show V E (wC D cy aa ad) 4 m1 9 [(0, .ref (aa 8)), (1, .int (iz (s))), (2, .int (iz (a))), (3, .int (iz (b)))] []
  refine v_aload_n C 0 dX1_bound_9 rfl ?_
  refine v_get C 8 2 lC8 (eC8 _) rfl inX1 (by decide) rfl qw253 dX1_bound_10 ?_
  refine v_iload_n C 1 dX1_bound_13 rfl ?_
  refine v_iload_n C 3 dX1_bound_14 rfl ?_
  refine v_callSN (st := []) (n := 3) C [.ref (aa 11), .int (iz (s)), .int (iz (b))] (ct_StageRatios_put C.2.2.2.2.2.2.1 m1 (11) (3) (s) (b) ⟨lC11, by decide, eC11⟩ (by first | assumption | omega)) qw494 qw1 "StageRatios" (by decide +kernel) rfl rfl ⟨Nat.le_of_ble_eq_true rfl, Nat.le_of_ble_eq_true rfl⟩ (by decide +kernel) qw493 rfl rfl (Nat.le_of_ble_eq_true rfl) dX1_bound_15 (fun r m2 hq2 => ?_)
  obtain ⟨rfl, hq2⟩ := hq2
  show V E (wC D cy aa ad) 4 m2 18 [(0, .ref (aa 8)), (1, .int (iz (s))), (2, .int (iz (a))), (3, .int (iz (b)))] []
  refine v_vret C X dX1_bound_18 ⟨rfl, ?_⟩
  rw [← hq2, ← hq1]

set_option maxHeartbeats 4000000 in
set_option maxRecDepth 100000 in
theorem ct_Choice_isWithinMost {lau : Launch} {D : va_G} {cy : Nat → ClassId} {aa ad : Nat → Nat} (hI : wI (wC D cy aa ad)) (m : Mem) (k kf ks kt kc : Nat) (wo wu wt we : Nat) (hk : RocketAt k kf ks kt kc) (hw : WeightsAt wo wu wt we) (hn : 1 ≤ m k 5 ∧ m k 5 ≤ 3) (hF : FaOk (m kf) (m k 5)) (hu : ∀ j : Int, 0 ≤ j → j < 3 → 0 ≤ m wu j ∧ m wu j ≤ 17) : MT lau (wC D cy aa ad) yX1_isWithinMost cX1_isWithinMost 4 (some .boolean) ({ frames := 1, cells := 0, slots := 0, locals := 23 } : Room) m [.ref (aa k), .ref (aa wo)] (Pi (fun z m' => (1 = z ∧ (woM (m kf) (m k 5) (m wu)) ∧ m = m') ∨ (0 = z ∧ ¬ (woM (m kf) (m k 5) (m wu)) ∧ m = m'))) := by
  refine v_entry hI RX1 (by decide) rfl (Nat.le_of_ble_eq_true rfl) (fun E hE C X => ?_)
  subst hE
  show V E (wC D cy aa ad) 4 m 0 [(0, .ref (aa k)), (1, .ref (aa wo))] []
  refine v_iconst (z := 0) C dX1_isWithinMost_0 rfl ?_
  refine v_istore_n (L1 := [(2, .int (iz (0))), (0, .ref (aa k)), (1, .ref (aa wo))]) C dX1_isWithinMost_1 (by decide) rfl ?_
  have K2 : ∀ (nK : Nat) (i : Int) (hi : 0 ≤ i ∧ i ≤ 3) (ha : ∀ s : Int, 0 ≤ s → s < i → m wu s ≤ (if s < m k 5 then m kf (s * 9 + 3) else 0)), (3 - i).toNat < nK → V E (wC D cy aa ad) 4 m 2 [(0, .ref (aa k)), (1, .ref (aa wo)), (2, .int (iz (i)))] [] := by
    intro nK
    induction nK with
    | zero => intro i  hi ha hn; exact absurd hn (Nat.not_lt_zero _)
    | succ nK ih2 =>
      intro i  hi ha hn2
      refine v_iload_n C 2 dX1_isWithinMost_2 rfl ?_
      refine v_iconst (z := 3) C dX1_isWithinMost_3 rfl ?_
      refine v_icmp_ge (tgt := 46) C dX1_isWithinMost_4 (by decide) (by omega) (by omega) (fun c1 => ?_) (fun c1 => ?_)
      · refine v_iconst (z := 1) C dX1_isWithinMost_46 rfl ?_
        refine v_iret C X (by decide) dX1_isWithinMost_47 ⟨_, rfl, Or.inl ⟨rfl, ?_, ?_⟩⟩
        · exact fun s h0 h1 => ha s h0 (by omega)
        · rfl
      · have K25 : ∀ (mx : Int) (hmx : mx = if i < m k 5 then m kf (i * 9 + 3) else 0), V E (wC D cy aa ad) 4 m 25 [(0, .ref (aa k)), (1, .ref (aa wo)), (2, .int (iz (i)))] [.int (iz (mx))] := by
          intro mx  hmx
          have hui := hu i (by omega) (by omega)
          have hmr : 0 ≤ mx ∧ mx ≤ 16 := by
            rw [hmx]; split
            · have := hF i (by omega) (by omega); omega
            · omega
          refine v_istore_n (L1 := [(3, .int (iz (mx))), (0, .ref (aa k)), (1, .ref (aa wo)), (2, .int (iz (i)))]) C dX1_isWithinMost_25 (by decide) rfl ?_
          refine v_aload_n C 2 dX1_isWithinMost_26 rfl ?_
          refine v_get C wo 0 (WeightsAt.l0 hw) (WeightsAt.e0 hw _) rfl inX9 (by decide) rfl qw179 dX1_isWithinMost_27 ?_
          refine v_iload_n C 3 dX1_isWithinMost_30 rfl ?_
          refine v_callSN (st := []) (n := 2) C [.ref (aa wu), .int (iz (i))] (ct_StageRatios_at C.2.2.2.2.2.2.1 m (wu) (3) (i) ⟨(WeightsAt.l1 hw), by decide, (WeightsAt.e1 hw)⟩ (by first | assumption | omega)) qw618 qw1 "StageRatios" (by decide +kernel) rfl rfl ⟨Nat.le_of_ble_eq_true rfl, Nat.le_of_ble_eq_true rfl⟩ (by decide +kernel) qw617 rfl rfl (Nat.le_of_ble_eq_true rfl) dX1_isWithinMost_31 (fun r m2 hq2 => ?_)
          obtain ⟨z2, rfl, rfl, rfl⟩ := hq2
          show V E (wC D cy aa ad) 4 m 34 [(3, .int (iz (mx))), (0, .ref (aa k)), (1, .ref (aa wo)), (2, .int (iz (i)))] [.int (iz (m wu i))]
          refine v_iload_n C 0 dX1_isWithinMost_34 rfl ?_
          refine v_icmp_le (tgt := 40) C dX1_isWithinMost_35 (by decide) (by omega) (by omega) (fun c3 => ?_) (fun c3 => ?_)
          · refine v_iinc (L1 := [(2, .int (iz (i + 1))), (3, .int (iz (mx))), (0, .ref (aa k)), (1, .ref (aa wo))]) C 3 dX1_isWithinMost_40 rfl (by decide) rfl ?_
            refine v_goto (tgt := 2) C dX1_isWithinMost_43 (by decide) ?_
            refine v_sub [2, 3, 0] rfl ?_
            exact ih2 (i + 1)  (by first | assumption | omega) (by 
                            intro s h0 h1
                            by_cases e : s = i
                            · subst e; rw [← hmx]; omega
                            · exact ha s h0 (by omega)
                          ) (by omega)
          · refine v_iconst (z := 0) C dX1_isWithinMost_38 rfl ?_
            refine v_iret C X (by decide) dX1_isWithinMost_39 ⟨_, rfl, Or.inr ⟨rfl, ?_, ?_⟩⟩
            · intro h; have z := h i (by omega) (by omega); rw [← hmx] at z; omega
            · rfl
        refine v_iload_n C 2 dX1_isWithinMost_7 rfl ?_
        refine v_aload_n C 0 dX1_isWithinMost_8 rfl ?_
        refine v_get C k 5 (RocketAt.l0 hk) (RocketAt.e0 hk _) rfl inX6 (by decide) rfl qw388 dX1_isWithinMost_9 ?_
        refine v_icmp_ge (tgt := 24) C dX1_isWithinMost_12 (by decide) (by omega) (by omega) (fun c4 => ?_) (fun c4 => ?_)
        · refine v_iconst (z := 0) C dX1_isWithinMost_24 rfl ?_
          refine v_sub [0, 1, 2] rfl ?_
          exact K25  (0)  (by first | rw [if_pos (by omega)] | rw [if_neg (by omega)])
        · refine v_aload_n C 0 dX1_isWithinMost_15 rfl ?_
          refine v_iload_n C 2 dX1_isWithinMost_16 rfl ?_
          refine v_iconst (z := 3) C dX1_isWithinMost_17 rfl ?_
          refine v_callV (st := []) (n := 2) (q := k) C [.int (iz (i)), .int (iz (3))] (ct_Rocket_fact C.2.2.2.2.2.2.1 m (k) (kf) (ks) (kt) (kc) (i) (3) hk (by first | assumption | omega) (by first | assumption | omega)) (RocketAt.l0 hk) (RocketAt.e0 hk _) rfl qw590 qw15 qw836 rfl rfl ⟨Nat.le_of_ble_eq_true rfl, Nat.le_of_ble_eq_true rfl⟩ (by decide +kernel) qw588 qw589 rfl rfl (Nat.le_of_ble_eq_true rfl) dX1_isWithinMost_18 (fun r m5 hq5 => ?_)
          obtain ⟨z5, rfl, rfl, rfl⟩ := hq5
          show V E (wC D cy aa ad) 4 m 21 [(0, .ref (aa k)), (1, .ref (aa wo)), (2, .int (iz (i)))] [.int (iz (m kf (i * 9 + 3)))]
          refine v_goto (tgt := 25) C dX1_isWithinMost_21 (by decide) ?_
          refine v_sub [0, 1, 2] rfl ?_
          exact K25  (m kf (i * 9 + 3))  (by first | rw [if_pos (by omega)] | rw [if_neg (by omega)])
  refine v_sub [1, 2, 0] rfl ?_
  exact K2 _ (0)  (by first | assumption | omega) (by intro s h0 h1; omega) (Nat.lt_succ_self _)

set_option maxHeartbeats 4000000 in
set_option maxRecDepth 100000 in
theorem ct_Choice_isInside {lau : Launch} {D : va_G} {cy : Nat → ClassId} {aa ad : Nat → Nat} (hI : wI (wC D cy aa ad)) (m : Mem) (c : Int) (hc : 0 ≤ c ∧ c < 4913) (hlh : ∀ j : Int, 0 ≤ j → j < 3 → (0 ≤ m 10 j ∧ m 10 j ≤ 16) ∧ (0 ≤ m 11 j ∧ m 11 j ≤ 16)) : MT lau (wC D cy aa ad) yX1_isInside cX1_isInside 4 (some .boolean) ({ frames := 1, cells := 0, slots := 0, locals := 21 } : Room) m [.ref (aa 8), .int (iz (c))] (Pi (fun z m' => (1 = z ∧ (inB (m 10) (m 11) c) ∧ m = m') ∨ (0 = z ∧ ¬ (inB (m 10) (m 11) c) ∧ m = m'))) := by
  refine v_entry hI RX1 (by decide) rfl (Nat.le_of_ble_eq_true rfl) (fun E hE C X => ?_)
  subst hE
  show V E (wC D cy aa ad) 4 m 0 [(0, .ref (aa 8)), (1, .int (iz (c)))] []
  refine v_iconst (z := 0) C dX1_isInside_0 rfl ?_
  refine v_istore_n (L1 := [(2, .int (iz (0))), (0, .ref (aa 8)), (1, .int (iz (c)))]) C dX1_isInside_1 (by decide) rfl ?_
  have K2 : ∀ (nK : Nat) (i : Int) (hi : 0 ≤ i ∧ i ≤ 3) (ha : ∀ s : Int, 0 ≤ s → s < i → m 10 s ≤ unZ c s ∧ unZ c s ≤ m 11 s), (3 - i).toNat < nK → V E (wC D cy aa ad) 4 m 2 [(0, .ref (aa 8)), (1, .int (iz (c))), (2, .int (iz (i)))] [] := by
    intro nK
    induction nK with
    | zero => intro i  hi ha hn; exact absurd hn (Nat.not_lt_zero _)
    | succ nK ih2 =>
      intro i  hi ha hn2
      refine v_iload_n C 2 dX1_isInside_2 rfl ?_
      refine v_iconst (z := 3) C dX1_isInside_3 rfl ?_
      refine v_icmp_ge (tgt := 45) C dX1_isInside_4 (by decide) (by omega) (by omega) (fun c1 => ?_) (fun c1 => ?_)
      · refine v_iconst (z := 1) C dX1_isInside_45 rfl ?_
        refine v_iret C X (by decide) dX1_isInside_46 ⟨_, rfl, Or.inl ⟨rfl, ?_, ?_⟩⟩
        · exact fun s h0 h1 => ha s h0 (by omega)
        · rfl
      · have hui := unZ_rng (s := i) hc.1 hc.2
        have hbx := hlh i (by omega) (by omega)
        refine v_iload_n C 1 dX1_isInside_7 rfl ?_
        refine v_iload_n C 2 dX1_isInside_8 rfl ?_
        refine v_callS (st := []) (n := 2) C [.int (iz (c)), .int (iz (i))] (ct_Choice_unitsOf C.2.2.2.2.2.2.1 m (c) (i) (by first | assumption | omega) (by first | assumption | omega)) qw832 qw12 qw857 rfl rfl ⟨Nat.le_of_ble_eq_true rfl, Nat.le_of_ble_eq_true rfl⟩ (by decide +kernel) qw831 rfl rfl (Nat.le_of_ble_eq_true rfl) dX1_isInside_9 (fun r m2 hq2 => ?_)
        obtain ⟨z2, rfl, rfl, rfl⟩ := hq2
        show V E (wC D cy aa ad) 4 m 12 [(0, .ref (aa 8)), (1, .int (iz (c))), (2, .int (iz (i)))] [.int (iz (unZ c i))]
        refine v_istore_n (L1 := [(3, .int (iz (unZ c i))), (0, .ref (aa 8)), (1, .int (iz (c))), (2, .int (iz (i)))]) C dX1_isInside_12 (by decide) rfl ?_
        refine v_iload_n C 0 dX1_isInside_13 rfl ?_
        refine v_aload_n C 1 dX1_isInside_14 rfl ?_
        refine v_get C 8 1 lC8 (eC8 _) rfl inX1 (by decide) rfl qw252 dX1_isInside_15 ?_
        refine v_iload_n C 3 dX1_isInside_18 rfl ?_
        refine v_callSN (st := [.int (iz (unZ c i))]) (n := 2) C [.ref (aa 10), .int (iz (i))] (ct_StageRatios_at C.2.2.2.2.2.2.1 m (10) (3) (i) ⟨lC10, by decide, eC10⟩ (by first | assumption | omega)) qw618 qw1 "StageRatios" (by decide +kernel) rfl rfl ⟨Nat.le_of_ble_eq_true rfl, Nat.le_of_ble_eq_true rfl⟩ (by decide +kernel) qw617 rfl rfl (Nat.le_of_ble_eq_true rfl) dX1_isInside_19 (fun r m3 hq3 => ?_)
        obtain ⟨z3, rfl, rfl, rfl⟩ := hq3
        show V E (wC D cy aa ad) 4 m 22 [(3, .int (iz (unZ c i))), (0, .ref (aa 8)), (1, .int (iz (c))), (2, .int (iz (i)))] [.int (iz (m 10 i)), .int (iz (unZ c i))]
        refine v_icmp_lt (tgt := 37) C dX1_isInside_22 (by decide) (by omega) (by omega) (fun c4 => ?_) (fun c4 => ?_)
        · refine v_iconst (z := 0) C dX1_isInside_37 rfl ?_
          refine v_iret C X (by decide) dX1_isInside_38 ⟨_, rfl, Or.inr ⟨rfl, ?_, ?_⟩⟩
          · intro h; have z := h i (by omega) (by omega); omega
          · rfl
        · refine v_iload_n C 0 dX1_isInside_25 rfl ?_
          refine v_aload_n C 1 dX1_isInside_26 rfl ?_
          refine v_get C 8 2 lC8 (eC8 _) rfl inX1 (by decide) rfl qw253 dX1_isInside_27 ?_
          refine v_iload_n C 3 dX1_isInside_30 rfl ?_
          refine v_callSN (st := [.int (iz (unZ c i))]) (n := 2) C [.ref (aa 11), .int (iz (i))] (ct_StageRatios_at C.2.2.2.2.2.2.1 m (11) (3) (i) ⟨lC11, by decide, eC11⟩ (by first | assumption | omega)) qw618 qw1 "StageRatios" (by decide +kernel) rfl rfl ⟨Nat.le_of_ble_eq_true rfl, Nat.le_of_ble_eq_true rfl⟩ (by decide +kernel) qw617 rfl rfl (Nat.le_of_ble_eq_true rfl) dX1_isInside_31 (fun r m5 hq5 => ?_)
          obtain ⟨z5, rfl, rfl, rfl⟩ := hq5
          show V E (wC D cy aa ad) 4 m 34 [(3, .int (iz (unZ c i))), (0, .ref (aa 8)), (1, .int (iz (c))), (2, .int (iz (i)))] [.int (iz (m 11 i)), .int (iz (unZ c i))]
          refine v_icmp_le (tgt := 39) C dX1_isInside_34 (by decide) (by omega) (by omega) (fun c6 => ?_) (fun c6 => ?_)
          · refine v_iinc (L1 := [(2, .int (iz (i + 1))), (3, .int (iz (unZ c i))), (0, .ref (aa 8)), (1, .int (iz (c)))]) C 3 dX1_isInside_39 rfl (by decide) rfl ?_
            refine v_goto (tgt := 2) C dX1_isInside_42 (by decide) ?_
            refine v_sub [2, 3, 0] rfl ?_
            exact ih2 (i + 1)  (by first | assumption | omega) (by 
                            intro s h0 h1
                            by_cases e : s = i
                            · subst e; omega
                            · exact ha s h0 (by omega)
                          ) (by omega)
          · refine v_iconst (z := 0) C dX1_isInside_37 rfl ?_
            refine v_iret C X (by decide) dX1_isInside_38 ⟨_, rfl, Or.inr ⟨rfl, ?_, ?_⟩⟩
            · intro h; have z := h i (by omega) (by omega); omega
            · rfl
  refine v_sub [1, 2, 0] rfl ?_
  exact K2 _ (0)  (by first | assumption | omega) (by intro s h0 h1; omega) (Nat.lt_succ_self _)

set_option maxHeartbeats 4000000 in
set_option maxRecDepth 100000 in
theorem ct_Choice_counts {lau : Launch} {D : va_G} {cy : Nat → ClassId} {aa ad : Nat → Nat} (hI : wI (wC D cy aa ad)) (m : Mem) (c : Int) (hc : 0 ≤ c ∧ c < 4913) (hlh : ∀ j : Int, 0 ≤ j → j < 3 → (0 ≤ m 10 j ∧ m 10 j ≤ 16) ∧ (0 ≤ m 11 j ∧ m 11 j ≤ 16)) (hce : ∀ c : Int, 0 ≤ c → c < 4913 → -1 ≤ m 9 c ∧ m 9 c ≤ 30000) : MT lau (wC D cy aa ad) yX1_counts cX1_counts 2 (some .boolean) ({ frames := 2, cells := 0, slots := 0, locals := 44 } : Room) m [.ref (aa 8), .int (iz (c))] (Pi (fun z m' => (1 = z ∧ (0 ≤ m 9 c ∧ inB (m 10) (m 11) c) ∧ m = m') ∨ (0 = z ∧ ¬ (0 ≤ m 9 c ∧ inB (m 10) (m 11) c) ∧ m = m'))) := by
  refine v_entry hI RX1 (by decide) rfl (Nat.le_of_ble_eq_true rfl) (fun E hE C X => ?_)
  subst hE
  show V E (wC D cy aa ad) 2 m 0 [(0, .ref (aa 8)), (1, .int (iz (c)))] []
  have hcc := hce c hc.1 hc.2
  refine v_aload_n C 0 dX1_counts_0 rfl ?_
  refine v_get C 8 0 lC8 (eC8 _) rfl inX1 (by decide) rfl qw251 dX1_counts_1 ?_
  refine v_iload_n C 1 dX1_counts_4 rfl ?_
  refine v_callSN (st := []) (n := 2) C [.ref (aa 9), .int (iz (c))] (ct_StageRatios_at C.2.2.2.2.2.2.1 m (9) (4913) (c) ⟨lC9, by decide, eC9⟩ (by first | assumption | omega)) qw618 qw1 "StageRatios" (by decide +kernel) rfl rfl ⟨Nat.le_of_ble_eq_true rfl, Nat.le_of_ble_eq_true rfl⟩ (by decide +kernel) qw617 rfl rfl (Nat.le_of_ble_eq_true rfl) dX1_counts_5 (fun r m1 hq1 => ?_)
  obtain ⟨z1, rfl, rfl, rfl⟩ := hq1
  show V E (wC D cy aa ad) 2 m 8 [(0, .ref (aa 8)), (1, .int (iz (c)))] [.int (iz (m 9 c))]
  refine v_if_lt (tgt := 23) C dX1_counts_8 (by decide) (by omega) (fun c2 => ?_) (fun c2 => ?_)
  · refine v_iconst (z := 0) C dX1_counts_23 rfl ?_
    refine v_iret C X (by decide) dX1_counts_24 ⟨_, rfl, Or.inr ⟨rfl, ?_, ?_⟩⟩
    · first
        | exact ⟨by omega, NO_q13⟩
        | exact fun h => NO_q13 h.2
        | (intro h; omega)
    · rfl
  · refine v_aload_n C 0 dX1_counts_11 rfl ?_
    refine v_iload_n C 1 dX1_counts_12 rfl ?_
    refine v_callV (st := []) (n := 1) (q := 8) C [.int (iz (c))] (ct_Choice_isInside C.2.2.2.2.2.2.1 m (c) (by first | assumption | omega) (by exact hlh)) lC8 (eC8 _) rfl qw856 qw12 qw853 rfl rfl ⟨Nat.le_of_ble_eq_true rfl, Nat.le_of_ble_eq_true rfl⟩ (by decide +kernel) qw855 qp26 rfl rfl (Nat.le_of_ble_eq_true rfl) dX1_counts_13 (fun r m3 hq3 => ?_)
    obtain ⟨z3, rfl, ⟨rfl, hq3, rfl⟩ | ⟨rfl, hq3, rfl⟩⟩ := hq3
    · show V E (wC D cy aa ad) 2 m 16 [(0, .ref (aa 8)), (1, .int (iz (c)))] [.int (iz (1))]
      refine v_if_eq (tgt := 23) C dX1_counts_16 (by decide) (by omega) (fun c4 => by exact absurd c4 (by decide)) (fun c4 => ?_)
      refine v_iconst (z := 1) C dX1_counts_19 rfl ?_
      refine v_goto (tgt := 24) C dX1_counts_20 (by decide) ?_
      refine v_iret C X (by decide) dX1_counts_24 ⟨_, rfl, Or.inl ⟨rfl, ?_, ?_⟩⟩
      · first
          | exact ⟨by omega, hq3⟩
          | exact fun h => hq3 h.2
          | (intro h; omega)
      · rfl
    · show V E (wC D cy aa ad) 2 m 16 [(0, .ref (aa 8)), (1, .int (iz (c)))] [.int (iz (0))]
      refine v_if_eq (tgt := 23) C dX1_counts_16 (by decide) (by omega) (fun c5 => ?_) (fun c5 => by exact absurd c5 (by decide))
      refine v_iconst (z := 0) C dX1_counts_23 rfl ?_
      refine v_iret C X (by decide) dX1_counts_24 ⟨_, rfl, Or.inr ⟨rfl, ?_, ?_⟩⟩
      · first
          | exact ⟨by omega, hq3⟩
          | exact fun h => hq3 h.2
          | (intro h; omega)
      · rfl

set_option maxHeartbeats 4000000 in
set_option maxRecDepth 100000 in
theorem ct_Choice_weightOf {lau : Launch} {D : va_G} {cy : Nat → ClassId} {aa ad : Nat → Nat} (hI : wI (wC D cy aa ad)) (m : Mem) (c : Int) (hc : 0 ≤ c ∧ c < 4913) (hg : 0 ≤ m 9 c ∧ m 9 c ≤ 30000) : MT lau (wC D cy aa ad) yX1_weightOf cX1_weightOf 2 (some .int) ({ frames := 1, cells := 0, slots := 0, locals := 21 } : Room) m [.ref (aa 8), .int (iz (c))] (Pi (fun z m' => m 9 c / 64 = z ∧ m = m')) := by
  refine v_entry hI RX1 (by decide) rfl (Nat.le_of_ble_eq_true rfl) (fun E hE C X => ?_)
  subst hE
  show V E (wC D cy aa ad) 2 m 0 [(0, .ref (aa 8)), (1, .int (iz (c)))] []
  refine v_aload_n C 0 dX1_weightOf_0 rfl ?_
  refine v_get C 8 0 lC8 (eC8 _) rfl inX1 (by decide) rfl qw251 dX1_weightOf_1 ?_
  refine v_iload_n C 1 dX1_weightOf_4 rfl ?_
  refine v_callSN (st := []) (n := 2) C [.ref (aa 9), .int (iz (c))] (ct_StageRatios_at C.2.2.2.2.2.2.1 m (9) (4913) (c) ⟨lC9, by decide, eC9⟩ (by first | assumption | omega)) qw618 qw1 "StageRatios" (by decide +kernel) rfl rfl ⟨Nat.le_of_ble_eq_true rfl, Nat.le_of_ble_eq_true rfl⟩ (by decide +kernel) qw617 rfl rfl (Nat.le_of_ble_eq_true rfl) dX1_weightOf_5 (fun r m1 hq1 => ?_)
  obtain ⟨z1, rfl, rfl, rfl⟩ := hq1
  show V E (wC D cy aa ad) 2 m 8 [(0, .ref (aa 8)), (1, .int (iz (c)))] [.int (iz (m 9 c))]
  refine v_bipush (z := 64) C dX1_weightOf_8 (by decide) ?_
  refine v_idiv C (by omega) (by omega) dX1_weightOf_10 ?_
  refine v_iret C X rfl dX1_weightOf_11 ⟨_, rfl, ?_, ?_⟩
  · rfl
  · rfl

set_option maxHeartbeats 4000000 in
set_option maxRecDepth 100000 in
theorem ct_Choice_powerOf {lau : Launch} {D : va_G} {cy : Nat → ClassId} {aa ad : Nat → Nat} (hI : wI (wC D cy aa ad)) (m : Mem) (c : Int) (hc : 0 ≤ c ∧ c < 4913) (hg : 0 ≤ m 9 c ∧ m 9 c ≤ 30000) : MT lau (wC D cy aa ad) yX1_powerOf cX1_powerOf 2 (some .int) ({ frames := 1, cells := 0, slots := 0, locals := 21 } : Room) m [.ref (aa 8), .int (iz (c))] (Pi (fun z m' => m 9 c % 64 = z ∧ m = m')) := by
  refine v_entry hI RX1 (by decide) rfl (Nat.le_of_ble_eq_true rfl) (fun E hE C X => ?_)
  subst hE
  show V E (wC D cy aa ad) 2 m 0 [(0, .ref (aa 8)), (1, .int (iz (c)))] []
  refine v_aload_n C 0 dX1_powerOf_0 rfl ?_
  refine v_get C 8 0 lC8 (eC8 _) rfl inX1 (by decide) rfl qw251 dX1_powerOf_1 ?_
  refine v_iload_n C 1 dX1_powerOf_4 rfl ?_
  refine v_callSN (st := []) (n := 2) C [.ref (aa 9), .int (iz (c))] (ct_StageRatios_at C.2.2.2.2.2.2.1 m (9) (4913) (c) ⟨lC9, by decide, eC9⟩ (by first | assumption | omega)) qw618 qw1 "StageRatios" (by decide +kernel) rfl rfl ⟨Nat.le_of_ble_eq_true rfl, Nat.le_of_ble_eq_true rfl⟩ (by decide +kernel) qw617 rfl rfl (Nat.le_of_ble_eq_true rfl) dX1_powerOf_5 (fun r m1 hq1 => ?_)
  obtain ⟨z1, rfl, rfl, rfl⟩ := hq1
  show V E (wC D cy aa ad) 2 m 8 [(0, .ref (aa 8)), (1, .int (iz (c)))] [.int (iz (m 9 c))]
  refine v_bipush (z := 64) C dX1_powerOf_8 (by decide) ?_
  refine v_irem C (by omega) (by omega) dX1_powerOf_10 ?_
  refine v_iret C X rfl dX1_powerOf_11 ⟨_, rfl, ?_, ?_⟩
  · rfl
  · rfl
