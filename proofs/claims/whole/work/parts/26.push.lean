def mnA (g : Int → Int) : Nat → Int
  | 0 => -2
  | n + 1 => if mnA g n < 1 then (n : Int) + 1 else if g n < g (mnA g n - 1) then (n : Int) + 1 else mnA g n
theorem mnA_rng (g : Int → Int) (n : Nat) : (n = 0 → mnA g n = -2) ∧ (0 < n → 1 ≤ mnA g n ∧ mnA g n ≤ n) := by
  induction n with
  | zero => exact ⟨fun _ => rfl, fun h => absurd h (Nat.lt_irrefl _)⟩
  | succ n ih =>
    refine ⟨fun h => absurd h (Nat.succ_ne_zero _), fun _ => ?_⟩
    show 1 ≤ ite _ _ _ ∧ ite _ _ _ ≤ _
    by_cases h0 : n = 0
    · subst h0; rw [ih.1 rfl, if_pos (by omega)]; omega
    · have := ih.2 (by omega)
      split
      · omega
      · split <;> omega
set_option maxHeartbeats 4000000 in
set_option maxRecDepth 100000 in
theorem ct_Flight_firstOfLeastPush {lau : Launch} {D : va_G} {cy : Nat → ClassId} {aa ad : Nat → Nat} (hI : wI (wC D cy aa ad)) (m : Mem) (f fs ft fa fb fr fp ro rb rp rr : Nat) (hfl : FlightAt f fs ft fa fb fr fp ro rb rp rr) (ht : 0 ≤ m f 7 ∧ m f 7 ≤ 51) (hp : ∀ i : Int, 0 ≤ i → i < m f 7 → -2147483648 ≤ m fp i ∧ m fp i ≤ 2147483647) : MT lau (wC D cy aa ad) yX2_firstOfLeastPush cX2_firstOfLeastPush 3 (some .int) ({ frames := 1, cells := 0, slots := 0, locals := 21 } : Room) m [.ref (aa f)] (Pi (fun z m' => mnA (m fp) (m f 7).toNat = z ∧ m = m')) := by
  refine v_entry hI RX2 (by decide) rfl (Nat.le_of_ble_eq_true rfl) (fun E hE C X => ?_)
  subst hE
  show V E (wC D cy aa ad) 3 m 0 [(0, .ref (aa f))] []
  refine v_bipush (z := -2) C dX2_firstOfLeastPush_0 (by decide) ?_
  refine v_istore_n (L1 := [(1, .int (iz (-2))), (0, .ref (aa f))]) C dX2_firstOfLeastPush_2 (by decide) rfl ?_
  refine v_iconst (z := 0) C dX2_firstOfLeastPush_3 rfl ?_
  refine v_istore_n (L1 := [(2, .int (iz (0))), (1, .int (iz (-2))), (0, .ref (aa f))]) C dX2_firstOfLeastPush_4 (by decide) rfl ?_
  have K5 : ∀ (nK : Nat) (b : Int) (i : Int) (hi : 0 ≤ i ∧ i ≤ m f 7) (hb : b = mnA (m fp) i.toNat), (m f 7 - i).toNat < nK → V E (wC D cy aa ad) 3 m 5 [(0, .ref (aa f)), (1, .int (iz (b))), (2, .int (iz (i)))] [] := by
    intro nK
    induction nK with
    | zero => intro b i  hi hb hn; exact absurd hn (Nat.not_lt_zero _)
    | succ nK ih5 =>
      intro b i  hi hb hn5
      have hr := mnA_rng (m fp) i.toNat
      have hbr : (i = 0 ∧ b = -2) ∨ (1 ≤ b ∧ b ≤ i) := by
        rw [hb]
        by_cases z : i.toNat = 0
        · exact Or.inl ⟨by omega, hr.1 z⟩
        · have := hr.2 (by omega); exact Or.inr (by omega)
      refine v_iload_n C 2 dX2_firstOfLeastPush_5 rfl ?_
      refine v_aload_n C 0 dX2_firstOfLeastPush_6 rfl ?_
      refine v_get C f 7 (FlightAt.l0 hfl) (FlightAt.e0 hfl _) rfl inX2 (by decide) rfl qw332 dX2_firstOfLeastPush_7 ?_
      refine v_icmp_ge (tgt := 49) C dX2_firstOfLeastPush_10 (by decide) (by omega) (by omega) (fun c1 => ?_) (fun c1 => ?_)
      · refine v_iload_n C 1 dX2_firstOfLeastPush_49 rfl ?_
        refine v_iret C X rfl dX2_firstOfLeastPush_50 ⟨_, rfl, ?_, ?_⟩
        · rw [hb, show i = m f 7 by omega]
        · rfl
      · refine v_iload_n C 1 dX2_firstOfLeastPush_13 rfl ?_
        refine v_iconst (z := 1) C dX2_firstOfLeastPush_14 rfl ?_
        refine v_icmp_lt (tgt := 39) C dX2_firstOfLeastPush_15 (by decide) (by omega) (by omega) (fun c2 => ?_) (fun c2 => ?_)
        · refine v_iload_n C 2 dX2_firstOfLeastPush_39 rfl ?_
          refine v_iconst (z := 1) C dX2_firstOfLeastPush_40 rfl ?_
          refine v_iadd C dX2_firstOfLeastPush_41 ?_
          refine v_istore_n (L1 := [(1, .int (iz (i + 1))), (0, .ref (aa f)), (2, .int (iz (i)))]) C dX2_firstOfLeastPush_42 (by decide) rfl ?_
          refine v_iinc (L1 := [(2, .int (iz (i + 1))), (1, .int (iz (i + 1))), (0, .ref (aa f))]) C 2 dX2_firstOfLeastPush_43 rfl (by decide) rfl ?_
          refine v_goto (tgt := 5) C dX2_firstOfLeastPush_46 (by decide) ?_
          refine v_sub [2, 1, 0] rfl ?_
          exact ih5 (i + 1) (i + 1)  (by first | assumption | omega) (by 
                        rw [show (i + 1).toNat = i.toNat + 1 by omega]; show _ = ite _ _ _
                        rw [← hb, show ((i.toNat : Nat) : Int) = i by omega]
                        first
                          | rw [if_pos (by omega)]
                          | rw [if_neg (by omega), if_pos (by assumption)]
                          | rw [if_neg (by omega), if_neg (by omega)]
                      ) (by omega)
        · refine v_aload_n C 0 dX2_firstOfLeastPush_18 rfl ?_
          refine v_get C f 5 (FlightAt.l0 hfl) (FlightAt.e0 hfl _) rfl inX2 (by decide) rfl qw328 dX2_firstOfLeastPush_19 ?_
          refine v_iload_n C 2 dX2_firstOfLeastPush_22 rfl ?_
          refine v_callSN (st := []) (n := 2) C [.ref (aa fp), .int (iz (i))] (ct_StageRatios_at C.2.2.2.2.2.2.1 m (fp) (51) (i) ⟨(FlightAt.l6 hfl), by decide, (FlightAt.e6 hfl)⟩ (by show 0 ≤ i ∧ i < ((51 : Nat) : Int); omega)) qw618 qw1 "StageRatios" (by decide +kernel) rfl rfl ⟨Nat.le_of_ble_eq_true rfl, Nat.le_of_ble_eq_true rfl⟩ (by decide +kernel) qw617 rfl rfl (Nat.le_of_ble_eq_true rfl) dX2_firstOfLeastPush_23 (fun r m3 hq3 => ?_)
          obtain ⟨z3, rfl, rfl, rfl⟩ := hq3
          show V E (wC D cy aa ad) 3 m 26 [(0, .ref (aa f)), (1, .int (iz (b))), (2, .int (iz (i)))] [.int (iz (m fp i))]
          refine v_aload_n C 0 dX2_firstOfLeastPush_26 rfl ?_
          refine v_get C f 5 (FlightAt.l0 hfl) (FlightAt.e0 hfl _) rfl inX2 (by decide) rfl qw328 dX2_firstOfLeastPush_27 ?_
          refine v_iload_n C 1 dX2_firstOfLeastPush_30 rfl ?_
          refine v_iconst (z := 1) C dX2_firstOfLeastPush_31 rfl ?_
          refine v_isub C dX2_firstOfLeastPush_32 ?_
          refine v_callSN (st := [.int (iz (m fp i))]) (n := 2) C [.ref (aa fp), .int (iz (b - 1))] (ct_StageRatios_at C.2.2.2.2.2.2.1 m (fp) (51) (b - 1) ⟨(FlightAt.l6 hfl), by decide, (FlightAt.e6 hfl)⟩ (by show 0 ≤ b - 1 ∧ b - 1 < ((51 : Nat) : Int); omega)) qw618 qw1 "StageRatios" (by decide +kernel) rfl rfl ⟨Nat.le_of_ble_eq_true rfl, Nat.le_of_ble_eq_true rfl⟩ (by decide +kernel) qw617 rfl rfl (Nat.le_of_ble_eq_true rfl) dX2_firstOfLeastPush_33 (fun r m4 hq4 => ?_)
          obtain ⟨z4, rfl, rfl, rfl⟩ := hq4
          show V E (wC D cy aa ad) 3 m 36 [(0, .ref (aa f)), (1, .int (iz (b))), (2, .int (iz (i)))] [.int (iz (m fp (b - 1))), .int (iz (m fp i))]
          have p1 := hp i (by omega) (by omega)
          have p2 := hp (b - 1) (by omega) (by omega)
          refine v_icmp_ge (tgt := 43) C dX2_firstOfLeastPush_36 (by decide) (by omega) (by omega) (fun c5 => ?_) (fun c5 => ?_)
          · refine v_iinc (L1 := [(2, .int (iz (i + 1))), (0, .ref (aa f)), (1, .int (iz (b)))]) C 2 dX2_firstOfLeastPush_43 rfl (by decide) rfl ?_
            refine v_goto (tgt := 5) C dX2_firstOfLeastPush_46 (by decide) ?_
            refine v_sub [1, 2, 0] rfl ?_
            exact ih5 (b) (i + 1)  (by first | assumption | omega) (by 
                            rw [show (i + 1).toNat = i.toNat + 1 by omega]; show _ = ite _ _ _
                            rw [← hb, show ((i.toNat : Nat) : Int) = i by omega]
                            first
                              | rw [if_pos (by omega)]
                              | rw [if_neg (by omega), if_pos (by assumption)]
                              | rw [if_neg (by omega), if_neg (by omega)]
                          ) (by omega)
          · refine v_iload_n C 2 dX2_firstOfLeastPush_39 rfl ?_
            refine v_iconst (z := 1) C dX2_firstOfLeastPush_40 rfl ?_
            refine v_iadd C dX2_firstOfLeastPush_41 ?_
            refine v_istore_n (L1 := [(1, .int (iz (i + 1))), (0, .ref (aa f)), (2, .int (iz (i)))]) C dX2_firstOfLeastPush_42 (by decide) rfl ?_
            refine v_iinc (L1 := [(2, .int (iz (i + 1))), (1, .int (iz (i + 1))), (0, .ref (aa f))]) C 2 dX2_firstOfLeastPush_43 rfl (by decide) rfl ?_
            refine v_goto (tgt := 5) C dX2_firstOfLeastPush_46 (by decide) ?_
            refine v_sub [2, 1, 0] rfl ?_
            exact ih5 (i + 1) (i + 1)  (by first | assumption | omega) (by 
                            rw [show (i + 1).toNat = i.toNat + 1 by omega]; show _ = ite _ _ _
                            rw [← hb, show ((i.toNat : Nat) : Int) = i by omega]
                            first
                              | rw [if_pos (by omega)]
                              | rw [if_neg (by omega), if_pos (by assumption)]
                              | rw [if_neg (by omega), if_neg (by omega)]
                          ) (by omega)
  refine v_sub [2, 1, 0] rfl ?_
  exact K5 _ (-2) (0)  (by first | assumption | omega) (by rfl) (Nat.lt_succ_self _)

set_option maxHeartbeats 4000000 in
set_option maxRecDepth 100000 in
theorem ct_Flight_leastPush {lau : Launch} {D : va_G} {cy : Nat → ClassId} {aa ad : Nat → Nat} (hI : wI (wC D cy aa ad)) (m : Mem) (f fs ft fa fb fr fp ro rb rp rr : Nat) (hfl : FlightAt f fs ft fa fb fr fp ro rb rp rr) (ht : 0 ≤ m f 7 ∧ m f 7 ≤ 51) (hp : ∀ i : Int, 0 ≤ i → i < m f 7 → -2147483648 ≤ m fp i ∧ m fp i ≤ 2147483647) : MT lau (wC D cy aa ad) yX2_leastPush cX2_leastPush 2 (some .int) ({ frames := 2, cells := 0, slots := 0, locals := 43 } : Room) m [.ref (aa f)] (Pi (fun z m' => (if mnA (m fp) (m f 7).toNat < 1 then -2 else m fp (mnA (m fp) (m f 7).toNat - 1)) = z ∧ m = m')) := by
  refine v_entry hI RX2 (by decide) rfl (Nat.le_of_ble_eq_true rfl) (fun E hE C X => ?_)
  subst hE
  show V E (wC D cy aa ad) 2 m 0 [(0, .ref (aa f))] []
  have hr := mnA_rng (m fp) (m f 7).toNat
  have hbr : mnA (m fp) (m f 7).toNat = -2 ∨ (1 ≤ mnA (m fp) (m f 7).toNat ∧ mnA (m fp) (m f 7).toNat ≤ m f 7) := by
    by_cases z : (m f 7).toNat = 0
    · exact Or.inl (hr.1 z)
    · have := hr.2 (by omega); exact Or.inr (by omega)
  refine v_aload_n C 0 dX2_leastPush_0 rfl ?_
  refine v_callV (st := []) (n := 0) (q := f) C [] (ct_Flight_firstOfLeastPush C.2.2.2.2.2.2.1 m (f) (fs) (ft) (fa) (fb) (fr) (fp) (ro) (rb) (rp) (rr) hfl (by first | assumption | omega) (by first | assumption | omega)) (FlightAt.l0 hfl) (FlightAt.e0 hfl _) rfl qw991 qw14 qw988 rfl rfl ⟨Nat.le_of_ble_eq_true rfl, Nat.le_of_ble_eq_true rfl⟩ (by decide +kernel) qw989 qw990 rfl rfl (Nat.le_of_ble_eq_true rfl) dX2_leastPush_1 (fun r m1 hq1 => ?_)
  obtain ⟨z1, rfl, rfl, rfl⟩ := hq1
  show V E (wC D cy aa ad) 2 m 4 [(0, .ref (aa f))] [.int (iz (mnA (m fp) (m f 7).toNat))]
  refine v_istore_n (L1 := [(1, .int (iz (mnA (m fp) (m f 7).toNat))), (0, .ref (aa f))]) C dX2_leastPush_4 (by decide) rfl ?_
  refine v_iload_n C 0 dX2_leastPush_5 rfl ?_
  refine v_iconst (z := 1) C dX2_leastPush_6 rfl ?_
  refine v_icmp_ge (tgt := 15) C dX2_leastPush_7 (by decide) (by omega) (by omega) (fun c2 => ?_) (fun c2 => ?_)
  · refine v_aload_n C 1 dX2_leastPush_15 rfl ?_
    refine v_get C f 5 (FlightAt.l0 hfl) (FlightAt.e0 hfl _) rfl inX2 (by decide) rfl qw328 dX2_leastPush_16 ?_
    refine v_iload_n C 0 dX2_leastPush_19 rfl ?_
    refine v_iconst (z := 1) C dX2_leastPush_20 rfl ?_
    refine v_isub C dX2_leastPush_21 ?_
    refine v_callSN (st := []) (n := 2) C [.ref (aa fp), .int (iz ((mnA (m fp) (m f 7).toNat) - 1))] (ct_StageRatios_at C.2.2.2.2.2.2.1 m (fp) (51) ((mnA (m fp) (m f 7).toNat) - 1) ⟨(FlightAt.l6 hfl), by decide, (FlightAt.e6 hfl)⟩ (by show 0 ≤ mnA (m fp) (m f 7).toNat - 1 ∧ mnA (m fp) (m f 7).toNat - 1 < ((51 : Nat) : Int); omega)) qw618 qw1 "StageRatios" (by decide +kernel) rfl rfl ⟨Nat.le_of_ble_eq_true rfl, Nat.le_of_ble_eq_true rfl⟩ (by decide +kernel) qw617 rfl rfl (Nat.le_of_ble_eq_true rfl) dX2_leastPush_22 (fun r m3 hq3 => ?_)
    obtain ⟨z3, rfl, rfl, rfl⟩ := hq3
    show V E (wC D cy aa ad) 2 m 25 [(1, .int (iz (mnA (m fp) (m f 7).toNat))), (0, .ref (aa f))] [.int (iz (m fp ((mnA (m fp) (m f 7).toNat) - 1)))]
    refine v_iret C X rfl dX2_leastPush_25 ⟨_, rfl, ?_, ?_⟩
    · first | rw [if_pos (by omega)] | rw [if_neg (by omega)]
    · rfl
  · refine v_bipush (z := -2) C dX2_leastPush_10 (by decide) ?_
    refine v_goto (tgt := 25) C dX2_leastPush_12 (by decide) ?_
    refine v_iret C X rfl dX2_leastPush_25 ⟨_, rfl, ?_, ?_⟩
    · first | rw [if_pos (by omega)] | rw [if_neg (by omega)]
    · rfl
