/-! the class: feed, rocket, and what it tells of itself -/
def fdZ (a b c d e k : Int) : Int := if k < 4 then byZ a k else if k < 8 then byZ b (k - 4) else if k < 12 then byZ c (k - 8) else if k < 16 then byZ d (k - 12) else byZ e (k - 16)
def fiX (fa R : Int → Int) (j : Int) : Int := if j = 0 then R 0 else if j = 1 then R 1 else if j < 5 then mstZ fa (R 5) (j - 2) else if j < 8 then 0 else mstZ fa (R 5) (j - 8)
theorem oAll_i {b : Int → Int} {n : Int} : ∀ (k : Nat) (σ : Sg) (p : Int) (σ' : Sg), oAll b n k σ p = .inr σ' → p ≤ n → SgOk σ → SgOk σ' ∧ 0 < σ'.h 5 := by
  intro k
  induction k with
  | zero => intro σ p σ' h; cases h
  | succ k ih =>
    intro σ p σ' h hp hs
    obtain ⟨x, h1, h2⟩ := bnd_i h
    have a := oLine_i h1 hp hs
    split at h2
    · split at h2
      · cases h2; rename_i c; exact ⟨a.2, c⟩
      · cases h2
    · split at h2
      · cases h2
      · have t := tk_rngP (b := b) a.1.2
        exact ih _ _ _ h2 t.2.2.2.1 a.2
theorem DrC.rk {m : Mem} {k kf ks kt kc : Nat} {σ : Sg} (h : DrC m k kf ks kt kc σ) (hs : SgOk σ) (h5 : 0 < σ.h 5) : RkIs m k kf ks kt kc := by
  obtain ⟨d1, d2, d3, d4, d5, d6, d7⟩ := h
  obtain ⟨s1, s2, s3, s4, s5, s6, s7, s8⟩ := hs
  have h7 : σ.h 7 = 1 := by rcases s1 with y | y; have := (s2 y).1; omega; exact y
  obtain ⟨e0, e1, e2, e3, e4⟩ := d4 h7
  obtain ⟨r0, r1, r2, r3, r4⟩ := s5 h7
  unfold RkIs
  rw [d2, d3, e0, e1, e2, e3, e4]
  refine ⟨by omega, fun s h0 h1 => ?_, r2, r3, r4, s4, fun i i0 i1 => ?_, r0, r1⟩
  · have g : ∀ w : Int, 0 ≤ w → w ≤ 8 → m kf (s * 9 + w) = σ.fa (s * 9 + w) := fun w w0 w8 => d5 _ (by omega) (by omega)
    rw [g 0 (by decide) (by decide), g 1 (by decide) (by decide), g 2 (by decide) (by decide), g 3 (by decide) (by decide), g 4 (by decide) (by decide), g 5 (by decide) (by decide), g 6 (by decide) (by decide), g 7 (by decide) (by decide), g 8 (by decide) (by decide)]
    exact s6 s h0 h1
  · have g := d7 i i0 i1
    rw [g.1, g.2.1, g.2.2]; exact s8 i i0 i1
theorem fiX_ok {fa R : Int → Int} (hF : FaOk fa (R 5)) (h0 : 1 ≤ R 0 ∧ R 0 ≤ 40) (h1 : 1 ≤ R 1 ∧ R 1 ≤ 12) : XOk fa (R 5) (fiX fa R) := by
  refine ⟨h0, h1, fun s a c => ?_⟩
  have e2 : fiX fa R (2 + s) = mstZ fa (R 5) s := by
    unfold fiX; rw [if_neg (by omega), if_neg (by omega), if_pos (by omega)]; congr 1; omega
  have e5 : fiX fa R (5 + s) = 0 := by
    unfold fiX; rw [if_neg (by omega), if_neg (by omega), if_neg (by omega), if_pos (by omega)]
  have e8 : fiX fa R (8 + s) = mstZ fa (R 5) s := by
    unfold fiX; rw [if_neg (by omega), if_neg (by omega), if_neg (by omega), if_neg (by omega)]; congr 1; omega
  rw [e2, e5, e8]
  have mr : 0 ≤ mstZ fa (R 5) s := by
    unfold mstZ; split
    · rename_i y; have := (hF s a y).2.2.2.1; omega
    · omega
  omega
theorem XOk.cg11 {fa : Int → Int} {n : Int} {X Y : Int → Int} (h : XOk fa n X) (e : ∀ j : Int, 0 ≤ j → j < 11 → Y j = X j) : XOk fa n Y := by
  obtain ⟨a, b, c⟩ := h
  refine ⟨by rw [e 0 (by decide) (by decide)]; exact a, by rw [e 1 (by decide) (by decide)]; exact b, fun s h0 h1 => ?_⟩
  rw [e (2 + s) (by omega) (by omega), e (5 + s) (by omega) (by omega), e (8 + s) (by omega) (by omega)]; exact c s h0 h1
set_option maxHeartbeats 4000000 in
set_option maxRecDepth 100000 in
theorem ct_StageRatios_feed {lau : Launch} {D : va_G} {cy : Nat → ClassId} {aa ad : Nat → Nat} (hI : wI (wC D cy aa ad)) (m : Mem) (a b c d e : Int) (hh : 0 ≤ m 1 1 ∧ m 1 1 ≤ 700) (ha : -2147483648 ≤ a ∧ a ≤ 2147483647) (hb : -2147483648 ≤ b ∧ b ≤ 2147483647) (hc : -2147483648 ≤ c ∧ c ≤ 2147483647) (hd : -2147483648 ≤ d ∧ d ≤ 2147483647) (he : -2147483648 ≤ e ∧ e ≤ 2147483647) : MT lau (wC D cy aa ad) yX10_feed cX10_feed 6 (some .int) ({ frames := 2, cells := 0, slots := 0, locals := 44 } : Room) m [.ref (aa 0), .int (iz (a)), .int (iz (b)), .int (iz (c)), .int (iz (d)), .int (iz (e))] (Pi (fun z m' => ((m 1 1 + 20 ≤ 700 ∧ z = m 1 1 + 20) ∨ (¬ m 1 1 + 20 ≤ 700 ∧ z = -1)) ∧ m' 1 1 = (if m 1 1 + 20 ≤ 700 then m 1 1 + 20 else m 1 1) ∧ (∀ j : Int, m' 2 j = if m 1 1 + 20 ≤ 700 ∧ m 1 1 ≤ j ∧ j < m 1 1 + 20 then fdZ a b c d e (j - m 1 1) else m 2 j) ∧ ∀ q, q ≠ 1 → q ≠ 2 → m' q = m q)) := by
  refine v_entry hI RX10 (by decide) rfl (Nat.le_of_ble_eq_true rfl) (fun E hE C X => ?_)
  subst hE
  show V E (wC D cy aa ad) 6 m 0 [(0, .ref (aa 0)), (1, .int (iz (a))), (2, .int (iz (b))), (3, .int (iz (c))), (4, .int (iz (d))), (5, .int (iz (e)))] []
  refine v_aload_n C 0 dX10_feed_0 rfl ?_
  refine v_get C 0 0 lC0 (eC0 _) rfl inX10 (by decide) rfl qw419 dX10_feed_1 ?_
  refine v_bipush (z := 20) C dX10_feed_4 (by decide) ?_
  refine v_callV (st := []) (n := 1) (q := 1) C [.int (iz (20))] (ct_Tape_hasRoom C.2.2.2.2.2.2.1 m (20) (by exact hh) (by decide)) lC1 (eC1 _) rfl qw487 qw2 qw484 rfl rfl ⟨Nat.le_of_ble_eq_true rfl, Nat.le_of_ble_eq_true rfl⟩ (by decide +kernel) qw485 qw486 rfl rfl (Nat.le_of_ble_eq_true rfl) dX10_feed_6 (fun r m1 hq1 => ?_)
  obtain ⟨z1, rfl, ⟨rfl, hq1, rfl⟩ | ⟨rfl, hq1, rfl⟩⟩ := hq1
  · show V E (wC D cy aa ad) 6 m 9 [(0, .ref (aa 0)), (1, .int (iz (a))), (2, .int (iz (b))), (3, .int (iz (c))), (4, .int (iz (d))), (5, .int (iz (e)))] [.int (iz (1))]
    refine v_if_ne (tgt := 14) C dX10_feed_9 (by decide) (by omega) (fun c2 => ?_) (fun c2 => by exact absurd c2 (by decide))
    refine v_aload_n C 0 dX10_feed_14 rfl ?_
    refine v_get C 0 0 lC0 (eC0 _) rfl inX10 (by decide) rfl qw419 dX10_feed_15 ?_
    refine v_iload_n C 1 dX10_feed_18 rfl ?_
    refine v_callV (st := []) (n := 1) (q := 1) C [.int (iz (a))] (ct_Tape_append C.2.2.2.2.2.2.1 m (a) (m 1 1) (by assumption) (by rfl) (by have := hq1; omega)) lC1 (eC1 _) rfl qw491 qw2 qw488 rfl rfl ⟨Nat.le_of_ble_eq_true rfl, Nat.le_of_ble_eq_true rfl⟩ (by decide +kernel) qw489 qw490 rfl rfl (Nat.le_of_ble_eq_true rfl) dX10_feed_19 (fun r m3 hq3 => ?_)
    obtain ⟨rfl, hq3⟩ := hq3
    show V E (wC D cy aa ad) 6 m3 22 [(0, .ref (aa 0)), (1, .int (iz (a))), (2, .int (iz (b))), (3, .int (iz (c))), (4, .int (iz (d))), (5, .int (iz (e)))] []
    refine v_aload_n C 0 dX10_feed_22 rfl ?_
    refine v_get C 0 0 lC0 (eC0 _) rfl inX10 (by decide) rfl qw419 dX10_feed_23 ?_
    refine v_iload_n C 2 dX10_feed_26 rfl ?_
    refine v_callV (st := []) (n := 1) (q := 1) C [.int (iz (b))] (ct_Tape_append C.2.2.2.2.2.2.1 m3 (b) (m 1 1 + 4) (by assumption) (by have := hq3.1; omega) (by have := hq1; omega)) lC1 (eC1 _) rfl qw491 qw2 qw488 rfl rfl ⟨Nat.le_of_ble_eq_true rfl, Nat.le_of_ble_eq_true rfl⟩ (by decide +kernel) qw489 qw490 rfl rfl (Nat.le_of_ble_eq_true rfl) dX10_feed_27 (fun r m4 hq4 => ?_)
    obtain ⟨rfl, hq4⟩ := hq4
    show V E (wC D cy aa ad) 6 m4 30 [(0, .ref (aa 0)), (1, .int (iz (a))), (2, .int (iz (b))), (3, .int (iz (c))), (4, .int (iz (d))), (5, .int (iz (e)))] []
    refine v_aload_n C 0 dX10_feed_30 rfl ?_
    refine v_get C 0 0 lC0 (eC0 _) rfl inX10 (by decide) rfl qw419 dX10_feed_31 ?_
    refine v_iload_n C 3 dX10_feed_34 rfl ?_
    refine v_callV (st := []) (n := 1) (q := 1) C [.int (iz (c))] (ct_Tape_append C.2.2.2.2.2.2.1 m4 (c) (m 1 1 + 8) (by assumption) (by have := hq4.1; omega) (by have := hq1; omega)) lC1 (eC1 _) rfl qw491 qw2 qw488 rfl rfl ⟨Nat.le_of_ble_eq_true rfl, Nat.le_of_ble_eq_true rfl⟩ (by decide +kernel) qw489 qw490 rfl rfl (Nat.le_of_ble_eq_true rfl) dX10_feed_35 (fun r m5 hq5 => ?_)
    obtain ⟨rfl, hq5⟩ := hq5
    show V E (wC D cy aa ad) 6 m5 38 [(0, .ref (aa 0)), (1, .int (iz (a))), (2, .int (iz (b))), (3, .int (iz (c))), (4, .int (iz (d))), (5, .int (iz (e)))] []
    refine v_aload_n C 0 dX10_feed_38 rfl ?_
    refine v_get C 0 0 lC0 (eC0 _) rfl inX10 (by decide) rfl qw419 dX10_feed_39 ?_
    refine v_iload C 4 dX10_feed_42 rfl ?_
    refine v_callV (st := []) (n := 1) (q := 1) C [.int (iz (d))] (ct_Tape_append C.2.2.2.2.2.2.1 m5 (d) (m 1 1 + 12) (by assumption) (by have := hq5.1; omega) (by have := hq1; omega)) lC1 (eC1 _) rfl qw491 qw2 qw488 rfl rfl ⟨Nat.le_of_ble_eq_true rfl, Nat.le_of_ble_eq_true rfl⟩ (by decide +kernel) qw489 qw490 rfl rfl (Nat.le_of_ble_eq_true rfl) dX10_feed_44 (fun r m6 hq6 => ?_)
    obtain ⟨rfl, hq6⟩ := hq6
    show V E (wC D cy aa ad) 6 m6 47 [(0, .ref (aa 0)), (1, .int (iz (a))), (2, .int (iz (b))), (3, .int (iz (c))), (4, .int (iz (d))), (5, .int (iz (e)))] []
    refine v_aload_n C 0 dX10_feed_47 rfl ?_
    refine v_get C 0 0 lC0 (eC0 _) rfl inX10 (by decide) rfl qw419 dX10_feed_48 ?_
    refine v_iload C 5 dX10_feed_51 rfl ?_
    refine v_callV (st := []) (n := 1) (q := 1) C [.int (iz (e))] (ct_Tape_append C.2.2.2.2.2.2.1 m6 (e) (m 1 1 + 16) (by assumption) (by have := hq6.1; omega) (by have := hq1; omega)) lC1 (eC1 _) rfl qw491 qw2 qw488 rfl rfl ⟨Nat.le_of_ble_eq_true rfl, Nat.le_of_ble_eq_true rfl⟩ (by decide +kernel) qw489 qw490 rfl rfl (Nat.le_of_ble_eq_true rfl) dX10_feed_53 (fun r m7 hq7 => ?_)
    obtain ⟨rfl, hq7⟩ := hq7
    show V E (wC D cy aa ad) 6 m7 56 [(0, .ref (aa 0)), (1, .int (iz (a))), (2, .int (iz (b))), (3, .int (iz (c))), (4, .int (iz (d))), (5, .int (iz (e)))] []
    refine v_aload_n C 0 dX10_feed_56 rfl ?_
    refine v_get C 0 0 lC0 (eC0 _) rfl inX10 (by decide) rfl qw419 dX10_feed_57 ?_
    refine v_get C 1 1 lC1 (eC1 _) rfl inX8 (by decide) rfl qw38 dX10_feed_60 ?_
    refine v_iret C X rfl dX10_feed_63 ⟨_, rfl, ?_, ?_⟩
    · exact Or.inl ⟨hq1, by have := hq7.1; omega⟩
    · obtain ⟨y1, -, y3, y4⟩ := hq3
      obtain ⟨u1, -, u3, u4⟩ := hq4
      obtain ⟨v1, -, v3, v4⟩ := hq5
      obtain ⟨w1, -, w3, w4⟩ := hq6
      obtain ⟨x1, -, x3, x4⟩ := hq7
      refine ⟨by rw [x1, if_pos hq1]; omega, fun j => ?_, fun q h1 h2 => by rw [x4 q h1 h2, w4 q h1 h2, v4 q h1 h2, u4 q h1 h2, y4 q h1 h2]⟩
      rw [x3, w3, v3, u3, y3]
      unfold fdZ
      by_cases o1 : m 1 1 + 16 ≤ j ∧ j < m 1 1 + 16 + 4
      · rw [if_pos o1, if_pos ⟨hq1, by omega⟩, if_neg (by omega), if_neg (by omega), if_neg (by omega), if_neg (by omega)]; congr 1; omega
      rw [if_neg o1]
      by_cases o2 : m 1 1 + 12 ≤ j ∧ j < m 1 1 + 12 + 4
      · rw [if_pos o2, if_pos ⟨hq1, by omega⟩, if_neg (by omega), if_neg (by omega), if_neg (by omega), if_pos (by omega)]; congr 1; omega
      rw [if_neg o2]
      by_cases o3 : m 1 1 + 8 ≤ j ∧ j < m 1 1 + 8 + 4
      · rw [if_pos o3, if_pos ⟨hq1, by omega⟩, if_neg (by omega), if_neg (by omega), if_pos (by omega)]; congr 1; omega
      rw [if_neg o3]
      by_cases o4 : m 1 1 + 4 ≤ j ∧ j < m 1 1 + 4 + 4
      · rw [if_pos o4, if_pos ⟨hq1, by omega⟩, if_neg (by omega), if_pos (by omega)]; congr 1; omega
      rw [if_neg o4]
      by_cases o5 : m 1 1 ≤ j ∧ j < m 1 1 + 4
      · rw [if_pos o5, if_pos ⟨hq1, by omega⟩, if_pos (by omega)]
      · rw [if_neg o5, if_neg (by omega)]
  · show V E (wC D cy aa ad) 6 m 9 [(0, .ref (aa 0)), (1, .int (iz (a))), (2, .int (iz (b))), (3, .int (iz (c))), (4, .int (iz (d))), (5, .int (iz (e)))] [.int (iz (0))]
    refine v_if_ne (tgt := 14) C dX10_feed_9 (by decide) (by omega) (fun c8 => by exact absurd c8 (by decide)) (fun c8 => ?_)
    refine v_iconst (z := -1) C dX10_feed_12 rfl ?_
    refine v_iret C X rfl dX10_feed_13 ⟨_, rfl, ?_, ?_⟩
    · exact Or.inr ⟨hq1, rfl⟩
    · exact ⟨by rw [if_neg hq1], fun j => by rw [if_neg (fun y => hq1 y.1)], fun _ _ _ => rfl⟩

set_option maxHeartbeats 4000000 in
set_option maxRecDepth 100000 in
theorem ct_StageRatios_fault {lau : Launch} {D : va_G} {cy : Nat → ClassId} {aa ad : Nat → Nat} (hI : wI (wC D cy aa ad)) (m : Mem)   : MT lau (wC D cy aa ad) yX10_fault cX10_fault 1 (some .int) ({ frames := 0, cells := 0, slots := 0, locals := 0 } : Room) m [.ref (aa 0)] (Pi (fun z m' => m 0 19 = z ∧ m = m')) := by
  refine v_entry hI RX10 (by decide) rfl (Nat.le_of_ble_eq_true rfl) (fun E hE C X => ?_)
  subst hE
  show V E (wC D cy aa ad) 1 m 0 [(0, .ref (aa 0))] []
  refine v_aload_n C 0 dX10_fault_0 rfl ?_
  refine v_get C 0 19 lC0 (eC0 _) rfl inX10 (by decide) rfl qw438 dX10_fault_1 ?_
  refine v_iret C X rfl dX10_fault_4 ⟨_, rfl, ?_, ?_⟩
  · rfl
  · rfl

set_option maxHeartbeats 4000000 in
set_option maxRecDepth 100000 in
theorem ct_StageRatios_trouble {lau : Launch} {D : va_G} {cy : Nat → ClassId} {aa ad : Nat → Nat} (hI : wI (wC D cy aa ad)) (m : Mem)   : MT lau (wC D cy aa ad) yX10_trouble cX10_trouble 1 (some .int) ({ frames := 0, cells := 0, slots := 0, locals := 0 } : Room) m [.ref (aa 0)] (Pi (fun z m' => m 0 18 = z ∧ m = m')) := by
  refine v_entry hI RX10 (by decide) rfl (Nat.le_of_ble_eq_true rfl) (fun E hE C X => ?_)
  subst hE
  show V E (wC D cy aa ad) 1 m 0 [(0, .ref (aa 0))] []
  refine v_aload_n C 0 dX10_trouble_0 rfl ?_
  refine v_get C 0 18 lC0 (eC0 _) rfl inX10 (by decide) rfl qw437 dX10_trouble_1 ?_
  refine v_iret C X rfl dX10_trouble_4 ⟨_, rfl, ?_, ?_⟩
  · rfl
  · rfl

set_option maxHeartbeats 4000000 in
set_option maxRecDepth 100000 in
theorem ct_StageRatios_where {lau : Launch} {D : va_G} {cy : Nat → ClassId} {aa ad : Nat → Nat} (hI : wI (wC D cy aa ad)) (m : Mem)  (ht : -1 ≤ m 0 18 ∧ m 0 18 ≤ 100) : MT lau (wC D cy aa ad) yX10_where cX10_where 1 (some .int) ({ frames := 0, cells := 0, slots := 0, locals := 0 } : Room) m [.ref (aa 0)] (Pi (fun z m' => (if m 0 18 = 4 then m 3 11 else -1) = z ∧ m = m')) := by
  refine v_entry hI RX10 (by decide) rfl (Nat.le_of_ble_eq_true rfl) (fun E hE C X => ?_)
  subst hE
  show V E (wC D cy aa ad) 1 m 0 [(0, .ref (aa 0))] []
  refine v_aload_n C 0 dX10_where_0 rfl ?_
  refine v_get C 0 18 lC0 (eC0 _) rfl inX10 (by decide) rfl qw437 dX10_where_1 ?_
  refine v_iconst (z := 4) C dX10_where_4 rfl ?_
  refine v_icmp_ne (tgt := 18) C dX10_where_5 (by decide) (by omega) (by omega) (fun c1 => ?_) (fun c1 => ?_)
  · refine v_iconst (z := -1) C dX10_where_18 rfl ?_
    refine v_iret C X rfl dX10_where_19 ⟨_, rfl, ?_, ?_⟩
    · first
        | (rw [if_pos (by omega)])
        | (rw [if_neg (by omega)])
    · rfl
  · refine v_aload_n C 0 dX10_where_8 rfl ?_
    refine v_get C 0 1 lC0 (eC0 _) rfl inX10 (by decide) rfl qw420 dX10_where_9 ?_
    refine v_get C 3 11 lC3 (eC3 _) rfl inX5 (by decide) rfl qw143 dX10_where_12 ?_
    refine v_goto (tgt := 19) C dX10_where_15 (by decide) ?_
    refine v_iret C X rfl dX10_where_19 ⟨_, rfl, ?_, ?_⟩
    · first
        | (rw [if_pos (by omega)])
        | (rw [if_neg (by omega)])
    · rfl

set_option maxHeartbeats 4000000 in
set_option maxRecDepth 100000 in
theorem ct_StageRatios_size {lau : Launch} {D : va_G} {cy : Nat → ClassId} {aa ad : Nat → Nat} (hI : wI (wC D cy aa ad)) (m : Mem) (w : Int) (hw : -2147483648 ≤ w ∧ w ≤ 2147483647) : MT lau (wC D cy aa ad) yX10_size cX10_size 2 (some .int) ({ frames := 0, cells := 0, slots := 0, locals := 0 } : Room) m [.ref (aa 0), .int (iz (w))] (Pi (fun z m' => (if w = 0 then m 1 1 else if w = 1 then m 0 16 else -1) = z ∧ m = m')) := by
  refine v_entry hI RX10 (by decide) rfl (Nat.le_of_ble_eq_true rfl) (fun E hE C X => ?_)
  subst hE
  show V E (wC D cy aa ad) 2 m 0 [(0, .ref (aa 0)), (1, .int (iz (w)))] []
  refine v_iload_n C 1 dX10_size_0 rfl ?_
  refine v_if_ne (tgt := 12) C dX10_size_1 (by decide) (by omega) (fun c1 => ?_) (fun c1 => ?_)
  · refine v_iload_n C 1 dX10_size_12 rfl ?_
    refine v_iconst (z := 1) C dX10_size_13 rfl ?_
    refine v_icmp_ne (tgt := 24) C dX10_size_14 (by decide) (by omega) (by omega) (fun c2 => ?_) (fun c2 => ?_)
    · refine v_iconst (z := -1) C dX10_size_24 rfl ?_
      refine v_iret C X rfl dX10_size_25 ⟨_, rfl, ?_, ?_⟩
      · first
          | (rw [if_pos (by omega)])
          | (rw [if_neg (by omega), if_pos (by omega)])
          | (rw [if_neg (by omega), if_neg (by omega)])
      · rfl
    · refine v_aload_n C 0 dX10_size_17 rfl ?_
      refine v_get C 0 16 lC0 (eC0 _) rfl inX10 (by decide) rfl qw435 dX10_size_18 ?_
      refine v_goto (tgt := 25) C dX10_size_21 (by decide) ?_
      refine v_iret C X rfl dX10_size_25 ⟨_, rfl, ?_, ?_⟩
      · first
          | (rw [if_pos (by omega)])
          | (rw [if_neg (by omega), if_pos (by omega)])
          | (rw [if_neg (by omega), if_neg (by omega)])
      · rfl
  · refine v_aload_n C 0 dX10_size_4 rfl ?_
    refine v_get C 0 0 lC0 (eC0 _) rfl inX10 (by decide) rfl qw419 dX10_size_5 ?_
    refine v_get C 1 1 lC1 (eC1 _) rfl inX8 (by decide) rfl qw38 dX10_size_8 ?_
    refine v_iret C X rfl dX10_size_11 ⟨_, rfl, ?_, ?_⟩
    · first
        | (rw [if_pos (by omega)])
        | (rw [if_neg (by omega), if_pos (by omega)])
        | (rw [if_neg (by omega), if_neg (by omega)])
    · rfl

set_option maxHeartbeats 4000000 in
set_option maxRecDepth 100000 in
theorem ct_StageRatios_layFirst {lau : Launch} {D : va_G} {cy : Nat → ClassId} {aa ad : Nat → Nat} (hI : wI (wC D cy aa ad)) (m : Mem) (k kf ks kt kc : Nat) (hk : RocketAt k kf ks kt kc) (hcu : m 0 13 = (k : Int)) (h5 : 1 ≤ m k 5 ∧ m k 5 ≤ 3) : MT lau (wC D cy aa ad) yX10_layFirst cX10_layFirst 3 (none) ({ frames := 1, cells := 0, slots := 0, locals := 23 } : Room) m [.ref (aa 0)] (Pv (fun m' => m' 0 17 = m 0 17 + 1 ∧ (∀ j : Int, j ≠ 17 → m' 0 j = m 0 j) ∧ (∀ j : Int, 0 ≤ j → j < 11 → m' 5 j = fiX (m kf) (m k) j) ∧ ∀ q, q ≠ 0 → q ≠ 5 → m' q = m q)) := by
  refine v_entry hI RX10 (by decide) rfl (Nat.le_of_ble_eq_true rfl) (fun E hE C X => ?_)
  subst hE
  show V E (wC D cy aa ad) 3 m 0 [(0, .ref (aa 0))] []
  have hkk : 73 ≤ k ∧ kf = k + 1 ∧ ks = k + 2 ∧ kt = k + 3 ∧ kc = k + 4 := by unfold RocketAt at hk; omega
  refine v_aload_n C 0 dX10_layFirst_0 rfl ?_
  refine v_dup C dX10_layFirst_1 rfl ?_
  refine v_get C 0 17 lC0 (eC0 _) rfl inX10 (by decide) rfl qw436 dX10_layFirst_2 ?_
  refine v_iconst (z := 1) C dX10_layFirst_5 rfl ?_
  refine v_iadd C dX10_layFirst_6 ?_
  refine v_put C 0 17 ((m 0 17) + 1) 17 rfl lC0 (eC0 _) rfl inX10 tyX10 tyX10_ok nmX10 (by decide) qw436 rfl rfl rfl (Nat.le_of_ble_eq_true rfl) (by rw [mup_r]; exact (eC0 _)) dX10_layFirst_7 (fun m1 em1 => ?_)
  have z7 : ∀ q, q ≠ 0 → m1 q = m q := fun q h => by rw [em1, mup_k _ _ _ h]
  have c7 : m1 0 13 = (k : Int) := by rw [em1, mup_j _ _ (by decide)]; exact hcu
  refine v_aload_n C 0 dX10_layFirst_10 rfl ?_
  refine v_get C 0 2 lC0 (eC0 _) rfl inX10 (by decide) rfl qw421 dX10_layFirst_11 ?_
  refine v_iconst (z := 0) C dX10_layFirst_14 rfl ?_
  refine v_aload_n C 0 dX10_layFirst_15 rfl ?_
  refine v_get C 0 13 lC0 (eC0 _) rfl inX10 (by decide) rfl qw432 dX10_layFirst_16 ?_
  refine v_st (st1 := [.ref (aa k), .int (iz (0)), .ref (aa 5)]) (by rw [show (m1 0 13).toNat = k from by omega]) ?_
  refine v_get C k 0 (RocketAt.l0 hk) (RocketAt.e0 hk _) rfl inX6 (by decide) rfl qw367 dX10_layFirst_19 ?_
  refine v_callS (st := []) (n := 3) C [.ref (aa 5), .int (iz (0)), .int (iz (m1 k 0))] (ct_StageRatios_put C.2.2.2.2.2.2.1 m1 (5) (11) (0) (m1 k 0) ⟨lC5, by decide, eC5⟩ (by first | assumption | omega)) qw494 qw1 qw635 rfl rfl ⟨Nat.le_of_ble_eq_true rfl, Nat.le_of_ble_eq_true rfl⟩ (by decide +kernel) qw493 rfl rfl (Nat.le_of_ble_eq_true rfl) dX10_layFirst_22 (fun r m2 hq2 => ?_)
  obtain ⟨rfl, hq2⟩ := hq2
  show V E (wC D cy aa ad) 3 m2 25 [(0, .ref (aa 0))] []
  have c22 : m2 0 13 = (k : Int) := by rw [← hq2, mup_k _ _ _ (by decide)]; exact c7
  refine v_aload_n C 0 dX10_layFirst_25 rfl ?_
  refine v_get C 0 2 lC0 (eC0 _) rfl inX10 (by decide) rfl qw421 dX10_layFirst_26 ?_
  refine v_iconst (z := 1) C dX10_layFirst_29 rfl ?_
  refine v_aload_n C 0 dX10_layFirst_30 rfl ?_
  refine v_get C 0 13 lC0 (eC0 _) rfl inX10 (by decide) rfl qw432 dX10_layFirst_31 ?_
  refine v_st (st1 := [.ref (aa k), .int (iz (1)), .ref (aa 5)]) (by rw [show (m2 0 13).toNat = k from by omega]) ?_
  refine v_get C k 1 (RocketAt.l0 hk) (RocketAt.e0 hk _) rfl inX6 (by decide) rfl qw370 dX10_layFirst_34 ?_
  refine v_callS (st := []) (n := 3) C [.ref (aa 5), .int (iz (1)), .int (iz (m2 k 1))] (ct_StageRatios_put C.2.2.2.2.2.2.1 m2 (5) (11) (1) (m2 k 1) ⟨lC5, by decide, eC5⟩ (by first | assumption | omega)) qw494 qw1 qw635 rfl rfl ⟨Nat.le_of_ble_eq_true rfl, Nat.le_of_ble_eq_true rfl⟩ (by decide +kernel) qw493 rfl rfl (Nat.le_of_ble_eq_true rfl) dX10_layFirst_37 (fun r m3 hq3 => ?_)
  obtain ⟨rfl, hq3⟩ := hq3
  show V E (wC D cy aa ad) 3 m3 40 [(0, .ref (aa 0))] []
  have z37 : ∀ q, q ≠ 0 → q ≠ 5 → m3 q = m q := fun q h h2 => by rw [← hq3, mup_k _ _ _ h2, ← hq2, mup_k _ _ _ h2]; exact z7 q h
  have z370 : m3 0 = m1 0 := by rw [← hq3, mup_k _ _ _ (by decide), ← hq2, mup_k _ _ _ (by decide)]
  have z375 : m3 5 0 = m k 0 ∧ m3 5 1 = m k 1 := by
    constructor
    · rw [← hq3, mup_j _ _ (by decide), ← hq2, mup_s, z7 k (by omega)]
    · rw [← hq3, mup_s, ← hq2, mup_k _ _ _ (by omega), z7 k (by omega)]
  refine v_iconst (z := 0) C dX10_layFirst_40 rfl ?_
  refine v_istore_n (L1 := [(1, .int (iz (0))), (0, .ref (aa 0))]) C dX10_layFirst_41 (by decide) rfl ?_
  have K42 : ∀ (nK : Nat) (s : Int) (mL : Mem) (hs : 0 ≤ s ∧ s ≤ 3) (h0 : mL 0 = m1 0) (hz : ∀ q, q ≠ 0 → q ≠ 5 → mL q = m q) (h50 : mL 5 0 = m k 0 ∧ mL 5 1 = m k 1) (hx : ∀ j : Int, 0 ≤ j → j < s → mL 5 (2 + j) = mstZ (m kf) (m k 5) j ∧ mL 5 (5 + j) = 0 ∧ mL 5 (8 + j) = mstZ (m kf) (m k 5) j), (3 - s).toNat < nK → V E (wC D cy aa ad) 3 mL 42 [(0, .ref (aa 0)), (1, .int (iz (s)))] [] := by
    intro nK
    induction nK with
    | zero => intro s mL hs h0 hz h50 hx hn; exact absurd hn (Nat.not_lt_zero _)
    | succ nK ih42 =>
      intro s mL hs h0 hz h50 hx hn42
      have eLk : mL k = m k := hz k (by omega) (by omega)
      have eLf : mL kf = m kf := hz kf (by omega) (by omega)
      have cL : mL 0 13 = (k : Int) := by rw [h0]; exact c7
      have eL5 : mL k 5 = m k 5 := by rw [eLk]
      refine v_iload_n C 1 dX10_layFirst_42 rfl ?_
      refine v_iconst (z := 3) C dX10_layFirst_43 rfl ?_
      refine v_icmp_ge (tgt := 112) C dX10_layFirst_44 (by decide) (by omega) (by omega) (fun c4 => ?_) (fun c4 => ?_)
      · refine v_vret C X dX10_layFirst_112 ⟨rfl, ?_⟩
        have hs3 : s = 3 := by omega
        subst hs3
        refine ⟨by rw [h0, em1, mup_s], fun j h => by rw [h0, em1, mup_j _ _ h], fun j a c => ?_, hz⟩
        unfold fiX
        by_cases e0 : j = 0
        · rw [if_pos e0, e0]; exact h50.1
        rw [if_neg e0]
        by_cases e1 : j = 1
        · rw [if_pos e1, e1]; exact h50.2
        rw [if_neg e1]
        by_cases e2 : j < 5
        · rw [if_pos e2, ← (hx (j - 2) (by omega) (by omega)).1]; congr 1; omega
        rw [if_neg e2]
        by_cases e3 : j < 8
        · rw [if_pos e3, ← (hx (j - 5) (by omega) (by omega)).2.1]; congr 1; omega
        rw [if_neg e3, ← (hx (j - 8) (by omega) (by omega)).2.2]; congr 1; omega
      · have K71 : ∀ (mo : Int) (hmo : mo = mstZ (m kf) (m k 5) s), V E (wC D cy aa ad) 3 mL 71 [(0, .ref (aa 0)), (1, .int (iz (s)))] [.int (iz (mo))] := by
          intro mo  hmo
          refine v_istore_n (L1 := [(2, .int (iz (mo))), (0, .ref (aa 0)), (1, .int (iz (s)))]) C dX10_layFirst_71 (by decide) rfl ?_
          refine v_aload_n C 1 dX10_layFirst_72 rfl ?_
          refine v_get C 0 2 lC0 (eC0 _) rfl inX10 (by decide) rfl qw421 dX10_layFirst_73 ?_
          refine v_iconst (z := 2) C dX10_layFirst_76 rfl ?_
          refine v_iload_n C 2 dX10_layFirst_77 rfl ?_
          refine v_iadd C dX10_layFirst_78 ?_
          refine v_iload_n C 0 dX10_layFirst_79 rfl ?_
          refine v_callS (st := []) (n := 3) C [.ref (aa 5), .int (iz (2 + s)), .int (iz (mo))] (ct_StageRatios_put C.2.2.2.2.2.2.1 mL (5) (11) (2 + s) (mo) ⟨lC5, by decide, eC5⟩ (by first | assumption | omega)) qw494 qw1 qw635 rfl rfl ⟨Nat.le_of_ble_eq_true rfl, Nat.le_of_ble_eq_true rfl⟩ (by decide +kernel) qw493 rfl rfl (Nat.le_of_ble_eq_true rfl) dX10_layFirst_80 (fun r m5 hq5 => ?_)
          obtain ⟨rfl, hq5⟩ := hq5
          show V E (wC D cy aa ad) 3 m5 83 [(2, .int (iz (mo))), (0, .ref (aa 0)), (1, .int (iz (s)))] []
          refine v_aload_n C 1 dX10_layFirst_83 rfl ?_
          refine v_get C 0 2 lC0 (eC0 _) rfl inX10 (by decide) rfl qw421 dX10_layFirst_84 ?_
          refine v_iconst (z := 5) C dX10_layFirst_87 rfl ?_
          refine v_iload_n C 2 dX10_layFirst_88 rfl ?_
          refine v_iadd C dX10_layFirst_89 ?_
          refine v_iconst (z := 0) C dX10_layFirst_90 rfl ?_
          refine v_callS (st := []) (n := 3) C [.ref (aa 5), .int (iz (5 + s)), .int (iz (0))] (ct_StageRatios_put C.2.2.2.2.2.2.1 m5 (5) (11) (5 + s) (0) ⟨lC5, by decide, eC5⟩ (by first | assumption | omega)) qw494 qw1 qw635 rfl rfl ⟨Nat.le_of_ble_eq_true rfl, Nat.le_of_ble_eq_true rfl⟩ (by decide +kernel) qw493 rfl rfl (Nat.le_of_ble_eq_true rfl) dX10_layFirst_91 (fun r m6 hq6 => ?_)
          obtain ⟨rfl, hq6⟩ := hq6
          show V E (wC D cy aa ad) 3 m6 94 [(2, .int (iz (mo))), (0, .ref (aa 0)), (1, .int (iz (s)))] []
          refine v_aload_n C 1 dX10_layFirst_94 rfl ?_
          refine v_get C 0 2 lC0 (eC0 _) rfl inX10 (by decide) rfl qw421 dX10_layFirst_95 ?_
          refine v_bipush (z := 8) C dX10_layFirst_98 (by decide) ?_
          refine v_iload_n C 2 dX10_layFirst_100 rfl ?_
          refine v_iadd C dX10_layFirst_101 ?_
          refine v_iload_n C 0 dX10_layFirst_102 rfl ?_
          refine v_callS (st := []) (n := 3) C [.ref (aa 5), .int (iz (8 + s)), .int (iz (mo))] (ct_StageRatios_put C.2.2.2.2.2.2.1 m6 (5) (11) (8 + s) (mo) ⟨lC5, by decide, eC5⟩ (by first | assumption | omega)) qw494 qw1 qw635 rfl rfl ⟨Nat.le_of_ble_eq_true rfl, Nat.le_of_ble_eq_true rfl⟩ (by decide +kernel) qw493 rfl rfl (Nat.le_of_ble_eq_true rfl) dX10_layFirst_103 (fun r m7 hq7 => ?_)
          obtain ⟨rfl, hq7⟩ := hq7
          show V E (wC D cy aa ad) 3 m7 106 [(2, .int (iz (mo))), (0, .ref (aa 0)), (1, .int (iz (s)))] []
          refine v_iinc (L1 := [(1, .int (iz (s + 1))), (2, .int (iz (mo))), (0, .ref (aa 0))]) C 2 dX10_layFirst_106 rfl (by decide) rfl ?_
          refine v_goto (tgt := 42) C dX10_layFirst_109 (by decide) ?_
          refine v_sub [2, 0] rfl ?_
          exact ih42 (s + 1) m7 (by first | assumption | omega) (by rw [← hq7, mup_k _ _ _ (by decide), ← hq6, mup_k _ _ _ (by decide), ← hq5, mup_k _ _ _ (by decide)]; exact h0) (by intro q a c; rw [← hq7, mup_k _ _ _ c, ← hq6, mup_k _ _ _ c, ← hq5, mup_k _ _ _ c]; exact hz q a c) (by rw [← hq7, ← hq6, ← hq5, mup_j _ _ (by omega), mup_j _ _ (by omega), mup_j _ _ (by omega), mup_j _ _ (by omega), mup_j _ _ (by omega), mup_j _ _ (by omega)]; exact h50) (by 
                        intro j a c
                        by_cases e : j = s
                        · subst e
                          refine ⟨?_, ?_, ?_⟩
                          · rw [← hq7, mup_j _ _ (by omega), ← hq6, mup_j _ _ (by omega), ← hq5, mup_s]; exact hmo
                          · rw [← hq7, mup_j _ _ (by omega), ← hq6, mup_s]
                          · rw [← hq7, mup_s]; exact hmo
                        · rw [← hq7, ← hq6, ← hq5, mup_j _ _ (by omega), mup_j _ _ (by omega), mup_j _ _ (by omega), mup_j _ _ (by omega), mup_j _ _ (by omega), mup_j _ _ (by omega), mup_j _ _ (by omega), mup_j _ _ (by omega), mup_j _ _ (by omega)]; exact hx j a (by omega)
                      ) (by omega)
        refine v_iload_n C 1 dX10_layFirst_47 rfl ?_
        refine v_aload_n C 0 dX10_layFirst_48 rfl ?_
        refine v_get C 0 13 lC0 (eC0 _) rfl inX10 (by decide) rfl qw432 dX10_layFirst_49 ?_
        refine v_st (st1 := [.ref (aa k), .int (iz (s))]) (by rw [show (mL 0 13).toNat = k from by omega]) ?_
        refine v_get C k 5 (RocketAt.l0 hk) (RocketAt.e0 hk _) rfl inX6 (by decide) rfl qw387 dX10_layFirst_52 ?_
        refine v_icmp_ge (tgt := 70) C dX10_layFirst_55 (by decide) (by omega) (by omega) (fun c8 => ?_) (fun c8 => ?_)
        · refine v_iconst (z := 0) C dX10_layFirst_70 rfl ?_
          refine v_sub [0, 1] rfl ?_
          exact K71  (0)  (by 
                        unfold mstZ
                        first
                          | (rw [if_pos (by omega), eLf])
                          | (rw [if_neg (by omega)])
                      )
        · refine v_aload_n C 0 dX10_layFirst_58 rfl ?_
          refine v_get C 0 13 lC0 (eC0 _) rfl inX10 (by decide) rfl qw432 dX10_layFirst_59 ?_
          refine v_st (st1 := [.ref (aa k)]) (by rw [show (mL 0 13).toNat = k from by omega]) ?_
          refine v_iload_n C 1 dX10_layFirst_62 rfl ?_
          refine v_iconst (z := 3) C dX10_layFirst_63 rfl ?_
          refine v_callV (st := []) (n := 2) (q := k) C [.int (iz (s)), .int (iz (3))] (ct_Rocket_fact C.2.2.2.2.2.2.1 mL (k) (kf) (ks) (kt) (kc) (s) (3) hk (by rw [eLk] at *; omega) (by decide)) (RocketAt.l0 hk) (RocketAt.e0 hk _) rfl qw590 qw15 qw636 rfl rfl ⟨Nat.le_of_ble_eq_true rfl, Nat.le_of_ble_eq_true rfl⟩ (by decide +kernel) qw588 qw589 rfl rfl (Nat.le_of_ble_eq_true rfl) dX10_layFirst_64 (fun r m9 hq9 => ?_)
          obtain ⟨z9, rfl, rfl, rfl⟩ := hq9
          show V E (wC D cy aa ad) 3 mL 67 [(0, .ref (aa 0)), (1, .int (iz (s)))] [.int (iz (mL kf (s * 9 + 3)))]
          refine v_goto (tgt := 71) C dX10_layFirst_67 (by decide) ?_
          refine v_sub [0, 1] rfl ?_
          exact K71  (mL kf (s * 9 + 3))  (by 
                        unfold mstZ
                        first
                          | (rw [if_pos (by omega), eLf])
                          | (rw [if_neg (by omega)])
                      )
  refine v_sub [1, 0] rfl ?_
  exact K42 _ (0) m3 (by omega) (by exact z370) (by exact z37) (by exact z375) (by intro j a c; omega) (Nat.lt_succ_self _)
