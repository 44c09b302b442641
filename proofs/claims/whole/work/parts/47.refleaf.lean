theorem mg_num {fa : Int → Int} {n s w : Int} (hF : FaOk fa n) (h0 : 0 ≤ s) (h1 : s < n) (h2 : 0 ≤ w) (h3 : w ≤ fa (s * 9 + 4)) : 0 ≤ 100 * fa (s * 9 + 5) * (fa (s * 9 + 4) - w) ∧ 100 * fa (s * 9 + 5) * (fa (s * 9 + 4) - w) ≤ 2147483647 := by
  have f := hF s h0 h1
  have a1 : 0 ≤ 100 * fa (s * 9 + 5) * (fa (s * 9 + 4) - w) := Int.mul_nonneg (by omega) (by omega)
  have a2 : 100 * fa (s * 9 + 5) * (fa (s * 9 + 4) - w) ≤ 99900 * (fa (s * 9 + 4) - w) := Int.mul_le_mul_of_nonneg_right (by omega) (by omega)
  omega
set_option maxHeartbeats 4000000 in
set_option maxRecDepth 100000 in
theorem ct_StageRatiosModel_refused {lau : Launch} {D : va_G} {cy : Nat → ClassId} {aa ad : Nat → Nat} (hI : wI (wR D cy aa ad)) (m : Mem) (v : Int)  : MT lau (wR D cy aa ad) yX11_refused cX11_refused 2 (some .int) ({ frames := 0, cells := 0, slots := 0, locals := 0 } : Room) m [.ref (aa 0), .int (iz (v))] (Pi (fun z m' => -1 = z ∧ mup (mup m 0 1 v) 0 2 (-1) = m')) := by
  refine v_entry hI RX11 (by decide) rfl (Nat.le_of_ble_eq_true rfl) (fun E hE C X => ?_)
  subst hE
  show V E (wR D cy aa ad) 2 m 0 [(0, .ref (aa 0)), (1, .int (iz (v)))] []
  refine v_aload_n C 0 dX11_refused_0 rfl ?_
  refine v_iload_n C 1 dX11_refused_1 rfl ?_
  refine v_put C 0 1 (v) 1 rfl lR0 (eR0 _) rfl inX11 tyX11 tyX11_ok nmX11 (by decide) qw1141 rfl rfl rfl (Nat.le_of_ble_eq_true rfl) (by rw [mup_r]; exact (eR0 _)) dX11_refused_2 (fun m1 em1 => ?_)
  refine v_aload_n C 0 dX11_refused_5 rfl ?_
  refine v_iconst (z := -1) C dX11_refused_6 rfl ?_
  refine v_put C 0 2 (-1) 2 rfl lR0 (eR0 _) rfl inX11 tyX11 tyX11_ok nmX11 (by decide) qw1142 rfl rfl rfl (Nat.le_of_ble_eq_true rfl) (by rw [mup_r]; exact (eR0 _)) dX11_refused_7 (fun m2 em2 => ?_)
  refine v_iconst (z := -1) C dX11_refused_10 rfl ?_
  refine v_iret C X rfl dX11_refused_11 ⟨_, rfl, ?_, ?_⟩
  · rfl
  · rw [em2, em1]

set_option maxHeartbeats 4000000 in
set_option maxRecDepth 100000 in
theorem ct_StageRatiosModel_good {lau : Launch} {D : va_G} {cy : Nat → ClassId} {aa ad : Nat → Nat} (hI : wI (wR D cy aa ad)) (m : Mem) (v : Int)  : MT lau (wR D cy aa ad) yX11_good cX11_good 2 (some .int) ({ frames := 0, cells := 0, slots := 0, locals := 0 } : Room) m [.ref (aa 0), .int (iz (v))] (Pi (fun z m' => v = z ∧ mup (mup m 0 1 0) 0 2 (-1) = m')) := by
  refine v_entry hI RX11 (by decide) rfl (Nat.le_of_ble_eq_true rfl) (fun E hE C X => ?_)
  subst hE
  show V E (wR D cy aa ad) 2 m 0 [(0, .ref (aa 0)), (1, .int (iz (v)))] []
  refine v_aload_n C 0 dX11_good_0 rfl ?_
  refine v_iconst (z := 0) C dX11_good_1 rfl ?_
  refine v_put C 0 1 (0) 1 rfl lR0 (eR0 _) rfl inX11 tyX11 tyX11_ok nmX11 (by decide) qw1141 rfl rfl rfl (Nat.le_of_ble_eq_true rfl) (by rw [mup_r]; exact (eR0 _)) dX11_good_2 (fun m1 em1 => ?_)
  refine v_aload_n C 0 dX11_good_5 rfl ?_
  refine v_iconst (z := -1) C dX11_good_6 rfl ?_
  refine v_put C 0 2 (-1) 2 rfl lR0 (eR0 _) rfl inX11 tyX11 tyX11_ok nmX11 (by decide) qw1142 rfl rfl rfl (Nat.le_of_ble_eq_true rfl) (by rw [mup_r]; exact (eR0 _)) dX11_good_7 (fun m2 em2 => ?_)
  refine v_iload_n C 1 dX11_good_10 rfl ?_
  refine v_iret C X rfl dX11_good_11 ⟨_, rfl, ?_, ?_⟩
  · rfl
  · rw [em2, em1]

set_option maxHeartbeats 4000000 in
set_option maxRecDepth 100000 in
theorem ct_StageRatiosModel_in {lau : Launch} {D : va_G} {cy : Nat → ClassId} {aa ad : Nat → Nat} (hI : wI (wR D cy aa ad)) (m : Mem) (v a b : Int) (hv : -2147483648 ≤ v ∧ v ≤ 2147483647) (ha : -2147483648 ≤ a ∧ a ≤ 2147483647) (hb : -2147483648 ≤ b ∧ b ≤ 2147483647) : MT lau (wR D cy aa ad) yX11_in cX11_in 3 (some .boolean) ({ frames := 0, cells := 0, slots := 0, locals := 0 } : Room) m [.int (iz (v)), .int (iz (a)), .int (iz (b))] (Pi (fun z m' => (1 = z ∧ (a ≤ v ∧ v ≤ b) ∧ m = m') ∨ (0 = z ∧ ¬ (a ≤ v ∧ v ≤ b) ∧ m = m'))) := by
  refine v_entry hI RX11 (by decide) rfl (Nat.le_of_ble_eq_true rfl) (fun E hE C X => ?_)
  subst hE
  show V E (wR D cy aa ad) 3 m 0 [(0, .int (iz (v))), (1, .int (iz (a))), (2, .int (iz (b)))] []
  refine v_iload_n C 0 dX11_in_0 rfl ?_
  refine v_iload_n C 1 dX11_in_1 rfl ?_
  refine v_icmp_lt (tgt := 14) C dX11_in_2 (by decide) (by omega) (by omega) (fun c1 => ?_) (fun c1 => ?_)
  · refine v_iconst (z := 0) C dX11_in_14 rfl ?_
    refine v_iret C X (by decide) dX11_in_15 ⟨_, rfl, Or.inr ⟨rfl, ?_, ?_⟩⟩
    · omega
    · rfl
  · refine v_iload_n C 0 dX11_in_5 rfl ?_
    refine v_iload_n C 2 dX11_in_6 rfl ?_
    refine v_icmp_gt (tgt := 14) C dX11_in_7 (by decide) (by omega) (by omega) (fun c2 => ?_) (fun c2 => ?_)
    · refine v_iconst (z := 0) C dX11_in_14 rfl ?_
      refine v_iret C X (by decide) dX11_in_15 ⟨_, rfl, Or.inr ⟨rfl, ?_, ?_⟩⟩
      · omega
      · rfl
    · refine v_iconst (z := 1) C dX11_in_10 rfl ?_
      refine v_goto (tgt := 15) C dX11_in_11 (by decide) ?_
      refine v_iret C X (by decide) dX11_in_15 ⟨_, rfl, Or.inl ⟨rfl, ?_, ?_⟩⟩
      · omega
      · rfl

set_option maxHeartbeats 4000000 in
set_option maxRecDepth 100000 in
theorem ct_StageRatiosModel_isStage {lau : Launch} {D : va_G} {cy : Nat → ClassId} {aa ad : Nat → Nat} (hI : wI (wR D cy aa ad)) (m : Mem) (fa Af Bf Cf Rr Xx : Int → Int) (s : Int) (hT : m 0 20 = 0 ∨ (m 0 20 = 1 ∧ RT m fa Af Bf Cf Rr Xx)) (hs : -2147483648 ≤ s ∧ s ≤ 2147483647) : MT lau (wR D cy aa ad) yX11_isStage cX11_isStage 2 (some .boolean) ({ frames := 1, cells := 0, slots := 0, locals := 22 } : Room) m [.ref (aa 0), .int (iz (s))] (Pi (fun z m' => (1 = z ∧ (hsS (m 0 20) Rr s) ∧ m = m') ∨ (0 = z ∧ ¬ (hsS (m 0 20) Rr s) ∧ m = m'))) := by
  refine v_entry hI RX11 (by decide) rfl (Nat.le_of_ble_eq_true rfl) (fun E hE C X => ?_)
  subst hE
  show V E (wR D cy aa ad) 2 m 0 [(0, .ref (aa 0)), (1, .int (iz (s)))] []
  have ht01 : m 0 20 = 0 ∨ m 0 20 = 1 := hT.imp (fun a => a) (fun a => a.1)
  refine v_aload_n C 0 dX11_isStage_0 rfl ?_
  refine v_get C 0 20 lR0 (eR0 _) rfl inX11 (by decide) rfl qw1160 dX11_isStage_1 ?_
  refine v_if_eq (tgt := 25) C dX11_isStage_4 (by decide) (by omega) (fun c1 => ?_) (fun c1 => ?_)
  · refine v_iconst (z := 0) C dX11_isStage_25 rfl ?_
    refine v_iret C X (by decide) dX11_isStage_26 ⟨_, rfl, Or.inr ⟨rfl, ?_, ?_⟩⟩
    · unfold hsS; omega
    · rfl
  · obtain ⟨hT1, hg⟩ := hT.resolve_left (by omega)
    obtain ⟨⟨r11, r8, r9, r10, r12⟩, r1, r2, r6, hvd, hfo⟩ := id hg
    obtain ⟨hn, hF, hup, hlw, hX⟩ := id hvd
    refine v_iload_n C 1 dX11_isStage_7 rfl ?_
    refine v_iconst (z := 0) C dX11_isStage_8 rfl ?_
    refine v_aload_n C 0 dX11_isStage_9 rfl ?_
    refine v_get C 0 11 lR0 (eR0 _) rfl inX11 (by decide) rfl qw1151 dX11_isStage_10 ?_
    refine v_iconst (z := 1) C dX11_isStage_13 rfl ?_
    refine v_isub C dX11_isStage_14 ?_
    refine v_callS (st := []) (n := 3) C [.int (iz (s)), .int (iz (0)), .int (iz ((m 0 11) - 1))] (ct_StageRatiosModel_in C.2.2.2.2.2.2.1 m (s) (0) ((m 0 11) - 1) (by first | assumption | omega) (by first | assumption | omega) (by first | assumption | omega)) qw1355 qw16 qw1353 rfl rfl ⟨Nat.le_of_ble_eq_true rfl, Nat.le_of_ble_eq_true rfl⟩ (by decide +kernel) qw1354 rfl rfl (Nat.le_of_ble_eq_true rfl) dX11_isStage_15 (fun r m2 hq2 => ?_)
    obtain ⟨z2, rfl, ⟨rfl, hq2, rfl⟩ | ⟨rfl, hq2, rfl⟩⟩ := hq2
    · show V E (wR D cy aa ad) 2 m 18 [(0, .ref (aa 0)), (1, .int (iz (s)))] [.int (iz (1))]
      refine v_if_eq (tgt := 25) C dX11_isStage_18 (by decide) (by omega) (fun c3 => by exact absurd c3 (by decide)) (fun c3 => ?_)
      refine v_iconst (z := 1) C dX11_isStage_21 rfl ?_
      refine v_goto (tgt := 26) C dX11_isStage_22 (by decide) ?_
      refine v_iret C X (by decide) dX11_isStage_26 ⟨_, rfl, Or.inl ⟨rfl, ?_, ?_⟩⟩
      · unfold hsS; omega
      · rfl
    · show V E (wR D cy aa ad) 2 m 18 [(0, .ref (aa 0)), (1, .int (iz (s)))] [.int (iz (0))]
      refine v_if_eq (tgt := 25) C dX11_isStage_18 (by decide) (by omega) (fun c4 => ?_) (fun c4 => by exact absurd c4 (by decide))
      refine v_iconst (z := 0) C dX11_isStage_25 rfl ?_
      refine v_iret C X (by decide) dX11_isStage_26 ⟨_, rfl, Or.inr ⟨rfl, ?_, ?_⟩⟩
      · unfold hsS; omega
      · rfl

set_option maxHeartbeats 4000000 in
set_option maxRecDepth 100000 in
theorem ct_StageRatiosModel_told {lau : Launch} {D : va_G} {cy : Nat → ClassId} {aa ad : Nat → Nat} (hI : wI (wR D cy aa ad)) (m : Mem) (fa Af Bf Cf Rr Xx : Int → Int) (s w : Int) (hg : RT m fa Af Bf Cf Rr Xx) (hs : 0 ≤ s ∧ s < Rr 5) (hw : 0 ≤ w ∧ w ≤ 8) : MT lau (wR D cy aa ad) yX11_told cX11_told 3 (some .int) ({ frames := 0, cells := 0, slots := 0, locals := 0 } : Room) m [.ref (aa 0), .int (iz (s)), .int (iz (w))] (Pi (fun z m' => fa (s * 9 + w) = z ∧ m = m')) := by
  refine v_entry hI RX11 (by decide) rfl (Nat.le_of_ble_eq_true rfl) (fun E hE C X => ?_)
  subst hE
  show V E (wR D cy aa ad) 3 m 0 [(0, .ref (aa 0)), (1, .int (iz (s))), (2, .int (iz (w)))] []
  obtain ⟨⟨r11, r8, r9, r10, r12⟩, r1, r2, r6, hvd, hfo⟩ := id hg
  obtain ⟨hn, hF, hup, hlw, hX⟩ := id hvd
  refine v_aload_n C 0 dX11_told_0 rfl ?_
  refine v_get C 0 3 lR0 (eR0 _) rfl inX11 (by decide) rfl qw1143 dX11_told_1 ?_
  refine v_bipush (z := 9) C dX11_told_4 (by decide) ?_
  refine v_iload_n C 1 dX11_told_6 rfl ?_
  refine v_imul C dX11_told_7 ?_
  refine v_iload_n C 2 dX11_told_8 rfl ?_
  refine v_iadd C dX11_told_9 ?_
  refine v_iald C 1 lR1 (eR1 _) (by decide) (by omega) dX11_told_10 ?_
  refine v_iret C X rfl dX11_told_11 ⟨_, rfl, ?_, ?_⟩
  · exact (r1 s w hs.1 hs.2 hw.1 hw.2).symm
  · rfl

set_option maxHeartbeats 4000000 in
set_option maxRecDepth 100000 in
theorem ct_StageRatiosModel_shell {lau : Launch} {D : va_G} {cy : Nat → ClassId} {aa ad : Nat → Nat} (hI : wI (wR D cy aa ad)) (m : Mem) (fa Af Bf Cf Rr Xx : Int → Int) (s u : Int) (hg : RT m fa Af Bf Cf Rr Xx) (hs : 0 ≤ s ∧ s < Rr 5) (hu : 0 ≤ u ∧ u ≤ 16) : MT lau (wR D cy aa ad) yX11_shell cX11_shell 3 (some .int) ({ frames := 1, cells := 0, slots := 0, locals := 22 } : Room) m [.ref (aa 0), .int (iz (s)), .int (iz (u))] (Pi (fun z m' => shZ fa s u = z ∧ m = m')) := by
  refine v_entry hI RX11 (by decide) rfl (Nat.le_of_ble_eq_true rfl) (fun E hE C X => ?_)
  subst hE
  show V E (wR D cy aa ad) 3 m 0 [(0, .ref (aa 0)), (1, .int (iz (s))), (2, .int (iz (u)))] []
  obtain ⟨⟨r11, r8, r9, r10, r12⟩, r1, r2, r6, hvd, hfo⟩ := id hg
  obtain ⟨hn, hF, hup, hlw, hX⟩ := id hvd
  have f := hF s hs.1 hs.2
  have tk := tk_rng hu f.2.2.1
  refine v_aload_n C 0 dX11_shell_0 rfl ?_
  refine v_iload_n C 1 dX11_shell_1 rfl ?_
  refine v_iconst (z := 1) C dX11_shell_2 rfl ?_
  refine v_callV (st := []) (n := 2) (q := 0) C [.int (iz (s)), .int (iz (1))] (ct_StageRatiosModel_told C.2.2.2.2.2.2.1 m (fa) (Af) (Bf) (Cf) (Rr) (Xx) (s) (1) (by first | assumption | omega) (by first | assumption | omega) (by first | assumption | omega)) lR0 (eR0 _) rfl qw1440 qw16 qw1437 rfl rfl ⟨Nat.le_of_ble_eq_true rfl, Nat.le_of_ble_eq_true rfl⟩ (by decide +kernel) qw1439 qp55 rfl rfl (Nat.le_of_ble_eq_true rfl) dX11_shell_3 (fun r m1 hq1 => ?_)
  obtain ⟨z1, rfl, rfl, rfl⟩ := hq1
  show V E (wR D cy aa ad) 3 m 6 [(0, .ref (aa 0)), (1, .int (iz (s))), (2, .int (iz (u)))] [.int (iz (fa (s * 9 + 1)))]
  refine v_iload_n C 2 dX11_shell_6 rfl ?_
  refine v_aload_n C 0 dX11_shell_7 rfl ?_
  refine v_iload_n C 1 dX11_shell_8 rfl ?_
  refine v_iconst (z := 2) C dX11_shell_9 rfl ?_
  refine v_callV (st := [.int (iz (u)), .int (iz (fa (s * 9 + 1)))]) (n := 2) (q := 0) C [.int (iz (s)), .int (iz (2))] (ct_StageRatiosModel_told C.2.2.2.2.2.2.1 m (fa) (Af) (Bf) (Cf) (Rr) (Xx) (s) (2) (by first | assumption | omega) (by first | assumption | omega) (by first | assumption | omega)) lR0 (eR0 _) rfl qw1440 qw16 qw1437 rfl rfl ⟨Nat.le_of_ble_eq_true rfl, Nat.le_of_ble_eq_true rfl⟩ (by decide +kernel) qw1439 qp55 rfl rfl (Nat.le_of_ble_eq_true rfl) dX11_shell_10 (fun r m2 hq2 => ?_)
  obtain ⟨z2, rfl, rfl, rfl⟩ := hq2
  show V E (wR D cy aa ad) 3 m 13 [(0, .ref (aa 0)), (1, .int (iz (s))), (2, .int (iz (u)))] [.int (iz (fa (s * 9 + 2))), .int (iz (u)), .int (iz (fa (s * 9 + 1)))]
  refine v_imul C dX11_shell_13 ?_
  refine v_bipush (z := 99) C dX11_shell_14 (by decide) ?_
  refine v_iadd C dX11_shell_16 ?_
  refine v_bipush (z := 100) C dX11_shell_17 (by decide) ?_
  refine v_idiv C (by omega) (by omega) dX11_shell_19 ?_
  refine v_iadd C dX11_shell_20 ?_
  refine v_aload_n C 0 dX11_shell_21 rfl ?_
  refine v_iload_n C 1 dX11_shell_22 rfl ?_
  refine v_iconst (z := 0) C dX11_shell_23 rfl ?_
  refine v_callV (st := [.int (iz ((fa (s * 9 + 1)) + (((u * (fa (s * 9 + 2))) + 99) / 100)))]) (n := 2) (q := 0) C [.int (iz (s)), .int (iz (0))] (ct_StageRatiosModel_told C.2.2.2.2.2.2.1 m (fa) (Af) (Bf) (Cf) (Rr) (Xx) (s) (0) (by first | assumption | omega) (by first | assumption | omega) (by first | assumption | omega)) lR0 (eR0 _) rfl qw1440 qw16 qw1437 rfl rfl ⟨Nat.le_of_ble_eq_true rfl, Nat.le_of_ble_eq_true rfl⟩ (by decide +kernel) qw1439 qp55 rfl rfl (Nat.le_of_ble_eq_true rfl) dX11_shell_24 (fun r m3 hq3 => ?_)
  obtain ⟨z3, rfl, rfl, rfl⟩ := hq3
  show V E (wR D cy aa ad) 3 m 27 [(0, .ref (aa 0)), (1, .int (iz (s))), (2, .int (iz (u)))] [.int (iz (fa (s * 9 + 0))), .int (iz ((fa (s * 9 + 1)) + (((u * (fa (s * 9 + 2))) + 99) / 100)))]
  refine v_iconst (z := 4) C dX11_shell_27 rfl ?_
  refine v_icmp_ne (tgt := 42) C dX11_shell_28 (by decide) (by omega) (by omega) (fun c4 => ?_) (fun c4 => ?_)
  · refine v_iconst (z := 0) C dX11_shell_42 rfl ?_
    refine v_iadd C dX11_shell_43 ?_
    refine v_iret C X rfl dX11_shell_44 ⟨_, rfl, ?_, ?_⟩
    · unfold shZ
      first | rw [if_pos (by omega)] | rw [if_neg (by omega)]
    · rfl
  · refine v_aload_n C 0 dX11_shell_31 rfl ?_
    refine v_iload_n C 1 dX11_shell_32 rfl ?_
    refine v_iconst (z := 1) C dX11_shell_33 rfl ?_
    refine v_callV (st := [.int (iz ((fa (s * 9 + 1)) + (((u * (fa (s * 9 + 2))) + 99) / 100)))]) (n := 2) (q := 0) C [.int (iz (s)), .int (iz (1))] (ct_StageRatiosModel_told C.2.2.2.2.2.2.1 m (fa) (Af) (Bf) (Cf) (Rr) (Xx) (s) (1) (by first | assumption | omega) (by first | assumption | omega) (by first | assumption | omega)) lR0 (eR0 _) rfl qw1440 qw16 qw1437 rfl rfl ⟨Nat.le_of_ble_eq_true rfl, Nat.le_of_ble_eq_true rfl⟩ (by decide +kernel) qw1439 qp55 rfl rfl (Nat.le_of_ble_eq_true rfl) dX11_shell_34 (fun r m5 hq5 => ?_)
    obtain ⟨z5, rfl, rfl, rfl⟩ := hq5
    show V E (wR D cy aa ad) 3 m 37 [(0, .ref (aa 0)), (1, .int (iz (s))), (2, .int (iz (u)))] [.int (iz (fa (s * 9 + 1))), .int (iz ((fa (s * 9 + 1)) + (((u * (fa (s * 9 + 2))) + 99) / 100)))]
    refine v_iconst (z := 2) C dX11_shell_37 rfl ?_
    refine v_idiv C (by omega) (by omega) dX11_shell_38 ?_
    refine v_goto (tgt := 43) C dX11_shell_39 (by decide) ?_
    refine v_iadd C dX11_shell_43 ?_
    refine v_iret C X rfl dX11_shell_44 ⟨_, rfl, ?_, ?_⟩
    · unfold shZ
      first | rw [if_pos (by omega)] | rw [if_neg (by omega)]
    · rfl

set_option maxHeartbeats 4000000 in
set_option maxRecDepth 100000 in
theorem ct_StageRatiosModel_start {lau : Launch} {D : va_G} {cy : Nat → ClassId} {aa ad : Nat → Nat} (hI : wI (wR D cy aa ad)) (m : Mem) (fa Af Bf Cf Rr Xx : Int → Int) (Pp : Int) (Dd : Int → Int) (s : Int) (hg : RT m fa Af Bf Cf Rr Xx) (hd : DT m (Rr 5) Pp Dd) (hs : 0 ≤ s ∧ s ≤ Rr 5) : MT lau (wR D cy aa ad) yX11_start cX11_start 4 (some .int) ({ frames := 2, cells := 0, slots := 0, locals := 44 } : Room) m [.ref (aa 0), .int (iz (s))] (Pi (fun z m' => stZ fa (Rr 5) Pp Dd s = z ∧ m = m')) := by
  refine v_entry hI RX11 (by decide) rfl (Nat.le_of_ble_eq_true rfl) (fun E hE C X => ?_)
  subst hE
  show V E (wR D cy aa ad) 4 m 0 [(0, .ref (aa 0)), (1, .int (iz (s)))] []
  obtain ⟨⟨r11, r8, r9, r10, r12⟩, r1, r2, r6, hvd, hfo⟩ := id hg
  obtain ⟨hn, hF, hup, hlw, hX⟩ := id hvd
  obtain ⟨d34, d9, hDv⟩ := id hd
  refine v_aload_n C 0 dX11_start_0 rfl ?_
  refine v_get C 0 34 lR0 (eR0 _) rfl inX11 (by decide) rfl qw1174 dX11_start_1 ?_
  refine v_istore_n (L1 := [(2, .int (iz (m 0 34))), (0, .ref (aa 0)), (1, .int (iz (s)))]) C dX11_start_4 (by decide) rfl ?_
  refine v_iload_n C 2 dX11_start_5 rfl ?_
  refine v_istore_n (L1 := [(3, .int (iz (s))), (2, .int (iz (m 0 34))), (0, .ref (aa 0)), (1, .int (iz (s)))]) C dX11_start_6 (by decide) rfl ?_
  have K7 : ∀ (nK : Nat) (x : Int) (i : Int) (hi : s ≤ i ∧ i ≤ Rr 5) (hx : x + stZ fa (Rr 5) Pp Dd i = Pp + stZ fa (Rr 5) Pp Dd s), (Rr 5 - i).toNat < nK → V E (wR D cy aa ad) 4 m 7 [(0, .ref (aa 0)), (1, .int (iz (s))), (2, .int (iz (x))), (3, .int (iz (i)))] [] := by
    intro nK
    induction nK with
    | zero => intro x i  hi hx hn; exact absurd hn (Nat.not_lt_zero _)
    | succ nK ih7 =>
      intro x i  hi hx hn7
      refine v_iload_n C 3 dX11_start_7 rfl ?_
      refine v_aload_n C 0 dX11_start_8 rfl ?_
      refine v_get C 0 11 lR0 (eR0 _) rfl inX11 (by decide) rfl qw1151 dX11_start_9 ?_
      refine v_icmp_ge (tgt := 42) C dX11_start_12 (by decide) (by omega) (by omega) (fun c1 => ?_) (fun c1 => ?_)
      · refine v_iload_n C 2 dX11_start_42 rfl ?_
        refine v_iret C X rfl dX11_start_43 ⟨_, rfl, ?_, ?_⟩
        · rw [show i = Rr 5 by omega, stZ_n] at hx; omega
        · rfl
      · have e9 : m 9 i = Dd i := d9 i (by omega) (by omega)
        have hu9 := hDv.2.2 i (by omega) (by omega)
        refine v_iload_n C 2 dX11_start_15 rfl ?_
        refine v_aload_n C 0 dX11_start_16 rfl ?_
        refine v_iload_n C 3 dX11_start_17 rfl ?_
        refine v_aload_n C 0 dX11_start_18 rfl ?_
        refine v_get C 0 33 lR0 (eR0 _) rfl inX11 (by decide) rfl qw1173 dX11_start_19 ?_
        refine v_iload_n C 3 dX11_start_22 rfl ?_
        refine v_iald C 9 lR9 (eR9 _) (by decide) (by omega) dX11_start_23 ?_
        refine v_callV (st := [.int (iz (x))]) (n := 2) (q := 0) C [.int (iz (i)), .int (iz (m 9 i))] (ct_StageRatiosModel_shell C.2.2.2.2.2.2.1 m (fa) (Af) (Bf) (Cf) (Rr) (Xx) (i) (m 9 i) (by first | assumption | omega) (by first | assumption | omega) (by first | assumption | omega)) lR0 (eR0 _) rfl qw1468 qw16 qw1465 rfl rfl ⟨Nat.le_of_ble_eq_true rfl, Nat.le_of_ble_eq_true rfl⟩ (by decide +kernel) qw1467 qp58 rfl rfl (Nat.le_of_ble_eq_true rfl) dX11_start_24 (fun r m2 hq2 => ?_)
        obtain ⟨z2, rfl, rfl, rfl⟩ := hq2
        show V E (wR D cy aa ad) 4 m 27 [(0, .ref (aa 0)), (1, .int (iz (s))), (2, .int (iz (x))), (3, .int (iz (i)))] [.int (iz (shZ fa i (m 9 i))), .int (iz (x))]
        refine v_aload_n C 0 dX11_start_27 rfl ?_
        refine v_get C 0 33 lR0 (eR0 _) rfl inX11 (by decide) rfl qw1173 dX11_start_28 ?_
        refine v_iload_n C 3 dX11_start_31 rfl ?_
        refine v_iald C 9 lR9 (eR9 _) (by decide) (by omega) dX11_start_32 ?_
        refine v_iadd C dX11_start_33 ?_
        refine v_iadd C dX11_start_34 ?_
        refine v_istore_n (L1 := [(2, .int (iz (x + ((shZ fa i (m 9 i)) + (m 9 i))))), (0, .ref (aa 0)), (1, .int (iz (s))), (3, .int (iz (i)))]) C dX11_start_35 (by decide) rfl ?_
        refine v_iinc (L1 := [(3, .int (iz (i + 1))), (2, .int (iz (x + ((shZ fa i (m 9 i)) + (m 9 i))))), (0, .ref (aa 0)), (1, .int (iz (s)))]) C 3 dX11_start_36 rfl (by decide) rfl ?_
        refine v_goto (tgt := 7) C dX11_start_39 (by decide) ?_
        refine v_sub [2, 3, 1, 0] rfl ?_
        exact ih7 (x + ((shZ fa i (m 9 i)) + (m 9 i))) (i + 1)  (by first | assumption | omega) (by rw [e9] at *; rw [st_sum (by omega)]; exact hx) (by omega)
  refine v_sub [2, 3, 1, 0] rfl ?_
  exact K7 _ (m 0 34) (s)  (by first | assumption | omega) (by omega) (Nat.lt_succ_self _)

set_option maxHeartbeats 4000000 in
set_option maxRecDepth 100000 in
theorem ct_StageRatiosModel_marginOf {lau : Launch} {D : va_G} {cy : Nat → ClassId} {aa ad : Nat → Nat} (hI : wI (wR D cy aa ad)) (m : Mem) (fa Af Bf Cf Rr Xx : Int → Int) (Pp : Int) (Dd : Int → Int) (s w : Int) (hg : RT m fa Af Bf Cf Rr Xx) (hd : DT m (Rr 5) Pp Dd) (hs : 0 ≤ s ∧ s < Rr 5) (hw : 0 ≤ w ∧ w ≤ fa (s * 9 + 4)) : MT lau (wR D cy aa ad) yX11_marginOf cX11_marginOf 3 (some .int) ({ frames := 3, cells := 0, slots := 0, locals := 67 } : Room) m [.ref (aa 0), .int (iz (s)), .int (iz (w))] (Pi (fun z m' => mgZ fa s w (stZ fa (Rr 5) Pp Dd s) = z ∧ m = m')) := by
  refine v_entry hI RX11 (by decide) rfl (Nat.le_of_ble_eq_true rfl) (fun E hE C X => ?_)
  subst hE
  show V E (wR D cy aa ad) 3 m 0 [(0, .ref (aa 0)), (1, .int (iz (s))), (2, .int (iz (w)))] []
  obtain ⟨⟨r11, r8, r9, r10, r12⟩, r1, r2, r6, hvd, hfo⟩ := id hg
  obtain ⟨hn, hF, hup, hlw, hX⟩ := id hvd
  obtain ⟨d34, d9, hDv⟩ := id hd
  have f := hF s hs.1 hs.2
  have hsr := stZ_rng (s := s) hF hn.2 hDv.2.1 hDv.2.2 hs.1 (by omega)
  have tq := mg_num hF hs.1 hs.2 hw.1 hw.2
  refine v_bipush (z := 100) C dX11_marginOf_0 (by decide) ?_
  refine v_aload_n C 0 dX11_marginOf_2 rfl ?_
  refine v_iload_n C 1 dX11_marginOf_3 rfl ?_
  refine v_iconst (z := 5) C dX11_marginOf_4 rfl ?_
  refine v_callV (st := [.int (iz (100))]) (n := 2) (q := 0) C [.int (iz (s)), .int (iz (5))] (ct_StageRatiosModel_told C.2.2.2.2.2.2.1 m (fa) (Af) (Bf) (Cf) (Rr) (Xx) (s) (5) (by first | assumption | omega) (by first | assumption | omega) (by first | assumption | omega)) lR0 (eR0 _) rfl qw1440 qw16 qw1437 rfl rfl ⟨Nat.le_of_ble_eq_true rfl, Nat.le_of_ble_eq_true rfl⟩ (by decide +kernel) qw1439 qp55 rfl rfl (Nat.le_of_ble_eq_true rfl) dX11_marginOf_5 (fun r m1 hq1 => ?_)
  obtain ⟨z1, rfl, rfl, rfl⟩ := hq1
  show V E (wR D cy aa ad) 3 m 8 [(0, .ref (aa 0)), (1, .int (iz (s))), (2, .int (iz (w)))] [.int (iz (fa (s * 9 + 5))), .int (iz (100))]
  refine v_imul C dX11_marginOf_8 ?_
  refine v_aload_n C 0 dX11_marginOf_9 rfl ?_
  refine v_iload_n C 1 dX11_marginOf_10 rfl ?_
  refine v_iconst (z := 4) C dX11_marginOf_11 rfl ?_
  refine v_callV (st := [.int (iz (100 * (fa (s * 9 + 5))))]) (n := 2) (q := 0) C [.int (iz (s)), .int (iz (4))] (ct_StageRatiosModel_told C.2.2.2.2.2.2.1 m (fa) (Af) (Bf) (Cf) (Rr) (Xx) (s) (4) (by first | assumption | omega) (by first | assumption | omega) (by first | assumption | omega)) lR0 (eR0 _) rfl qw1440 qw16 qw1437 rfl rfl ⟨Nat.le_of_ble_eq_true rfl, Nat.le_of_ble_eq_true rfl⟩ (by decide +kernel) qw1439 qp55 rfl rfl (Nat.le_of_ble_eq_true rfl) dX11_marginOf_12 (fun r m2 hq2 => ?_)
  obtain ⟨z2, rfl, rfl, rfl⟩ := hq2
  show V E (wR D cy aa ad) 3 m 15 [(0, .ref (aa 0)), (1, .int (iz (s))), (2, .int (iz (w)))] [.int (iz (fa (s * 9 + 4))), .int (iz (100 * (fa (s * 9 + 5))))]
  refine v_iload_n C 2 dX11_marginOf_15 rfl ?_
  refine v_isub C dX11_marginOf_16 ?_
  refine v_imul C dX11_marginOf_17 ?_
  refine v_aload_n C 0 dX11_marginOf_18 rfl ?_
  refine v_iload_n C 1 dX11_marginOf_19 rfl ?_
  refine v_callV (st := [.int (iz ((100 * (fa (s * 9 + 5))) * ((fa (s * 9 + 4)) - w)))]) (n := 1) (q := 0) C [.int (iz (s))] (ct_StageRatiosModel_start C.2.2.2.2.2.2.1 m (fa) (Af) (Bf) (Cf) (Rr) (Xx) (Pp) (Dd) (s) (by first | assumption | omega) (by first | assumption | omega) (by first | assumption | omega)) lR0 (eR0 _) rfl qw1480 qw16 qw1477 rfl rfl ⟨Nat.le_of_ble_eq_true rfl, Nat.le_of_ble_eq_true rfl⟩ (by decide +kernel) qw1479 qp60 rfl rfl (Nat.le_of_ble_eq_true rfl) dX11_marginOf_20 (fun r m3 hq3 => ?_)
  obtain ⟨z3, rfl, rfl, rfl⟩ := hq3
  show V E (wR D cy aa ad) 3 m 23 [(0, .ref (aa 0)), (1, .int (iz (s))), (2, .int (iz (w)))] [.int (iz (stZ fa (Rr 5) Pp Dd s)), .int (iz ((100 * (fa (s * 9 + 5))) * ((fa (s * 9 + 4)) - w)))]
  refine v_idiv C (by first | exact tq | omega) (by first | exact tq | omega) dX11_marginOf_23 ?_
  refine v_iret C X rfl dX11_marginOf_24 ⟨_, rfl, ?_, ?_⟩
  · unfold mgZ; rw [Int.mul_assoc]
  · rfl

set_option maxHeartbeats 4000000 in
set_option maxRecDepth 100000 in
theorem ct_StageRatiosModel_stageHolds {lau : Launch} {D : va_G} {cy : Nat → ClassId} {aa ad : Nat → Nat} (hI : wI (wR D cy aa ad)) (m : Mem) (fa Af Bf Cf Rr Xx : Int → Int) (Pp : Int) (Dd : Int → Int) (s : Int) (hg : RT m fa Af Bf Cf Rr Xx) (hd : DT m (Rr 5) Pp Dd) (hs : 0 ≤ s ∧ s < Rr 5) : MT lau (wR D cy aa ad) yX11_stageHolds cX11_stageHolds 2 (some .boolean) ({ frames := 4, cells := 0, slots := 0, locals := 89 } : Room) m [.ref (aa 0), .int (iz (s))] (Pi (fun z m' => (1 = z ∧ (hoZ fa s (stZ fa (Rr 5) Pp Dd s)) ∧ m = m') ∨ (0 = z ∧ ¬ (hoZ fa s (stZ fa (Rr 5) Pp Dd s)) ∧ m = m'))) := by
  refine v_entry hI RX11 (by decide) rfl (Nat.le_of_ble_eq_true rfl) (fun E hE C X => ?_)
  subst hE
  show V E (wR D cy aa ad) 2 m 0 [(0, .ref (aa 0)), (1, .int (iz (s)))] []
  obtain ⟨⟨r11, r8, r9, r10, r12⟩, r1, r2, r6, hvd, hfo⟩ := id hg
  obtain ⟨hn, hF, hup, hlw, hX⟩ := id hvd
  obtain ⟨d34, d9, hDv⟩ := id hd
  have f := hF s hs.1 hs.2
  have hsr := stZ_rng (s := s) hF hn.2 hDv.2.1 hDv.2.2 hs.1 (by omega)
  have hmr := mgZ_rng (o := fa (s * 9 + 8)) hF hs.1 hs.2 (by omega) (by omega) hsr.1
  refine v_aload_n C 0 dX11_stageHolds_0 rfl ?_
  refine v_iload_n C 1 dX11_stageHolds_1 rfl ?_
  refine v_aload_n C 0 dX11_stageHolds_2 rfl ?_
  refine v_iload_n C 1 dX11_stageHolds_3 rfl ?_
  refine v_bipush (z := 8) C dX11_stageHolds_4 (by decide) ?_
  refine v_callV (st := [.int (iz (s)), .ref (aa 0)]) (n := 2) (q := 0) C [.int (iz (s)), .int (iz (8))] (ct_StageRatiosModel_told C.2.2.2.2.2.2.1 m (fa) (Af) (Bf) (Cf) (Rr) (Xx) (s) (8) (by first | assumption | omega) (by first | assumption | omega) (by first | assumption | omega)) lR0 (eR0 _) rfl qw1440 qw16 qw1437 rfl rfl ⟨Nat.le_of_ble_eq_true rfl, Nat.le_of_ble_eq_true rfl⟩ (by decide +kernel) qw1439 qp55 rfl rfl (Nat.le_of_ble_eq_true rfl) dX11_stageHolds_6 (fun r m1 hq1 => ?_)
  obtain ⟨z1, rfl, rfl, rfl⟩ := hq1
  show V E (wR D cy aa ad) 2 m 9 [(0, .ref (aa 0)), (1, .int (iz (s)))] [.int (iz (fa (s * 9 + 8))), .int (iz (s)), .ref (aa 0)]
  refine v_callV (st := []) (n := 2) (q := 0) C [.int (iz (s)), .int (iz (fa (s * 9 + 8)))] (ct_StageRatiosModel_marginOf C.2.2.2.2.2.2.1 m (fa) (Af) (Bf) (Cf) (Rr) (Xx) (Pp) (Dd) (s) (fa (s * 9 + 8)) (by first | assumption | omega) (by first | assumption | omega) (by first | assumption | omega) (by first | assumption | omega)) lR0 (eR0 _) rfl qw1488 qw16 qw1485 rfl rfl ⟨Nat.le_of_ble_eq_true rfl, Nat.le_of_ble_eq_true rfl⟩ (by decide +kernel) qw1487 qp62 rfl rfl (Nat.le_of_ble_eq_true rfl) dX11_stageHolds_9 (fun r m2 hq2 => ?_)
  obtain ⟨z2, rfl, rfl, rfl⟩ := hq2
  show V E (wR D cy aa ad) 2 m 12 [(0, .ref (aa 0)), (1, .int (iz (s)))] [.int (iz (mgZ fa s (fa (s * 9 + 8)) (stZ fa (Rr 5) Pp Dd s)))]
  refine v_aload_n C 0 dX11_stageHolds_12 rfl ?_
  refine v_iload_n C 1 dX11_stageHolds_13 rfl ?_
  refine v_bipush (z := 7) C dX11_stageHolds_14 (by decide) ?_
  refine v_callV (st := [.int (iz (mgZ fa s (fa (s * 9 + 8)) (stZ fa (Rr 5) Pp Dd s)))]) (n := 2) (q := 0) C [.int (iz (s)), .int (iz (7))] (ct_StageRatiosModel_told C.2.2.2.2.2.2.1 m (fa) (Af) (Bf) (Cf) (Rr) (Xx) (s) (7) (by first | assumption | omega) (by first | assumption | omega) (by first | assumption | omega)) lR0 (eR0 _) rfl qw1440 qw16 qw1437 rfl rfl ⟨Nat.le_of_ble_eq_true rfl, Nat.le_of_ble_eq_true rfl⟩ (by decide +kernel) qw1439 qp55 rfl rfl (Nat.le_of_ble_eq_true rfl) dX11_stageHolds_16 (fun r m3 hq3 => ?_)
  obtain ⟨z3, rfl, rfl, rfl⟩ := hq3
  show V E (wR D cy aa ad) 2 m 19 [(0, .ref (aa 0)), (1, .int (iz (s)))] [.int (iz (fa (s * 9 + 7))), .int (iz (mgZ fa s (fa (s * 9 + 8)) (stZ fa (Rr 5) Pp Dd s)))]
  refine v_icmp_lt (tgt := 26) C dX11_stageHolds_19 (by decide) (by omega) (by omega) (fun c4 => ?_) (fun c4 => ?_)
  · refine v_iconst (z := 0) C dX11_stageHolds_26 rfl ?_
    refine v_iret C X (by decide) dX11_stageHolds_27 ⟨_, rfl, Or.inr ⟨rfl, ?_, ?_⟩⟩
    · unfold hoZ; omega
    · rfl
  · refine v_iconst (z := 1) C dX11_stageHolds_22 rfl ?_
    refine v_goto (tgt := 27) C dX11_stageHolds_23 (by decide) ?_
    refine v_iret C X (by decide) dX11_stageHolds_27 ⟨_, rfl, Or.inl ⟨rfl, ?_, ?_⟩⟩
    · unfold hoZ; omega
    · rfl

set_option maxHeartbeats 4000000 in
set_option maxRecDepth 100000 in
theorem ct_StageRatiosModel_allHold {lau : Launch} {D : va_G} {cy : Nat → ClassId} {aa ad : Nat → Nat} (hI : wI (wR D cy aa ad)) (m : Mem) (fa Af Bf Cf Rr Xx : Int → Int) (Pp : Int) (Dd : Int → Int) (hg : RT m fa Af Bf Cf Rr Xx) (hd : DT m (Rr 5) Pp Dd) : MT lau (wR D cy aa ad) yX11_allHold cX11_allHold 2 (some .boolean) ({ frames := 5, cells := 0, slots := 0, locals := 110 } : Room) m [.ref (aa 0)] (Pi (fun z m' => (1 = z ∧ (hoA fa (Rr 5) Pp Dd) ∧ m = m') ∨ (0 = z ∧ ¬ (hoA fa (Rr 5) Pp Dd) ∧ m = m'))) := by
  refine v_entry hI RX11 (by decide) rfl (Nat.le_of_ble_eq_true rfl) (fun E hE C X => ?_)
  subst hE
  show V E (wR D cy aa ad) 2 m 0 [(0, .ref (aa 0))] []
  obtain ⟨⟨r11, r8, r9, r10, r12⟩, r1, r2, r6, hvd, hfo⟩ := id hg
  obtain ⟨hn, hF, hup, hlw, hX⟩ := id hvd
  refine v_iconst (z := 0) C dX11_allHold_0 rfl ?_
  refine v_istore_n (L1 := [(1, .int (iz (0))), (0, .ref (aa 0))]) C dX11_allHold_1 (by decide) rfl ?_
  have K2 : ∀ (nK : Nat) (i : Int) (hi : 0 ≤ i ∧ i ≤ Rr 5) (ha : ∀ j : Int, 0 ≤ j → j < i → hoZ fa j (stZ fa (Rr 5) Pp Dd j)), (Rr 5 - i).toNat < nK → V E (wR D cy aa ad) 2 m 2 [(0, .ref (aa 0)), (1, .int (iz (i)))] [] := by
    intro nK
    induction nK with
    | zero => intro i  hi ha hn; exact absurd hn (Nat.not_lt_zero _)
    | succ nK ih2 =>
      intro i  hi ha hn2
      refine v_iload_n C 1 dX11_allHold_2 rfl ?_
      refine v_aload_n C 0 dX11_allHold_3 rfl ?_
      refine v_get C 0 11 lR0 (eR0 _) rfl inX11 (by decide) rfl qw1151 dX11_allHold_4 ?_
      refine v_icmp_ge (tgt := 26) C dX11_allHold_7 (by decide) (by omega) (by omega) (fun c1 => ?_) (fun c1 => ?_)
      · refine v_iconst (z := 1) C dX11_allHold_26 rfl ?_
        refine v_iret C X (by decide) dX11_allHold_27 ⟨_, rfl, Or.inl ⟨rfl, ?_, ?_⟩⟩
        · exact fun j h0 h1 => ha j h0 (by omega)
        · rfl
      · refine v_aload_n C 0 dX11_allHold_10 rfl ?_
        refine v_iload_n C 1 dX11_allHold_11 rfl ?_
        refine v_callV (st := []) (n := 1) (q := 0) C [.int (iz (i))] (ct_StageRatiosModel_stageHolds C.2.2.2.2.2.2.1 m (fa) (Af) (Bf) (Cf) (Rr) (Xx) (Pp) (Dd) (i) (by first | assumption | omega) (by first | assumption | omega) (by first | assumption | omega)) lR0 (eR0 _) rfl qw1484 qw16 qw1481 rfl rfl ⟨Nat.le_of_ble_eq_true rfl, Nat.le_of_ble_eq_true rfl⟩ (by decide +kernel) qw1483 qp61 rfl rfl (Nat.le_of_ble_eq_true rfl) dX11_allHold_12 (fun r m2 hq2 => ?_)
        obtain ⟨z2, rfl, ⟨rfl, hq2, rfl⟩ | ⟨rfl, hq2, rfl⟩⟩ := hq2
        · show V E (wR D cy aa ad) 2 m 15 [(0, .ref (aa 0)), (1, .int (iz (i)))] [.int (iz (1))]
          refine v_if_ne (tgt := 20) C dX11_allHold_15 (by decide) (by omega) (fun c3 => ?_) (fun c3 => by exact absurd c3 (by decide))
          refine v_iinc (L1 := [(1, .int (iz (i + 1))), (0, .ref (aa 0))]) C 1 dX11_allHold_20 rfl (by decide) rfl ?_
          refine v_goto (tgt := 2) C dX11_allHold_23 (by decide) ?_
          refine v_sub [1, 0] rfl ?_
          exact ih2 (i + 1)  (by first | assumption | omega) (by 
                        intro j h0 h1
                        by_cases e : j = i
                        · subst e; exact hq2
                        · exact ha j h0 (by omega)
                      ) (by omega)
        · show V E (wR D cy aa ad) 2 m 15 [(0, .ref (aa 0)), (1, .int (iz (i)))] [.int (iz (0))]
          refine v_if_ne (tgt := 20) C dX11_allHold_15 (by decide) (by omega) (fun c4 => by exact absurd c4 (by decide)) (fun c4 => ?_)
          refine v_iconst (z := 0) C dX11_allHold_18 rfl ?_
          refine v_iret C X (by decide) dX11_allHold_19 ⟨_, rfl, Or.inr ⟨rfl, ?_, ?_⟩⟩
          · exact fun h => hq2 (h i (by omega) (by omega))
          · rfl
  refine v_sub [1, 0] rfl ?_
  exact K2 _ (0)  (by first | assumption | omega) (by intro j h0 h1; omega) (Nat.lt_succ_self _)

set_option maxHeartbeats 4000000 in
set_option maxRecDepth 100000 in
theorem ct_StageRatiosModel_laysOwn {lau : Launch} {D : va_G} {cy : Nat → ClassId} {aa ad : Nat → Nat} (hI : wI (wR D cy aa ad)) (m : Mem) (fa Af Bf Cf Rr Xx : Int → Int) (hg : RT m fa Af Bf Cf Rr Xx) : MT lau (wR D cy aa ad) yX11_laysOwn cX11_laysOwn 2 (none) ({ frames := 0, cells := 0, slots := 0, locals := 0 } : Room) m [.ref (aa 0)] (Pv (fun m' => DT m' (Rr 5) (Xx 0) (uX Xx) ∧ (∀ j : Int, j ≠ 34 → m' 0 j = m 0 j) ∧ ∀ q : Nat, q ≠ 0 → q ≠ 9 → m' q = m q)) := by
  refine v_entry hI RX11 (by decide) rfl (Nat.le_of_ble_eq_true rfl) (fun E hE C X => ?_)
  subst hE
  show V E (wR D cy aa ad) 2 m 0 [(0, .ref (aa 0))] []
  obtain ⟨⟨r11, r8, r9, r10, r12⟩, r1, r2, r6, hvd, hfo⟩ := id hg
  obtain ⟨hn, hF, hup, hlw, hX⟩ := id hvd
  refine v_aload_n C 0 dX11_laysOwn_0 rfl ?_
  refine v_aload_n C 0 dX11_laysOwn_1 rfl ?_
  refine v_get C 0 21 lR0 (eR0 _) rfl inX11 (by decide) rfl qw1161 dX11_laysOwn_2 ?_
  refine v_iconst (z := 0) C dX11_laysOwn_5 rfl ?_
  refine v_iald C 6 lR6 (eR6 _) (by decide) (by omega) dX11_laysOwn_6 ?_
  refine v_put C 0 34 (m 6 0) 34 rfl lR0 (eR0 _) rfl inX11 tyX11 tyX11_ok nmX11 (by decide) qw1174 rfl rfl rfl (Nat.le_of_ble_eq_true rfl) (by rw [mup_r]; exact (eR0 _)) dX11_laysOwn_7 (fun m1 em1 => ?_)
  refine v_iconst (z := 0) C dX11_laysOwn_10 rfl ?_
  refine v_istore_n (L1 := [(1, .int (iz (0))), (0, .ref (aa 0))]) C dX11_laysOwn_11 (by decide) rfl ?_
  have K12 : ∀ (nK : Nat) (i : Int) (mL : Mem) (hi : 0 ≤ i ∧ i ≤ 3) (h9 : ∀ j : Int, 0 ≤ j → j < i → mL 9 j = uX Xx j) (h34 : mL 0 34 = Xx 0) (h0 : ∀ j : Int, j ≠ 34 → mL 0 j = m 0 j) (hf : ∀ q : Nat, q ≠ 0 → q ≠ 9 → mL q = m q), (3 - i).toNat < nK → V E (wR D cy aa ad) 2 mL 12 [(0, .ref (aa 0)), (1, .int (iz (i)))] [] := by
    intro nK
    induction nK with
    | zero => intro i mL hi h9 h34 h0 hf hn; exact absurd hn (Nat.not_lt_zero _)
    | succ nK ih12 =>
      intro i mL hi h9 h34 h0 hf hn12
      refine v_iload_n C 1 dX11_laysOwn_12 rfl ?_
      refine v_iconst (z := 3) C dX11_laysOwn_13 rfl ?_
      refine v_icmp_ge (tgt := 37) C dX11_laysOwn_14 (by decide) (by omega) (by omega) (fun c2 => ?_) (fun c2 => ?_)
      · refine v_vret C X dX11_laysOwn_37 ⟨rfl, ?_⟩
        exact ⟨⟨h34, fun j h0 h1 => h9 j h0 (by omega), hX.dv hF hn⟩, h0, hf⟩
      · refine v_aload_n C 0 dX11_laysOwn_17 rfl ?_
        refine v_get C 0 33 lR0 (eR0 _) rfl inX11 (by decide) rfl qw1173 dX11_laysOwn_18 ?_
        refine v_iload_n C 1 dX11_laysOwn_21 rfl ?_
        refine v_aload_n C 0 dX11_laysOwn_22 rfl ?_
        refine v_get C 0 21 lR0 (eR0 _) rfl inX11 (by decide) rfl qw1161 dX11_laysOwn_23 ?_
        refine v_iconst (z := 2) C dX11_laysOwn_26 rfl ?_
        refine v_iload_n C 1 dX11_laysOwn_27 rfl ?_
        refine v_iadd C dX11_laysOwn_28 ?_
        refine v_iald C 6 lR6 (eR6 _) (by decide) (by omega) dX11_laysOwn_29 ?_
        refine v_iast C 9 lR9 eR9 (by decide) (by omega) dX11_laysOwn_30 (fun m3 em3 => ?_)
        refine v_iinc (L1 := [(1, .int (iz (i + 1))), (0, .ref (aa 0))]) C 1 dX11_laysOwn_31 rfl (by decide) rfl ?_
        refine v_goto (tgt := 12) C dX11_laysOwn_34 (by decide) ?_
        refine v_sub [1, 0] rfl ?_
        exact ih12 (i + 1) m3 (by first | assumption | omega) (by 
                    intro j h0 h1; rw [em3, mup_r]
                    by_cases e : j = i
                    · refine (if_pos e).trans ?_; rw [hf 6 (by decide) (by decide), e]; exact r6 _ (by omega) (by omega)
                    · exact (if_neg e).trans (h9 j h0 (by omega))
                  ) (by rw [em3, mup_k _ _ _ (by decide)]; exact h34) (by intro j h; rw [em3, mup_k _ _ _ (by decide)]; exact h0 j h) (by intro q h1 h2; rw [em3, mup_k _ _ _ h2]; exact hf q h1 h2) (by omega)
  refine v_sub [1, 0] rfl ?_
  exact K12 _ (0) m1 (by first | assumption | omega) (by intro j h0 h1; omega) (by rw [em1, mup_s]; exact r6 0 (by decide) (by decide)) (by intro j h; rw [em1, mup_j _ _ h]) (by intro q h1 h2; rw [em1, mup_k _ _ _ h1]) (Nat.lt_succ_self _)
