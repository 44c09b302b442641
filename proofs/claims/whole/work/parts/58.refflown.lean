def rkR (pw : Int → Int → Prop) (i f le : Int) : Prop := (i = 0 ∧ f = -2) ∨ (0 < i ∧ (1 ≤ f ∧ f ≤ i) ∧ pw (f - 1) le ∧ ∀ j : Int, 0 ≤ j → j < i → ∃ x, pw j x ∧ (le < x ∨ (le = x ∧ f - 1 ≤ j)))
theorem rkR.p {pw : Int → Int → Prop} {i f le : Int} (h : rkR pw i f le) : rkP pw i f := by
  rcases h with ⟨a, c⟩ | ⟨a, b, c, d⟩
  · exact Or.inl ⟨c, by omega⟩
  · exact Or.inr ⟨b, le, c, d⟩
theorem rkR_step {pw : Int → Int → Prop} {i f le y : Int} (h : rkR pw i f le) (hy : pw i y) (hi : 0 ≤ i) : ((f = -2 ∨ y < le) → rkR pw (i + 1) (i + 1) y) ∧ (f ≠ -2 → ¬ y < le → rkR pw (i + 1) f le) := by
  have e : i + 1 - 1 = i := by omega
  rcases h with ⟨a, c⟩ | ⟨a, b, c, d⟩
  · refine ⟨fun _ => Or.inr ⟨by omega, by omega, by rw [e]; exact hy, fun j h0 h1 => ?_⟩, fun h1 h2 => absurd c h1⟩
    rw [show j = i by omega]; exact ⟨y, hy, Or.inr ⟨rfl, by omega⟩⟩
  · refine ⟨fun hl => Or.inr ⟨by omega, by omega, by rw [e]; exact hy, fun j h0 h1 => ?_⟩, fun _ hl => Or.inr ⟨by omega, by omega, c, fun j h0 h1 => ?_⟩⟩
    · by_cases q : j = i
      · rw [q]; exact ⟨y, hy, Or.inr ⟨rfl, by omega⟩⟩
      · obtain ⟨x, x1, x2⟩ := d j h0 (by omega)
        exact ⟨x, x1, Or.inl (by omega)⟩
    · by_cases q : j = i
      · rw [q]; exact ⟨y, hy, by omega⟩
      · exact d j h0 (by omega)
theorem FN_2200 {fa : Int → Int} {n pl : Int} (hF : FaOk fa n) (hp : 0 ≤ pl ∧ pl ≤ 99) {l : List Tk} (hl : l.length ≤ 51) (h : tkOk fa n l) : (1 ≤ FN fa pl l ∧ FN fa pl l ≤ 2 ^ 2200) ∧ 1 ≤ FD fa pl l ∧ FD fa pl l ≤ 2 ^ 2200 := by
  have a := FN_b hF hp l h
  have b := p2200 hl
  exact ⟨⟨a.1.1, by omega⟩, a.2.1, by omega⟩
set_option maxHeartbeats 4000000 in
set_option maxRecDepth 100000 in
theorem ct_StageRatiosModel_laysFlown {lau : Launch} {D : va_G} {cy : Nat → ClassId} {aa ad : Nat → Nat} (hI : wI (wR D cy aa ad)) (m : Mem) (fa Af Bf Cf Rr Xx : Int → Int) (l : List Tk) (hg : RT m fa Af Bf Cf Rr Xx) (hT : TkR m l) (hok : tkOk fa (Rr 5) l) (hl : l.length ≤ 51) : MT lau (wR D cy aa ad) yX11_laysFlown cX11_laysFlown 2 (none) ({ frames := 2, cells := 0, slots := 0, locals := 48 } : Room) m [.ref (aa 0)] (Pv (fun m' => BW2 m' (FN fa (Rr 4) l) (FD fa (Rr 4) l) ∧ FBm m m')) := by
  refine v_entry hI RX11 (by decide) rfl (Nat.le_of_ble_eq_true rfl) (fun E hE C X => ?_)
  subst hE
  show V E (wR D cy aa ad) 2 m 0 [(0, .ref (aa 0))] []
  obtain ⟨⟨r11, r8, r9, r10, r12⟩, r1, r2, r6, hvd, hfo⟩ := id hg
  obtain ⟨hn, hF, hup, hlw, hX⟩ := id hvd
  obtain ⟨hpl, hnf, hfa⟩ := id hfo
  refine v_aload_n C 0 dX11_laysFlown_0 rfl ?_
  refine v_callV (st := []) (n := 0) (q := 0) C [] (ct_StageRatiosModel_one C.2.2.2.2.2.2.1 m  ) lR0 (eR0 _) rfl qw1520 qw16 qw1517 rfl rfl ⟨Nat.le_of_ble_eq_true rfl, Nat.le_of_ble_eq_true rfl⟩ (by decide +kernel) qw1519 qp66 rfl rfl (Nat.le_of_ble_eq_true rfl) dX11_laysFlown_1 (fun r m1 hq1 => ?_)
  obtain ⟨rfl, hq1⟩ := hq1
  show V E (wR D cy aa ad) 2 m1 4 [(0, .ref (aa 0))] []
  refine v_iconst (z := 0) C dX11_laysFlown_4 rfl ?_
  refine v_istore_n (L1 := [(1, .int (iz (0))), (0, .ref (aa 0))]) C dX11_laysFlown_5 (by decide) rfl ?_
  have K6 : ∀ (nK : Nat) (i : Int) (mL : Mem) (hi : 0 ≤ i ∧ i ≤ l.length) (h2 : BW2 mL (FN fa (Rr 4) (l.take i.toNat)) (FD fa (Rr 4) (l.take i.toNat))) (hf : FBm m mL), (l.length - i).toNat < nK → V E (wR D cy aa ad) 2 mL 6 [(0, .ref (aa 0)), (1, .int (iz (i)))] [] := by
    intro nK
    induction nK with
    | zero => intro i mL hi h2 hf hn; exact absurd hn (Nat.not_lt_zero _)
    | succ nK ih6 =>
      intro i mL hi h2 hf hn6
      have hgL := hf.rt hg
      have l10 : mL 0 10 = Rr 4 := hgL.1.2.2.2.1
      have hTL : TkR mL l := hT.fr (hf.1 58 (by decide) (by decide)) (hf.2 20 (by decide) (by decide) (by decide)) (hf.2 21 (by decide) (by decide) (by decide)) (hf.2 22 (by decide) (by decide) (by decide)) (hf.2 23 (by decide) (by decide) (by decide)) (hf.2 24 (by decide) (by decide) (by decide)) (hf.2 25 (by decide) (by decide) (by decide))
      have l58 := hTL.1
      have e1 : (i + 1).toNat = i.toNat + 1 := by omega
      have e2 : ((i.toNat : Nat) : Int) = i := by omega
      have hbN := FN_2200 hF hpl (l := l.take i.toNat) (by rw [List.length_take]; omega) (hok.take _)
      refine v_iload_n C 1 dX11_laysFlown_6 rfl ?_
      refine v_aload_n C 0 dX11_laysFlown_7 rfl ?_
      refine v_get C 0 58 lR0 (eR0 _) rfl inX11 (by decide) rfl qw1198 dX11_laysFlown_8 ?_
      refine v_icmp_ge (tgt := 69) C dX11_laysFlown_11 (by decide) (by omega) (by omega) (fun c2 => ?_) (fun c2 => ?_)
      · refine v_vret C X dX11_laysFlown_69 ⟨rfl, ?_⟩
        rw [show i.toNat = l.length by omega, List.take_length] at h2; exact ⟨h2, hf⟩
      · have K63 : ∀  (mE : Mem) (h2e : BW2 mE (FN fa (Rr 4) (l.take (i + 1).toNat)) (FD fa (Rr 4) (l.take (i + 1).toNat))) (hfe : FBm m mE), V E (wR D cy aa ad) 2 mE 63 [(0, .ref (aa 0)), (1, .int (iz (i)))] [] := by
          intro  mE h2e hfe
          refine v_iinc (L1 := [(1, .int (iz (i + 1))), (0, .ref (aa 0))]) C 1 dX11_laysFlown_63 rfl (by decide) rfl ?_
          refine v_goto (tgt := 6) C dX11_laysFlown_66 (by decide) ?_
          refine v_sub [1, 0] rfl ?_
          exact ih6 (i + 1) mE (by omega) (by exact h2e) (by exact hfe) (by omega)
        refine v_aload_n C 0 dX11_laysFlown_14 rfl ?_
        refine v_aload_n C 0 dX11_laysFlown_15 rfl ?_
        refine v_get C 0 54 lR0 (eR0 _) rfl inX11 (by decide) rfl qw1194 dX11_laysFlown_16 ?_
        refine v_iload_n C 1 dX11_laysFlown_19 rfl ?_
        obtain ⟨q0, hq0⟩ : ∃ q, l[i.toNat]? = some q := ⟨_, List.getElem?_eq_getElem (by omega)⟩
        have hqv := hTL.2 _ q0 hq0
        rw [e2] at hqv
        have hqr := hok q0 (List.mem_of_getElem? hq0)
        have hqf := hF q0.1 hqr.1.1 hqr.1.2
        have hbS := FN_2200 hF hpl (l := l.take (i + 1).toNat) (by rw [List.length_take]; omega) (hok.take _)
        rw [e1, FN_s hq0, FD_s hq0] at hbS
        have hp1 := plZ_rng hpl (Or.inl rfl : Rr 4 = Rr 4 ∨ Rr 4 = Rr 4 + 1)
        have hp2 := plZ_rng hpl (Or.inr rfl : Rr 4 + 1 = Rr 4 ∨ Rr 4 + 1 = Rr 4 + 1)
        have hx1 := mul_1 hbN.1.1 (pw_pos hqr.2.1.1 (fa (q0.1 * 9 + 0)).toNat)
        have hx2 := mul_1 hbN.2.1 (pw_pos hqr.2.2.1 (fa (q0.1 * 9 + 0)).toNat)
        have hu1 := mul_up (show 0 ≤ FN fa (Rr 4) (l.take i.toNat) * q0.2.2.1 ^ (fa (q0.1 * 9 + 0)).toNat by omega) hp1.1
        have hu2 := mul_up (show 0 ≤ FD fa (Rr 4) (l.take i.toNat) * q0.2.2.2.1 ^ (fa (q0.1 * 9 + 0)).toNat by omega) hp2.1
        refine v_iald C 22 lR22 (eR22 _) (by decide) (by omega) dX11_laysFlown_20 ?_
        refine v_aload_n C 0 dX11_laysFlown_21 rfl ?_
        refine v_get C 0 55 lR0 (eR0 _) rfl inX11 (by decide) rfl qw1195 dX11_laysFlown_22 ?_
        refine v_iload_n C 1 dX11_laysFlown_25 rfl ?_
        refine v_iald C 23 lR23 (eR23 _) (by decide) (by omega) dX11_laysFlown_26 ?_
        refine v_aload_n C 0 dX11_laysFlown_27 rfl ?_
        refine v_aload_n C 0 dX11_laysFlown_28 rfl ?_
        refine v_get C 0 52 lR0 (eR0 _) rfl inX11 (by decide) rfl qw1192 dX11_laysFlown_29 ?_
        refine v_iload_n C 1 dX11_laysFlown_32 rfl ?_
        refine v_iald C 20 lR20 (eR20 _) (by decide) (by omega) dX11_laysFlown_33 ?_
        refine v_iconst (z := 0) C dX11_laysFlown_34 rfl ?_
        refine v_callV (st := [.int (iz (mL 23 i)), .int (iz (mL 22 i)), .ref (aa 0)]) (n := 2) (q := 0) C [.int (iz (mL 20 i)), .int (iz (0))] (ct_StageRatiosModel_told C.2.2.2.2.2.2.1 mL (fa) (Af) (Bf) (Cf) (Rr) (Xx) (mL 20 i) (0) (by exact hgL) (by rw [hqv.1]; exact hqr.1) (by first | assumption | omega)) lR0 (eR0 _) rfl qw1440 qw16 qw1437 rfl rfl ⟨Nat.le_of_ble_eq_true rfl, Nat.le_of_ble_eq_true rfl⟩ (by decide +kernel) qw1439 qp55 rfl rfl (Nat.le_of_ble_eq_true rfl) dX11_laysFlown_35 (fun r m3 hq3 => ?_)
        obtain ⟨z3, rfl, rfl, rfl⟩ := hq3
        show V E (wR D cy aa ad) 2 mL 38 [(0, .ref (aa 0)), (1, .int (iz (i)))] [.int (iz (fa ((mL 20 i) * 9 + 0))), .int (iz (mL 23 i)), .int (iz (mL 22 i)), .ref (aa 0)]
        refine v_callV (st := []) (n := 3) (q := 0) C [.int (iz (mL 22 i)), .int (iz (mL 23 i)), .int (iz (fa ((mL 20 i) * 9 + 0)))] (ct_StageRatiosModel_times C.2.2.2.2.2.2.1 mL (mL 22 i) (mL 23 i) (fa ((mL 20 i) * 9 + 0)) (FN fa (Rr 4) (l.take i.toNat)) (FD fa (Rr 4) (l.take i.toNat)) (by rw [hqv.2.2.1]; exact hqr.2.1) (by rw [hqv.2.2.2.1]; exact hqr.2.2) (by rw [hqv.1]; omega) (by exact h2) (by omega) (by omega) (by rw [hqv.1, hqv.2.2.1]; exact lt_240 (by omega)) (by rw [hqv.1, hqv.2.2.2.1]; exact lt_240 (by omega))) lR0 (eR0 _) rfl qw1524 qw16 qw1521 rfl rfl ⟨Nat.le_of_ble_eq_true rfl, Nat.le_of_ble_eq_true rfl⟩ (by decide +kernel) qw1523 qp67 rfl rfl (Nat.le_of_ble_eq_true rfl) dX11_laysFlown_38 (fun r m4 hq4 => ?_)
        obtain ⟨rfl, hq4⟩ := hq4
        show V E (wR D cy aa ad) 2 m4 41 [(0, .ref (aa 0)), (1, .int (iz (i)))] []
        rw [hqv.1, hqv.2.2.1, hqv.2.2.2.1] at hq4
        have h2m := hq4.1
        have hfm := hf.tr hq4.2
        have ep : m4 0 10 = Rr 4 := (hfm.rt hg).1.2.2.2.1
        refine v_aload_n C 0 dX11_laysFlown_41 rfl ?_
        refine v_get C 0 10 lR0 (eR0 _) rfl inX11 (by decide) rfl qw1150 dX11_laysFlown_42 ?_
        refine v_if_le (tgt := 63) C dX11_laysFlown_45 (by decide) (by omega) (fun c5 => ?_) (fun c5 => ?_)
        · refine v_sub [0, 1] rfl ?_
          exact K63   m4 (by 
                        rw [e1, FN_s hq0, FD_s hq0]
                        first
                          | (have z := NO_q60.1; rw [ep, show ((1 : Int)).toNat = 1 from rfl, Int.pow_one, Int.pow_one] at z; rw [show plZ (Rr 4) (Rr 4) = Rr 4 from if_pos (by omega), show plZ (Rr 4) (Rr 4 + 1) = Rr 4 + 1 from if_pos (by omega)]; exact z)
                          | (rw [show plZ (Rr 4) (Rr 4) = 1 from if_neg (by omega), show plZ (Rr 4) (Rr 4 + 1) = 1 from if_neg (by omega), Int.mul_one, Int.mul_one]; exact h2m)
                      ) (by first | exact hfm.tr NO_q60.2 | exact hfm)
        · refine v_aload_n C 0 dX11_laysFlown_48 rfl ?_
          refine v_aload_n C 0 dX11_laysFlown_49 rfl ?_
          refine v_get C 0 10 lR0 (eR0 _) rfl inX11 (by decide) rfl qw1150 dX11_laysFlown_50 ?_
          refine v_aload_n C 0 dX11_laysFlown_53 rfl ?_
          refine v_get C 0 10 lR0 (eR0 _) rfl inX11 (by decide) rfl qw1150 dX11_laysFlown_54 ?_
          refine v_iconst (z := 1) C dX11_laysFlown_57 rfl ?_
          refine v_iadd C dX11_laysFlown_58 ?_
          refine v_iconst (z := 1) C dX11_laysFlown_59 rfl ?_
          refine v_callV (st := []) (n := 3) (q := 0) C [.int (iz (m4 0 10)), .int (iz ((m4 0 10) + 1)), .int (iz (1))] (ct_StageRatiosModel_times C.2.2.2.2.2.2.1 m4 (m4 0 10) ((m4 0 10) + 1) (1) (FN fa (Rr 4) (l.take i.toNat) * q0.2.2.1 ^ (fa (q0.1 * 9 + 0)).toNat) (FD fa (Rr 4) (l.take i.toNat) * q0.2.2.2.1 ^ (fa (q0.1 * 9 + 0)).toNat) (by omega) (by omega) (by decide) (by exact h2m) (by omega) (by omega) (by rw [ep, show ((1 : Int)).toNat = 1 from rfl, Int.pow_one]; rw [show plZ (Rr 4) (Rr 4) = Rr 4 from if_pos (by omega)] at hbS; exact lt_240 hbS.1.2) (by rw [ep, show ((1 : Int)).toNat = 1 from rfl, Int.pow_one]; rw [show plZ (Rr 4) (Rr 4 + 1) = Rr 4 + 1 from if_pos (by omega)] at hbS; exact lt_240 hbS.2.2)) lR0 (eR0 _) rfl qw1524 qw16 qw1521 rfl rfl ⟨Nat.le_of_ble_eq_true rfl, Nat.le_of_ble_eq_true rfl⟩ (by decide +kernel) qw1523 qp67 rfl rfl (Nat.le_of_ble_eq_true rfl) dX11_laysFlown_60 (fun r m6 hq6 => ?_)
          obtain ⟨rfl, hq6⟩ := hq6
          show V E (wR D cy aa ad) 2 m6 63 [(0, .ref (aa 0)), (1, .int (iz (i)))] []
          refine v_sub [0, 1] rfl ?_
          exact K63   m6 (by 
                        rw [e1, FN_s hq0, FD_s hq0]
                        first
                          | (have z := hq6.1; rw [ep, show ((1 : Int)).toNat = 1 from rfl, Int.pow_one, Int.pow_one] at z; rw [show plZ (Rr 4) (Rr 4) = Rr 4 from if_pos (by omega), show plZ (Rr 4) (Rr 4 + 1) = Rr 4 + 1 from if_pos (by omega)]; exact z)
                          | (rw [show plZ (Rr 4) (Rr 4) = 1 from if_neg (by omega), show plZ (Rr 4) (Rr 4 + 1) = 1 from if_neg (by omega), Int.mul_one, Int.mul_one]; exact h2m)
                      ) (by first | exact hfm.tr hq6.2 | exact hfm)
  refine v_sub [1, 0] rfl ?_
  exact K6 _ (0) m1 (by omega) (by exact hq1.1) (by exact hq1.2) (Nat.lt_succ_self _)

set_option maxHeartbeats 4000000 in
set_option maxRecDepth 100000 in
theorem ct_StageRatiosModel_leastPushAt {lau : Launch} {D : va_G} {cy : Nat → ClassId} {aa ad : Nat → Nat} (hI : wI (wR D cy aa ad)) (m : Mem) (l : List Tk) (hT : TkR m l) (hl : l.length ≤ 51) (hp : ∀ q ∈ l, 0 ≤ q.2.2.2.2.2 ∧ q.2.2.2.2.2 ≤ 10000000) : MT lau (wR D cy aa ad) yX11_leastPushAt cX11_leastPushAt 3 (some .int) ({ frames := 0, cells := 0, slots := 0, locals := 0 } : Room) m [.ref (aa 0)] (Pi (fun z m' => ((l.length = 0 ∧ z = -1) ∨ (0 < l.length ∧ z = mnA (pshF l) l.length - 1)) ∧ m = m')) := by
  refine v_entry hI RX11 (by decide) rfl (Nat.le_of_ble_eq_true rfl) (fun E hE C X => ?_)
  subst hE
  show V E (wR D cy aa ad) 3 m 0 [(0, .ref (aa 0))] []
  have h58 := hT.1
  have hps : ∀ i : Int, 0 ≤ i → i < l.length → m 25 i = pshF l i ∧ 0 ≤ m 25 i ∧ m 25 i ≤ 10000000 := fun i h0 h1 => by
    obtain ⟨q, hq⟩ : ∃ q, l[i.toNat]? = some q := ⟨_, List.getElem?_eq_getElem (by omega)⟩
    have w := (hT.2 _ q hq).2.2.2.2.2
    rw [show ((i.toNat : Nat) : Int) = i by omega] at w
    have r := hp q (List.mem_of_getElem? hq)
    refine ⟨?_, by omega⟩
    unfold pshF; rw [hq]; exact w
  refine v_iconst (z := -1) C dX11_leastPushAt_0 rfl ?_
  refine v_istore_n (L1 := [(1, .int (iz (-1))), (0, .ref (aa 0))]) C dX11_leastPushAt_1 (by decide) rfl ?_
  refine v_iconst (z := 0) C dX11_leastPushAt_2 rfl ?_
  refine v_istore_n (L1 := [(2, .int (iz (0))), (1, .int (iz (-1))), (0, .ref (aa 0))]) C dX11_leastPushAt_3 (by decide) rfl ?_
  have K4 : ∀ (nK : Nat) (b : Int) (i : Int) (hi : 0 ≤ i ∧ i ≤ l.length) (hb : (i = 0 ∧ b = -1) ∨ (0 < i ∧ b = mnA (pshF l) i.toNat - 1)), (l.length - i).toNat < nK → V E (wR D cy aa ad) 3 m 4 [(0, .ref (aa 0)), (1, .int (iz (b))), (2, .int (iz (i)))] [] := by
    intro nK
    induction nK with
    | zero => intro b i  hi hb hn; exact absurd hn (Nat.not_lt_zero _)
    | succ nK ih4 =>
      intro b i  hi hb hn4
      have hmr := mnA_rng (pshF l) i.toNat
      have e1 : (i + 1).toNat = i.toNat + 1 := by omega
      have e2 : ((i.toNat : Nat) : Int) = i := by omega
      have hbr : -1 ≤ b ∧ b < i ∧ (b = -1 ↔ i = 0) := by
        rcases hb with ⟨y, y2⟩ | ⟨y, y2⟩
        · omega
        · have := hmr.2 (by omega); omega
      have hmS : mnA (pshF l) (i.toNat + 1) = (if mnA (pshF l) i.toNat < 1 then (i.toNat : Int) + 1 else if pshF l i.toNat < pshF l (mnA (pshF l) i.toNat - 1) then (i.toNat : Int) + 1 else mnA (pshF l) i.toNat) := rfl
      rw [e2] at hmS
      refine v_iload_n C 2 dX11_leastPushAt_4 rfl ?_
      refine v_aload_n C 0 dX11_leastPushAt_5 rfl ?_
      refine v_get C 0 58 lR0 (eR0 _) rfl inX11 (by decide) rfl qw1198 dX11_leastPushAt_6 ?_
      refine v_icmp_ge (tgt := 40) C dX11_leastPushAt_9 (by decide) (by omega) (by omega) (fun c1 => ?_) (fun c1 => ?_)
      · refine v_iload_n C 1 dX11_leastPushAt_40 rfl ?_
        refine v_iret C X rfl dX11_leastPushAt_41 ⟨_, rfl, ?_, ?_⟩
        · rcases hb with ⟨y, y2⟩ | ⟨y, y2⟩
          · exact Or.inl ⟨by omega, y2⟩
          · exact Or.inr ⟨by omega, by rw [y2, show i.toNat = l.length by omega]⟩
        · rfl
      · have K34 : ∀ (b2 : Int) (hb2 : (i + 1 = 0 ∧ b2 = -1) ∨ (0 < i + 1 ∧ b2 = mnA (pshF l) (i + 1).toNat - 1)), V E (wR D cy aa ad) 3 m 34 [(0, .ref (aa 0)), (1, .int (iz (b2))), (2, .int (iz (i)))] [] := by
          intro b2  hb2
          refine v_iinc (L1 := [(2, .int (iz (i + 1))), (0, .ref (aa 0)), (1, .int (iz (b2)))]) C 2 dX11_leastPushAt_34 rfl (by decide) rfl ?_
          refine v_goto (tgt := 4) C dX11_leastPushAt_37 (by decide) ?_
          refine v_sub [1, 2, 0] rfl ?_
          exact ih4 (b2) (i + 1)  (by omega) (by exact hb2) (by omega)
        refine v_iload_n C 1 dX11_leastPushAt_12 rfl ?_
        refine v_iconst (z := -1) C dX11_leastPushAt_13 rfl ?_
        refine v_icmp_eq (tgt := 32) C dX11_leastPushAt_14 (by decide) (by omega) (by omega) (fun c2 => ?_) (fun c2 => ?_)
        · refine v_iload_n C 2 dX11_leastPushAt_32 rfl ?_
          refine v_istore_n (L1 := [(1, .int (iz (i))), (0, .ref (aa 0)), (2, .int (iz (i)))]) C dX11_leastPushAt_33 (by decide) rfl ?_
          refine v_sub [1, 0, 2] rfl ?_
          exact K34  (i)  (by 
                        refine Or.inr ⟨by omega, ?_⟩
                        rw [e1, hmS]
                        rcases hb with ⟨y, y2⟩ | ⟨y, y2⟩
                        · have y3 := hmr.1 (by omega)
                          first
                            | (rw [if_pos (by omega)]; omega)
                            | (exfalso; omega)
                        · have y3 := hmr.2 (by omega)
                          have p1 := (hps i (by omega) (by omega)).1
                          have p2 := (hps b (by omega) (by omega)).1
                          rw [show mnA (pshF l) i.toNat - 1 = b by omega, if_neg (by omega)]
                          first
                            | (rw [if_pos (by omega)]; omega)
                            | (rw [if_neg (by omega)]; omega)
                      )
        · refine v_aload_n C 0 dX11_leastPushAt_17 rfl ?_
          refine v_get C 0 57 lR0 (eR0 _) rfl inX11 (by decide) rfl qw1197 dX11_leastPushAt_18 ?_
          refine v_iload_n C 2 dX11_leastPushAt_21 rfl ?_
          have hp1 := hps i (by omega) (by omega)
          have hp2 := hps b (by omega) (by omega)
          refine v_iald C 25 lR25 (eR25 _) (by decide) (by omega) dX11_leastPushAt_22 ?_
          refine v_aload_n C 0 dX11_leastPushAt_23 rfl ?_
          refine v_get C 0 57 lR0 (eR0 _) rfl inX11 (by decide) rfl qw1197 dX11_leastPushAt_24 ?_
          refine v_iload_n C 1 dX11_leastPushAt_27 rfl ?_
          refine v_iald C 25 lR25 (eR25 _) (by decide) (by omega) dX11_leastPushAt_28 ?_
          refine v_icmp_ge (tgt := 34) C dX11_leastPushAt_29 (by decide) (by omega) (by omega) (fun c3 => ?_) (fun c3 => ?_)
          · refine v_sub [0, 1, 2] rfl ?_
            exact K34  (b)  (by 
                            refine Or.inr ⟨by omega, ?_⟩
                            rw [e1, hmS]
                            rcases hb with ⟨y, y2⟩ | ⟨y, y2⟩
                            · have y3 := hmr.1 (by omega)
                              first
                                | (rw [if_pos (by omega)]; omega)
                                | (exfalso; omega)
                            · have y3 := hmr.2 (by omega)
                              have p1 := (hps i (by omega) (by omega)).1
                              have p2 := (hps b (by omega) (by omega)).1
                              rw [show mnA (pshF l) i.toNat - 1 = b by omega, if_neg (by omega)]
                              first
                                | (rw [if_pos (by omega)]; omega)
                                | (rw [if_neg (by omega)]; omega)
                          )
          · refine v_iload_n C 2 dX11_leastPushAt_32 rfl ?_
            refine v_istore_n (L1 := [(1, .int (iz (i))), (0, .ref (aa 0)), (2, .int (iz (i)))]) C dX11_leastPushAt_33 (by decide) rfl ?_
            refine v_sub [1, 0, 2] rfl ?_
            exact K34  (i)  (by 
                            refine Or.inr ⟨by omega, ?_⟩
                            rw [e1, hmS]
                            rcases hb with ⟨y, y2⟩ | ⟨y, y2⟩
                            · have y3 := hmr.1 (by omega)
                              first
                                | (rw [if_pos (by omega)]; omega)
                                | (exfalso; omega)
                            · have y3 := hmr.2 (by omega)
                              have p1 := (hps i (by omega) (by omega)).1
                              have p2 := (hps b (by omega) (by omega)).1
                              rw [show mnA (pshF l) i.toNat - 1 = b by omega, if_neg (by omega)]
                              first
                                | (rw [if_pos (by omega)]; omega)
                                | (rw [if_neg (by omega)]; omega)
                          )
  refine v_sub [2, 1, 0] rfl ?_
  exact K4 _ (-1) (0)  (by omega) (by exact Or.inl ⟨rfl, rfl⟩) (Nat.lt_succ_self _)

set_option maxHeartbeats 4000000 in
set_option maxRecDepth 100000 in
theorem ct_StageRatiosModel_riskOf {lau : Launch} {D : va_G} {cy : Nat → ClassId} {aa ad : Nat → Nat} (hI : wI (wR D cy aa ad)) (m : Mem) (fa Af Bf Cf Rr Xx : Int → Int) (s w : Int) (hg : RT m fa Af Bf Cf Rr Xx) (hs : -2147483648 ≤ s ∧ s ≤ 2147483647) (hw0 : -2147483648 ≤ w ∧ w ≤ 2147483647) : MT lau (wR D cy aa ad) yX11_riskOf cX11_riskOf 3 (some .int) ({ frames := 4, cells := 0, slots := 0, locals := 96 } : Room) m [.ref (aa 0), .int (iz (s)), .int (iz (w))] (Pi (fun z m' => (pfA fa Af Bf Cf Rr Xx s w z) ∧ FK m m')) := by
  refine v_entry hI RX11 (by decide) rfl (Nat.le_of_ble_eq_true rfl) (fun E hE C X => ?_)
  subst hE
  show V E (wR D cy aa ad) 3 m 0 [(0, .ref (aa 0)), (1, .int (iz (s))), (2, .int (iz (w)))] []
  obtain ⟨⟨r11, r8, r9, r10, r12⟩, r1, r2, r6, hvd, hfo⟩ := id hg
  obtain ⟨hn, hF, hup, hlw, hX⟩ := id hvd
  refine v_aload_n C 0 dX11_riskOf_0 rfl ?_
  refine v_iload_n C 1 dX11_riskOf_1 rfl ?_
  refine v_iload_n C 2 dX11_riskOf_2 rfl ?_
  refine v_callV (st := []) (n := 2) (q := 0) C [.int (iz (s)), .int (iz (w))] (ct_StageRatiosModel_flies C.2.2.2.2.2.2.1 m (fa) (Af) (Bf) (Cf) (Rr) (Xx) (s) (w) (w) (by first | assumption | omega) (by first | assumption | omega) (by first | assumption | omega) (by first | assumption | omega)) lR0 (eR0 _) rfl qw1670 qw16 qw1667 rfl rfl ⟨Nat.le_of_ble_eq_true rfl, Nat.le_of_ble_eq_true rfl⟩ (by decide +kernel) qw1669 qp87 rfl rfl (Nat.le_of_ble_eq_true rfl) dX11_riskOf_3 (fun r m1 hq1 => ?_)
  obtain ⟨rfl, hq1⟩ := hq1
  show V E (wR D cy aa ad) 3 m1 6 [(0, .ref (aa 0)), (1, .int (iz (s))), (2, .int (iz (w)))] []
  have fk3 := (FK.rf m).tr (show FK _ m1 from ⟨fun j hj => hq1.2.2.2.2.1 j (by unfold CKj at hj; omega) (by unfold CKj at hj; omega) (by unfold CKj at hj; omega) (by unfold CKj at hj; omega), fun q hq => hq1.2.2.2.2.2 q (by omega) (by omega) (by omega) (by omega) (by omega) (by omega) (by omega) (by omega)⟩)
  have hT3 := hq1.1
  have hok3 := ftl_ok (xs := s) (xt := w) hvd hfo
  have hle3 := ftl_len (xs := s) (xt := w) hvd hfo
  have hrg3 := ftl_rng (xs := s) (xt := w) hvd hfo
  have hbN3 := FN_2200 hF hfo.1 hle3 hok3
  have hcr3 := fpl_cross (xs := s) (xt := w) hvd hfo
  obtain ⟨-, -, ok3, ok4, ok5⟩ := fpl_ok (xs := s) (xt := w) hvd hfo
  have h583 := hT3.1
  have hg3 := fk3.rt hg
  refine v_aload_n C 0 dX11_riskOf_6 rfl ?_
  refine v_callV (st := []) (n := 0) (q := 0) C [] (ct_StageRatiosModel_laysFlown C.2.2.2.2.2.2.1 m1 (fa) (Af) (Bf) (Cf) (Rr) (Xx) ((ftl fa Af Bf Cf Rr Xx s w)) (by exact hg3) (by exact hT3) (by exact hok3) (by exact hle3)) lR0 (eR0 _) rfl qw1682 qw16 qw1679 rfl rfl ⟨Nat.le_of_ble_eq_true rfl, Nat.le_of_ble_eq_true rfl⟩ (by decide +kernel) qw1681 qp90 rfl rfl (Nat.le_of_ble_eq_true rfl) dX11_riskOf_7 (fun r m2 hq2 => ?_)
  obtain ⟨rfl, hq2⟩ := hq2
  show V E (wR D cy aa ad) 3 m2 10 [(0, .ref (aa 0)), (1, .int (iz (s))), (2, .int (iz (w)))] []
  refine v_aload_n C 0 dX11_riskOf_10 rfl ?_
  refine v_callV (st := []) (n := 0) (q := 0) C [] (ct_StageRatiosModel_greatestBy C.2.2.2.2.2.2.1 m2 (fa) (Af) (Bf) (Cf) (Rr) (Xx) (FN fa (Rr 4) (ftl fa Af Bf Cf Rr Xx s w)) (FD fa (Rr 4) (ftl fa Af Bf Cf Rr Xx s w)) (by exact hq2.2.rt hg3) (by exact hq2.1) (by exact hbN3.1) (by exact hbN3.2)) lR0 (eR0 _) rfl qw1549 qw16 qw1546 rfl rfl ⟨Nat.le_of_ble_eq_true rfl, Nat.le_of_ble_eq_true rfl⟩ (by decide +kernel) qw1548 qp72 rfl rfl (Nat.le_of_ble_eq_true rfl) dX11_riskOf_11 (fun r m3 hq3 => ?_)
  obtain ⟨z3, rfl, hq3, hm3⟩ := hq3
  show V E (wR D cy aa ad) 3 m3 14 [(0, .ref (aa 0)), (1, .int (iz (s))), (2, .int (iz (w)))] [.int (iz (z3))]
  refine v_iret C X rfl dX11_riskOf_14 ⟨_, rfl, ?_, ?_⟩
  · exact hq3.x hbN3.2.1 ok4 hcr3
  · exact (fk3.tr (FK.fb hq2.2)).tr (FK.fb hm3)

set_option maxHeartbeats 4000000 in
set_option maxRecDepth 100000 in
theorem ct_StageRatiosModel_flight {lau : Launch} {D : va_G} {cy : Nat → ClassId} {aa ad : Nat → Nat} (hI : wI (wR D cy aa ad)) (m : Mem) (fa Af Bf Cf Rr Xx : Int → Int) (w : Int) (hT : TT m fa Af Bf Cf Rr Xx) (hw : -2147483648 ≤ w ∧ w ≤ 2147483647) : MT lau (wR D cy aa ad) yX11_flight cX11_flight 3 (some .int) ({ frames := 4, cells := 0, slots := 0, locals := 96 } : Room) m [.ref (aa 0), .int (iz (w))] (Pi (fun z m' => (RP (qFli (m 0 20) fa Af Bf Cf Rr Xx w) m m' z) ∧ True)) := by
  refine v_entry hI RX11 (by decide) rfl (Nat.le_of_ble_eq_true rfl) (fun E hE C X => ?_)
  subst hE
  show V E (wR D cy aa ad) 3 m 0 [(0, .ref (aa 0)), (1, .int (iz (w)))] []
  refine v_aload_n C 0 dX11_flight_0 rfl ?_
  refine v_iconst (z := 0) C dX11_flight_1 rfl ?_
  refine v_put C 0 0 (0) 0 rfl lR0 (eR0 _) rfl inX11 tyX11 tyX11_ok nmX11 (by decide) qw1140 rfl rfl rfl (Nat.le_of_ble_eq_true rfl) (by rw [mup_r]; exact (eR0 _)) dX11_flight_2 (fun m1 em1 => ?_)
  have fk2 : FK m m1 := by rw [em1]; exact FK.up 0 0 (by unfold CKj; omega)
  have hT2 := fk2.tt hT
  have e20 : m1 0 20 = m 0 20 := fk2.1 20 (Or.inr (Or.inl rfl))
  have ht01 : m 0 20 = 0 ∨ m 0 20 = 1 := hT.imp (fun a => a) (fun a => a.1)
  refine v_aload_n C 0 dX11_flight_5 rfl ?_
  refine v_get C 0 20 lR0 (eR0 _) rfl inX11 (by decide) rfl qw1160 dX11_flight_6 ?_
  refine v_if_eq (tgt := 21) C dX11_flight_9 (by decide) (by omega) (fun c2 => ?_) (fun c2 => ?_)
  · refine v_aload_n C 0 dX11_flight_21 rfl ?_
    refine v_iconst (z := 1) C dX11_flight_22 rfl ?_
    refine v_callV (st := []) (n := 1) (q := 0) C [.int (iz (1))] (ct_StageRatiosModel_refused C.2.2.2.2.2.2.1 m1 (1) ) lR0 (eR0 _) rfl qw1340 qw16 qw1337 rfl rfl ⟨Nat.le_of_ble_eq_true rfl, Nat.le_of_ble_eq_true rfl⟩ (by decide +kernel) qw1339 qp36 rfl rfl (Nat.le_of_ble_eq_true rfl) dX11_flight_23 (fun r m3 hq3 => ?_)
    obtain ⟨z3, rfl, rfl, hq3⟩ := hq3
    show V E (wR D cy aa ad) 3 m3 26 [(0, .ref (aa 0)), (1, .int (iz (w)))] [.int (iz (-1))]
    refine v_iret C X rfl dX11_flight_26 ⟨_, rfl, ?_, ?_⟩
    · rw [← hq3]
      refine RP.mk fk2 ?_ (by decide)
      exact Or.inr ⟨fun h => by omega, rfl, rfl⟩
    · trivial
  · obtain ⟨hT1, hg0⟩ := hT.resolve_left (by omega)
    have hg := fk2.rt hg0
    obtain ⟨⟨r11, r8, r9, r10, r12⟩, r1, r2, r6, hvd, hfo⟩ := id hg
    obtain ⟨hn, hF, hup, hlw, hX⟩ := id hvd
    refine v_iload_n C 1 dX11_flight_12 rfl ?_
    refine v_iconst (z := 0) C dX11_flight_13 rfl ?_
    refine v_iconst (z := 5) C dX11_flight_14 rfl ?_
    refine v_callS (st := []) (n := 3) C [.int (iz (w)), .int (iz (0)), .int (iz (5))] (ct_StageRatiosModel_in C.2.2.2.2.2.2.1 m1 (w) (0) (5) (by first | assumption | omega) (by first | assumption | omega) (by first | assumption | omega)) qw1355 qw16 qw1353 rfl rfl ⟨Nat.le_of_ble_eq_true rfl, Nat.le_of_ble_eq_true rfl⟩ (by decide +kernel) qw1354 rfl rfl (Nat.le_of_ble_eq_true rfl) dX11_flight_15 (fun r m4 hq4 => ?_)
    obtain ⟨z4, rfl, ⟨rfl, hq4, rfl⟩ | ⟨rfl, hq4, rfl⟩⟩ := hq4
    · show V E (wR D cy aa ad) 3 m1 18 [(0, .ref (aa 0)), (1, .int (iz (w)))] [.int (iz (1))]
      refine v_if_ne (tgt := 27) C dX11_flight_18 (by decide) (by omega) (fun c5 => ?_) (fun c5 => by exact absurd c5 (by decide))
      refine v_aload_n C 0 dX11_flight_27 rfl ?_
      refine v_iconst (z := -1) C dX11_flight_28 rfl ?_
      refine v_iconst (z := -1) C dX11_flight_29 rfl ?_
      refine v_callV (st := []) (n := 2) (q := 0) C [.int (iz (-1)), .int (iz (-1))] (ct_StageRatiosModel_flies C.2.2.2.2.2.2.1 m1 (fa) (Af) (Bf) (Cf) (Rr) (Xx) (-1) (-1) (0) (by exact hg) (by first | assumption | omega) (by first | assumption | omega) (by exact Or.inr rfl)) lR0 (eR0 _) rfl qw1670 qw16 qw1667 rfl rfl ⟨Nat.le_of_ble_eq_true rfl, Nat.le_of_ble_eq_true rfl⟩ (by decide +kernel) qw1669 qp87 rfl rfl (Nat.le_of_ble_eq_true rfl) dX11_flight_30 (fun r m6 hq6 => ?_)
      obtain ⟨rfl, hq6⟩ := hq6
      show V E (wR D cy aa ad) 3 m6 33 [(0, .ref (aa 0)), (1, .int (iz (w)))] []
      have fk3 := fk2.tr (show FK _ m6 from ⟨fun j hj => hq6.2.2.2.2.1 j (by unfold CKj at hj; omega) (by unfold CKj at hj; omega) (by unfold CKj at hj; omega) (by unfold CKj at hj; omega), fun q hq => hq6.2.2.2.2.2 q (by omega) (by omega) (by omega) (by omega) (by omega) (by omega) (by omega) (by omega)⟩)
      have hT3 := hq6.1
      have hok3 := ftl_ok (xs := -1) (xt := 0) hvd hfo
      have hle3 := ftl_len (xs := -1) (xt := 0) hvd hfo
      have hrg3 := ftl_rng (xs := -1) (xt := 0) hvd hfo
      have hbN3 := FN_2200 hF hfo.1 hle3 hok3
      have hcr3 := fpl_cross (xs := -1) (xt := 0) hvd hfo
      obtain ⟨-, -, ok3, ok4, ok5⟩ := fpl_ok (xs := -1) (xt := 0) hvd hfo
      have h583 := hT3.1
      have hg3 := fk3.rt hg0
      refine v_aload_n C 0 dX11_flight_33 rfl ?_
      refine v_callV (st := []) (n := 0) (q := 0) C [] (ct_StageRatiosModel_leastPushAt C.2.2.2.2.2.2.1 m6 ((ftl fa Af Bf Cf Rr Xx (-1) 0)) (by exact hT3) (by exact hle3) (by exact fun q hq => (hrg3 q hq).2.2.2.2.2)) lR0 (eR0 _) rfl qw1678 qw16 qw1675 rfl rfl ⟨Nat.le_of_ble_eq_true rfl, Nat.le_of_ble_eq_true rfl⟩ (by decide +kernel) qw1677 qp89 rfl rfl (Nat.le_of_ble_eq_true rfl) dX11_flight_34 (fun r m7 hq7 => ?_)
      obtain ⟨z7, rfl, hq7, rfl⟩ := hq7
      show V E (wR D cy aa ad) 3 m6 37 [(0, .ref (aa 0)), (1, .int (iz (w)))] [.int (iz (z7))]
      have hlp := hq7
      have hmr := mnA_rng (pshF (ftl fa Af Bf Cf Rr Xx (-1) 0)) (ftl fa Af Bf Cf Rr Xx (-1) 0).length
      have hzr : -1 ≤ z7 ∧ z7 < (ftl fa Af Bf Cf Rr Xx (-1) 0).length := by
        rcases hlp with ⟨y, y2⟩ | ⟨y, y2⟩
        · omega
        · have := hmr.2 y; omega
      have hpsh : ∀ i : Int, 0 ≤ i → i < (ftl fa Af Bf Cf Rr Xx (-1) 0).length → m6 25 i = pshF (ftl fa Af Bf Cf Rr Xx (-1) 0) i := fun i h0 h1 => by
        obtain ⟨q, hq⟩ : ∃ q, (ftl fa Af Bf Cf Rr Xx (-1) 0)[i.toNat]? = some q := ⟨_, List.getElem?_eq_getElem (by omega)⟩
        have w9 := (hT3.2 _ q hq).2.2.2.2.2
        rw [show ((i.toNat : Nat) : Int) = i by omega] at w9
        unfold pshF; rw [hq]; exact w9
      refine v_istore_n (L1 := [(2, .int (iz (z7))), (0, .ref (aa 0)), (1, .int (iz (w)))]) C dX11_flight_37 (by decide) rfl ?_
      refine v_iload_n C 2 dX11_flight_38 rfl ?_
      refine v_table C dX11_flight_39 (by omega) (fun tgt ht c8 => ?_) (fun tgt off c8a c8b ho ht => ?_) ⟨138, by decide⟩ (fun ha hb => ?_)
      · obtain rfl : tgt = 138 := by omega
        refine v_aload_n C 1 dX11_flight_138 rfl ?_
        refine v_callV (st := []) (n := 0) (q := 0) C [] (ct_StageRatiosModel_laysFlown C.2.2.2.2.2.2.1 m6 (fa) (Af) (Bf) (Cf) (Rr) (Xx) ((ftl fa Af Bf Cf Rr Xx (-1) 0)) (by exact hg3) (by exact hT3) (by exact hok3) (by exact hle3)) lR0 (eR0 _) rfl qw1682 qw16 qw1679 rfl rfl ⟨Nat.le_of_ble_eq_true rfl, Nat.le_of_ble_eq_true rfl⟩ (by decide +kernel) qw1681 qp90 rfl rfl (Nat.le_of_ble_eq_true rfl) dX11_flight_139 (fun r m9 hq9 => ?_)
        obtain ⟨rfl, hq9⟩ := hq9
        show V E (wR D cy aa ad) 3 m9 142 [(2, .int (iz (z7))), (0, .ref (aa 0)), (1, .int (iz (w)))] []
        refine v_aload_n C 1 dX11_flight_142 rfl ?_
        refine v_aload_n C 1 dX11_flight_143 rfl ?_
        refine v_callV (st := [.ref (aa 0)]) (n := 0) (q := 0) C [] (ct_StageRatiosModel_greatestBy C.2.2.2.2.2.2.1 m9 (fa) (Af) (Bf) (Cf) (Rr) (Xx) (FN fa (Rr 4) (ftl fa Af Bf Cf Rr Xx (-1) 0)) (FD fa (Rr 4) (ftl fa Af Bf Cf Rr Xx (-1) 0)) (by exact hq9.2.rt hg3) (by exact hq9.1) (by exact hbN3.1) (by exact hbN3.2)) lR0 (eR0 _) rfl qw1549 qw16 qw1546 rfl rfl ⟨Nat.le_of_ble_eq_true rfl, Nat.le_of_ble_eq_true rfl⟩ (by decide +kernel) qw1548 qp72 rfl rfl (Nat.le_of_ble_eq_true rfl) dX11_flight_144 (fun r m10 hq10 => ?_)
        obtain ⟨z10, rfl, hq10, hm10⟩ := hq10
        show V E (wR D cy aa ad) 3 m10 147 [(2, .int (iz (z7))), (0, .ref (aa 0)), (1, .int (iz (w)))] [.int (iz (z10)), .ref (aa 0)]
        refine v_callV (st := []) (n := 1) (q := 0) C [.int (iz (z10))] (ct_StageRatiosModel_good C.2.2.2.2.2.2.1 m10 (z10) ) lR0 (eR0 _) rfl qw1444 qw16 qw1441 rfl rfl ⟨Nat.le_of_ble_eq_true rfl, Nat.le_of_ble_eq_true rfl⟩ (by decide +kernel) qw1443 qp56 rfl rfl (Nat.le_of_ble_eq_true rfl) dX11_flight_147 (fun r m11 hq11 => ?_)
        obtain ⟨z11, rfl, rfl, hq11⟩ := hq11
        show V E (wR D cy aa ad) 3 m11 150 [(2, .int (iz (z7))), (0, .ref (aa 0)), (1, .int (iz (w)))] [.int (iz (z10))]
        refine v_iret C X rfl dX11_flight_150 ⟨_, rfl, ?_, ?_⟩
        · rw [← hq11]
          refine RP.mk ((fk3.tr (FK.fb hq9.2)).tr (FK.fb hm10)) ?_ (by decide)
          obtain rfl : w = 5 := by omega
          exact Or.inl ⟨hT1, ⟨by omega, by omega⟩, rfl, fun h => by omega, fun h => by omega, fun h => by omega, fun h => by omega, fun h => by omega, fun _ => hq10.x hbN3.2.1 ok4 hcr3⟩
        · trivial
      · rcases (show w = 0 ∨ w = 1 ∨ w = 2 ∨ w = 3 ∨ w = 4 by omega) with c8 | c8 | c8 | c8 | c8
        · have ho : off = 33 := by rw [c8] at ho; exact (Option.some.inj ho).symm
          obtain rfl : tgt = 72 := by omega
          refine v_aload_n C 1 dX11_flight_72 rfl ?_
          refine v_aload_n C 1 dX11_flight_73 rfl ?_
          refine v_get C 0 58 lR0 (eR0 _) rfl inX11 (by decide) rfl qw1198 dX11_flight_74 ?_
          refine v_callV (st := []) (n := 1) (q := 0) C [.int (iz (m6 0 58))] (ct_StageRatiosModel_good C.2.2.2.2.2.2.1 m6 (m6 0 58) ) lR0 (eR0 _) rfl qw1444 qw16 qw1441 rfl rfl ⟨Nat.le_of_ble_eq_true rfl, Nat.le_of_ble_eq_true rfl⟩ (by decide +kernel) qw1443 qp56 rfl rfl (Nat.le_of_ble_eq_true rfl) dX11_flight_77 (fun r m12 hq12 => ?_)
          obtain ⟨z12, rfl, rfl, hq12⟩ := hq12
          show V E (wR D cy aa ad) 3 m12 80 [(2, .int (iz (z7))), (0, .ref (aa 0)), (1, .int (iz (w)))] [.int (iz ((m6 0 58)))]
          refine v_iret C X rfl dX11_flight_80 ⟨_, rfl, ?_, ?_⟩
          · rw [← hq12]
            refine RP.mk fk3 ?_ (by decide)
            obtain rfl : w = 0 := by omega
            exact Or.inl ⟨hT1, ⟨by omega, by omega⟩, rfl, fun _ => h583, fun h => by omega, fun h => by omega, fun h => by omega, fun h => by omega, fun h => by omega⟩
          · trivial
        · have ho : off = 42 := by rw [c8] at ho; exact (Option.some.inj ho).symm
          obtain rfl : tgt = 81 := by omega
          refine v_aload_n C 1 dX11_flight_81 rfl ?_
          refine v_iload_n C 0 dX11_flight_82 rfl ?_
          refine v_iconst (z := -1) C dX11_flight_83 rfl ?_
          refine v_icmp_ne (tgt := 92) C dX11_flight_84 (by decide) (by omega) (by omega) (fun c13 => ?_) (fun c13 => ?_)
          · refine v_aload_n C 1 dX11_flight_92 rfl ?_
            refine v_get C 0 57 lR0 (eR0 _) rfl inX11 (by decide) rfl qw1197 dX11_flight_93 ?_
            refine v_iload_n C 0 dX11_flight_96 rfl ?_
            have hpz := hpsh z7 (by omega) (by omega)
            refine v_iald C 25 lR25 (eR25 _) (by decide) (by omega) dX11_flight_97 ?_
            refine v_callV (st := []) (n := 1) (q := 0) C [.int (iz (m6 25 z7))] (ct_StageRatiosModel_good C.2.2.2.2.2.2.1 m6 (m6 25 z7) ) lR0 (eR0 _) rfl qw1444 qw16 qw1441 rfl rfl ⟨Nat.le_of_ble_eq_true rfl, Nat.le_of_ble_eq_true rfl⟩ (by decide +kernel) qw1443 qp56 rfl rfl (Nat.le_of_ble_eq_true rfl) dX11_flight_98 (fun r m14 hq14 => ?_)
            obtain ⟨z14, rfl, rfl, hq14⟩ := hq14
            show V E (wR D cy aa ad) 3 m14 101 [(2, .int (iz (z7))), (0, .ref (aa 0)), (1, .int (iz (w)))] [.int (iz ((m6 25 z7)))]
            refine v_iret C X rfl dX11_flight_101 ⟨_, rfl, ?_, ?_⟩
            · rw [← hq14]
              refine RP.mk fk3 ?_ (by decide)
              obtain rfl : w = 1 := by omega
              exact Or.inl ⟨hT1, ⟨by omega, by omega⟩, rfl, fun h => by omega, fun _ => by
                  rcases hlp with ⟨y, y2⟩ | ⟨y, y2⟩
                  · first
                      | (exfalso; omega)
                      | (rw [if_pos (by rw [hmr.1 (by omega)]; decide)])
                  · have hm2 := hmr.2 y
                    first
                      | (exfalso; omega)
                      | (rw [if_neg (by omega), ← y2]; exact hpsh _ (by omega) (by omega)), fun h => by omega, fun h => by omega, fun h => by omega, fun h => by omega⟩
            · trivial
          · refine v_bipush (z := -2) C dX11_flight_87 (by decide) ?_
            refine v_goto (tgt := 98) C dX11_flight_89 (by decide) ?_
            refine v_callV (st := []) (n := 1) (q := 0) C [.int (iz (-2))] (ct_StageRatiosModel_good C.2.2.2.2.2.2.1 m6 (-2) ) lR0 (eR0 _) rfl qw1444 qw16 qw1441 rfl rfl ⟨Nat.le_of_ble_eq_true rfl, Nat.le_of_ble_eq_true rfl⟩ (by decide +kernel) qw1443 qp56 rfl rfl (Nat.le_of_ble_eq_true rfl) dX11_flight_98 (fun r m15 hq15 => ?_)
            obtain ⟨z15, rfl, rfl, hq15⟩ := hq15
            show V E (wR D cy aa ad) 3 m15 101 [(2, .int (iz (z7))), (0, .ref (aa 0)), (1, .int (iz (w)))] [.int (iz ((-2)))]
            refine v_iret C X rfl dX11_flight_101 ⟨_, rfl, ?_, ?_⟩
            · rw [← hq15]
              refine RP.mk fk3 ?_ (by decide)
              obtain rfl : w = 1 := by omega
              exact Or.inl ⟨hT1, ⟨by omega, by omega⟩, rfl, fun h => by omega, fun _ => by
                  rcases hlp with ⟨y, y2⟩ | ⟨y, y2⟩
                  · first
                      | (exfalso; omega)
                      | (rw [if_pos (by rw [hmr.1 (by omega)]; decide)])
                  · have hm2 := hmr.2 y
                    first
                      | (exfalso; omega)
                      | (rw [if_neg (by omega), ← y2]; exact hpsh _ (by omega) (by omega)), fun h => by omega, fun h => by omega, fun h => by omega, fun h => by omega⟩
            · trivial
        · have ho : off = 63 := by rw [c8] at ho; exact (Option.some.inj ho).symm
          obtain rfl : tgt = 102 := by omega
          refine v_aload_n C 1 dX11_flight_102 rfl ?_
          refine v_iload_n C 0 dX11_flight_103 rfl ?_
          refine v_iconst (z := -1) C dX11_flight_104 rfl ?_
          refine v_icmp_ne (tgt := 113) C dX11_flight_105 (by decide) (by omega) (by omega) (fun c16 => ?_) (fun c16 => ?_)
          · refine v_iload_n C 0 dX11_flight_113 rfl ?_
            refine v_iconst (z := 1) C dX11_flight_114 rfl ?_
            refine v_iadd C dX11_flight_115 ?_
            refine v_callV (st := []) (n := 1) (q := 0) C [.int (iz (z7 + 1))] (ct_StageRatiosModel_good C.2.2.2.2.2.2.1 m6 (z7 + 1) ) lR0 (eR0 _) rfl qw1444 qw16 qw1441 rfl rfl ⟨Nat.le_of_ble_eq_true rfl, Nat.le_of_ble_eq_true rfl⟩ (by decide +kernel) qw1443 qp56 rfl rfl (Nat.le_of_ble_eq_true rfl) dX11_flight_116 (fun r m17 hq17 => ?_)
            obtain ⟨z17, rfl, rfl, hq17⟩ := hq17
            show V E (wR D cy aa ad) 3 m17 119 [(2, .int (iz (z7))), (0, .ref (aa 0)), (1, .int (iz (w)))] [.int (iz ((z7 + 1)))]
            refine v_iret C X rfl dX11_flight_119 ⟨_, rfl, ?_, ?_⟩
            · rw [← hq17]
              refine RP.mk fk3 ?_ (by decide)
              obtain rfl : w = 2 := by omega
              exact Or.inl ⟨hT1, ⟨by omega, by omega⟩, rfl, fun h => by omega, fun h => by omega, fun _ => by
                  rcases hlp with ⟨y, y2⟩ | ⟨y, y2⟩
                  · have := hmr.1 (by omega); omega
                  · have := hmr.2 y; omega, fun h => by omega, fun h => by omega, fun h => by omega⟩
            · trivial
          · refine v_bipush (z := -2) C dX11_flight_108 (by decide) ?_
            refine v_goto (tgt := 116) C dX11_flight_110 (by decide) ?_
            refine v_callV (st := []) (n := 1) (q := 0) C [.int (iz (-2))] (ct_StageRatiosModel_good C.2.2.2.2.2.2.1 m6 (-2) ) lR0 (eR0 _) rfl qw1444 qw16 qw1441 rfl rfl ⟨Nat.le_of_ble_eq_true rfl, Nat.le_of_ble_eq_true rfl⟩ (by decide +kernel) qw1443 qp56 rfl rfl (Nat.le_of_ble_eq_true rfl) dX11_flight_116 (fun r m18 hq18 => ?_)
            obtain ⟨z18, rfl, rfl, hq18⟩ := hq18
            show V E (wR D cy aa ad) 3 m18 119 [(2, .int (iz (z7))), (0, .ref (aa 0)), (1, .int (iz (w)))] [.int (iz ((-2)))]
            refine v_iret C X rfl dX11_flight_119 ⟨_, rfl, ?_, ?_⟩
            · rw [← hq18]
              refine RP.mk fk3 ?_ (by decide)
              obtain rfl : w = 2 := by omega
              exact Or.inl ⟨hT1, ⟨by omega, by omega⟩, rfl, fun h => by omega, fun h => by omega, fun _ => by
                  rcases hlp with ⟨y, y2⟩ | ⟨y, y2⟩
                  · have := hmr.1 (by omega); omega
                  · have := hmr.2 y; omega, fun h => by omega, fun h => by omega, fun h => by omega⟩
            · trivial
        · have ho : off = 81 := by rw [c8] at ho; exact (Option.some.inj ho).symm
          obtain rfl : tgt = 120 := by omega
          refine v_aload_n C 1 dX11_flight_120 rfl ?_
          refine v_aload_n C 1 dX11_flight_121 rfl ?_
          refine v_get C 0 59 lR0 (eR0 _) rfl inX11 (by decide) rfl qw1199 dX11_flight_122 ?_
          refine v_callV (st := []) (n := 1) (q := 0) C [.int (iz (m6 0 59))] (ct_StageRatiosModel_good C.2.2.2.2.2.2.1 m6 (m6 0 59) ) lR0 (eR0 _) rfl qw1444 qw16 qw1441 rfl rfl ⟨Nat.le_of_ble_eq_true rfl, Nat.le_of_ble_eq_true rfl⟩ (by decide +kernel) qw1443 qp56 rfl rfl (Nat.le_of_ble_eq_true rfl) dX11_flight_125 (fun r m19 hq19 => ?_)
          obtain ⟨z19, rfl, rfl, hq19⟩ := hq19
          show V E (wR D cy aa ad) 3 m19 128 [(2, .int (iz (z7))), (0, .ref (aa 0)), (1, .int (iz (w)))] [.int (iz ((m6 0 59)))]
          refine v_iret C X rfl dX11_flight_128 ⟨_, rfl, ?_, ?_⟩
          · rw [← hq19]
            refine RP.mk fk3 ?_ (by decide)
            obtain rfl : w = 3 := by omega
            exact Or.inl ⟨hT1, ⟨by omega, by omega⟩, rfl, fun h => by omega, fun h => by omega, fun h => by omega, fun _ => hq6.2.1, fun h => by omega, fun h => by omega⟩
          · trivial
        · have ho : off = 90 := by rw [c8] at ho; exact (Option.some.inj ho).symm
          obtain rfl : tgt = 129 := by omega
          refine v_aload_n C 1 dX11_flight_129 rfl ?_
          refine v_aload_n C 1 dX11_flight_130 rfl ?_
          refine v_get C 0 60 lR0 (eR0 _) rfl inX11 (by decide) rfl qw1200 dX11_flight_131 ?_
          refine v_callV (st := []) (n := 1) (q := 0) C [.int (iz (m6 0 60))] (ct_StageRatiosModel_good C.2.2.2.2.2.2.1 m6 (m6 0 60) ) lR0 (eR0 _) rfl qw1444 qw16 qw1441 rfl rfl ⟨Nat.le_of_ble_eq_true rfl, Nat.le_of_ble_eq_true rfl⟩ (by decide +kernel) qw1443 qp56 rfl rfl (Nat.le_of_ble_eq_true rfl) dX11_flight_134 (fun r m20 hq20 => ?_)
          obtain ⟨z20, rfl, rfl, hq20⟩ := hq20
          show V E (wR D cy aa ad) 3 m20 137 [(2, .int (iz (z7))), (0, .ref (aa 0)), (1, .int (iz (w)))] [.int (iz ((m6 0 60)))]
          refine v_iret C X rfl dX11_flight_137 ⟨_, rfl, ?_, ?_⟩
          · rw [← hq20]
            refine RP.mk fk3 ?_ (by decide)
            obtain rfl : w = 4 := by omega
            exact Or.inl ⟨hT1, ⟨by omega, by omega⟩, rfl, fun h => by omega, fun h => by omega, fun h => by omega, fun h => by omega, fun _ => hq6.2.2.1, fun h => by omega⟩
          · trivial
      · rcases (show w = 0 ∨ w = 1 ∨ w = 2 ∨ w = 3 ∨ w = 4 by omega) with c8 | c8 | c8 | c8 | c8
        · exact ⟨72, 33, by rw [c8]; rfl, by decide⟩
        · exact ⟨81, 42, by rw [c8]; rfl, by decide⟩
        · exact ⟨102, 63, by rw [c8]; rfl, by decide⟩
        · exact ⟨120, 81, by rw [c8]; rfl, by decide⟩
        · exact ⟨129, 90, by rw [c8]; rfl, by decide⟩
    · show V E (wR D cy aa ad) 3 m1 18 [(0, .ref (aa 0)), (1, .int (iz (w)))] [.int (iz (0))]
      refine v_if_ne (tgt := 27) C dX11_flight_18 (by decide) (by omega) (fun c21 => by exact absurd c21 (by decide)) (fun c21 => ?_)
      refine v_aload_n C 0 dX11_flight_21 rfl ?_
      refine v_iconst (z := 1) C dX11_flight_22 rfl ?_
      refine v_callV (st := []) (n := 1) (q := 0) C [.int (iz (1))] (ct_StageRatiosModel_refused C.2.2.2.2.2.2.1 m1 (1) ) lR0 (eR0 _) rfl qw1340 qw16 qw1337 rfl rfl ⟨Nat.le_of_ble_eq_true rfl, Nat.le_of_ble_eq_true rfl⟩ (by decide +kernel) qw1339 qp36 rfl rfl (Nat.le_of_ble_eq_true rfl) dX11_flight_23 (fun r m22 hq22 => ?_)
      obtain ⟨z22, rfl, rfl, hq22⟩ := hq22
      show V E (wR D cy aa ad) 3 m22 26 [(0, .ref (aa 0)), (1, .int (iz (w)))] [.int (iz (-1))]
      refine v_iret C X rfl dX11_flight_26 ⟨_, rfl, ?_, ?_⟩
      · rw [← hq22]
        refine RP.mk fk2 ?_ (by decide)
        exact Or.inr ⟨fun h => by omega, rfl, rfl⟩
      · trivial

set_option maxHeartbeats 4000000 in
set_option maxRecDepth 100000 in
theorem ct_StageRatiosModel_tick {lau : Launch} {D : va_G} {cy : Nat → ClassId} {aa ad : Nat → Nat} (hI : wI (wR D cy aa ad)) (m : Mem) (fa Af Bf Cf Rr Xx : Int → Int) (i w : Int) (hT : TT m fa Af Bf Cf Rr Xx) (hi : -2147483648 ≤ i ∧ i ≤ 2147483647) (hw : -2147483648 ≤ w ∧ w ≤ 2147483647) : MT lau (wR D cy aa ad) yX11_tick cX11_tick 3 (some .int) ({ frames := 4, cells := 0, slots := 0, locals := 96 } : Room) m [.ref (aa 0), .int (iz (i)), .int (iz (w))] (Pi (fun z m' => (RP (qTic (m 0 20) fa Af Bf Cf Rr Xx i w) m m' z) ∧ True)) := by
  refine v_entry hI RX11 (by decide) rfl (Nat.le_of_ble_eq_true rfl) (fun E hE C X => ?_)
  subst hE
  show V E (wR D cy aa ad) 3 m 0 [(0, .ref (aa 0)), (1, .int (iz (i))), (2, .int (iz (w)))] []
  refine v_aload_n C 0 dX11_tick_0 rfl ?_
  refine v_iconst (z := 0) C dX11_tick_1 rfl ?_
  refine v_put C 0 0 (0) 0 rfl lR0 (eR0 _) rfl inX11 tyX11 tyX11_ok nmX11 (by decide) qw1140 rfl rfl rfl (Nat.le_of_ble_eq_true rfl) (by rw [mup_r]; exact (eR0 _)) dX11_tick_2 (fun m1 em1 => ?_)
  have fk2 : FK m m1 := by rw [em1]; exact FK.up 0 0 (by unfold CKj; omega)
  have hT2 := fk2.tt hT
  have e20 : m1 0 20 = m 0 20 := fk2.1 20 (Or.inr (Or.inl rfl))
  have ht01 : m 0 20 = 0 ∨ m 0 20 = 1 := hT.imp (fun a => a) (fun a => a.1)
  refine v_aload_n C 0 dX11_tick_5 rfl ?_
  refine v_get C 0 20 lR0 (eR0 _) rfl inX11 (by decide) rfl qw1160 dX11_tick_6 ?_
  refine v_if_ne (tgt := 18) C dX11_tick_9 (by decide) (by omega) (fun c2 => ?_) (fun c2 => ?_)
  · obtain ⟨hT1, hg0⟩ := hT.resolve_left (by omega)
    have hg := fk2.rt hg0
    obtain ⟨⟨r11, r8, r9, r10, r12⟩, r1, r2, r6, hvd, hfo⟩ := id hg
    obtain ⟨hn, hF, hup, hlw, hX⟩ := id hvd
    refine v_aload_n C 0 dX11_tick_18 rfl ?_
    refine v_iconst (z := -1) C dX11_tick_19 rfl ?_
    refine v_iconst (z := -1) C dX11_tick_20 rfl ?_
    refine v_callV (st := []) (n := 2) (q := 0) C [.int (iz (-1)), .int (iz (-1))] (ct_StageRatiosModel_flies C.2.2.2.2.2.2.1 m1 (fa) (Af) (Bf) (Cf) (Rr) (Xx) (-1) (-1) (0) (by exact hg) (by first | assumption | omega) (by first | assumption | omega) (by exact Or.inr rfl)) lR0 (eR0 _) rfl qw1670 qw16 qw1667 rfl rfl ⟨Nat.le_of_ble_eq_true rfl, Nat.le_of_ble_eq_true rfl⟩ (by decide +kernel) qw1669 qp87 rfl rfl (Nat.le_of_ble_eq_true rfl) dX11_tick_21 (fun r m3 hq3 => ?_)
    obtain ⟨rfl, hq3⟩ := hq3
    show V E (wR D cy aa ad) 3 m3 24 [(0, .ref (aa 0)), (1, .int (iz (i))), (2, .int (iz (w)))] []
    have fk3 := fk2.tr (show FK _ m3 from ⟨fun j hj => hq3.2.2.2.2.1 j (by unfold CKj at hj; omega) (by unfold CKj at hj; omega) (by unfold CKj at hj; omega) (by unfold CKj at hj; omega), fun q hq => hq3.2.2.2.2.2 q (by omega) (by omega) (by omega) (by omega) (by omega) (by omega) (by omega) (by omega)⟩)
    have hT3 := hq3.1
    have hok3 := ftl_ok (xs := -1) (xt := 0) hvd hfo
    have hle3 := ftl_len (xs := -1) (xt := 0) hvd hfo
    have hrg3 := ftl_rng (xs := -1) (xt := 0) hvd hfo
    have hbN3 := FN_2200 hF hfo.1 hle3 hok3
    have hcr3 := fpl_cross (xs := -1) (xt := 0) hvd hfo
    obtain ⟨-, -, ok3, ok4, ok5⟩ := fpl_ok (xs := -1) (xt := 0) hvd hfo
    have h583 := hT3.1
    have hg3 := fk3.rt hg0
    refine v_iload_n C 1 dX11_tick_24 rfl ?_
    refine v_iconst (z := 1) C dX11_tick_25 rfl ?_
    refine v_aload_n C 0 dX11_tick_26 rfl ?_
    refine v_get C 0 58 lR0 (eR0 _) rfl inX11 (by decide) rfl qw1198 dX11_tick_27 ?_
    refine v_callS (st := []) (n := 3) C [.int (iz (i)), .int (iz (1)), .int (iz (m3 0 58))] (ct_StageRatiosModel_in C.2.2.2.2.2.2.1 m3 (i) (1) (m3 0 58) (by first | assumption | omega) (by first | assumption | omega) (by first | assumption | omega)) qw1355 qw16 qw1353 rfl rfl ⟨Nat.le_of_ble_eq_true rfl, Nat.le_of_ble_eq_true rfl⟩ (by decide +kernel) qw1354 rfl rfl (Nat.le_of_ble_eq_true rfl) dX11_tick_30 (fun r m4 hq4 => ?_)
    obtain ⟨z4, rfl, ⟨rfl, hq4, rfl⟩ | ⟨rfl, hq4, rfl⟩⟩ := hq4
    · show V E (wR D cy aa ad) 3 m3 33 [(0, .ref (aa 0)), (1, .int (iz (i))), (2, .int (iz (w)))] [.int (iz (1))]
      refine v_if_ne (tgt := 42) C dX11_tick_33 (by decide) (by omega) (fun c5 => ?_) (fun c5 => by exact absurd c5 (by decide))
      obtain ⟨q0, hq0⟩ : ∃ q, (ftl fa Af Bf Cf Rr Xx (-1) 0)[(i - 1).toNat]? = some q := ⟨_, List.getElem?_eq_getElem (by omega)⟩
      have hqv := hT3.2 _ q0 hq0
      rw [show (((i - 1).toNat : Nat) : Int) = i - 1 by omega] at hqv
      refine v_iload_n C 2 dX11_tick_42 rfl ?_
      refine v_table C dX11_tick_43 (by omega) (fun tgt ht c6 => ?_) (fun tgt off c6a c6b ho ht => ?_) ⟨141, by decide⟩ (fun ha hb => ?_)
      · obtain rfl : tgt = 141 := by omega
        refine v_aload_n C 0 dX11_tick_141 rfl ?_
        refine v_iconst (z := 1) C dX11_tick_142 rfl ?_
        refine v_callV (st := []) (n := 1) (q := 0) C [.int (iz (1))] (ct_StageRatiosModel_refused C.2.2.2.2.2.2.1 m3 (1) ) lR0 (eR0 _) rfl qw1340 qw16 qw1337 rfl rfl ⟨Nat.le_of_ble_eq_true rfl, Nat.le_of_ble_eq_true rfl⟩ (by decide +kernel) qw1339 qp36 rfl rfl (Nat.le_of_ble_eq_true rfl) dX11_tick_143 (fun r m7 hq7 => ?_)
        obtain ⟨z7, rfl, rfl, hq7⟩ := hq7
        show V E (wR D cy aa ad) 3 m7 146 [(0, .ref (aa 0)), (1, .int (iz (i))), (2, .int (iz (w)))] [.int (iz (-1))]
        refine v_iret C X rfl dX11_tick_146 ⟨_, rfl, ?_, ?_⟩
        · rw [← hq7]
          refine RP.mk fk3 ?_ (by decide)
          exact Or.inr ⟨fun h => by omega, rfl, rfl⟩
        · trivial
      · rcases (show w = 0 ∨ w = 1 ∨ w = 2 ∨ w = 3 ∨ w = 4 by omega) with c6 | c6 | c6 | c6 | c6
        · have ho : off = 33 := by rw [c6] at ho; exact (Option.some.inj ho).symm
          obtain rfl : tgt = 76 := by omega
          refine v_aload_n C 0 dX11_tick_76 rfl ?_
          refine v_aload_n C 0 dX11_tick_77 rfl ?_
          refine v_get C 0 52 lR0 (eR0 _) rfl inX11 (by decide) rfl qw1192 dX11_tick_78 ?_
          refine v_iload_n C 1 dX11_tick_81 rfl ?_
          refine v_iconst (z := 1) C dX11_tick_82 rfl ?_
          refine v_isub C dX11_tick_83 ?_
          refine v_iald C 20 lR20 (eR20 _) (by decide) (by omega) dX11_tick_84 ?_
          refine v_callV (st := []) (n := 1) (q := 0) C [.int (iz (m3 20 (i - 1)))] (ct_StageRatiosModel_good C.2.2.2.2.2.2.1 m3 (m3 20 (i - 1)) ) lR0 (eR0 _) rfl qw1444 qw16 qw1441 rfl rfl ⟨Nat.le_of_ble_eq_true rfl, Nat.le_of_ble_eq_true rfl⟩ (by decide +kernel) qw1443 qp56 rfl rfl (Nat.le_of_ble_eq_true rfl) dX11_tick_85 (fun r m8 hq8 => ?_)
          obtain ⟨z8, rfl, rfl, hq8⟩ := hq8
          show V E (wR D cy aa ad) 3 m8 88 [(0, .ref (aa 0)), (1, .int (iz (i))), (2, .int (iz (w)))] [.int (iz ((m3 20 (i - 1))))]
          refine v_iret C X rfl dX11_tick_88 ⟨_, rfl, ?_, ?_⟩
          · rw [← hq8]
            refine RP.mk fk3 ?_ (by decide)
            obtain rfl : w = 0 := by omega
            exact Or.inl ⟨⟨hT1, ⟨by omega, by omega⟩, by omega, by omega⟩, rfl, q0, hq0, hqv.1⟩
          · trivial
        · have ho : off = 46 := by rw [c6] at ho; exact (Option.some.inj ho).symm
          obtain rfl : tgt = 89 := by omega
          refine v_aload_n C 0 dX11_tick_89 rfl ?_
          refine v_aload_n C 0 dX11_tick_90 rfl ?_
          refine v_get C 0 54 lR0 (eR0 _) rfl inX11 (by decide) rfl qw1194 dX11_tick_91 ?_
          refine v_iload_n C 1 dX11_tick_94 rfl ?_
          refine v_iconst (z := 1) C dX11_tick_95 rfl ?_
          refine v_isub C dX11_tick_96 ?_
          refine v_iald C 22 lR22 (eR22 _) (by decide) (by omega) dX11_tick_97 ?_
          refine v_callV (st := []) (n := 1) (q := 0) C [.int (iz (m3 22 (i - 1)))] (ct_StageRatiosModel_good C.2.2.2.2.2.2.1 m3 (m3 22 (i - 1)) ) lR0 (eR0 _) rfl qw1444 qw16 qw1441 rfl rfl ⟨Nat.le_of_ble_eq_true rfl, Nat.le_of_ble_eq_true rfl⟩ (by decide +kernel) qw1443 qp56 rfl rfl (Nat.le_of_ble_eq_true rfl) dX11_tick_98 (fun r m9 hq9 => ?_)
          obtain ⟨z9, rfl, rfl, hq9⟩ := hq9
          show V E (wR D cy aa ad) 3 m9 101 [(0, .ref (aa 0)), (1, .int (iz (i))), (2, .int (iz (w)))] [.int (iz ((m3 22 (i - 1))))]
          refine v_iret C X rfl dX11_tick_101 ⟨_, rfl, ?_, ?_⟩
          · rw [← hq9]
            refine RP.mk fk3 ?_ (by decide)
            obtain rfl : w = 1 := by omega
            exact Or.inl ⟨⟨hT1, ⟨by omega, by omega⟩, by omega, by omega⟩, rfl, q0, hq0, hqv.2.2.1⟩
          · trivial
        · have ho : off = 59 := by rw [c6] at ho; exact (Option.some.inj ho).symm
          obtain rfl : tgt = 102 := by omega
          refine v_aload_n C 0 dX11_tick_102 rfl ?_
          refine v_aload_n C 0 dX11_tick_103 rfl ?_
          refine v_get C 0 55 lR0 (eR0 _) rfl inX11 (by decide) rfl qw1195 dX11_tick_104 ?_
          refine v_iload_n C 1 dX11_tick_107 rfl ?_
          refine v_iconst (z := 1) C dX11_tick_108 rfl ?_
          refine v_isub C dX11_tick_109 ?_
          refine v_iald C 23 lR23 (eR23 _) (by decide) (by omega) dX11_tick_110 ?_
          refine v_callV (st := []) (n := 1) (q := 0) C [.int (iz (m3 23 (i - 1)))] (ct_StageRatiosModel_good C.2.2.2.2.2.2.1 m3 (m3 23 (i - 1)) ) lR0 (eR0 _) rfl qw1444 qw16 qw1441 rfl rfl ⟨Nat.le_of_ble_eq_true rfl, Nat.le_of_ble_eq_true rfl⟩ (by decide +kernel) qw1443 qp56 rfl rfl (Nat.le_of_ble_eq_true rfl) dX11_tick_111 (fun r m10 hq10 => ?_)
          obtain ⟨z10, rfl, rfl, hq10⟩ := hq10
          show V E (wR D cy aa ad) 3 m10 114 [(0, .ref (aa 0)), (1, .int (iz (i))), (2, .int (iz (w)))] [.int (iz ((m3 23 (i - 1))))]
          refine v_iret C X rfl dX11_tick_114 ⟨_, rfl, ?_, ?_⟩
          · rw [← hq10]
            refine RP.mk fk3 ?_ (by decide)
            obtain rfl : w = 2 := by omega
            exact Or.inl ⟨⟨hT1, ⟨by omega, by omega⟩, by omega, by omega⟩, rfl, q0, hq0, hqv.2.2.2.1⟩
          · trivial
        · have ho : off = 72 := by rw [c6] at ho; exact (Option.some.inj ho).symm
          obtain rfl : tgt = 115 := by omega
          refine v_aload_n C 0 dX11_tick_115 rfl ?_
          refine v_aload_n C 0 dX11_tick_116 rfl ?_
          refine v_get C 0 56 lR0 (eR0 _) rfl inX11 (by decide) rfl qw1196 dX11_tick_117 ?_
          refine v_iload_n C 1 dX11_tick_120 rfl ?_
          refine v_iconst (z := 1) C dX11_tick_121 rfl ?_
          refine v_isub C dX11_tick_122 ?_
          refine v_iald C 24 lR24 (eR24 _) (by decide) (by omega) dX11_tick_123 ?_
          refine v_callV (st := []) (n := 1) (q := 0) C [.int (iz (m3 24 (i - 1)))] (ct_StageRatiosModel_good C.2.2.2.2.2.2.1 m3 (m3 24 (i - 1)) ) lR0 (eR0 _) rfl qw1444 qw16 qw1441 rfl rfl ⟨Nat.le_of_ble_eq_true rfl, Nat.le_of_ble_eq_true rfl⟩ (by decide +kernel) qw1443 qp56 rfl rfl (Nat.le_of_ble_eq_true rfl) dX11_tick_124 (fun r m11 hq11 => ?_)
          obtain ⟨z11, rfl, rfl, hq11⟩ := hq11
          show V E (wR D cy aa ad) 3 m11 127 [(0, .ref (aa 0)), (1, .int (iz (i))), (2, .int (iz (w)))] [.int (iz ((m3 24 (i - 1))))]
          refine v_iret C X rfl dX11_tick_127 ⟨_, rfl, ?_, ?_⟩
          · rw [← hq11]
            refine RP.mk fk3 ?_ (by decide)
            obtain rfl : w = 3 := by omega
            exact Or.inl ⟨⟨hT1, ⟨by omega, by omega⟩, by omega, by omega⟩, rfl, q0, hq0, hqv.2.2.2.2.1⟩
          · trivial
        · have ho : off = 85 := by rw [c6] at ho; exact (Option.some.inj ho).symm
          obtain rfl : tgt = 128 := by omega
          refine v_aload_n C 0 dX11_tick_128 rfl ?_
          refine v_aload_n C 0 dX11_tick_129 rfl ?_
          refine v_get C 0 57 lR0 (eR0 _) rfl inX11 (by decide) rfl qw1197 dX11_tick_130 ?_
          refine v_iload_n C 1 dX11_tick_133 rfl ?_
          refine v_iconst (z := 1) C dX11_tick_134 rfl ?_
          refine v_isub C dX11_tick_135 ?_
          refine v_iald C 25 lR25 (eR25 _) (by decide) (by omega) dX11_tick_136 ?_
          refine v_callV (st := []) (n := 1) (q := 0) C [.int (iz (m3 25 (i - 1)))] (ct_StageRatiosModel_good C.2.2.2.2.2.2.1 m3 (m3 25 (i - 1)) ) lR0 (eR0 _) rfl qw1444 qw16 qw1441 rfl rfl ⟨Nat.le_of_ble_eq_true rfl, Nat.le_of_ble_eq_true rfl⟩ (by decide +kernel) qw1443 qp56 rfl rfl (Nat.le_of_ble_eq_true rfl) dX11_tick_137 (fun r m12 hq12 => ?_)
          obtain ⟨z12, rfl, rfl, hq12⟩ := hq12
          show V E (wR D cy aa ad) 3 m12 140 [(0, .ref (aa 0)), (1, .int (iz (i))), (2, .int (iz (w)))] [.int (iz ((m3 25 (i - 1))))]
          refine v_iret C X rfl dX11_tick_140 ⟨_, rfl, ?_, ?_⟩
          · rw [← hq12]
            refine RP.mk fk3 ?_ (by decide)
            obtain rfl : w = 4 := by omega
            exact Or.inl ⟨⟨hT1, ⟨by omega, by omega⟩, by omega, by omega⟩, rfl, q0, hq0, hqv.2.2.2.2.2⟩
          · trivial
      · rcases (show w = 0 ∨ w = 1 ∨ w = 2 ∨ w = 3 ∨ w = 4 by omega) with c6 | c6 | c6 | c6 | c6
        · exact ⟨76, 33, by rw [c6]; rfl, by decide⟩
        · exact ⟨89, 46, by rw [c6]; rfl, by decide⟩
        · exact ⟨102, 59, by rw [c6]; rfl, by decide⟩
        · exact ⟨115, 72, by rw [c6]; rfl, by decide⟩
        · exact ⟨128, 85, by rw [c6]; rfl, by decide⟩
    · show V E (wR D cy aa ad) 3 m3 33 [(0, .ref (aa 0)), (1, .int (iz (i))), (2, .int (iz (w)))] [.int (iz (0))]
      refine v_if_ne (tgt := 42) C dX11_tick_33 (by decide) (by omega) (fun c13 => by exact absurd c13 (by decide)) (fun c13 => ?_)
      refine v_aload_n C 0 dX11_tick_36 rfl ?_
      refine v_iconst (z := 1) C dX11_tick_37 rfl ?_
      refine v_callV (st := []) (n := 1) (q := 0) C [.int (iz (1))] (ct_StageRatiosModel_refused C.2.2.2.2.2.2.1 m3 (1) ) lR0 (eR0 _) rfl qw1340 qw16 qw1337 rfl rfl ⟨Nat.le_of_ble_eq_true rfl, Nat.le_of_ble_eq_true rfl⟩ (by decide +kernel) qw1339 qp36 rfl rfl (Nat.le_of_ble_eq_true rfl) dX11_tick_38 (fun r m14 hq14 => ?_)
      obtain ⟨z14, rfl, rfl, hq14⟩ := hq14
      show V E (wR D cy aa ad) 3 m14 41 [(0, .ref (aa 0)), (1, .int (iz (i))), (2, .int (iz (w)))] [.int (iz (-1))]
      refine v_iret C X rfl dX11_tick_41 ⟨_, rfl, ?_, ?_⟩
      · rw [← hq14]
        refine RP.mk fk3 ?_ (by decide)
        exact Or.inr ⟨fun h => by omega, rfl, rfl⟩
      · trivial
  · refine v_aload_n C 0 dX11_tick_12 rfl ?_
    refine v_iconst (z := 1) C dX11_tick_13 rfl ?_
    refine v_callV (st := []) (n := 1) (q := 0) C [.int (iz (1))] (ct_StageRatiosModel_refused C.2.2.2.2.2.2.1 m1 (1) ) lR0 (eR0 _) rfl qw1340 qw16 qw1337 rfl rfl ⟨Nat.le_of_ble_eq_true rfl, Nat.le_of_ble_eq_true rfl⟩ (by decide +kernel) qw1339 qp36 rfl rfl (Nat.le_of_ble_eq_true rfl) dX11_tick_14 (fun r m15 hq15 => ?_)
    obtain ⟨z15, rfl, rfl, hq15⟩ := hq15
    show V E (wR D cy aa ad) 3 m15 17 [(0, .ref (aa 0)), (1, .int (iz (i))), (2, .int (iz (w)))] [.int (iz (-1))]
    refine v_iret C X rfl dX11_tick_17 ⟨_, rfl, ?_, ?_⟩
    · rw [← hq15]
      refine RP.mk fk2 ?_ (by decide)
      exact Or.inr ⟨fun h => by omega, rfl, rfl⟩
    · trivial

set_option maxHeartbeats 4000000 in
set_option maxRecDepth 100000 in
theorem ct_StageRatiosModel_risk {lau : Launch} {D : va_G} {cy : Nat → ClassId} {aa ad : Nat → Nat} (hI : wI (wR D cy aa ad)) (m : Mem) (fa Af Bf Cf Rr Xx : Int → Int) (s w : Int) (hT : TT m fa Af Bf Cf Rr Xx) (hs : -2147483648 ≤ s ∧ s ≤ 2147483647) (hw : -2147483648 ≤ w ∧ w ≤ 2147483647) : MT lau (wR D cy aa ad) yX11_risk cX11_risk 3 (some .int) ({ frames := 5, cells := 0, slots := 0, locals := 118 } : Room) m [.ref (aa 0), .int (iz (s)), .int (iz (w))] (Pi (fun z m' => (RP (qRis (m 0 20) fa Af Bf Cf Rr Xx s w) m m' z) ∧ True)) := by
  refine v_entry hI RX11 (by decide) rfl (Nat.le_of_ble_eq_true rfl) (fun E hE C X => ?_)
  subst hE
  show V E (wR D cy aa ad) 3 m 0 [(0, .ref (aa 0)), (1, .int (iz (s))), (2, .int (iz (w)))] []
  refine v_aload_n C 0 dX11_risk_0 rfl ?_
  refine v_iconst (z := 0) C dX11_risk_1 rfl ?_
  refine v_put C 0 0 (0) 0 rfl lR0 (eR0 _) rfl inX11 tyX11 tyX11_ok nmX11 (by decide) qw1140 rfl rfl rfl (Nat.le_of_ble_eq_true rfl) (by rw [mup_r]; exact (eR0 _)) dX11_risk_2 (fun m1 em1 => ?_)
  have fk2 : FK m m1 := by rw [em1]; exact FK.up 0 0 (by unfold CKj; omega)
  have hT2 := fk2.tt hT
  have e20 : m1 0 20 = m 0 20 := fk2.1 20 (Or.inr (Or.inl rfl))
  have ht01 : m 0 20 = 0 ∨ m 0 20 = 1 := hT.imp (fun a => a) (fun a => a.1)
  refine v_aload_n C 0 dX11_risk_5 rfl ?_
  refine v_iload_n C 1 dX11_risk_6 rfl ?_
  refine v_callV (st := []) (n := 1) (q := 0) C [.int (iz (s))] (ct_StageRatiosModel_isStage C.2.2.2.2.2.2.1 m1 (fa) (Af) (Bf) (Cf) (Rr) (Xx) (s) (by exact hT2) (by first | assumption | omega)) lR0 (eR0 _) rfl qw1464 qw16 qw1461 rfl rfl ⟨Nat.le_of_ble_eq_true rfl, Nat.le_of_ble_eq_true rfl⟩ (by decide +kernel) qw1463 qp57 rfl rfl (Nat.le_of_ble_eq_true rfl) dX11_risk_7 (fun r m2 hq2 => ?_)
  obtain ⟨z2, rfl, ⟨rfl, hq2, rfl⟩ | ⟨rfl, hq2, rfl⟩⟩ := hq2
  · show V E (wR D cy aa ad) 3 m1 10 [(0, .ref (aa 0)), (1, .int (iz (s))), (2, .int (iz (w)))] [.int (iz (1))]
    rw [e20] at hq2
    obtain ⟨hT1, hs0⟩ := id hq2
    obtain ⟨-, hg0⟩ := hT.resolve_left (by omega)
    have hg := fk2.rt hg0
    obtain ⟨⟨r11, r8, r9, r10, r12⟩, r1, r2, r6, hvd, hfo⟩ := id hg
    obtain ⟨hn, hF, hup, hlw, hX⟩ := id hvd
    refine v_if_ne (tgt := 19) C dX11_risk_10 (by decide) (by omega) (fun c3 => ?_) (fun c3 => by exact absurd c3 (by decide))
    refine v_iload_n C 2 dX11_risk_19 rfl ?_
    refine v_iconst (z := 1) C dX11_risk_20 rfl ?_
    refine v_bipush (z := 99) C dX11_risk_21 (by decide) ?_
    refine v_callS (st := []) (n := 3) C [.int (iz (w)), .int (iz (1)), .int (iz (99))] (ct_StageRatiosModel_in C.2.2.2.2.2.2.1 m1 (w) (1) (99) (by first | assumption | omega) (by first | assumption | omega) (by first | assumption | omega)) qw1355 qw16 qw1353 rfl rfl ⟨Nat.le_of_ble_eq_true rfl, Nat.le_of_ble_eq_true rfl⟩ (by decide +kernel) qw1354 rfl rfl (Nat.le_of_ble_eq_true rfl) dX11_risk_23 (fun r m4 hq4 => ?_)
    obtain ⟨z4, rfl, ⟨rfl, hq4, rfl⟩ | ⟨rfl, hq4, rfl⟩⟩ := hq4
    · show V E (wR D cy aa ad) 3 m1 26 [(0, .ref (aa 0)), (1, .int (iz (s))), (2, .int (iz (w)))] [.int (iz (1))]
      refine v_if_eq (tgt := 42) C dX11_risk_26 (by decide) (by omega) (fun c5 => by exact absurd c5 (by decide)) (fun c5 => ?_)
      refine v_aload_n C 0 dX11_risk_29 rfl ?_
      refine v_aload_n C 0 dX11_risk_30 rfl ?_
      refine v_iload_n C 1 dX11_risk_31 rfl ?_
      refine v_iload_n C 2 dX11_risk_32 rfl ?_
      refine v_callV (st := [.ref (aa 0)]) (n := 2) (q := 0) C [.int (iz (s)), .int (iz (w))] (ct_StageRatiosModel_riskOf C.2.2.2.2.2.2.1 m1 (fa) (Af) (Bf) (Cf) (Rr) (Xx) (s) (w) (by exact hg) (by first | assumption | omega) (by first | assumption | omega)) lR0 (eR0 _) rfl qw1702 qw16 qw1699 rfl rfl ⟨Nat.le_of_ble_eq_true rfl, Nat.le_of_ble_eq_true rfl⟩ (by decide +kernel) qw1701 qp91 rfl rfl (Nat.le_of_ble_eq_true rfl) dX11_risk_33 (fun r m6 hq6 => ?_)
      obtain ⟨z6, rfl, hq6, hm6⟩ := hq6
      show V E (wR D cy aa ad) 3 m6 36 [(0, .ref (aa 0)), (1, .int (iz (s))), (2, .int (iz (w)))] [.int (iz (z6)), .ref (aa 0)]
      refine v_callV (st := []) (n := 1) (q := 0) C [.int (iz (z6))] (ct_StageRatiosModel_good C.2.2.2.2.2.2.1 m6 (z6) ) lR0 (eR0 _) rfl qw1444 qw16 qw1441 rfl rfl ⟨Nat.le_of_ble_eq_true rfl, Nat.le_of_ble_eq_true rfl⟩ (by decide +kernel) qw1443 qp56 rfl rfl (Nat.le_of_ble_eq_true rfl) dX11_risk_36 (fun r m7 hq7 => ?_)
      obtain ⟨z7, rfl, rfl, hq7⟩ := hq7
      show V E (wR D cy aa ad) 3 m7 39 [(0, .ref (aa 0)), (1, .int (iz (s))), (2, .int (iz (w)))] [.int (iz (z6))]
      refine v_goto (tgt := 47) C dX11_risk_39 (by decide) ?_
      refine v_iret C X rfl dX11_risk_47 ⟨_, rfl, ?_, ?_⟩
      · first
          | (rw [← NO_q44]
             exact RP.mk fk2 (Or.inr (Or.inl ⟨hq2, hq4, rfl, rfl⟩)) (by decide))
          | (rw [← hq7]
             exact RP.mk (fk2.tr hm6) (Or.inl ⟨hq2, hq4, rfl, hq6⟩) (by decide))
      · trivial
    · show V E (wR D cy aa ad) 3 m1 26 [(0, .ref (aa 0)), (1, .int (iz (s))), (2, .int (iz (w)))] [.int (iz (0))]
      refine v_if_eq (tgt := 42) C dX11_risk_26 (by decide) (by omega) (fun c8 => ?_) (fun c8 => by exact absurd c8 (by decide))
      refine v_aload_n C 0 dX11_risk_42 rfl ?_
      refine v_iconst (z := 2) C dX11_risk_43 rfl ?_
      refine v_callV (st := []) (n := 1) (q := 0) C [.int (iz (2))] (ct_StageRatiosModel_refused C.2.2.2.2.2.2.1 m1 (2) ) lR0 (eR0 _) rfl qw1340 qw16 qw1337 rfl rfl ⟨Nat.le_of_ble_eq_true rfl, Nat.le_of_ble_eq_true rfl⟩ (by decide +kernel) qw1339 qp36 rfl rfl (Nat.le_of_ble_eq_true rfl) dX11_risk_44 (fun r m9 hq9 => ?_)
      obtain ⟨z9, rfl, rfl, hq9⟩ := hq9
      show V E (wR D cy aa ad) 3 m9 47 [(0, .ref (aa 0)), (1, .int (iz (s))), (2, .int (iz (w)))] [.int (iz (-1))]
      refine v_iret C X rfl dX11_risk_47 ⟨_, rfl, ?_, ?_⟩
      · first
          | (rw [← hq9]
             exact RP.mk fk2 (Or.inr (Or.inl ⟨hq2, hq4, rfl, rfl⟩)) (by decide))
          | (rw [← NO_q36]
             exact RP.mk (fk2.tr NO_h33) (Or.inl ⟨hq2, hq4, rfl, NO_q33⟩) (by decide))
      · trivial
  · show V E (wR D cy aa ad) 3 m1 10 [(0, .ref (aa 0)), (1, .int (iz (s))), (2, .int (iz (w)))] [.int (iz (0))]
    refine v_if_ne (tgt := 19) C dX11_risk_10 (by decide) (by omega) (fun c10 => by exact absurd c10 (by decide)) (fun c10 => ?_)
    refine v_aload_n C 0 dX11_risk_13 rfl ?_
    refine v_iconst (z := 1) C dX11_risk_14 rfl ?_
    refine v_callV (st := []) (n := 1) (q := 0) C [.int (iz (1))] (ct_StageRatiosModel_refused C.2.2.2.2.2.2.1 m1 (1) ) lR0 (eR0 _) rfl qw1340 qw16 qw1337 rfl rfl ⟨Nat.le_of_ble_eq_true rfl, Nat.le_of_ble_eq_true rfl⟩ (by decide +kernel) qw1339 qp36 rfl rfl (Nat.le_of_ble_eq_true rfl) dX11_risk_15 (fun r m11 hq11 => ?_)
    obtain ⟨z11, rfl, rfl, hq11⟩ := hq11
    show V E (wR D cy aa ad) 3 m11 18 [(0, .ref (aa 0)), (1, .int (iz (s))), (2, .int (iz (w)))] [.int (iz (-1))]
    refine v_iret C X rfl dX11_risk_18 ⟨_, rfl, ?_, ?_⟩
    · rw [← hq11]
      refine RP.mk fk2 ?_ (by decide)
      exact Or.inr (Or.inr ⟨e20 ▸ hq2, rfl, rfl⟩)
    · trivial

set_option maxHeartbeats 4000000 in
set_option maxRecDepth 100000 in
theorem ct_StageRatiosModel_riskiest {lau : Launch} {D : va_G} {cy : Nat → ClassId} {aa ad : Nat → Nat} (hI : wI (wR D cy aa ad)) (m : Mem) (fa Af Bf Cf Rr Xx : Int → Int) (hT : TT m fa Af Bf Cf Rr Xx) : MT lau (wR D cy aa ad) yX11_riskiest cX11_riskiest 6 (some .int) ({ frames := 5, cells := 0, slots := 0, locals := 118 } : Room) m [.ref (aa 0)] (Pi (fun z m' => (RP (qRkt (m 0 20) fa Af Bf Cf Rr Xx) m m' z) ∧ True)) := by
  refine v_entry hI RX11 (by decide) rfl (Nat.le_of_ble_eq_true rfl) (fun E hE C X => ?_)
  subst hE
  show V E (wR D cy aa ad) 6 m 0 [(0, .ref (aa 0))] []
  refine v_aload_n C 0 dX11_riskiest_0 rfl ?_
  refine v_iconst (z := 0) C dX11_riskiest_1 rfl ?_
  refine v_put C 0 0 (0) 0 rfl lR0 (eR0 _) rfl inX11 tyX11 tyX11_ok nmX11 (by decide) qw1140 rfl rfl rfl (Nat.le_of_ble_eq_true rfl) (by rw [mup_r]; exact (eR0 _)) dX11_riskiest_2 (fun m1 em1 => ?_)
  have fk2 : FK m m1 := by rw [em1]; exact FK.up 0 0 (by unfold CKj; omega)
  have hT2 := fk2.tt hT
  have e20 : m1 0 20 = m 0 20 := fk2.1 20 (Or.inr (Or.inl rfl))
  have ht01 : m 0 20 = 0 ∨ m 0 20 = 1 := hT.imp (fun a => a) (fun a => a.1)
  refine v_aload_n C 0 dX11_riskiest_5 rfl ?_
  refine v_get C 0 20 lR0 (eR0 _) rfl inX11 (by decide) rfl qw1160 dX11_riskiest_6 ?_
  refine v_if_ne (tgt := 18) C dX11_riskiest_9 (by decide) (by omega) (fun c2 => ?_) (fun c2 => ?_)
  · obtain ⟨hT1, hg0⟩ := hT.resolve_left (by omega)
    have hg := fk2.rt hg0
    obtain ⟨⟨r11, r8, r9, r10, r12⟩, r1, r2, r6, hvd, hfo⟩ := id hg
    obtain ⟨hn, hF, hup, hlw, hX⟩ := id hvd
    refine v_aload_n C 0 dX11_riskiest_18 rfl ?_
    refine v_iconst (z := -1) C dX11_riskiest_19 rfl ?_
    refine v_iconst (z := -1) C dX11_riskiest_20 rfl ?_
    refine v_callV (st := []) (n := 2) (q := 0) C [.int (iz (-1)), .int (iz (-1))] (ct_StageRatiosModel_flies C.2.2.2.2.2.2.1 m1 (fa) (Af) (Bf) (Cf) (Rr) (Xx) (-1) (-1) (0) (by exact hg) (by first | assumption | omega) (by first | assumption | omega) (by exact Or.inr rfl)) lR0 (eR0 _) rfl qw1670 qw16 qw1667 rfl rfl ⟨Nat.le_of_ble_eq_true rfl, Nat.le_of_ble_eq_true rfl⟩ (by decide +kernel) qw1669 qp87 rfl rfl (Nat.le_of_ble_eq_true rfl) dX11_riskiest_21 (fun r m3 hq3 => ?_)
    obtain ⟨rfl, hq3⟩ := hq3
    show V E (wR D cy aa ad) 6 m3 24 [(0, .ref (aa 0))] []
    have fk3 := fk2.tr (show FK _ m3 from ⟨fun j hj => hq3.2.2.2.2.1 j (by unfold CKj at hj; omega) (by unfold CKj at hj; omega) (by unfold CKj at hj; omega) (by unfold CKj at hj; omega), fun q hq => hq3.2.2.2.2.2 q (by omega) (by omega) (by omega) (by omega) (by omega) (by omega) (by omega) (by omega)⟩)
    have hT3 := hq3.1
    have hok3 := ftl_ok (xs := -1) (xt := 0) hvd hfo
    have hle3 := ftl_len (xs := -1) (xt := 0) hvd hfo
    have hrg3 := ftl_rng (xs := -1) (xt := 0) hvd hfo
    have hbN3 := FN_2200 hF hfo.1 hle3 hok3
    have hcr3 := fpl_cross (xs := -1) (xt := 0) hvd hfo
    obtain ⟨-, -, ok3, ok4, ok5⟩ := fpl_ok (xs := -1) (xt := 0) hvd hfo
    have h583 := hT3.1
    have hg3 := fk3.rt hg0
    refine v_aload_n C 0 dX11_riskiest_24 rfl ?_
    refine v_get C 0 58 lR0 (eR0 _) rfl inX11 (by decide) rfl qw1198 dX11_riskiest_25 ?_
    refine v_istore_n (L1 := [(1, .int (iz (m3 0 58))), (0, .ref (aa 0))]) C dX11_riskiest_28 (by decide) rfl ?_
    refine v_bipush (z := -2) C dX11_riskiest_29 (by decide) ?_
    refine v_istore_n (L1 := [(2, .int (iz (-2))), (1, .int (iz (m3 0 58))), (0, .ref (aa 0))]) C dX11_riskiest_31 (by decide) rfl ?_
    refine v_iconst (z := 0) C dX11_riskiest_32 rfl ?_
    refine v_istore_n (L1 := [(3, .int (iz (0))), (2, .int (iz (-2))), (1, .int (iz (m3 0 58))), (0, .ref (aa 0))]) C dX11_riskiest_33 (by decide) rfl ?_
    refine v_iconst (z := 0) C dX11_riskiest_34 rfl ?_
    refine v_istore (L1 := [(4, .int (iz (0))), (3, .int (iz (0))), (2, .int (iz (-2))), (1, .int (iz (m3 0 58))), (0, .ref (aa 0))]) C dX11_riskiest_35 (by decide) rfl ?_
    have K37 : ∀ (nK : Nat) (f : Int) (le : Int) (i : Int) (mL : Mem) (hi : 0 ≤ i ∧ i ≤ (ftl fa Af Bf Cf Rr Xx (-1) 0).length) (hrk : rkR (fun i y => ∃ q, (ftl fa Af Bf Cf Rr Xx (-1) 0)[i.toNat]? = some q ∧ pfA fa Af Bf Cf Rr Xx q.1 q.2.1 y) i f le) (hle : -2 ≤ le ∧ le ≤ 40 ∧ -2 ≤ f ∧ f ≤ 60) (fkL : FK m mL), ((ftl fa Af Bf Cf Rr Xx (-1) 0).length - i).toNat < nK → V E (wR D cy aa ad) 6 mL 37 [(0, .ref (aa 0)), (1, .int (iz (m3 0 58))), (2, .int (iz (f))), (3, .int (iz (le))), (4, .int (iz (i)))] [] := by
      intro nK
      induction nK with
      | zero => intro f le i mL hi hrk hle fkL hn; exact absurd hn (Nat.not_lt_zero _)
      | succ nK ih37 =>
        intro f le i mL hi hrk hle fkL hn37
        have hgL := fkL.rt hg0
        refine v_iload C 4 dX11_riskiest_37 rfl ?_
        refine v_iload_n C 1 dX11_riskiest_39 rfl ?_
        refine v_icmp_ge (tgt := 98) C dX11_riskiest_40 (by decide) (by omega) (by omega) (fun c4 => ?_) (fun c4 => ?_)
        · refine v_aload_n C 0 dX11_riskiest_98 rfl ?_
          refine v_iload_n C 2 dX11_riskiest_99 rfl ?_
          refine v_callV (st := []) (n := 1) (q := 0) C [.int (iz (f))] (ct_StageRatiosModel_good C.2.2.2.2.2.2.1 mL (f) ) lR0 (eR0 _) rfl qw1444 qw16 qw1441 rfl rfl ⟨Nat.le_of_ble_eq_true rfl, Nat.le_of_ble_eq_true rfl⟩ (by decide +kernel) qw1443 qp56 rfl rfl (Nat.le_of_ble_eq_true rfl) dX11_riskiest_100 (fun r m5 hq5 => ?_)
          obtain ⟨z5, rfl, rfl, hq5⟩ := hq5
          show V E (wR D cy aa ad) 6 m5 103 [(0, .ref (aa 0)), (1, .int (iz (m3 0 58))), (2, .int (iz (f))), (3, .int (iz (le))), (4, .int (iz (i)))] [.int (iz (f))]
          refine v_iret C X rfl dX11_riskiest_103 ⟨_, rfl, ?_, ?_⟩
          · rw [← hq5]
            refine RP.mk fkL (Or.inl ⟨hT1, rfl, ?_⟩) (by decide : (0 : Int) ≠ 4)
            rw [show i = ((ftl fa Af Bf Cf Rr Xx (-1) 0).length : Int) by omega] at hrk
            exact hrk.p
          · trivial
        · refine v_aload_n C 0 dX11_riskiest_43 rfl ?_
          refine v_iconst (z := -1) C dX11_riskiest_44 rfl ?_
          refine v_iconst (z := -1) C dX11_riskiest_45 rfl ?_
          refine v_callV (st := []) (n := 2) (q := 0) C [.int (iz (-1)), .int (iz (-1))] (ct_StageRatiosModel_flies C.2.2.2.2.2.2.1 mL (fa) (Af) (Bf) (Cf) (Rr) (Xx) (-1) (-1) (0) (by exact hgL) (by first | assumption | omega) (by first | assumption | omega) (by exact Or.inr rfl)) lR0 (eR0 _) rfl qw1670 qw16 qw1667 rfl rfl ⟨Nat.le_of_ble_eq_true rfl, Nat.le_of_ble_eq_true rfl⟩ (by decide +kernel) qw1669 qp87 rfl rfl (Nat.le_of_ble_eq_true rfl) dX11_riskiest_46 (fun r m6 hq6 => ?_)
          obtain ⟨rfl, hq6⟩ := hq6
          show V E (wR D cy aa ad) 6 m6 49 [(0, .ref (aa 0)), (1, .int (iz (m3 0 58))), (2, .int (iz (f))), (3, .int (iz (le))), (4, .int (iz (i)))] []
          have fkM := fkL.tr (show FK _ m6 from ⟨fun j hj => hq6.2.2.2.2.1 j (by unfold CKj at hj; omega) (by unfold CKj at hj; omega) (by unfold CKj at hj; omega) (by unfold CKj at hj; omega), fun q hq => hq6.2.2.2.2.2 q (by omega) (by omega) (by omega) (by omega) (by omega) (by omega) (by omega) (by omega)⟩)
          have hTM := hq6.1
          obtain ⟨q0, hq0⟩ : ∃ q, (ftl fa Af Bf Cf Rr Xx (-1) 0)[i.toNat]? = some q := ⟨_, List.getElem?_eq_getElem (by omega)⟩
          have hqv := hTM.2 _ q0 hq0
          rw [show ((i.toNat : Nat) : Int) = i by omega] at hqv
          have hqr := hrg3 q0 (List.mem_of_getElem? hq0)
          refine v_aload_n C 0 dX11_riskiest_49 rfl ?_
          refine v_aload_n C 0 dX11_riskiest_50 rfl ?_
          refine v_get C 0 52 lR0 (eR0 _) rfl inX11 (by decide) rfl qw1192 dX11_riskiest_51 ?_
          refine v_iload C 4 dX11_riskiest_54 rfl ?_
          refine v_iald C 20 lR20 (eR20 _) (by decide) (by omega) dX11_riskiest_56 ?_
          refine v_aload_n C 0 dX11_riskiest_57 rfl ?_
          refine v_get C 0 53 lR0 (eR0 _) rfl inX11 (by decide) rfl qw1193 dX11_riskiest_58 ?_
          refine v_iload C 4 dX11_riskiest_61 rfl ?_
          refine v_iald C 21 lR21 (eR21 _) (by decide) (by omega) dX11_riskiest_63 ?_
          refine v_callV (st := []) (n := 2) (q := 0) C [.int (iz (m6 20 i)), .int (iz (m6 21 i))] (ct_StageRatiosModel_riskOf C.2.2.2.2.2.2.1 m6 (fa) (Af) (Bf) (Cf) (Rr) (Xx) (m6 20 i) (m6 21 i) (by exact fkM.rt hg0) (by rw [hqv.1]; omega) (by rw [hqv.2.1]; omega)) lR0 (eR0 _) rfl qw1702 qw16 qw1699 rfl rfl ⟨Nat.le_of_ble_eq_true rfl, Nat.le_of_ble_eq_true rfl⟩ (by decide +kernel) qw1701 qp91 rfl rfl (Nat.le_of_ble_eq_true rfl) dX11_riskiest_64 (fun r m7 hq7 => ?_)
          obtain ⟨z7, rfl, hq7, hm7⟩ := hq7
          show V E (wR D cy aa ad) 6 m7 67 [(0, .ref (aa 0)), (1, .int (iz (m3 0 58))), (2, .int (iz (f))), (3, .int (iz (le))), (4, .int (iz (i)))] [.int (iz (z7))]
          rw [hqv.1, hqv.2.1] at hq7
          have hpy : pfA fa Af Bf Cf Rr Xx q0.1 q0.2.1 z7 := hq7
          have hzr := PwIs.rng hpy
          have hstep := rkR_step (pw := (fun i y => ∃ q, (ftl fa Af Bf Cf Rr Xx (-1) 0)[i.toNat]? = some q ∧ pfA fa Af Bf Cf Rr Xx q.1 q.2.1 y)) hrk ⟨q0, hq0, hpy⟩ hi.1
          refine v_istore (L1 := [(5, .int (iz (z7))), (0, .ref (aa 0)), (1, .int (iz (m3 0 58))), (2, .int (iz (f))), (3, .int (iz (le))), (4, .int (iz (i)))]) C dX11_riskiest_67 (by decide) rfl ?_
          have K92 : ∀ (f2 : Int) (l2 : Int) (hrk2 : rkR (fun i y => ∃ q, (ftl fa Af Bf Cf Rr Xx (-1) 0)[i.toNat]? = some q ∧ pfA fa Af Bf Cf Rr Xx q.1 q.2.1 y) (i + 1) f2 l2) (hle2 : -2 ≤ l2 ∧ l2 ≤ 40 ∧ -2 ≤ f2 ∧ f2 ≤ 60), V E (wR D cy aa ad) 6 m7 92 [(0, .ref (aa 0)), (1, .int (iz (m3 0 58))), (2, .int (iz (f2))), (3, .int (iz (l2))), (4, .int (iz (i)))] [] := by
            intro f2 l2  hrk2 hle2
            refine v_iinc (L1 := [(4, .int (iz (i + 1))), (0, .ref (aa 0)), (1, .int (iz (m3 0 58))), (2, .int (iz (f2))), (3, .int (iz (l2)))]) C 4 dX11_riskiest_92 rfl (by decide) rfl ?_
            refine v_goto (tgt := 37) C dX11_riskiest_95 (by decide) ?_
            refine v_sub [1, 2, 3, 4, 0] rfl ?_
            exact ih37 (f2) (l2) (i + 1) m7 (by omega) (by exact hrk2) (by exact hle2) (by exact fkM.tr hm7) (by omega)
          refine v_iload_n C 3 dX11_riskiest_69 rfl ?_
          refine v_bipush (z := -2) C dX11_riskiest_70 (by decide) ?_
          refine v_icmp_eq (tgt := 84) C dX11_riskiest_72 (by decide) (by omega) (by omega) (fun c8 => ?_) (fun c8 => ?_)
          · refine v_iload C 5 dX11_riskiest_84 rfl ?_
            refine v_iconst (z := 1) C dX11_riskiest_86 rfl ?_
            refine v_iadd C dX11_riskiest_87 ?_
            refine v_istore_n (L1 := [(2, .int (iz (i + 1))), (5, .int (iz (z7))), (0, .ref (aa 0)), (1, .int (iz (m3 0 58))), (3, .int (iz (le))), (4, .int (iz (i)))]) C dX11_riskiest_88 (by decide) rfl ?_
            refine v_iload C 1 dX11_riskiest_89 rfl ?_
            refine v_istore_n (L1 := [(3, .int (iz (z7))), (2, .int (iz (i + 1))), (5, .int (iz (z7))), (0, .ref (aa 0)), (1, .int (iz (m3 0 58))), (4, .int (iz (i)))]) C dX11_riskiest_91 (by decide) rfl ?_
            refine v_sub [3, 4, 1, 0, 5] rfl ?_
            exact K92  (i + 1) (z7)  (by first | exact hstep.1 (Or.inl (by omega)) | exact hstep.1 (Or.inr (by omega)) | exact hstep.2 (by omega) (by omega)) (by omega)
          · refine v_iload C 0 dX11_riskiest_75 rfl ?_
            refine v_iload_n C 4 dX11_riskiest_77 rfl ?_
            refine v_icmp_lt (tgt := 84) C dX11_riskiest_78 (by decide) (by omega) (by omega) (fun c9 => ?_) (fun c9 => ?_)
            · refine v_iload C 5 dX11_riskiest_84 rfl ?_
              refine v_iconst (z := 1) C dX11_riskiest_86 rfl ?_
              refine v_iadd C dX11_riskiest_87 ?_
              refine v_istore_n (L1 := [(2, .int (iz (i + 1))), (5, .int (iz (z7))), (0, .ref (aa 0)), (1, .int (iz (m3 0 58))), (3, .int (iz (le))), (4, .int (iz (i)))]) C dX11_riskiest_88 (by decide) rfl ?_
              refine v_iload C 1 dX11_riskiest_89 rfl ?_
              refine v_istore_n (L1 := [(3, .int (iz (z7))), (2, .int (iz (i + 1))), (5, .int (iz (z7))), (0, .ref (aa 0)), (1, .int (iz (m3 0 58))), (4, .int (iz (i)))]) C dX11_riskiest_91 (by decide) rfl ?_
              refine v_sub [3, 4, 1, 0, 5] rfl ?_
              exact K92  (i + 1) (z7)  (by first | exact hstep.1 (Or.inl (by omega)) | exact hstep.1 (Or.inr (by omega)) | exact hstep.2 (by omega) (by omega)) (by omega)
            · refine v_goto (tgt := 92) C dX11_riskiest_81 (by decide) ?_
              refine v_sub [1, 2, 3, 4, 5] rfl ?_
              exact K92  (f) (le)  (by first | exact hstep.1 (Or.inl (by omega)) | exact hstep.1 (Or.inr (by omega)) | exact hstep.2 (by omega) (by omega)) (by omega)
    refine v_sub [4, 3, 2, 1, 0] rfl ?_
    exact K37 _ (-2) (0) (0) m3 (by omega) (by exact Or.inl ⟨rfl, rfl⟩) (by omega) (by exact fk3) (Nat.lt_succ_self _)
  · refine v_aload_n C 0 dX11_riskiest_12 rfl ?_
    refine v_iconst (z := 1) C dX11_riskiest_13 rfl ?_
    refine v_callV (st := []) (n := 1) (q := 0) C [.int (iz (1))] (ct_StageRatiosModel_refused C.2.2.2.2.2.2.1 m1 (1) ) lR0 (eR0 _) rfl qw1340 qw16 qw1337 rfl rfl ⟨Nat.le_of_ble_eq_true rfl, Nat.le_of_ble_eq_true rfl⟩ (by decide +kernel) qw1339 qp36 rfl rfl (Nat.le_of_ble_eq_true rfl) dX11_riskiest_14 (fun r m10 hq10 => ?_)
    obtain ⟨z10, rfl, rfl, hq10⟩ := hq10
    show V E (wR D cy aa ad) 6 m10 17 [(0, .ref (aa 0))] [.int (iz (-1))]
    refine v_iret C X rfl dX11_riskiest_17 ⟨_, rfl, ?_, ?_⟩
    · rw [← hq10]
      refine RP.mk fk2 ?_ (by decide)
      exact Or.inr ⟨by omega, rfl, rfl⟩
    · trivial

set_option maxHeartbeats 4000000 in
set_option maxRecDepth 100000 in
theorem ct_StageRatiosModel_arrives {lau : Launch} {D : va_G} {cy : Nat → ClassId} {aa ad : Nat → Nat} (hI : wI (wR D cy aa ad)) (m : Mem) (fa Af Bf Cf Rr Xx : Int → Int) (hT : TT m fa Af Bf Cf Rr Xx) : MT lau (wR D cy aa ad) yX11_arrives cX11_arrives 1 (some .int) ({ frames := 4, cells := 0, slots := 0, locals := 96 } : Room) m [.ref (aa 0)] (Pi (fun z m' => (RP (qArr (m 0 20) fa Af Bf Cf Rr Xx) m m' z) ∧ True)) := by
  refine v_entry hI RX11 (by decide) rfl (Nat.le_of_ble_eq_true rfl) (fun E hE C X => ?_)
  subst hE
  show V E (wR D cy aa ad) 1 m 0 [(0, .ref (aa 0))] []
  refine v_aload_n C 0 dX11_arrives_0 rfl ?_
  refine v_iconst (z := 0) C dX11_arrives_1 rfl ?_
  refine v_put C 0 0 (0) 0 rfl lR0 (eR0 _) rfl inX11 tyX11 tyX11_ok nmX11 (by decide) qw1140 rfl rfl rfl (Nat.le_of_ble_eq_true rfl) (by rw [mup_r]; exact (eR0 _)) dX11_arrives_2 (fun m1 em1 => ?_)
  have fk2 : FK m m1 := by rw [em1]; exact FK.up 0 0 (by unfold CKj; omega)
  have hT2 := fk2.tt hT
  have e20 : m1 0 20 = m 0 20 := fk2.1 20 (Or.inr (Or.inl rfl))
  have ht01 : m 0 20 = 0 ∨ m 0 20 = 1 := hT.imp (fun a => a) (fun a => a.1)
  refine v_aload_n C 0 dX11_arrives_5 rfl ?_
  refine v_get C 0 20 lR0 (eR0 _) rfl inX11 (by decide) rfl qw1160 dX11_arrives_6 ?_
  refine v_if_ne (tgt := 18) C dX11_arrives_9 (by decide) (by omega) (fun c2 => ?_) (fun c2 => ?_)
  · obtain ⟨hT1, hg0⟩ := hT.resolve_left (by omega)
    have hg := fk2.rt hg0
    obtain ⟨⟨r11, r8, r9, r10, r12⟩, r1, r2, r6, hvd, hfo⟩ := id hg
    obtain ⟨hn, hF, hup, hlw, hX⟩ := id hvd
    refine v_aload_n C 0 dX11_arrives_18 rfl ?_
    refine v_iconst (z := -1) C dX11_arrives_19 rfl ?_
    refine v_iconst (z := -1) C dX11_arrives_20 rfl ?_
    refine v_callV (st := []) (n := 2) (q := 0) C [.int (iz (-1)), .int (iz (-1))] (ct_StageRatiosModel_flies C.2.2.2.2.2.2.1 m1 (fa) (Af) (Bf) (Cf) (Rr) (Xx) (-1) (-1) (0) (by exact hg) (by first | assumption | omega) (by first | assumption | omega) (by exact Or.inr rfl)) lR0 (eR0 _) rfl qw1670 qw16 qw1667 rfl rfl ⟨Nat.le_of_ble_eq_true rfl, Nat.le_of_ble_eq_true rfl⟩ (by decide +kernel) qw1669 qp87 rfl rfl (Nat.le_of_ble_eq_true rfl) dX11_arrives_21 (fun r m3 hq3 => ?_)
    obtain ⟨rfl, hq3⟩ := hq3
    show V E (wR D cy aa ad) 1 m3 24 [(0, .ref (aa 0))] []
    have fk3 := fk2.tr (show FK _ m3 from ⟨fun j hj => hq3.2.2.2.2.1 j (by unfold CKj at hj; omega) (by unfold CKj at hj; omega) (by unfold CKj at hj; omega) (by unfold CKj at hj; omega), fun q hq => hq3.2.2.2.2.2 q (by omega) (by omega) (by omega) (by omega) (by omega) (by omega) (by omega) (by omega)⟩)
    have hT3 := hq3.1
    have hok3 := ftl_ok (xs := -1) (xt := 0) hvd hfo
    have hle3 := ftl_len (xs := -1) (xt := 0) hvd hfo
    have hrg3 := ftl_rng (xs := -1) (xt := 0) hvd hfo
    have hbN3 := FN_2200 hF hfo.1 hle3 hok3
    have hcr3 := fpl_cross (xs := -1) (xt := 0) hvd hfo
    obtain ⟨-, -, ok3, ok4, ok5⟩ := fpl_ok (xs := -1) (xt := 0) hvd hfo
    have h583 := hT3.1
    have hg3 := fk3.rt hg0
    refine v_aload_n C 0 dX11_arrives_24 rfl ?_
    refine v_callV (st := []) (n := 0) (q := 0) C [] (ct_StageRatiosModel_laysFlown C.2.2.2.2.2.2.1 m3 (fa) (Af) (Bf) (Cf) (Rr) (Xx) ((ftl fa Af Bf Cf Rr Xx (-1) 0)) (by exact hg3) (by exact hT3) (by exact hok3) (by exact hle3)) lR0 (eR0 _) rfl qw1682 qw16 qw1679 rfl rfl ⟨Nat.le_of_ble_eq_true rfl, Nat.le_of_ble_eq_true rfl⟩ (by decide +kernel) qw1681 qp90 rfl rfl (Nat.le_of_ble_eq_true rfl) dX11_arrives_25 (fun r m4 hq4 => ?_)
    obtain ⟨rfl, hq4⟩ := hq4
    show V E (wR D cy aa ad) 1 m4 28 [(0, .ref (aa 0))] []
    have hg4 := hq4.2.rt hg3
    have e61 : m4 6 1 = Xx 1 := hg4.2.2.2.1 1 (by decide) (by decide)
    have hp1 := hX.2.1
    refine v_aload_n C 0 dX11_arrives_28 rfl ?_
    refine v_aload_n C 0 dX11_arrives_29 rfl ?_
    refine v_aload_n C 0 dX11_arrives_30 rfl ?_
    refine v_get C 0 21 lR0 (eR0 _) rfl inX11 (by decide) rfl qw1161 dX11_arrives_31 ?_
    refine v_iconst (z := 1) C dX11_arrives_34 rfl ?_
    refine v_iald C 6 lR6 (eR6 _) (by decide) (by omega) dX11_arrives_35 ?_
    refine v_callV (st := [.ref (aa 0)]) (n := 1) (q := 0) C [.int (iz (m4 6 1))] (ct_StageRatiosModel_reachesBy C.2.2.2.2.2.2.1 m4 (fa) (Af) (Bf) (Cf) (Rr) (Xx) (FN fa (Rr 4) (ftl fa Af Bf Cf Rr Xx (-1) 0)) (FD fa (Rr 4) (ftl fa Af Bf Cf Rr Xx (-1) 0)) (m4 6 1) (by exact hg4) (by exact hq4.1) (by exact hbN3.1) (by exact hbN3.2) (by rw [e61]; exact ⟨by omega, by omega⟩)) lR0 (eR0 _) rfl qw1537 qw16 qw1534 rfl rfl ⟨Nat.le_of_ble_eq_true rfl, Nat.le_of_ble_eq_true rfl⟩ (by decide +kernel) qw1536 qp70 rfl rfl (Nat.le_of_ble_eq_true rfl) dX11_arrives_36 (fun r m5 hq5 => ?_)
    obtain ⟨z5, rfl, ⟨rfl, hq5, hm5⟩ | ⟨rfl, hq5, hm5⟩⟩ := hq5
    · show V E (wR D cy aa ad) 1 m5 39 [(0, .ref (aa 0))] [.int (iz (1)), .ref (aa 0)]
      rw [e61] at hq5
      refine v_if_eq (tgt := 46) C dX11_arrives_39 (by decide) (by omega) (fun c6 => by exact absurd c6 (by decide)) (fun c6 => ?_)
      refine v_iconst (z := 1) C dX11_arrives_42 rfl ?_
      refine v_goto (tgt := 47) C dX11_arrives_43 (by decide) ?_
      refine v_callV (st := []) (n := 1) (q := 0) C [.int (iz (1))] (ct_StageRatiosModel_good C.2.2.2.2.2.2.1 m5 (1) ) lR0 (eR0 _) rfl qw1444 qw16 qw1441 rfl rfl ⟨Nat.le_of_ble_eq_true rfl, Nat.le_of_ble_eq_true rfl⟩ (by decide +kernel) qw1443 qp56 rfl rfl (Nat.le_of_ble_eq_true rfl) dX11_arrives_47 (fun r m7 hq7 => ?_)
      obtain ⟨z7, rfl, rfl, hq7⟩ := hq7
      show V E (wR D cy aa ad) 1 m7 50 [(0, .ref (aa 0))] [.int (iz (1))]
      refine v_iret C X rfl dX11_arrives_50 ⟨_, rfl, ?_, ?_⟩
      · rw [← hq7]
        refine RP.mk ((fk3.tr (FK.fb hq4.2)).tr (FK.fb hm5)) ?_ (by decide)
        first
          | exact Or.inl ⟨hT1, rfl, Or.inl ⟨rfl, rch_x hbN3.2.1 ok4 hcr3 hq5⟩⟩
          | exact Or.inl ⟨hT1, rfl, Or.inr ⟨rfl, fun y => hq5 (rch_x ok4 hbN3.2.1 hcr3.symm y)⟩⟩
      · trivial
    · show V E (wR D cy aa ad) 1 m5 39 [(0, .ref (aa 0))] [.int (iz (0)), .ref (aa 0)]
      rw [e61] at hq5
      refine v_if_eq (tgt := 46) C dX11_arrives_39 (by decide) (by omega) (fun c8 => ?_) (fun c8 => by exact absurd c8 (by decide))
      refine v_iconst (z := 0) C dX11_arrives_46 rfl ?_
      refine v_callV (st := []) (n := 1) (q := 0) C [.int (iz (0))] (ct_StageRatiosModel_good C.2.2.2.2.2.2.1 m5 (0) ) lR0 (eR0 _) rfl qw1444 qw16 qw1441 rfl rfl ⟨Nat.le_of_ble_eq_true rfl, Nat.le_of_ble_eq_true rfl⟩ (by decide +kernel) qw1443 qp56 rfl rfl (Nat.le_of_ble_eq_true rfl) dX11_arrives_47 (fun r m9 hq9 => ?_)
      obtain ⟨z9, rfl, rfl, hq9⟩ := hq9
      show V E (wR D cy aa ad) 1 m9 50 [(0, .ref (aa 0))] [.int (iz (0))]
      refine v_iret C X rfl dX11_arrives_50 ⟨_, rfl, ?_, ?_⟩
      · rw [← hq9]
        refine RP.mk ((fk3.tr (FK.fb hq4.2)).tr (FK.fb hm5)) ?_ (by decide)
        first
          | exact Or.inl ⟨hT1, rfl, Or.inl ⟨rfl, rch_x hbN3.2.1 ok4 hcr3 hq5⟩⟩
          | exact Or.inl ⟨hT1, rfl, Or.inr ⟨rfl, fun y => hq5 (rch_x ok4 hbN3.2.1 hcr3.symm y)⟩⟩
      · trivial
  · refine v_aload_n C 0 dX11_arrives_12 rfl ?_
    refine v_iconst (z := 1) C dX11_arrives_13 rfl ?_
    refine v_callV (st := []) (n := 1) (q := 0) C [.int (iz (1))] (ct_StageRatiosModel_refused C.2.2.2.2.2.2.1 m1 (1) ) lR0 (eR0 _) rfl qw1340 qw16 qw1337 rfl rfl ⟨Nat.le_of_ble_eq_true rfl, Nat.le_of_ble_eq_true rfl⟩ (by decide +kernel) qw1339 qp36 rfl rfl (Nat.le_of_ble_eq_true rfl) dX11_arrives_14 (fun r m10 hq10 => ?_)
    obtain ⟨z10, rfl, rfl, hq10⟩ := hq10
    show V E (wR D cy aa ad) 1 m10 17 [(0, .ref (aa 0))] [.int (iz (-1))]
    refine v_iret C X rfl dX11_arrives_17 ⟨_, rfl, ?_, ?_⟩
    · rw [← hq10]
      refine RP.mk fk2 ?_ (by decide)
      exact Or.inr ⟨by omega, rfl, rfl⟩
    · trivial

set_option maxHeartbeats 4000000 in
set_option maxRecDepth 100000 in
theorem ct_StageRatiosModel_flown {lau : Launch} {D : va_G} {cy : Nat → ClassId} {aa ad : Nat → Nat} (hI : wI (wR D cy aa ad)) (m : Mem) (fa Af Bf Cf Rr Xx : Int → Int) (up : Int) (hT : TT m fa Af Bf Cf Rr Xx) (hu : up = 0 ∨ up = 1) : MT lau (wR D cy aa ad) yX11_flown cX11_flown 3 (some .int) ({ frames := 4, cells := 0, slots := 0, locals := 96 } : Room) m [.ref (aa 0), .int (iz (up))] (Pi (fun z m' => (RP (qFlo (m 0 20) fa Af Bf Cf Rr Xx up) m m' z) ∧ True)) := by
  refine v_entry hI RX11 (by decide) rfl (Nat.le_of_ble_eq_true rfl) (fun E hE C X => ?_)
  subst hE
  show V E (wR D cy aa ad) 3 m 0 [(0, .ref (aa 0)), (1, .int (iz (up)))] []
  refine v_aload_n C 0 dX11_flown_0 rfl ?_
  refine v_iconst (z := 0) C dX11_flown_1 rfl ?_
  refine v_put C 0 0 (0) 0 rfl lR0 (eR0 _) rfl inX11 tyX11 tyX11_ok nmX11 (by decide) qw1140 rfl rfl rfl (Nat.le_of_ble_eq_true rfl) (by rw [mup_r]; exact (eR0 _)) dX11_flown_2 (fun m1 em1 => ?_)
  have fk2 : FK m m1 := by rw [em1]; exact FK.up 0 0 (by unfold CKj; omega)
  have hT2 := fk2.tt hT
  have e20 : m1 0 20 = m 0 20 := fk2.1 20 (Or.inr (Or.inl rfl))
  have ht01 : m 0 20 = 0 ∨ m 0 20 = 1 := hT.imp (fun a => a) (fun a => a.1)
  refine v_aload_n C 0 dX11_flown_5 rfl ?_
  refine v_get C 0 20 lR0 (eR0 _) rfl inX11 (by decide) rfl qw1160 dX11_flown_6 ?_
  refine v_if_ne (tgt := 18) C dX11_flown_9 (by decide) (by omega) (fun c2 => ?_) (fun c2 => ?_)
  · obtain ⟨hT1, hg0⟩ := hT.resolve_left (by omega)
    have hg := fk2.rt hg0
    obtain ⟨⟨r11, r8, r9, r10, r12⟩, r1, r2, r6, hvd, hfo⟩ := id hg
    obtain ⟨hn, hF, hup, hlw, hX⟩ := id hvd
    refine v_aload_n C 0 dX11_flown_18 rfl ?_
    refine v_iconst (z := -1) C dX11_flown_19 rfl ?_
    refine v_iconst (z := -1) C dX11_flown_20 rfl ?_
    refine v_callV (st := []) (n := 2) (q := 0) C [.int (iz (-1)), .int (iz (-1))] (ct_StageRatiosModel_flies C.2.2.2.2.2.2.1 m1 (fa) (Af) (Bf) (Cf) (Rr) (Xx) (-1) (-1) (0) (by exact hg) (by first | assumption | omega) (by first | assumption | omega) (by exact Or.inr rfl)) lR0 (eR0 _) rfl qw1670 qw16 qw1667 rfl rfl ⟨Nat.le_of_ble_eq_true rfl, Nat.le_of_ble_eq_true rfl⟩ (by decide +kernel) qw1669 qp87 rfl rfl (Nat.le_of_ble_eq_true rfl) dX11_flown_21 (fun r m3 hq3 => ?_)
    obtain ⟨rfl, hq3⟩ := hq3
    show V E (wR D cy aa ad) 3 m3 24 [(0, .ref (aa 0)), (1, .int (iz (up)))] []
    have fk3 := fk2.tr (show FK _ m3 from ⟨fun j hj => hq3.2.2.2.2.1 j (by unfold CKj at hj; omega) (by unfold CKj at hj; omega) (by unfold CKj at hj; omega) (by unfold CKj at hj; omega), fun q hq => hq3.2.2.2.2.2 q (by omega) (by omega) (by omega) (by omega) (by omega) (by omega) (by omega) (by omega)⟩)
    have hT3 := hq3.1
    have hok3 := ftl_ok (xs := -1) (xt := 0) hvd hfo
    have hle3 := ftl_len (xs := -1) (xt := 0) hvd hfo
    have hrg3 := ftl_rng (xs := -1) (xt := 0) hvd hfo
    have hbN3 := FN_2200 hF hfo.1 hle3 hok3
    have hcr3 := fpl_cross (xs := -1) (xt := 0) hvd hfo
    obtain ⟨-, -, ok3, ok4, ok5⟩ := fpl_ok (xs := -1) (xt := 0) hvd hfo
    have h583 := hT3.1
    have hg3 := fk3.rt hg0
    refine v_aload_n C 0 dX11_flown_24 rfl ?_
    refine v_callV (st := []) (n := 0) (q := 0) C [] (ct_StageRatiosModel_noFactors C.2.2.2.2.2.2.1 m3  ) lR0 (eR0 _) rfl qw1565 qw16 qw1562 rfl rfl ⟨Nat.le_of_ble_eq_true rfl, Nat.le_of_ble_eq_true rfl⟩ (by decide +kernel) qw1564 qp74 rfl rfl (Nat.le_of_ble_eq_true rfl) dX11_flown_25 (fun r m4 hq4 => ?_)
    obtain ⟨rfl, hq4⟩ := hq4
    show V E (wR D cy aa ad) 3 m4 28 [(0, .ref (aa 0)), (1, .int (iz (up)))] []
    refine v_iconst (z := 0) C dX11_flown_28 rfl ?_
    refine v_istore_n (L1 := [(2, .int (iz (0))), (0, .ref (aa 0)), (1, .int (iz (up)))]) C dX11_flown_29 (by decide) rfl ?_
    have K30 : ∀ (nK : Nat) (i : Int) (mL : Mem) (hi : 0 ≤ i ∧ i ≤ (ftl fa Af Bf Cf Rr Xx (-1) 0).length) (hE : EX mL (fxL fa (Rr 4) ((ftl fa Af Bf Cf Rr Xx (-1) 0).take i.toNat))) (hfL : ∀ q : Nat, q ≠ 12 → mL q = m3 q), ((ftl fa Af Bf Cf Rr Xx (-1) 0).length - i).toNat < nK → V E (wR D cy aa ad) 3 mL 30 [(0, .ref (aa 0)), (1, .int (iz (up))), (2, .int (iz (i)))] [] := by
      intro nK
      induction nK with
      | zero => intro i mL hi hE hfL hn; exact absurd hn (Nat.not_lt_zero _)
      | succ nK ih30 =>
        intro i mL hi hE hfL hn30
        have fkL := fk3.tr (show FK _ mL from ⟨fun j _ => by rw [hfL 0 (by decide)], fun q hq => hfL q (by omega)⟩)
        have hgL := fkL.rt hg0
        have hTL := hT3.fr (m1 := mL) (by rw [hfL 0 (by decide)]) (hfL 20 (by decide)) (hfL 21 (by decide)) (hfL 22 (by decide)) (hfL 23 (by decide)) (hfL 24 (by decide)) (hfL 25 (by decide))
        have l58 := hTL.1
        have l10 : mL 0 10 = Rr 4 := hgL.1.2.2.2.1
        have e1 : (i + 1).toNat = i.toNat + 1 := by omega
        have e2 : ((i.toNat : Nat) : Int) = i := by omega
        refine v_iload_n C 2 dX11_flown_30 rfl ?_
        refine v_aload_n C 0 dX11_flown_31 rfl ?_
        refine v_get C 0 58 lR0 (eR0 _) rfl inX11 (by decide) rfl qw1198 dX11_flown_32 ?_
        refine v_icmp_ge (tgt := 93) C dX11_flown_35 (by decide) (by omega) (by omega) (fun c5 => ?_) (fun c5 => ?_)
        · refine v_aload_n C 0 dX11_flown_93 rfl ?_
          refine v_aload_n C 0 dX11_flown_94 rfl ?_
          refine v_iload_n C 1 dX11_flown_95 rfl ?_
          refine v_callV (st := [.ref (aa 0)]) (n := 1) (q := 0) C [.int (iz (up))] (ct_StageRatiosModel_lowest C.2.2.2.2.2.2.1 mL (fxL fa (Rr 4) (ftl fa Af Bf Cf Rr Xx (-1) 0)) (up) (by rw [show i.toNat = (ftl fa Af Bf Cf Rr Xx (-1) 0).length by omega, List.take_length] at hE; exact hE) (by first | assumption | omega) (by 
                          intro j; rw [fpl_ex hvd]
                          obtain ⟨okr, -⟩ := fpl_ok (xs := -1) (xt := 0) hvd hfo
                          have := exL_rng (k := j) okr.2; have := okr.1; omega
                      )) lR0 (eR0 _) rfl qw1577 qw16 qw1574 rfl rfl ⟨Nat.le_of_ble_eq_true rfl, Nat.le_of_ble_eq_true rfl⟩ (by decide +kernel) qw1576 qp77 rfl rfl (Nat.le_of_ble_eq_true rfl) dX11_flown_96 (fun r m6 hq6 => ?_)
          obtain ⟨z6, rfl, rfl, rfl⟩ := hq6
          show V E (wR D cy aa ad) 3 mL 99 [(0, .ref (aa 0)), (1, .int (iz (up))), (2, .int (iz (i)))] [.int (iz (lowA (fun j0 => if up = 1 then exL j0 (fxL fa (Rr 4) (ftl fa Af Bf Cf Rr Xx (-1) 0)) else -exL j0 (fxL fa (Rr 4) (ftl fa Af Bf Cf Rr Xx (-1) 0))) 398)), .ref (aa 0)]
          refine v_callV (st := []) (n := 1) (q := 0) C [.int (iz (lowA (fun j0 => if up = 1 then exL j0 (fxL fa (Rr 4) (ftl fa Af Bf Cf Rr Xx (-1) 0)) else -exL j0 (fxL fa (Rr 4) (ftl fa Af Bf Cf Rr Xx (-1) 0))) 398))] (ct_StageRatiosModel_good C.2.2.2.2.2.2.1 mL (lowA (fun j0 => if up = 1 then exL j0 (fxL fa (Rr 4) (ftl fa Af Bf Cf Rr Xx (-1) 0)) else -exL j0 (fxL fa (Rr 4) (ftl fa Af Bf Cf Rr Xx (-1) 0))) 398) ) lR0 (eR0 _) rfl qw1444 qw16 qw1441 rfl rfl ⟨Nat.le_of_ble_eq_true rfl, Nat.le_of_ble_eq_true rfl⟩ (by decide +kernel) qw1443 qp56 rfl rfl (Nat.le_of_ble_eq_true rfl) dX11_flown_99 (fun r m7 hq7 => ?_)
          obtain ⟨z7, rfl, rfl, hq7⟩ := hq7
          show V E (wR D cy aa ad) 3 m7 102 [(0, .ref (aa 0)), (1, .int (iz (up))), (2, .int (iz (i)))] [.int (iz ((lowA (fun j0 => if up = 1 then exL j0 (fxL fa (Rr 4) (ftl fa Af Bf Cf Rr Xx (-1) 0)) else -exL j0 (fxL fa (Rr 4) (ftl fa Af Bf Cf Rr Xx (-1) 0))) 398)))]
          refine v_iret C X rfl dX11_flown_102 ⟨_, rfl, ?_, ?_⟩
          · rw [← hq7]
            refine RP.mk fkL (Or.inl ⟨hT1, rfl, ?_⟩) (by decide : (0 : Int) ≠ 4)
            obtain ⟨okr, -⟩ := fpl_ok (xs := -1) (xt := 0) hvd hfo
            rw [low_399 (fun q hq => ⟨(okr.2 q hq).1, (okr.2 q hq).2.1⟩)]
            exact lowA_cg fun j _ => by rw [fpl_ex hvd]
          · trivial
        · have K87 : ∀  (mE : Mem) (hEe : EX mE (fxL fa (Rr 4) ((ftl fa Af Bf Cf Rr Xx (-1) 0).take (i + 1).toNat))) (hfe : ∀ q : Nat, q ≠ 12 → mE q = m3 q), V E (wR D cy aa ad) 3 mE 87 [(0, .ref (aa 0)), (1, .int (iz (up))), (2, .int (iz (i)))] [] := by
            intro  mE hEe hfe
            refine v_iinc (L1 := [(2, .int (iz (i + 1))), (0, .ref (aa 0)), (1, .int (iz (up)))]) C 2 dX11_flown_87 rfl (by decide) rfl ?_
            refine v_goto (tgt := 30) C dX11_flown_90 (by decide) ?_
            refine v_sub [1, 2, 0] rfl ?_
            exact ih30 (i + 1) mE (by omega) (by exact hEe) (by exact hfe) (by omega)
          refine v_aload_n C 0 dX11_flown_38 rfl ?_
          refine v_aload_n C 0 dX11_flown_39 rfl ?_
          refine v_get C 0 54 lR0 (eR0 _) rfl inX11 (by decide) rfl qw1194 dX11_flown_40 ?_
          obtain ⟨q0, hq0⟩ : ∃ q, (ftl fa Af Bf Cf Rr Xx (-1) 0)[i.toNat]? = some q := ⟨_, List.getElem?_eq_getElem (by omega)⟩
          have hqv := hTL.2 _ q0 hq0
          rw [e2] at hqv
          have hqr := hok3 q0 (List.mem_of_getElem? hq0)
          refine v_iload_n C 2 dX11_flown_43 rfl ?_
          refine v_iald C 22 lR22 (eR22 _) (by decide) (by omega) dX11_flown_44 ?_
          refine v_aload_n C 0 dX11_flown_45 rfl ?_
          refine v_get C 0 55 lR0 (eR0 _) rfl inX11 (by decide) rfl qw1195 dX11_flown_46 ?_
          refine v_iload_n C 2 dX11_flown_49 rfl ?_
          refine v_iald C 23 lR23 (eR23 _) (by decide) (by omega) dX11_flown_50 ?_
          refine v_aload_n C 0 dX11_flown_51 rfl ?_
          refine v_aload_n C 0 dX11_flown_52 rfl ?_
          refine v_get C 0 52 lR0 (eR0 _) rfl inX11 (by decide) rfl qw1192 dX11_flown_53 ?_
          refine v_iload_n C 2 dX11_flown_56 rfl ?_
          refine v_iald C 20 lR20 (eR20 _) (by decide) (by omega) dX11_flown_57 ?_
          refine v_iconst (z := 0) C dX11_flown_58 rfl ?_
          refine v_callV (st := [.int (iz (mL 23 i)), .int (iz (mL 22 i)), .ref (aa 0)]) (n := 2) (q := 0) C [.int (iz (mL 20 i)), .int (iz (0))] (ct_StageRatiosModel_told C.2.2.2.2.2.2.1 mL (fa) (Af) (Bf) (Cf) (Rr) (Xx) (mL 20 i) (0) (by exact hgL) (by rw [hqv.1]; exact hqr.1) (by first | assumption | omega)) lR0 (eR0 _) rfl qw1440 qw16 qw1437 rfl rfl ⟨Nat.le_of_ble_eq_true rfl, Nat.le_of_ble_eq_true rfl⟩ (by decide +kernel) qw1439 qp55 rfl rfl (Nat.le_of_ble_eq_true rfl) dX11_flown_59 (fun r m8 hq8 => ?_)
          obtain ⟨z8, rfl, rfl, rfl⟩ := hq8
          show V E (wR D cy aa ad) 3 mL 62 [(0, .ref (aa 0)), (1, .int (iz (up))), (2, .int (iz (i)))] [.int (iz (fa ((mL 20 i) * 9 + 0))), .int (iz (mL 23 i)), .int (iz (mL 22 i)), .ref (aa 0)]
          refine v_callV (st := []) (n := 3) (q := 0) C [.int (iz (mL 22 i)), .int (iz (mL 23 i)), .int (iz (fa ((mL 20 i) * 9 + 0)))] (ct_StageRatiosModel_ratio C.2.2.2.2.2.2.1 mL (mL 22 i) (mL 23 i) (fa ((mL 20 i) * 9 + 0)) ((fxL fa (Rr 4) ((ftl fa Af Bf Cf Rr Xx (-1) 0).take i.toNat))) (by rw [hqv.2.2.1]; exact hqr.2.1) (by rw [hqv.2.2.2.1]; exact hqr.2.2) (by exact hE)) lR0 (eR0 _) rfl qw1569 qw16 qw1566 rfl rfl ⟨Nat.le_of_ble_eq_true rfl, Nat.le_of_ble_eq_true rfl⟩ (by decide +kernel) qw1568 qp75 rfl rfl (Nat.le_of_ble_eq_true rfl) dX11_flown_62 (fun r m9 hq9 => ?_)
          obtain ⟨rfl, hq9⟩ := hq9
          show V E (wR D cy aa ad) 3 m9 65 [(0, .ref (aa 0)), (1, .int (iz (up))), (2, .int (iz (i)))] []
          rw [hqv.1, hqv.2.2.1, hqv.2.2.2.1] at hq9
          have ep : m9 0 10 = Rr 4 := by rw [hq9.2 0 (by decide)]; exact l10
          have hpl := hfo.1
          refine v_aload_n C 0 dX11_flown_65 rfl ?_
          refine v_get C 0 10 lR0 (eR0 _) rfl inX11 (by decide) rfl qw1150 dX11_flown_66 ?_
          refine v_if_le (tgt := 87) C dX11_flown_69 (by decide) (by omega) (fun c10 => ?_) (fun c10 => ?_)
          · refine v_sub [0, 1, 2] rfl ?_
            exact K87   m9 (by 
                            rw [e1, fxL_s hq0]
                            unfold fx1
                            first
                              | (rw [if_pos (by omega), ← List.append_assoc]; have z := NO_q84.1; rw [ep] at z; exact z)
                              | (rw [if_neg (by omega), List.append_nil]; exact hq9.1)
                          ) (by first | (intro q h; rw [NO_q84.2 q h, hq9.2 q h]; exact hfL q h) | (intro q h; rw [hq9.2 q h]; exact hfL q h))
          · refine v_aload_n C 0 dX11_flown_72 rfl ?_
            refine v_aload_n C 0 dX11_flown_73 rfl ?_
            refine v_get C 0 10 lR0 (eR0 _) rfl inX11 (by decide) rfl qw1150 dX11_flown_74 ?_
            refine v_aload_n C 0 dX11_flown_77 rfl ?_
            refine v_get C 0 10 lR0 (eR0 _) rfl inX11 (by decide) rfl qw1150 dX11_flown_78 ?_
            refine v_iconst (z := 1) C dX11_flown_81 rfl ?_
            refine v_iadd C dX11_flown_82 ?_
            refine v_iconst (z := 1) C dX11_flown_83 rfl ?_
            refine v_callV (st := []) (n := 3) (q := 0) C [.int (iz (m9 0 10)), .int (iz ((m9 0 10) + 1)), .int (iz (1))] (ct_StageRatiosModel_ratio C.2.2.2.2.2.2.1 m9 (m9 0 10) ((m9 0 10) + 1) (1) ((fxL fa (Rr 4) ((ftl fa Af Bf Cf Rr Xx (-1) 0).take i.toNat)) ++ [(q0.2.2.1, fa (q0.1 * 9 + 0)), (q0.2.2.2.1, -fa (q0.1 * 9 + 0))]) (by omega) (by omega) (by exact hq9.1)) lR0 (eR0 _) rfl qw1569 qw16 qw1566 rfl rfl ⟨Nat.le_of_ble_eq_true rfl, Nat.le_of_ble_eq_true rfl⟩ (by decide +kernel) qw1568 qp75 rfl rfl (Nat.le_of_ble_eq_true rfl) dX11_flown_84 (fun r m11 hq11 => ?_)
            obtain ⟨rfl, hq11⟩ := hq11
            show V E (wR D cy aa ad) 3 m11 87 [(0, .ref (aa 0)), (1, .int (iz (up))), (2, .int (iz (i)))] []
            refine v_sub [0, 1, 2] rfl ?_
            exact K87   m11 (by 
                            rw [e1, fxL_s hq0]
                            unfold fx1
                            first
                              | (rw [if_pos (by omega), ← List.append_assoc]; have z := hq11.1; rw [ep] at z; exact z)
                              | (rw [if_neg (by omega), List.append_nil]; exact hq9.1)
                          ) (by first | (intro q h; rw [hq11.2 q h, hq9.2 q h]; exact hfL q h) | (intro q h; rw [hq9.2 q h]; exact hfL q h))
    refine v_sub [1, 2, 0] rfl ?_
    exact K30 _ (0) m4 (by omega) (by exact hq4.1) (by exact hq4.2) (Nat.lt_succ_self _)
  · refine v_aload_n C 0 dX11_flown_12 rfl ?_
    refine v_iconst (z := 1) C dX11_flown_13 rfl ?_
    refine v_callV (st := []) (n := 1) (q := 0) C [.int (iz (1))] (ct_StageRatiosModel_refused C.2.2.2.2.2.2.1 m1 (1) ) lR0 (eR0 _) rfl qw1340 qw16 qw1337 rfl rfl ⟨Nat.le_of_ble_eq_true rfl, Nat.le_of_ble_eq_true rfl⟩ (by decide +kernel) qw1339 qp36 rfl rfl (Nat.le_of_ble_eq_true rfl) dX11_flown_14 (fun r m12 hq12 => ?_)
    obtain ⟨z12, rfl, rfl, hq12⟩ := hq12
    show V E (wR D cy aa ad) 3 m12 17 [(0, .ref (aa 0)), (1, .int (iz (up)))] [.int (iz (-1))]
    refine v_iret C X rfl dX11_flown_17 ⟨_, rfl, ?_, ?_⟩
    · rw [← hq12]
      refine RP.mk fk2 ?_ (by decide)
      exact Or.inr ⟨by omega, rfl, rfl⟩
    · trivial
