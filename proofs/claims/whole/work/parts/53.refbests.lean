theorem mxP.fst {p : Int → Prop} {v : Int → Int} {n : Int} (h : mxP p v n (-2)) (h0 : 0 ≤ n) (hn : p n) (hv : ∀ c : Int, 0 ≤ c → c < n → 0 ≤ v c) : mxP p v (n + 1) (v n) := by
  rcases h with ⟨-, b⟩ | ⟨c0, a, b, d, e0, f⟩
  · exact mxP.new (Or.inl ⟨rfl, b⟩) h0 hn (Or.inl ⟨rfl, fun c h1 h2 h3 => absurd h3 (b c h1 h2)⟩)
  · have := hv c0 a b; omega
theorem mnP.fst {p : Int → Prop} {v : Int → Int} {n : Int} (h : mnP p v n (-2)) (h0 : 0 ≤ n) (hn : p n) (hv : ∀ c : Int, 0 ≤ c → c < n → 0 ≤ v c) : mnP p v (n + 1) (v n) := by
  rcases h with ⟨-, b⟩ | ⟨c0, a, b, d, e0, f⟩
  · refine Or.inr ⟨n, h0, by omega, hn, rfl, fun c h1 h2 h3 => ?_⟩
    by_cases e : c = n
    · rw [e]; exact Int.le_refl _
    · exact absurd h3 (b c h1 (by omega))
  · have := hv c0 a b; omega
def fhP (cn : Int → Prop) (pa : Int → Int → Prop) (n z : Int) : Prop := (z = -2 ∧ ∀ c : Int, 0 ≤ c → c < n → ¬ cn c) ∨ (0 ≤ z ∧ (∃ c : Int, 0 ≤ c ∧ c < n ∧ cn c ∧ pa c z) ∧ ∀ d : Int, 0 ≤ d → d < n → cn d → ∃ y, pa d y ∧ y ≤ z)
theorem fhP.to {cn : Int → Prop} {pa : Int → Int → Prop} {n k z : Int} (h : fhP cn pa n z) (hk : n ≤ k) (hn : ∀ c : Int, n ≤ c → c < k → ¬ cn c) : fhP cn pa k z := by
  rcases h with ⟨a, b⟩ | ⟨a, ⟨c, c0, c1, c2, c3⟩, d⟩
  · refine Or.inl ⟨a, fun c h0 h1 => ?_⟩
    by_cases q : c < n
    · exact b c h0 q
    · exact hn c (by omega) h1
  · refine Or.inr ⟨a, ⟨c, c0, by omega, c2, c3⟩, fun x h0 h1 h2 => ?_⟩
    by_cases q : x < n
    · exact d x h0 q h2
    · exact absurd h2 (hn x (by omega) h1)
theorem fhP.skip {cn : Int → Prop} {pa : Int → Int → Prop} {n z : Int} (h : fhP cn pa n z) (hn : ¬ cn n) : fhP cn pa (n + 1) z := h.to (by omega) (fun c h0 h1 => by rw [show c = n by omega]; exact hn)
theorem fhP.new {cn : Int → Prop} {pa : Int → Int → Prop} {n z y : Int} (h : fhP cn pa n z) (h0 : 0 ≤ n) (hn : cn n) (hy : pa n y) (y0 : 0 ≤ y) (hz : z < y) : fhP cn pa (n + 1) y := by
  refine Or.inr ⟨y0, ⟨n, h0, by omega, hn, hy⟩, fun d d0 d1 d2 => ?_⟩
  by_cases e : d = n
  · rw [e]; exact ⟨y, hy, Int.le_refl _⟩
  · rcases h with ⟨a, b⟩ | ⟨a, -, f⟩
    · exact absurd d2 (b d d0 (by omega))
    · obtain ⟨x, x1, x2⟩ := f d d0 (by omega) d2; exact ⟨x, x1, by omega⟩
theorem fhP.keep {cn : Int → Prop} {pa : Int → Int → Prop} {n z y : Int} (h : fhP cn pa n z) (hy : pa n y) (y0 : 0 ≤ y) (hz : ¬ z < y) : fhP cn pa (n + 1) z := by
  rcases h with ⟨a, b⟩ | ⟨a, ⟨c, c0, c1, c2, c3⟩, f⟩
  · omega
  · refine Or.inr ⟨a, ⟨c, c0, by omega, c2, c3⟩, fun d d0 d1 d2 => ?_⟩
    by_cases e : d = n
    · rw [e]; exact ⟨y, hy, by omega⟩
    · exact f d d0 (by omega) d2
set_option maxHeartbeats 4000000 in
set_option maxRecDepth 100000 in
theorem ct_StageRatiosModel_laysWays {lau : Launch} {D : va_G} {cy : Nat → ClassId} {aa ad : Nat → Nat} (hI : wI (wR D cy aa ad)) (m : Mem) (fa Af Bf Cf Rr Xx : Int → Int) (k s : Int) (hg : RT m fa Af Bf Cf Rr Xx) (hk : kPw k) (hs : 0 ≤ s ∧ s ≤ 2) : MT lau (wR D cy aa ad) yX11_laysWays cX11_laysWays 4 (none) ({ frames := 6, cells := 0, slots := 0, locals := 131 } : Room) m [.ref (aa 0), .int (iz (k)), .int (iz (s))] (Pv (fun m' => m' 0 44 = cnP (pcA fa (Rr 5) (Rr 2) (Rr 3) (Xx 0) (loX Xx) (hiX Xx) k) 4913 ∧ mnP (pcA fa (Rr 5) (Rr 2) (Rr 3) (Xx 0) (loX Xx) (hiX Xx) k) (fun c => unZ c s) 4913 (m' 0 45) ∧ mxP (pcA fa (Rr 5) (Rr 2) (Rr 3) (Xx 0) (loX Xx) (hiX Xx) k) (fun c => unZ c s) 4913 (m' 0 46) ∧ (∀ j : Int, j ≠ 34 → j ≠ 37 → j ≠ 38 → j ≠ 44 → j ≠ 45 → j ≠ 46 → m' 0 j = m 0 j) ∧ (∀ q : Nat, q ≠ 0 → q ≠ 9 → q ≠ 10 → q ≠ 11 → q ≠ 13 → q ≠ 14 → m' q = m q))) := by
  refine v_entry hI RX11 (by decide) rfl (Nat.le_of_ble_eq_true rfl) (fun E hE C X => ?_)
  subst hE
  show V E (wR D cy aa ad) 4 m 0 [(0, .ref (aa 0)), (1, .int (iz (k))), (2, .int (iz (s)))] []
  obtain ⟨⟨r11, r8, r9, r10, r12⟩, r1, r2, r6, hvd, hfo⟩ := id hg
  obtain ⟨hn, hF, hup, hlw, hX⟩ := id hvd
  have hb3 := hX.2.2
  have hvr : ∀ c : Int, 0 ≤ c → c < 4913 → 0 ≤ (fun c => unZ c s) c ∧ (fun c => unZ c s) c ≤ 1000 := fun c c0 c1 => by have := unZ_rng (s := s) c0 c1; show 0 ≤ unZ c s ∧ unZ c s ≤ 1000; omega
  refine v_aload_n C 0 dX11_laysWays_0 rfl ?_
  refine v_callV (st := []) (n := 0) (q := 0) C [] (ct_StageRatiosModel_laysBox C.2.2.2.2.2.2.1 m (fa) (Af) (Bf) (Cf) (Rr) (Xx) (by first | assumption | omega)) lR0 (eR0 _) rfl qw1590 qw16 qw1587 rfl rfl ⟨Nat.le_of_ble_eq_true rfl, Nat.le_of_ble_eq_true rfl⟩ (by decide +kernel) qw1589 qp78 rfl rfl (Nat.le_of_ble_eq_true rfl) dX11_laysWays_1 (fun r m1 hq1 => ?_)
  obtain ⟨rfl, hq1⟩ := hq1
  show V E (wR D cy aa ad) 4 m1 4 [(0, .ref (aa 0)), (1, .int (iz (k))), (2, .int (iz (s)))] []
  have hat1 := hq1.2.1
  have hfb := first_box (lo := loX Xx) (hi := hiX Xx) (fun j j0 j1 => (hq1.1 j j0 j1).2.2)
  refine v_aload_n C 0 dX11_laysWays_4 rfl ?_
  refine v_iconst (z := 0) C dX11_laysWays_5 rfl ?_
  refine v_put C 0 44 (0) 44 rfl lR0 (eR0 _) rfl inX11 tyX11 tyX11_ok nmX11 (by decide) qw1184 rfl rfl rfl (Nat.le_of_ble_eq_true rfl) (by rw [mup_r]; exact (eR0 _)) dX11_laysWays_6 (fun m2 em2 => ?_)
  refine v_aload_n C 0 dX11_laysWays_9 rfl ?_
  refine v_bipush (z := -2) C dX11_laysWays_10 (by decide) ?_
  refine v_put C 0 45 (-2) 45 rfl lR0 (eR0 _) rfl inX11 tyX11 tyX11_ok nmX11 (by decide) qw1185 rfl rfl rfl (Nat.le_of_ble_eq_true rfl) (by rw [mup_r]; exact (eR0 _)) dX11_laysWays_12 (fun m3 em3 => ?_)
  refine v_aload_n C 0 dX11_laysWays_15 rfl ?_
  refine v_bipush (z := -2) C dX11_laysWays_16 (by decide) ?_
  refine v_put C 0 46 (-2) 46 rfl lR0 (eR0 _) rfl inX11 tyX11 tyX11_ok nmX11 (by decide) qw1186 rfl rfl rfl (Nat.le_of_ble_eq_true rfl) (by rw [mup_r]; exact (eR0 _)) dX11_laysWays_18 (fun m4 em4 => ?_)
  have o9 : m4 9 = m1 9 := by rw [em4, mup_k _ _ _ (by decide), em3, mup_k _ _ _ (by decide), em2, mup_k _ _ _ (by decide)]
  have o13 : m4 13 = m1 13 := by rw [em4, mup_k _ _ _ (by decide), em3, mup_k _ _ _ (by decide), em2, mup_k _ _ _ (by decide)]
  have o14 : m4 14 = m1 14 := by rw [em4, mup_k _ _ _ (by decide), em3, mup_k _ _ _ (by decide), em2, mup_k _ _ _ (by decide)]
  refine v_iconst (z := 1) C dX11_laysWays_21 rfl ?_
  refine v_istore_n (L1 := [(3, .int (iz (1))), (0, .ref (aa 0)), (1, .int (iz (k))), (2, .int (iz (s)))]) C dX11_laysWays_22 (by decide) rfl ?_
  have K23 : ∀ (nK : Nat) (b : Int) (i : Int) (mL : Mem) (hst : SeC mL (loX Xx) (hiX Xx) b i) (hbxL : BxOk mL (loX Xx) (hiX Xx)) (h44 : mL 0 44 = cnP (pcA fa (Rr 5) (Rr 2) (Rr 3) (Xx 0) (loX Xx) (hiX Xx) k) i.toNat) (h45 : mnP (pcA fa (Rr 5) (Rr 2) (Rr 3) (Xx 0) (loX Xx) (hiX Xx) k) (fun c => unZ c s) i (mL 0 45)) (h46 : mxP (pcA fa (Rr 5) (Rr 2) (Rr 3) (Xx 0) (loX Xx) (hiX Xx) k) (fun c => unZ c s) i (mL 0 46)) (h34 : mL 0 34 = Xx 0) (h0 : (∀ j : Int, j ≠ 34 → j ≠ 37 → j ≠ 38 → j ≠ 44 → j ≠ 45 → j ≠ 46 → mL 0 j = m 0 j)) (hf : (∀ q : Nat, q ≠ 0 → q ≠ 9 → q ≠ 10 → q ≠ 11 → q ≠ 13 → q ≠ 14 → mL q = m q)), (4913 - i).toNat < nK → V E (wR D cy aa ad) 4 mL 23 [(0, .ref (aa 0)), (1, .int (iz (k))), (2, .int (iz (s))), (3, .int (iz (b)))] [] := by
    intro nK
    induction nK with
    | zero => intro b i mL hst hbxL h44 h45 h46 h34 h0 hf hn; exact absurd hn (Nat.not_lt_zero _)
    | succ nK ih23 =>
      intro b i mL hst hbxL h44 h45 h46 h34 h0 hf hn23
      obtain ⟨hb01, hi0, hi1⟩ := hst.b
      have e1 : (i + 1).toNat = i.toNat + 1 := by omega
      have e2 : ((i.toNat : Nat) : Int) = i := by omega
      have hs45 := h45.sgn (fun c c0 c1 => hvr c c0 (by omega))
      have hs46 := h46.sgn (fun c c0 c1 => hvr c c0 (by omega))
      have fk_mL : FK m mL := ⟨fun j hj => h0 j (by unfold CKj at hj; omega) (by unfold CKj at hj; omega) (by unfold CKj at hj; omega) (by unfold CKj at hj; omega) (by unfold CKj at hj; omega) (by unfold CKj at hj; omega), fun q hq => hf q (by omega) (by omega) (by omega) (by omega) (by omega) (by omega)⟩
      have hg_mL := fk_mL.rt hg
      refine v_iload_n C 3 dX11_laysWays_23 rfl ?_
      refine v_if_eq (tgt := 115) C dX11_laysWays_24 (by decide) (by omega) (fun c5 => ?_) (fun c5 => ?_)
      · refine v_vret C X dX11_laysWays_115 ⟨rfl, ?_⟩
        rw [hst.end (by omega)] at h44 h45 h46; exact ⟨h44, h45, h46, h0, hf⟩
      · have hatL := hst.at (by omega)
        have hdL := hatL.dt hn hX.1 h34
        refine v_aload_n C 0 dX11_laysWays_27 rfl ?_
        have K107 : ∀  (mK : Mem) (h44K : mK 0 44 = cnP (pcA fa (Rr 5) (Rr 2) (Rr 3) (Xx 0) (loX Xx) (hiX Xx) k) (i + 1).toNat) (h45K : mnP (pcA fa (Rr 5) (Rr 2) (Rr 3) (Xx 0) (loX Xx) (hiX Xx) k) (fun c => unZ c s) (i + 1) (mK 0 45)) (h46K : mxP (pcA fa (Rr 5) (Rr 2) (Rr 3) (Xx 0) (loX Xx) (hiX Xx) k) (fun c => unZ c s) (i + 1) (mK 0 46)) (h0L : ∀ j : Int, j ≠ 37 → j ≠ 38 → j ≠ 44 → j ≠ 45 → j ≠ 46 → mK 0 j = mL 0 j) (hfL : ∀ q : Nat, q ≠ 0 → q ≠ 10 → q ≠ 11 → mK q = mL q), V E (wR D cy aa ad) 4 mK 107 [(0, .ref (aa 0)), (1, .int (iz (k))), (2, .int (iz (s)))] [] := by
          intro  mK h44K h45K h46K h0L hfL
          refine v_aload_n C 0 dX11_laysWays_107 rfl ?_
          refine v_callV (st := []) (n := 0) (q := 0) C [] (ct_StageRatiosModel_goesOn C.2.2.2.2.2.2.1 mK (loX Xx) (hiX Xx) (i) (by exact hbxL.fr (hfL 13 (by decide) (by decide) (by decide)) (hfL 14 (by decide) (by decide) (by decide))) (by exact hatL.fr (hfL 9 (by decide) (by decide) (by decide)))) lR0 (eR0 _) rfl qw1598 qw16 qw1595 rfl rfl ⟨Nat.le_of_ble_eq_true rfl, Nat.le_of_ble_eq_true rfl⟩ (by decide +kernel) qw1597 qp80 rfl rfl (Nat.le_of_ble_eq_true rfl) dX11_laysWays_108 (fun r m6 hq6 => ?_)
          obtain ⟨z6, rfl, hq6, hm6⟩ := hq6
          show V E (wR D cy aa ad) 4 m6 111 [(0, .ref (aa 0)), (1, .int (iz (k))), (2, .int (iz (s)))] [.int (iz (z6))]
          obtain ⟨n2x, hn2a, hst2, hsk2⟩ := hq6
          have hb2 := hst2.b
          refine v_istore_n (L1 := [(3, .int (iz (z6))), (0, .ref (aa 0)), (1, .int (iz (k))), (2, .int (iz (s)))]) C dX11_laysWays_111 (by decide) rfl ?_
          refine v_goto (tgt := 23) C dX11_laysWays_112 (by decide) ?_
          refine v_sub [1, 2, 3, 0] rfl ?_
          exact ih23 (z6) (n2x) m6 (by exact hst2) (by exact hbxL.fr (by rw [hm6 13 (by decide)]; exact hfL 13 (by decide) (by decide) (by decide)) (by rw [hm6 14 (by decide)]; exact hfL 14 (by decide) (by decide) (by decide))) (by rw [hm6 0 (by decide), h44K]; exact (cnP_to (by omega) (fun c c0 c1 h => hsk2 c (by omega) (by omega) h.1)).symm) (by rw [hm6 0 (by decide)]; exact h45K.to (by omega) (fun c c0 c1 h => hsk2 c (by omega) c1 h.1)) (by rw [hm6 0 (by decide)]; exact h46K.to (by omega) (fun c c0 c1 h => hsk2 c (by omega) c1 h.1)) (by rw [hm6 0 (by decide), h0L 34 (by decide) (by decide) (by decide) (by decide) (by decide)]; exact h34) (by intro j a1 a2 a3 a4 a5 a6; rw [hm6 0 (by decide), h0L j a2 a3 a4 a5 a6]; exact h0 j a1 a2 a3 a4 a5 a6) (by intro q a1 a2 a3 a4 a5 a6; rw [hm6 q a2, hfL q a1 a3 a4]; exact hf q a1 a2 a3 a4 a5 a6) (by omega)
        refine v_callV (st := []) (n := 0) (q := 0) C [] (ct_StageRatiosModel_allHold C.2.2.2.2.2.2.1 mL (fa) (Af) (Bf) (Cf) (Rr) (Xx) (Xx 0) (unZ i) (by exact hg_mL) (by exact hdL)) lR0 (eR0 _) rfl qw1557 qw16 qw1554 rfl rfl ⟨Nat.le_of_ble_eq_true rfl, Nat.le_of_ble_eq_true rfl⟩ (by decide +kernel) qw1556 qp73 rfl rfl (Nat.le_of_ble_eq_true rfl) dX11_laysWays_28 (fun r m7 hq7 => ?_)
        obtain ⟨z7, rfl, ⟨rfl, hq7, rfl⟩ | ⟨rfl, hq7, rfl⟩⟩ := hq7
        · show V E (wR D cy aa ad) 4 mL 31 [(0, .ref (aa 0)), (1, .int (iz (k))), (2, .int (iz (s))), (3, .int (iz (b)))] [.int (iz (1))]
          refine v_if_eq (tgt := 107) C dX11_laysWays_31 (by decide) (by omega) (fun c8 => by exact absurd c8 (by decide)) (fun c8 => ?_)
          refine v_aload_n C 0 dX11_laysWays_34 rfl ?_
          refine v_iload_n C 1 dX11_laysWays_35 rfl ?_
          refine v_callV (st := []) (n := 1) (q := 0) C [.int (iz (k))] (ct_StageRatiosModel_divReaches C.2.2.2.2.2.2.1 mL (fa) (Af) (Bf) (Cf) (Rr) (Xx) (Xx 0) (unZ i) (k) (by exact hg_mL) (by exact hdL) (by first | assumption | omega)) lR0 (eR0 _) rfl qw1512 qw16 qw1509 rfl rfl ⟨Nat.le_of_ble_eq_true rfl, Nat.le_of_ble_eq_true rfl⟩ (by decide +kernel) qw1511 qp64 rfl rfl (Nat.le_of_ble_eq_true rfl) dX11_laysWays_36 (fun r m9 hq9 => ?_)
          obtain ⟨z9, rfl, ⟨rfl, hq9, hm9⟩ | ⟨rfl, hq9, hm9⟩⟩ := hq9
          · show V E (wR D cy aa ad) 4 m9 39 [(0, .ref (aa 0)), (1, .int (iz (k))), (2, .int (iz (s))), (3, .int (iz (b)))] [.int (iz (1))]
            refine v_if_eq (tgt := 107) C dX11_laysWays_39 (by decide) (by omega) (fun c10 => by exact absurd c10 (by decide)) (fun c10 => ?_)
            refine v_aload_n C 0 dX11_laysWays_42 rfl ?_
            refine v_dup C dX11_laysWays_43 rfl ?_
            refine v_get C 0 44 lR0 (eR0 _) rfl inX11 (by decide) rfl qw1184 dX11_laysWays_44 ?_
            refine v_iconst (z := 1) C dX11_laysWays_47 rfl ?_
            refine v_iadd C dX11_laysWays_48 ?_
            refine v_put C 0 44 ((m9 0 44) + 1) 44 rfl lR0 (eR0 _) rfl inX11 tyX11 tyX11_ok nmX11 (by decide) qw1184 rfl rfl rfl (Nat.le_of_ble_eq_true rfl) (by rw [mup_r]; exact (eR0 _)) dX11_laysWays_49 (fun m11 em11 => ?_)
            have hpi : (pcA fa (Rr 5) (Rr 2) (Rr 3) (Xx 0) (loX Xx) (hiX Xx) k) i := ⟨hatL.2.1, hq7, hq9⟩
            have e949 : m11 9 s = unZ i s := by rw [em11, mup_k _ _ _ (by decide), hm9.2 9 (by decide) (by decide) (by decide)]; exact hatL.2.2 s hs.1 (by omega)
            have hur := unZ_rng (s := s) hatL.1.1 hatL.1.2
            have e4549 : m11 0 45 = mL 0 45 := by rw [em11, mup_j _ _ (by decide)]; exact hm9.1 45 (by decide) (by decide)
            refine v_aload_n C 0 dX11_laysWays_52 rfl ?_
            have K74 : ∀  (hls : m11 0 45 = -2 ∨ unZ i s < m11 0 45), V E (wR D cy aa ad) 4 m11 74 [(0, .ref (aa 0)), (1, .int (iz (k))), (2, .int (iz (s)))] [] := by
              intro   hls
              refine v_aload_n C 0 dX11_laysWays_74 rfl ?_
              refine v_aload_n C 0 dX11_laysWays_75 rfl ?_
              refine v_get C 0 33 lR0 (eR0 _) rfl inX11 (by decide) rfl qw1173 dX11_laysWays_76 ?_
              refine v_iload_n C 2 dX11_laysWays_79 rfl ?_
              refine v_iald C 9 lR9 (eR9 _) (by decide) (by omega) dX11_laysWays_80 ?_
              refine v_put C 0 45 (m11 9 s) 45 rfl lR0 (eR0 _) rfl inX11 tyX11 tyX11_ok nmX11 (by decide) qw1185 rfl rfl rfl (Nat.le_of_ble_eq_true rfl) (by rw [mup_r]; exact (eR0 _)) dX11_laysWays_81 (fun m12 em12 => ?_)
              have K84 : ∀  (mM : Mem) (h45M : mnP (pcA fa (Rr 5) (Rr 2) (Rr 3) (Xx 0) (loX Xx) (hiX Xx) k) (fun c => unZ c s) (i + 1) (mM 0 45)) (hM0 : ∀ j : Int, j ≠ 45 → mM 0 j = m11 0 j) (hMf : ∀ q : Nat, q ≠ 0 → mM q = m11 q), V E (wR D cy aa ad) 4 mM 84 [(0, .ref (aa 0)), (1, .int (iz (k))), (2, .int (iz (s)))] [] := by
                intro  mM h45M hM0 hMf
                have e9M : mM 9 s = unZ i s := by rw [hMf 9 (by decide)]; exact e949
                have e46M : mM 0 46 = mL 0 46 := by rw [hM0 46 (by decide), em11, mup_j _ _ (by decide)]; exact hm9.1 46 (by decide) (by decide)
                have h44M : m11 0 44 = cnP (pcA fa (Rr 5) (Rr 2) (Rr 3) (Xx 0) (loX Xx) (hiX Xx) k) (i + 1).toNat := by rw [em11, mup_s, hm9.1 44 (by decide) (by decide), h44, e1, cnP_y (by rw [e2]; exact hpi)]
                refine v_aload_n C 0 dX11_laysWays_84 rfl ?_
                refine v_get C 0 33 lR0 (eR0 _) rfl inX11 (by decide) rfl qw1173 dX11_laysWays_85 ?_
                refine v_iload_n C 2 dX11_laysWays_88 rfl ?_
                refine v_iald C 9 lR9 (eR9 _) (by decide) (by omega) dX11_laysWays_89 ?_
                refine v_aload_n C 0 dX11_laysWays_90 rfl ?_
                refine v_get C 0 46 lR0 (eR0 _) rfl inX11 (by decide) rfl qw1186 dX11_laysWays_91 ?_
                refine v_icmp_le (tgt := 107) C dX11_laysWays_94 (by decide) (by omega) (by omega) (fun c13 => ?_) (fun c13 => ?_)
                · refine v_sub [0, 1, 2] rfl ?_
                  exact K107   mM (by 
                                        first
                                          | (rw [e1, cnP_n (by rw [e2]; exact fun y => hq7 y.2.1)]; exact h44)
                                          | (rw [e1, cnP_n (by rw [e2]; exact fun y => hq9 y.2.2), hm9.1 44 (by decide) (by decide)]; exact h44)
                                          | (rw [hM0 44 (by decide)]; exact h44M)
                                          | (rw [NO_em104, mup_j _ _ (by decide), hM0 44 (by decide)]; exact h44M)
                                      ) (by 
                                        first
                                          | exact h45.skip (fun y => hq7 y.2.1)
                                          | (rw [hm9.1 45 (by decide) (by decide)]; exact h45.skip (fun y => hq9 y.2.2))
                                          | exact h45M
                                          | (rw [NO_em104, mup_j _ _ (by decide)]; exact h45M)
                                      ) (by 
                                        first
                                          | exact h46.skip (fun y => hq7 y.2.1)
                                          | (rw [hm9.1 46 (by decide) (by decide)]; exact h46.skip (fun y => hq9 y.2.2))
                                          | (rw [e46M]; exact h46.keep (by omega) (by show unZ i s ≤ _; omega))
                                          | (rw [NO_em104, mup_s, e9M]
                                             rcases hs46 with y | y
                                             · rw [y] at h46; exact h46.fst hi0 hpi (fun c c0 c1 => (hvr c c0 (by omega)).1)
                                             · exact h46.new hi0 hpi (Or.inr (by show _ ≤ unZ i s; omega)))
                                      ) (by 
                                        first
                                          | exact fun _ _ _ _ _ _ => rfl
                                          | (intro j a1 a2 a3 a4 a5; exact hm9.1 j a1 a2)
                                          | (intro j a1 a2 a3 a4 a5; rw [hM0 j a4, em11, mup_j _ _ a3]; exact hm9.1 j a1 a2)
                                          | (intro j a1 a2 a3 a4 a5; rw [NO_em104, mup_j _ _ a5, hM0 j a4, em11, mup_j _ _ a3]; exact hm9.1 j a1 a2)
                                      ) (by 
                                        first
                                          | exact fun _ _ _ _ => rfl
                                          | (intro q a1 a2 a3; exact hm9.2 q a1 a2 a3)
                                          | (intro q a1 a2 a3; rw [hMf q a1, em11, mup_k _ _ _ a1]; exact hm9.2 q a1 a2 a3)
                                          | (intro q a1 a2 a3; rw [NO_em104, mup_k _ _ _ a1, hMf q a1, em11, mup_k _ _ _ a1]; exact hm9.2 q a1 a2 a3)
                                      )
                · refine v_aload_n C 0 dX11_laysWays_97 rfl ?_
                  refine v_aload_n C 0 dX11_laysWays_98 rfl ?_
                  refine v_get C 0 33 lR0 (eR0 _) rfl inX11 (by decide) rfl qw1173 dX11_laysWays_99 ?_
                  refine v_iload_n C 2 dX11_laysWays_102 rfl ?_
                  refine v_iald C 9 lR9 (eR9 _) (by decide) (by omega) dX11_laysWays_103 ?_
                  refine v_put C 0 46 (mM 9 s) 46 rfl lR0 (eR0 _) rfl inX11 tyX11 tyX11_ok nmX11 (by decide) qw1186 rfl rfl rfl (Nat.le_of_ble_eq_true rfl) (by rw [mup_r]; exact (eR0 _)) dX11_laysWays_104 (fun m14 em14 => ?_)
                  refine v_sub [0, 1, 2] rfl ?_
                  exact K107   m14 (by 
                                        first
                                          | (rw [e1, cnP_n (by rw [e2]; exact fun y => hq7 y.2.1)]; exact h44)
                                          | (rw [e1, cnP_n (by rw [e2]; exact fun y => hq9 y.2.2), hm9.1 44 (by decide) (by decide)]; exact h44)
                                          | (rw [hM0 44 (by decide)]; exact h44M)
                                          | (rw [em14, mup_j _ _ (by decide), hM0 44 (by decide)]; exact h44M)
                                      ) (by 
                                        first
                                          | exact h45.skip (fun y => hq7 y.2.1)
                                          | (rw [hm9.1 45 (by decide) (by decide)]; exact h45.skip (fun y => hq9 y.2.2))
                                          | exact h45M
                                          | (rw [em14, mup_j _ _ (by decide)]; exact h45M)
                                      ) (by 
                                        first
                                          | exact h46.skip (fun y => hq7 y.2.1)
                                          | (rw [hm9.1 46 (by decide) (by decide)]; exact h46.skip (fun y => hq9 y.2.2))
                                          | (rw [e46M]; exact h46.keep (by omega) (by show unZ i s ≤ _; omega))
                                          | (rw [em14, mup_s, e9M]
                                             rcases hs46 with y | y
                                             · rw [y] at h46; exact h46.fst hi0 hpi (fun c c0 c1 => (hvr c c0 (by omega)).1)
                                             · exact h46.new hi0 hpi (Or.inr (by show _ ≤ unZ i s; omega)))
                                      ) (by 
                                        first
                                          | exact fun _ _ _ _ _ _ => rfl
                                          | (intro j a1 a2 a3 a4 a5; exact hm9.1 j a1 a2)
                                          | (intro j a1 a2 a3 a4 a5; rw [hM0 j a4, em11, mup_j _ _ a3]; exact hm9.1 j a1 a2)
                                          | (intro j a1 a2 a3 a4 a5; rw [em14, mup_j _ _ a5, hM0 j a4, em11, mup_j _ _ a3]; exact hm9.1 j a1 a2)
                                      ) (by 
                                        first
                                          | exact fun _ _ _ _ => rfl
                                          | (intro q a1 a2 a3; exact hm9.2 q a1 a2 a3)
                                          | (intro q a1 a2 a3; rw [hMf q a1, em11, mup_k _ _ _ a1]; exact hm9.2 q a1 a2 a3)
                                          | (intro q a1 a2 a3; rw [em14, mup_k _ _ _ a1, hMf q a1, em11, mup_k _ _ _ a1]; exact hm9.2 q a1 a2 a3)
                                      )
              refine v_sub [0, 1, 2] rfl ?_
              exact K84  m12 (by 
                                first
                                  | (rw [e4549]; exact h45.keep (by omega) (by show _ ≤ unZ i s; omega))
                                  | (rw [em12, mup_s, e949]
                                     rcases hs45 with y | y
                                     · rw [y] at h45; exact h45.fst hi0 hpi (fun c c0 c1 => (hvr c c0 (by omega)).1)
                                     · exact h45.new hi0 hpi (by show unZ i s ≤ _; omega))
                              ) (by first | exact fun _ _ => rfl | (intro j h; rw [em12, mup_j _ _ h])) (by first | exact fun _ _ => rfl | (intro q h; rw [em12, mup_k _ _ _ h]))
            have K84 : ∀  (mM : Mem) (h45M : mnP (pcA fa (Rr 5) (Rr 2) (Rr 3) (Xx 0) (loX Xx) (hiX Xx) k) (fun c => unZ c s) (i + 1) (mM 0 45)) (hM0 : ∀ j : Int, j ≠ 45 → mM 0 j = m11 0 j) (hMf : ∀ q : Nat, q ≠ 0 → mM q = m11 q), V E (wR D cy aa ad) 4 mM 84 [(0, .ref (aa 0)), (1, .int (iz (k))), (2, .int (iz (s)))] [] := by
              intro  mM h45M hM0 hMf
              have e9M : mM 9 s = unZ i s := by rw [hMf 9 (by decide)]; exact e949
              have e46M : mM 0 46 = mL 0 46 := by rw [hM0 46 (by decide), em11, mup_j _ _ (by decide)]; exact hm9.1 46 (by decide) (by decide)
              have h44M : m11 0 44 = cnP (pcA fa (Rr 5) (Rr 2) (Rr 3) (Xx 0) (loX Xx) (hiX Xx) k) (i + 1).toNat := by rw [em11, mup_s, hm9.1 44 (by decide) (by decide), h44, e1, cnP_y (by rw [e2]; exact hpi)]
              refine v_aload_n C 0 dX11_laysWays_84 rfl ?_
              refine v_get C 0 33 lR0 (eR0 _) rfl inX11 (by decide) rfl qw1173 dX11_laysWays_85 ?_
              refine v_iload_n C 2 dX11_laysWays_88 rfl ?_
              refine v_iald C 9 lR9 (eR9 _) (by decide) (by omega) dX11_laysWays_89 ?_
              refine v_aload_n C 0 dX11_laysWays_90 rfl ?_
              refine v_get C 0 46 lR0 (eR0 _) rfl inX11 (by decide) rfl qw1186 dX11_laysWays_91 ?_
              refine v_icmp_le (tgt := 107) C dX11_laysWays_94 (by decide) (by omega) (by omega) (fun c15 => ?_) (fun c15 => ?_)
              · refine v_sub [0, 1, 2] rfl ?_
                exact K107   mM (by 
                                    first
                                      | (rw [e1, cnP_n (by rw [e2]; exact fun y => hq7 y.2.1)]; exact h44)
                                      | (rw [e1, cnP_n (by rw [e2]; exact fun y => hq9 y.2.2), hm9.1 44 (by decide) (by decide)]; exact h44)
                                      | (rw [hM0 44 (by decide)]; exact h44M)
                                      | (rw [NO_em104, mup_j _ _ (by decide), hM0 44 (by decide)]; exact h44M)
                                  ) (by 
                                    first
                                      | exact h45.skip (fun y => hq7 y.2.1)
                                      | (rw [hm9.1 45 (by decide) (by decide)]; exact h45.skip (fun y => hq9 y.2.2))
                                      | exact h45M
                                      | (rw [NO_em104, mup_j _ _ (by decide)]; exact h45M)
                                  ) (by 
                                    first
                                      | exact h46.skip (fun y => hq7 y.2.1)
                                      | (rw [hm9.1 46 (by decide) (by decide)]; exact h46.skip (fun y => hq9 y.2.2))
                                      | (rw [e46M]; exact h46.keep (by omega) (by show unZ i s ≤ _; omega))
                                      | (rw [NO_em104, mup_s, e9M]
                                         rcases hs46 with y | y
                                         · rw [y] at h46; exact h46.fst hi0 hpi (fun c c0 c1 => (hvr c c0 (by omega)).1)
                                         · exact h46.new hi0 hpi (Or.inr (by show _ ≤ unZ i s; omega)))
                                  ) (by 
                                    first
                                      | exact fun _ _ _ _ _ _ => rfl
                                      | (intro j a1 a2 a3 a4 a5; exact hm9.1 j a1 a2)
                                      | (intro j a1 a2 a3 a4 a5; rw [hM0 j a4, em11, mup_j _ _ a3]; exact hm9.1 j a1 a2)
                                      | (intro j a1 a2 a3 a4 a5; rw [NO_em104, mup_j _ _ a5, hM0 j a4, em11, mup_j _ _ a3]; exact hm9.1 j a1 a2)
                                  ) (by 
                                    first
                                      | exact fun _ _ _ _ => rfl
                                      | (intro q a1 a2 a3; exact hm9.2 q a1 a2 a3)
                                      | (intro q a1 a2 a3; rw [hMf q a1, em11, mup_k _ _ _ a1]; exact hm9.2 q a1 a2 a3)
                                      | (intro q a1 a2 a3; rw [NO_em104, mup_k _ _ _ a1, hMf q a1, em11, mup_k _ _ _ a1]; exact hm9.2 q a1 a2 a3)
                                  )
              · refine v_aload_n C 0 dX11_laysWays_97 rfl ?_
                refine v_aload_n C 0 dX11_laysWays_98 rfl ?_
                refine v_get C 0 33 lR0 (eR0 _) rfl inX11 (by decide) rfl qw1173 dX11_laysWays_99 ?_
                refine v_iload_n C 2 dX11_laysWays_102 rfl ?_
                refine v_iald C 9 lR9 (eR9 _) (by decide) (by omega) dX11_laysWays_103 ?_
                refine v_put C 0 46 (mM 9 s) 46 rfl lR0 (eR0 _) rfl inX11 tyX11 tyX11_ok nmX11 (by decide) qw1186 rfl rfl rfl (Nat.le_of_ble_eq_true rfl) (by rw [mup_r]; exact (eR0 _)) dX11_laysWays_104 (fun m16 em16 => ?_)
                refine v_sub [0, 1, 2] rfl ?_
                exact K107   m16 (by 
                                    first
                                      | (rw [e1, cnP_n (by rw [e2]; exact fun y => hq7 y.2.1)]; exact h44)
                                      | (rw [e1, cnP_n (by rw [e2]; exact fun y => hq9 y.2.2), hm9.1 44 (by decide) (by decide)]; exact h44)
                                      | (rw [hM0 44 (by decide)]; exact h44M)
                                      | (rw [em16, mup_j _ _ (by decide), hM0 44 (by decide)]; exact h44M)
                                  ) (by 
                                    first
                                      | exact h45.skip (fun y => hq7 y.2.1)
                                      | (rw [hm9.1 45 (by decide) (by decide)]; exact h45.skip (fun y => hq9 y.2.2))
                                      | exact h45M
                                      | (rw [em16, mup_j _ _ (by decide)]; exact h45M)
                                  ) (by 
                                    first
                                      | exact h46.skip (fun y => hq7 y.2.1)
                                      | (rw [hm9.1 46 (by decide) (by decide)]; exact h46.skip (fun y => hq9 y.2.2))
                                      | (rw [e46M]; exact h46.keep (by omega) (by show unZ i s ≤ _; omega))
                                      | (rw [em16, mup_s, e9M]
                                         rcases hs46 with y | y
                                         · rw [y] at h46; exact h46.fst hi0 hpi (fun c c0 c1 => (hvr c c0 (by omega)).1)
                                         · exact h46.new hi0 hpi (Or.inr (by show _ ≤ unZ i s; omega)))
                                  ) (by 
                                    first
                                      | exact fun _ _ _ _ _ _ => rfl
                                      | (intro j a1 a2 a3 a4 a5; exact hm9.1 j a1 a2)
                                      | (intro j a1 a2 a3 a4 a5; rw [hM0 j a4, em11, mup_j _ _ a3]; exact hm9.1 j a1 a2)
                                      | (intro j a1 a2 a3 a4 a5; rw [em16, mup_j _ _ a5, hM0 j a4, em11, mup_j _ _ a3]; exact hm9.1 j a1 a2)
                                  ) (by 
                                    first
                                      | exact fun _ _ _ _ => rfl
                                      | (intro q a1 a2 a3; exact hm9.2 q a1 a2 a3)
                                      | (intro q a1 a2 a3; rw [hMf q a1, em11, mup_k _ _ _ a1]; exact hm9.2 q a1 a2 a3)
                                      | (intro q a1 a2 a3; rw [em16, mup_k _ _ _ a1, hMf q a1, em11, mup_k _ _ _ a1]; exact hm9.2 q a1 a2 a3)
                                  )
            refine v_get C 0 45 lR0 (eR0 _) rfl inX11 (by decide) rfl qw1185 dX11_laysWays_53 ?_
            refine v_bipush (z := -2) C dX11_laysWays_56 (by decide) ?_
            refine v_icmp_eq (tgt := 74) C dX11_laysWays_58 (by decide) (by omega) (by omega) (fun c17 => ?_) (fun c17 => ?_)
            · refine v_sub [0, 1, 2] rfl ?_
              exact K74    (by first | assumption | omega)
            · refine v_aload_n C 0 dX11_laysWays_61 rfl ?_
              refine v_get C 0 33 lR0 (eR0 _) rfl inX11 (by decide) rfl qw1173 dX11_laysWays_62 ?_
              refine v_iload_n C 2 dX11_laysWays_65 rfl ?_
              refine v_iald C 9 lR9 (eR9 _) (by decide) (by omega) dX11_laysWays_66 ?_
              refine v_aload_n C 0 dX11_laysWays_67 rfl ?_
              refine v_get C 0 45 lR0 (eR0 _) rfl inX11 (by decide) rfl qw1185 dX11_laysWays_68 ?_
              refine v_icmp_ge (tgt := 84) C dX11_laysWays_71 (by decide) (by omega) (by omega) (fun c18 => ?_) (fun c18 => ?_)
              · refine v_sub [0, 1, 2] rfl ?_
                exact K84   m11 (by 
                                    first
                                      | (rw [e4549]; exact h45.keep (by omega) (by show _ ≤ unZ i s; omega))
                                      | (rw [NO_em81, mup_s, e949]
                                         rcases hs45 with y | y
                                         · rw [y] at h45; exact h45.fst hi0 hpi (fun c c0 c1 => (hvr c c0 (by omega)).1)
                                         · exact h45.new hi0 hpi (by show unZ i s ≤ _; omega))
                                  ) (by first | exact fun _ _ => rfl | (intro j h; rw [NO_em81, mup_j _ _ h])) (by first | exact fun _ _ => rfl | (intro q h; rw [NO_em81, mup_k _ _ _ h]))
              · refine v_sub [0, 1, 2] rfl ?_
                exact K74    (by first | assumption | omega)
          · show V E (wR D cy aa ad) 4 m9 39 [(0, .ref (aa 0)), (1, .int (iz (k))), (2, .int (iz (s))), (3, .int (iz (b)))] [.int (iz (0))]
            refine v_if_eq (tgt := 107) C dX11_laysWays_39 (by decide) (by omega) (fun c19 => ?_) (fun c19 => by exact absurd c19 (by decide))
            refine v_sub [0, 1, 2] rfl ?_
            exact K107   m9 (by 
                            first
                              | (rw [e1, cnP_n (by rw [e2]; exact fun y => hq7 y.2.1)]; exact h44)
                              | (rw [e1, cnP_n (by rw [e2]; exact fun y => hq9 y.2.2), hm9.1 44 (by decide) (by decide)]; exact h44)
                              | (rw [hM0 44 (by decide)]; exact h44M)
                              | (rw [NO_em104, mup_j _ _ (by decide), hM0 44 (by decide)]; exact h44M)
                          ) (by 
                            first
                              | exact h45.skip (fun y => hq7 y.2.1)
                              | (rw [hm9.1 45 (by decide) (by decide)]; exact h45.skip (fun y => hq9 y.2.2))
                              | exact h45M
                              | (rw [NO_em104, mup_j _ _ (by decide)]; exact h45M)
                          ) (by 
                            first
                              | exact h46.skip (fun y => hq7 y.2.1)
                              | (rw [hm9.1 46 (by decide) (by decide)]; exact h46.skip (fun y => hq9 y.2.2))
                              | (rw [e46M]; exact h46.keep (by omega) (by show unZ i s ≤ _; omega))
                              | (rw [NO_em104, mup_s, e9M]
                                 rcases hs46 with y | y
                                 · rw [y] at h46; exact h46.fst hi0 hpi (fun c c0 c1 => (hvr c c0 (by omega)).1)
                                 · exact h46.new hi0 hpi (Or.inr (by show _ ≤ unZ i s; omega)))
                          ) (by 
                            first
                              | exact fun _ _ _ _ _ _ => rfl
                              | (intro j a1 a2 a3 a4 a5; exact hm9.1 j a1 a2)
                              | (intro j a1 a2 a3 a4 a5; rw [hM0 j a4, NO_em49, mup_j _ _ a3]; exact hm9.1 j a1 a2)
                              | (intro j a1 a2 a3 a4 a5; rw [NO_em104, mup_j _ _ a5, hM0 j a4, NO_em49, mup_j _ _ a3]; exact hm9.1 j a1 a2)
                          ) (by 
                            first
                              | exact fun _ _ _ _ => rfl
                              | (intro q a1 a2 a3; exact hm9.2 q a1 a2 a3)
                              | (intro q a1 a2 a3; rw [hMf q a1, NO_em49, mup_k _ _ _ a1]; exact hm9.2 q a1 a2 a3)
                              | (intro q a1 a2 a3; rw [NO_em104, mup_k _ _ _ a1, hMf q a1, NO_em49, mup_k _ _ _ a1]; exact hm9.2 q a1 a2 a3)
                          )
        · show V E (wR D cy aa ad) 4 mL 31 [(0, .ref (aa 0)), (1, .int (iz (k))), (2, .int (iz (s))), (3, .int (iz (b)))] [.int (iz (0))]
          refine v_if_eq (tgt := 107) C dX11_laysWays_31 (by decide) (by omega) (fun c20 => ?_) (fun c20 => by exact absurd c20 (by decide))
          refine v_sub [0, 1, 2] rfl ?_
          exact K107   mL (by 
                        first
                          | (rw [e1, cnP_n (by rw [e2]; exact fun y => hq7 y.2.1)]; exact h44)
                          | (rw [e1, cnP_n (by rw [e2]; exact fun y => NO_q36 y.2.2), NO_h36.1 44 (by decide) (by decide)]; exact h44)
                          | (rw [hM0 44 (by decide)]; exact h44M)
                          | (rw [NO_em104, mup_j _ _ (by decide), hM0 44 (by decide)]; exact h44M)
                      ) (by 
                        first
                          | exact h45.skip (fun y => hq7 y.2.1)
                          | (rw [NO_h36.1 45 (by decide) (by decide)]; exact h45.skip (fun y => NO_q36 y.2.2))
                          | exact h45M
                          | (rw [NO_em104, mup_j _ _ (by decide)]; exact h45M)
                      ) (by 
                        first
                          | exact h46.skip (fun y => hq7 y.2.1)
                          | (rw [NO_h36.1 46 (by decide) (by decide)]; exact h46.skip (fun y => NO_q36 y.2.2))
                          | (rw [e46M]; exact h46.keep (by omega) (by show unZ i s ≤ _; omega))
                          | (rw [NO_em104, mup_s, e9M]
                             rcases hs46 with y | y
                             · rw [y] at h46; exact h46.fst hi0 hpi (fun c c0 c1 => (hvr c c0 (by omega)).1)
                             · exact h46.new hi0 hpi (Or.inr (by show _ ≤ unZ i s; omega)))
                      ) (by 
                        first
                          | exact fun _ _ _ _ _ _ => rfl
                          | (intro j a1 a2 a3 a4 a5; exact NO_h36.1 j a1 a2)
                          | (intro j a1 a2 a3 a4 a5; rw [hM0 j a4, NO_em49, mup_j _ _ a3]; exact NO_h36.1 j a1 a2)
                          | (intro j a1 a2 a3 a4 a5; rw [NO_em104, mup_j _ _ a5, hM0 j a4, NO_em49, mup_j _ _ a3]; exact NO_h36.1 j a1 a2)
                      ) (by 
                        first
                          | exact fun _ _ _ _ => rfl
                          | (intro q a1 a2 a3; exact NO_h36.2 q a1 a2 a3)
                          | (intro q a1 a2 a3; rw [hMf q a1, NO_em49, mup_k _ _ _ a1]; exact NO_h36.2 q a1 a2 a3)
                          | (intro q a1 a2 a3; rw [NO_em104, mup_k _ _ _ a1, hMf q a1, NO_em49, mup_k _ _ _ a1]; exact NO_h36.2 q a1 a2 a3)
                      )
  refine v_sub [1, 2, 3, 0] rfl ?_
  exact K23 _ (1) (cdZ (loX Xx)) m4 (by exact Or.inl ⟨rfl, hat1.fr o9⟩) (by exact hq1.1.fr o13 o14) (by rw [em4, mup_j _ _ (by decide), em3, mup_j _ _ (by decide), em2, mup_s, cnP_to (a := 0) (Nat.zero_le _) (fun c c0 c1 h => hfb.2 c c0 (by omega) h.1)]; rfl) (by rw [em4, mup_j _ _ (by decide), em3, mup_s]; exact Or.inl ⟨rfl, fun c c0 c1 h => hfb.2 c c0 c1 h.1⟩) (by rw [em4, mup_s]; exact Or.inl ⟨rfl, fun c c0 c1 h => hfb.2 c c0 c1 h.1⟩) (by rw [em4, mup_j _ _ (by decide), em3, mup_j _ _ (by decide), em2, mup_j _ _ (by decide)]; exact hq1.2.2.1) (by intro j a1 a2 a3 a4 a5 a6; rw [em4, mup_j _ _ a6, em3, mup_j _ _ a5, em2, mup_j _ _ a4]; exact hq1.2.2.2.1 j a1) (by intro q a1 a2 a3 a4 a5 a6; rw [em4, mup_k _ _ _ a1, em3, mup_k _ _ _ a1, em2, mup_k _ _ _ a1]; exact hq1.2.2.2.2 q a1 a2 a5 a6) (Nat.lt_succ_self _)

set_option maxHeartbeats 4000000 in
set_option maxRecDepth 100000 in
theorem ct_StageRatiosModel_least {lau : Launch} {D : va_G} {cy : Nat → ClassId} {aa ad : Nat → Nat} (hI : wI (wR D cy aa ad)) (m : Mem) (fa Af Bf Cf Rr Xx : Int → Int) (k0 : Int) (hT : TT m fa Af Bf Cf Rr Xx) (hk0 : -2147483648 ≤ k0 ∧ k0 ≤ 2147483647) : MT lau (wR D cy aa ad) yX11_least cX11_least 3 (some .int) ({ frames := 7, cells := 0, slots := 0, locals := 155 } : Room) m [.ref (aa 0), .int (iz (k0))] (Pi (fun z m' => (RP (qLea (m 0 20) fa Rr Xx k0) m m' z) ∧ True)) := by
  refine v_entry hI RX11 (by decide) rfl (Nat.le_of_ble_eq_true rfl) (fun E hE C X => ?_)
  subst hE
  show V E (wR D cy aa ad) 3 m 0 [(0, .ref (aa 0)), (1, .int (iz (k0)))] []
  refine v_aload_n C 0 dX11_least_0 rfl ?_
  refine v_iconst (z := 0) C dX11_least_1 rfl ?_
  refine v_put C 0 0 (0) 0 rfl lR0 (eR0 _) rfl inX11 tyX11 tyX11_ok nmX11 (by decide) qw1140 rfl rfl rfl (Nat.le_of_ble_eq_true rfl) (by rw [mup_r]; exact (eR0 _)) dX11_least_2 (fun m1 em1 => ?_)
  have fk2 : FK m m1 := by rw [em1]; exact FK.up 0 0 (by unfold CKj; omega)
  have hT2 := fk2.tt hT
  have e20 : m1 0 20 = m 0 20 := fk2.1 20 (Or.inr (Or.inl rfl))
  have ht01 : m 0 20 = 0 ∨ m 0 20 = 1 := hT.imp (fun a => a) (fun a => a.1)
  refine v_aload_n C 0 dX11_least_5 rfl ?_
  refine v_iconst (z := 1) C dX11_least_6 rfl ?_
  refine v_iload_n C 1 dX11_least_7 rfl ?_
  refine v_callV (st := []) (n := 2) (q := 0) C [.int (iz (1)), .int (iz (k0))] (ct_StageRatiosModel_refusesPower C.2.2.2.2.2.2.1 m1 (1) (k0) (by first | decide | omega) (by first | assumption | omega) (by rw [e20]; exact ht01)) lR0 (eR0 _) rfl qw1508 qw16 qw1505 rfl rfl ⟨Nat.le_of_ble_eq_true rfl, Nat.le_of_ble_eq_true rfl⟩ (by decide +kernel) qw1507 qp63 rfl rfl (Nat.le_of_ble_eq_true rfl) dX11_least_8 (fun r m2 hq2 => ?_)
  obtain ⟨z2, rfl, hq2, rfl⟩ := hq2
  show V E (wR D cy aa ad) 3 m1 11 [(0, .ref (aa 0)), (1, .int (iz (k0)))] [.int (iz (z2))]
  rw [e20] at hq2
  have hzp : z2 = 0 ∨ z2 = 1 ∨ z2 = 2 := by rcases hq2 with y | ⟨-, y | y⟩ <;> omega
  refine v_istore_n (L1 := [(2, .int (iz (z2))), (0, .ref (aa 0)), (1, .int (iz (k0)))]) C dX11_least_11 (by decide) rfl ?_
  refine v_iload_n C 0 dX11_least_12 rfl ?_
  refine v_if_le (tgt := 22) C dX11_least_13 (by decide) (by omega) (fun c3 => ?_) (fun c3 => ?_)
  · have hpk : m 0 20 = 1 ∧ kPw k0 := by
      rcases hq2 with ⟨y, -⟩ | ⟨y, ⟨-, y2⟩ | ⟨y2, -⟩⟩
      · omega
      · exact ⟨y.1, y2⟩
      · omega
    obtain ⟨hT1, hkp⟩ := hpk
    obtain ⟨-, hg0⟩ := hT.resolve_left (by omega)
    have hg := fk2.rt hg0
    obtain ⟨⟨r11, r8, r9, r10, r12⟩, r1, r2, r6, hvd, hfo⟩ := id hg
    obtain ⟨hn, hF, hup, hlw, hX⟩ := id hvd
    refine v_aload_n C 1 dX11_least_22 rfl ?_
    refine v_callV (st := []) (n := 0) (q := 0) C [] (ct_StageRatiosModel_laysBox C.2.2.2.2.2.2.1 m1 (fa) (Af) (Bf) (Cf) (Rr) (Xx) (by first | assumption | omega)) lR0 (eR0 _) rfl qw1590 qw16 qw1587 rfl rfl ⟨Nat.le_of_ble_eq_true rfl, Nat.le_of_ble_eq_true rfl⟩ (by decide +kernel) qw1589 qp78 rfl rfl (Nat.le_of_ble_eq_true rfl) dX11_least_23 (fun r m4 hq4 => ?_)
    obtain ⟨rfl, hq4⟩ := hq4
    show V E (wR D cy aa ad) 3 m4 26 [(2, .int (iz (z2))), (0, .ref (aa 0)), (1, .int (iz (k0)))] []
    have fk3 := fk2.tr (show FK _ m4 from ⟨fun j hj => hq4.2.2.2.1 j (by unfold CKj at hj; omega), fun q hq => hq4.2.2.2.2 q (by omega) (by omega) (by omega) (by omega)⟩)
    have hg3 := fk3.rt hg0
    have hbx3 := hq4.1
    have hat3 := hq4.2.1
    have h343 := hq4.2.2.1
    have hfb := first_box (lo := loX Xx) (hi := hiX Xx) (fun j j0 j1 => (hbx3 j j0 j1).2.2)
    have hwo : ∀ c : Int, inB (loX Xx) (hiX Xx) c → woM fa (Rr 5) (unZ c) := fun c h => in_wo hvd h
    refine v_aload_n C 1 dX11_least_26 rfl ?_
    refine v_iload_n C 2 dX11_least_27 rfl ?_
    refine v_callV (st := []) (n := 1) (q := 0) C [.int (iz (k0))] (ct_StageRatiosModel_laysBest C.2.2.2.2.2.2.1 m4 (fa) (Af) (Bf) (Cf) (Rr) (Xx) (loX Xx) (hiX Xx) (Xx 0) (cdZ (loX Xx)) (k0) (by exact hg3) (by exact hbx3) (by exact hat3) (by exact hfb.2) (by exact h343) (by exact hX.1) (by exact hkp)) lR0 (eR0 _) rfl qw1594 qw16 qw1591 rfl rfl ⟨Nat.le_of_ble_eq_true rfl, Nat.le_of_ble_eq_true rfl⟩ (by decide +kernel) qw1593 qp79 rfl rfl (Nat.le_of_ble_eq_true rfl) dX11_least_28 (fun r m5 hq5 => ?_)
    obtain ⟨rfl, hq5⟩ := hq5
    show V E (wR D cy aa ad) 3 m5 31 [(2, .int (iz (z2))), (0, .ref (aa 0)), (1, .int (iz (k0)))] []
    obtain ⟨bq, hbq, hbm⟩ := hq5.1
    have fk4 := fk3.tr (show FK _ m5 from ⟨fun j hj => hq5.2.1 j (by unfold CKj at hj; omega) (by unfold CKj at hj; omega) (by unfold CKj at hj; omega), fun q hq => hq5.2.2 q (by omega) (by omega) (by omega) (by omega) (by omega)⟩)
    have hbe : beA fa Rr Xx (loX Xx) (hiX Xx) k0 bq := hbq.cg (fun c _ _ => pc_cd (hwo c)) (fun _ _ _ _ => rfl)
    have hbr : bq = -1 ∨ (0 ≤ bq ∧ bq < 4913) := by
      rcases hbq with ⟨y, -⟩ | ⟨y, y2, -⟩
      · exact Or.inl y
      · exact Or.inr ⟨y, y2⟩
    refine v_aload_n C 1 dX11_least_31 rfl ?_
    refine v_aload_n C 1 dX11_least_32 rfl ?_
    refine v_get C 0 43 lR0 (eR0 _) rfl inX11 (by decide) rfl qw1183 dX11_least_33 ?_
    refine v_callV (st := []) (n := 1) (q := 0) C [.int (iz (m5 0 43))] (ct_StageRatiosModel_good C.2.2.2.2.2.2.1 m5 (m5 0 43) ) lR0 (eR0 _) rfl qw1444 qw16 qw1441 rfl rfl ⟨Nat.le_of_ble_eq_true rfl, Nat.le_of_ble_eq_true rfl⟩ (by decide +kernel) qw1443 qp56 rfl rfl (Nat.le_of_ble_eq_true rfl) dX11_least_36 (fun r m6 hq6 => ?_)
    obtain ⟨z6, rfl, rfl, hq6⟩ := hq6
    show V E (wR D cy aa ad) 3 m6 39 [(2, .int (iz (z2))), (0, .ref (aa 0)), (1, .int (iz (k0)))] [.int (iz ((m5 0 43)))]
    refine v_iret C X rfl dX11_least_39 ⟨_, rfl, ?_, ?_⟩
    · rw [← hq6]
      refine RP.mk fk4 ?_ (by decide : (0 : Int) ≠ 4)
      refine Or.inl ⟨hT1, hkp, rfl, bq, hbe, ?_⟩
      rcases hbm with y | y
      · rw [if_pos (by omega)]; exact y.2
      · rw [if_neg (by omega)]; exact y.2.1
    · trivial
  · refine v_aload_n C 1 dX11_least_16 rfl ?_
    refine v_iload_n C 0 dX11_least_17 rfl ?_
    refine v_callV (st := []) (n := 1) (q := 0) C [.int (iz (z2))] (ct_StageRatiosModel_refused C.2.2.2.2.2.2.1 m1 (z2) ) lR0 (eR0 _) rfl qw1340 qw16 qw1337 rfl rfl ⟨Nat.le_of_ble_eq_true rfl, Nat.le_of_ble_eq_true rfl⟩ (by decide +kernel) qw1339 qp36 rfl rfl (Nat.le_of_ble_eq_true rfl) dX11_least_18 (fun r m7 hq7 => ?_)
    obtain ⟨z7, rfl, rfl, hq7⟩ := hq7
    show V E (wR D cy aa ad) 3 m7 21 [(2, .int (iz (z2))), (0, .ref (aa 0)), (1, .int (iz (k0)))] [.int (iz (-1))]
    refine v_iret C X rfl dX11_least_21 ⟨_, rfl, ?_, ?_⟩
    · rw [← hq7]
      refine RP.mk fk2 ?_ (by omega)
      rcases hq2 with ⟨y, y2⟩ | ⟨y, ⟨y2, y3⟩ | ⟨y2, y3⟩⟩
      · rw [y]; exact Or.inr (Or.inr ⟨fun h => y2 ⟨h, rfl⟩, rfl, rfl⟩)
      · omega
      · rw [y2]; exact Or.inr (Or.inl ⟨y.1, y3, rfl, rfl⟩)
    · trivial

set_option maxHeartbeats 4000000 in
set_option maxRecDepth 100000 in
theorem ct_StageRatiosModel_fuel {lau : Launch} {D : va_G} {cy : Nat → ClassId} {aa ad : Nat → Nat} (hI : wI (wR D cy aa ad)) (m : Mem) (fa Af Bf Cf Rr Xx : Int → Int) (k0 s : Int) (hT : TT m fa Af Bf Cf Rr Xx) (hk0 : -2147483648 ≤ k0 ∧ k0 ≤ 2147483647) (hs : -2147483648 ≤ s ∧ s ≤ 2147483647) : MT lau (wR D cy aa ad) yX11_fuel cX11_fuel 4 (some .int) ({ frames := 7, cells := 0, slots := 0, locals := 155 } : Room) m [.ref (aa 0), .int (iz (k0)), .int (iz (s))] (Pi (fun z m' => (RP (qFue (m 0 20) fa Rr Xx k0 s) m m' z) ∧ True)) := by
  refine v_entry hI RX11 (by decide) rfl (Nat.le_of_ble_eq_true rfl) (fun E hE C X => ?_)
  subst hE
  show V E (wR D cy aa ad) 4 m 0 [(0, .ref (aa 0)), (1, .int (iz (k0))), (2, .int (iz (s)))] []
  refine v_aload_n C 0 dX11_fuel_0 rfl ?_
  refine v_iconst (z := 0) C dX11_fuel_1 rfl ?_
  refine v_put C 0 0 (0) 0 rfl lR0 (eR0 _) rfl inX11 tyX11 tyX11_ok nmX11 (by decide) qw1140 rfl rfl rfl (Nat.le_of_ble_eq_true rfl) (by rw [mup_r]; exact (eR0 _)) dX11_fuel_2 (fun m1 em1 => ?_)
  have fk2 : FK m m1 := by rw [em1]; exact FK.up 0 0 (by unfold CKj; omega)
  have hT2 := fk2.tt hT
  have e20 : m1 0 20 = m 0 20 := fk2.1 20 (Or.inr (Or.inl rfl))
  have ht01 : m 0 20 = 0 ∨ m 0 20 = 1 := hT.imp (fun a => a) (fun a => a.1)
  refine v_aload_n C 0 dX11_fuel_5 rfl ?_
  refine v_aload_n C 0 dX11_fuel_6 rfl ?_
  refine v_iload_n C 2 dX11_fuel_7 rfl ?_
  refine v_callV (st := [.ref (aa 0)]) (n := 1) (q := 0) C [.int (iz (s))] (ct_StageRatiosModel_isStage C.2.2.2.2.2.2.1 m1 (fa) (Af) (Bf) (Cf) (Rr) (Xx) (s) (by exact hT2) (by first | assumption | omega)) lR0 (eR0 _) rfl qw1464 qw16 qw1461 rfl rfl ⟨Nat.le_of_ble_eq_true rfl, Nat.le_of_ble_eq_true rfl⟩ (by decide +kernel) qw1463 qp57 rfl rfl (Nat.le_of_ble_eq_true rfl) dX11_fuel_8 (fun r m2 hq2 => ?_)
  obtain ⟨z2, rfl, ⟨rfl, hq2, rfl⟩ | ⟨rfl, hq2, rfl⟩⟩ := hq2
  · show V E (wR D cy aa ad) 4 m1 11 [(0, .ref (aa 0)), (1, .int (iz (k0))), (2, .int (iz (s)))] [.int (iz (1)), .ref (aa 0)]
    rw [e20] at hq2
    refine v_iload_n C 1 dX11_fuel_11 rfl ?_
    refine v_callV (st := []) (n := 2) (q := 0) C [.int (iz (1)), .int (iz (k0))] (ct_StageRatiosModel_refusesPower C.2.2.2.2.2.2.1 m1 (1) (k0) (by first | decide | omega) (by first | assumption | omega) (by rw [e20]; exact ht01)) lR0 (eR0 _) rfl qw1508 qw16 qw1505 rfl rfl ⟨Nat.le_of_ble_eq_true rfl, Nat.le_of_ble_eq_true rfl⟩ (by decide +kernel) qw1507 qp63 rfl rfl (Nat.le_of_ble_eq_true rfl) dX11_fuel_12 (fun r m3 hq3 => ?_)
    obtain ⟨z3, rfl, hq3, rfl⟩ := hq3
    show V E (wR D cy aa ad) 4 m1 15 [(0, .ref (aa 0)), (1, .int (iz (k0))), (2, .int (iz (s)))] [.int (iz (z3))]
    rw [e20] at hq3
    have hzp : z3 = 0 ∨ z3 = 1 ∨ z3 = 2 := by rcases hq3 with y | ⟨-, y | y⟩ <;> omega
    refine v_istore_n (L1 := [(3, .int (iz (z3))), (0, .ref (aa 0)), (1, .int (iz (k0))), (2, .int (iz (s)))]) C dX11_fuel_15 (by decide) rfl ?_
    refine v_iload_n C 0 dX11_fuel_16 rfl ?_
    refine v_if_le (tgt := 26) C dX11_fuel_17 (by decide) (by omega) (fun c4 => ?_) (fun c4 => ?_)
    · have hpk : hsS (m 0 20) Rr s ∧ kPw k0 := by
        rcases hq3 with ⟨y, -⟩ | ⟨y, ⟨-, y2⟩ | ⟨y2, -⟩⟩
        · omega
        · first
            | exact ⟨hq2, y2⟩
            | (have := y.2; omega)
        · omega
      obtain ⟨hhs, hkp⟩ := hpk
      obtain ⟨hT1, hs0⟩ := id hhs
      obtain ⟨-, hg0⟩ := hT.resolve_left (by omega)
      have hg := fk2.rt hg0
      obtain ⟨⟨r11, r8, r9, r10, r12⟩, r1, r2, r6, hvd, hfo⟩ := id hg
      obtain ⟨hn, hF, hup, hlw, hX⟩ := id hvd
      refine v_aload_n C 1 dX11_fuel_26 rfl ?_
      refine v_callV (st := []) (n := 0) (q := 0) C [] (ct_StageRatiosModel_laysBox C.2.2.2.2.2.2.1 m1 (fa) (Af) (Bf) (Cf) (Rr) (Xx) (by first | assumption | omega)) lR0 (eR0 _) rfl qw1590 qw16 qw1587 rfl rfl ⟨Nat.le_of_ble_eq_true rfl, Nat.le_of_ble_eq_true rfl⟩ (by decide +kernel) qw1589 qp78 rfl rfl (Nat.le_of_ble_eq_true rfl) dX11_fuel_27 (fun r m5 hq5 => ?_)
      obtain ⟨rfl, hq5⟩ := hq5
      show V E (wR D cy aa ad) 4 m5 30 [(3, .int (iz (z3))), (0, .ref (aa 0)), (1, .int (iz (k0))), (2, .int (iz (s)))] []
      have fk3 := fk2.tr (show FK _ m5 from ⟨fun j hj => hq5.2.2.2.1 j (by unfold CKj at hj; omega), fun q hq => hq5.2.2.2.2 q (by omega) (by omega) (by omega) (by omega)⟩)
      have hg3 := fk3.rt hg0
      have hbx3 := hq5.1
      have hat3 := hq5.2.1
      have h343 := hq5.2.2.1
      have hfb := first_box (lo := loX Xx) (hi := hiX Xx) (fun j j0 j1 => (hbx3 j j0 j1).2.2)
      have hwo : ∀ c : Int, inB (loX Xx) (hiX Xx) c → woM fa (Rr 5) (unZ c) := fun c h => in_wo hvd h
      refine v_aload_n C 1 dX11_fuel_30 rfl ?_
      refine v_iload_n C 2 dX11_fuel_31 rfl ?_
      refine v_callV (st := []) (n := 1) (q := 0) C [.int (iz (k0))] (ct_StageRatiosModel_laysBest C.2.2.2.2.2.2.1 m5 (fa) (Af) (Bf) (Cf) (Rr) (Xx) (loX Xx) (hiX Xx) (Xx 0) (cdZ (loX Xx)) (k0) (by exact hg3) (by exact hbx3) (by exact hat3) (by exact hfb.2) (by exact h343) (by exact hX.1) (by exact hkp)) lR0 (eR0 _) rfl qw1594 qw16 qw1591 rfl rfl ⟨Nat.le_of_ble_eq_true rfl, Nat.le_of_ble_eq_true rfl⟩ (by decide +kernel) qw1593 qp79 rfl rfl (Nat.le_of_ble_eq_true rfl) dX11_fuel_32 (fun r m6 hq6 => ?_)
      obtain ⟨rfl, hq6⟩ := hq6
      show V E (wR D cy aa ad) 4 m6 35 [(3, .int (iz (z3))), (0, .ref (aa 0)), (1, .int (iz (k0))), (2, .int (iz (s)))] []
      obtain ⟨bq, hbq, hbm⟩ := hq6.1
      have fk4 := fk3.tr (show FK _ m6 from ⟨fun j hj => hq6.2.1 j (by unfold CKj at hj; omega) (by unfold CKj at hj; omega) (by unfold CKj at hj; omega), fun q hq => hq6.2.2 q (by omega) (by omega) (by omega) (by omega) (by omega)⟩)
      have hbe : beA fa Rr Xx (loX Xx) (hiX Xx) k0 bq := hbq.cg (fun c _ _ => pc_cd (hwo c)) (fun _ _ _ _ => rfl)
      have hbr : bq = -1 ∨ (0 ≤ bq ∧ bq < 4913) := by
        rcases hbq with ⟨y, -⟩ | ⟨y, y2, -⟩
        · exact Or.inl y
        · exact Or.inr ⟨y, y2⟩
      have hb43 : m6 0 43 = -2 ∧ bq = -1 ∨ 1 ≤ m6 0 43 ∧ m6 0 43 ≤ 358 ∧ 0 ≤ bq := by
        rcases hbm with y | y
        · exact Or.inl ⟨y.2, y.1⟩
        · have := we_rng hF hn hX.1 y.1 (show bq < 4913 by omega)
          rw [y.2.1]; exact Or.inr ⟨this.1, this.2, y.1⟩
      refine v_aload_n C 1 dX11_fuel_35 rfl ?_
      refine v_aload_n C 1 dX11_fuel_36 rfl ?_
      refine v_get C 0 43 lR0 (eR0 _) rfl inX11 (by decide) rfl qw1183 dX11_fuel_37 ?_
      refine v_bipush (z := -2) C dX11_fuel_40 (by decide) ?_
      refine v_icmp_ne (tgt := 50) C dX11_fuel_42 (by decide) (by omega) (by omega) (fun c7 => ?_) (fun c7 => ?_)
      · refine v_aload_n C 1 dX11_fuel_50 rfl ?_
        refine v_get C 0 42 lR0 (eR0 _) rfl inX11 (by decide) rfl qw1182 dX11_fuel_51 ?_
        refine v_iload_n C 3 dX11_fuel_54 rfl ?_
        refine v_iald C 15 lR15 (eR15 _) (by decide) (by omega) dX11_fuel_55 ?_
        refine v_callV (st := []) (n := 1) (q := 0) C [.int (iz (m6 15 s))] (ct_StageRatiosModel_good C.2.2.2.2.2.2.1 m6 (m6 15 s) ) lR0 (eR0 _) rfl qw1444 qw16 qw1441 rfl rfl ⟨Nat.le_of_ble_eq_true rfl, Nat.le_of_ble_eq_true rfl⟩ (by decide +kernel) qw1443 qp56 rfl rfl (Nat.le_of_ble_eq_true rfl) dX11_fuel_56 (fun r m8 hq8 => ?_)
        obtain ⟨z8, rfl, rfl, hq8⟩ := hq8
        show V E (wR D cy aa ad) 4 m8 59 [(3, .int (iz (z3))), (0, .ref (aa 0)), (1, .int (iz (k0))), (2, .int (iz (s)))] [.int (iz ((m6 15 s)))]
        refine v_iret C X rfl dX11_fuel_59 ⟨_, rfl, ?_, ?_⟩
        · rw [← hq8]
          refine RP.mk fk4 ?_ (by decide : (0 : Int) ≠ 4)
          refine Or.inl ⟨hhs, hkp, rfl, bq, hbe, ?_⟩
          rcases hbm with y | y
          · rw [if_pos (by omega)]
            try omega
          · rw [if_neg (by omega)]
            first
              | (exfalso; omega)
              | exact y.2.2 s hs0.1 (by omega)
        · trivial
      · refine v_bipush (z := -2) C dX11_fuel_45 (by decide) ?_
        refine v_goto (tgt := 56) C dX11_fuel_47 (by decide) ?_
        refine v_callV (st := []) (n := 1) (q := 0) C [.int (iz (-2))] (ct_StageRatiosModel_good C.2.2.2.2.2.2.1 m6 (-2) ) lR0 (eR0 _) rfl qw1444 qw16 qw1441 rfl rfl ⟨Nat.le_of_ble_eq_true rfl, Nat.le_of_ble_eq_true rfl⟩ (by decide +kernel) qw1443 qp56 rfl rfl (Nat.le_of_ble_eq_true rfl) dX11_fuel_56 (fun r m9 hq9 => ?_)
        obtain ⟨z9, rfl, rfl, hq9⟩ := hq9
        show V E (wR D cy aa ad) 4 m9 59 [(3, .int (iz (z3))), (0, .ref (aa 0)), (1, .int (iz (k0))), (2, .int (iz (s)))] [.int (iz ((-2)))]
        refine v_iret C X rfl dX11_fuel_59 ⟨_, rfl, ?_, ?_⟩
        · rw [← hq9]
          refine RP.mk fk4 ?_ (by decide : (0 : Int) ≠ 4)
          refine Or.inl ⟨hhs, hkp, rfl, bq, hbe, ?_⟩
          rcases hbm with y | y
          · rw [if_pos (by omega)]
            try omega
          · rw [if_neg (by omega)]
            first
              | (exfalso; omega)
              | exact y.2.2 s hs0.1 (by omega)
        · trivial
    · refine v_aload_n C 1 dX11_fuel_20 rfl ?_
      refine v_iload_n C 0 dX11_fuel_21 rfl ?_
      refine v_callV (st := []) (n := 1) (q := 0) C [.int (iz (z3))] (ct_StageRatiosModel_refused C.2.2.2.2.2.2.1 m1 (z3) ) lR0 (eR0 _) rfl qw1340 qw16 qw1337 rfl rfl ⟨Nat.le_of_ble_eq_true rfl, Nat.le_of_ble_eq_true rfl⟩ (by decide +kernel) qw1339 qp36 rfl rfl (Nat.le_of_ble_eq_true rfl) dX11_fuel_22 (fun r m10 hq10 => ?_)
      obtain ⟨z10, rfl, rfl, hq10⟩ := hq10
      show V E (wR D cy aa ad) 4 m10 25 [(3, .int (iz (z3))), (0, .ref (aa 0)), (1, .int (iz (k0))), (2, .int (iz (s)))] [.int (iz (-1))]
      refine v_iret C X rfl dX11_fuel_25 ⟨_, rfl, ?_, ?_⟩
      · rw [← hq10]
        refine RP.mk fk2 ?_ (by omega)
        rcases hq3 with ⟨y, y2⟩ | ⟨y, ⟨y2, y3⟩ | ⟨y2, y3⟩⟩
        · rw [y]; exact Or.inr (Or.inr ⟨fun h => by first | exact hq2 h | exact y2 ⟨h.1, rfl⟩, rfl, rfl⟩)
        · omega
        · rw [y2]
          first
            | exact Or.inr (Or.inl ⟨hq2, y3, rfl, rfl⟩)
            | (have := y.2; omega)
      · trivial
  · show V E (wR D cy aa ad) 4 m1 11 [(0, .ref (aa 0)), (1, .int (iz (k0))), (2, .int (iz (s)))] [.int (iz (0)), .ref (aa 0)]
    rw [e20] at hq2
    refine v_iload_n C 1 dX11_fuel_11 rfl ?_
    refine v_callV (st := []) (n := 2) (q := 0) C [.int (iz (0)), .int (iz (k0))] (ct_StageRatiosModel_refusesPower C.2.2.2.2.2.2.1 m1 (0) (k0) (by first | decide | omega) (by first | assumption | omega) (by rw [e20]; exact ht01)) lR0 (eR0 _) rfl qw1508 qw16 qw1505 rfl rfl ⟨Nat.le_of_ble_eq_true rfl, Nat.le_of_ble_eq_true rfl⟩ (by decide +kernel) qw1507 qp63 rfl rfl (Nat.le_of_ble_eq_true rfl) dX11_fuel_12 (fun r m11 hq11 => ?_)
    obtain ⟨z11, rfl, hq11, rfl⟩ := hq11
    show V E (wR D cy aa ad) 4 m1 15 [(0, .ref (aa 0)), (1, .int (iz (k0))), (2, .int (iz (s)))] [.int (iz (z11))]
    rw [e20] at hq11
    have hzp : z11 = 0 ∨ z11 = 1 ∨ z11 = 2 := by rcases hq11 with y | ⟨-, y | y⟩ <;> omega
    refine v_istore_n (L1 := [(3, .int (iz (z11))), (0, .ref (aa 0)), (1, .int (iz (k0))), (2, .int (iz (s)))]) C dX11_fuel_15 (by decide) rfl ?_
    refine v_iload_n C 0 dX11_fuel_16 rfl ?_
    refine v_if_le (tgt := 26) C dX11_fuel_17 (by decide) (by omega) (fun c12 => ?_) (fun c12 => ?_)
    · have hpk : hsS (m 0 20) Rr s ∧ kPw k0 := by
        rcases hq11 with ⟨y, -⟩ | ⟨y, ⟨-, y2⟩ | ⟨y2, -⟩⟩
        · omega
        · first
            | exact ⟨hq2, y2⟩
            | (have := y.2; omega)
        · omega
      obtain ⟨hhs, hkp⟩ := hpk
      obtain ⟨hT1, hs0⟩ := id hhs
      obtain ⟨-, hg0⟩ := hT.resolve_left (by omega)
      have hg := fk2.rt hg0
      obtain ⟨⟨r11, r8, r9, r10, r12⟩, r1, r2, r6, hvd, hfo⟩ := id hg
      obtain ⟨hn, hF, hup, hlw, hX⟩ := id hvd
      refine v_aload_n C 1 dX11_fuel_26 rfl ?_
      refine v_callV (st := []) (n := 0) (q := 0) C [] (ct_StageRatiosModel_laysBox C.2.2.2.2.2.2.1 m1 (fa) (Af) (Bf) (Cf) (Rr) (Xx) (by first | assumption | omega)) lR0 (eR0 _) rfl qw1590 qw16 qw1587 rfl rfl ⟨Nat.le_of_ble_eq_true rfl, Nat.le_of_ble_eq_true rfl⟩ (by decide +kernel) qw1589 qp78 rfl rfl (Nat.le_of_ble_eq_true rfl) dX11_fuel_27 (fun r m13 hq13 => ?_)
      obtain ⟨rfl, hq13⟩ := hq13
      show V E (wR D cy aa ad) 4 m13 30 [(3, .int (iz (z11))), (0, .ref (aa 0)), (1, .int (iz (k0))), (2, .int (iz (s)))] []
      have fk3 := fk2.tr (show FK _ m13 from ⟨fun j hj => hq13.2.2.2.1 j (by unfold CKj at hj; omega), fun q hq => hq13.2.2.2.2 q (by omega) (by omega) (by omega) (by omega)⟩)
      have hg3 := fk3.rt hg0
      have hbx3 := hq13.1
      have hat3 := hq13.2.1
      have h343 := hq13.2.2.1
      have hfb := first_box (lo := loX Xx) (hi := hiX Xx) (fun j j0 j1 => (hbx3 j j0 j1).2.2)
      have hwo : ∀ c : Int, inB (loX Xx) (hiX Xx) c → woM fa (Rr 5) (unZ c) := fun c h => in_wo hvd h
      refine v_aload_n C 1 dX11_fuel_30 rfl ?_
      refine v_iload_n C 2 dX11_fuel_31 rfl ?_
      refine v_callV (st := []) (n := 1) (q := 0) C [.int (iz (k0))] (ct_StageRatiosModel_laysBest C.2.2.2.2.2.2.1 m13 (fa) (Af) (Bf) (Cf) (Rr) (Xx) (loX Xx) (hiX Xx) (Xx 0) (cdZ (loX Xx)) (k0) (by exact hg3) (by exact hbx3) (by exact hat3) (by exact hfb.2) (by exact h343) (by exact hX.1) (by exact hkp)) lR0 (eR0 _) rfl qw1594 qw16 qw1591 rfl rfl ⟨Nat.le_of_ble_eq_true rfl, Nat.le_of_ble_eq_true rfl⟩ (by decide +kernel) qw1593 qp79 rfl rfl (Nat.le_of_ble_eq_true rfl) dX11_fuel_32 (fun r m14 hq14 => ?_)
      obtain ⟨rfl, hq14⟩ := hq14
      show V E (wR D cy aa ad) 4 m14 35 [(3, .int (iz (z11))), (0, .ref (aa 0)), (1, .int (iz (k0))), (2, .int (iz (s)))] []
      obtain ⟨bq, hbq, hbm⟩ := hq14.1
      have fk4 := fk3.tr (show FK _ m14 from ⟨fun j hj => hq14.2.1 j (by unfold CKj at hj; omega) (by unfold CKj at hj; omega) (by unfold CKj at hj; omega), fun q hq => hq14.2.2 q (by omega) (by omega) (by omega) (by omega) (by omega)⟩)
      have hbe : beA fa Rr Xx (loX Xx) (hiX Xx) k0 bq := hbq.cg (fun c _ _ => pc_cd (hwo c)) (fun _ _ _ _ => rfl)
      have hbr : bq = -1 ∨ (0 ≤ bq ∧ bq < 4913) := by
        rcases hbq with ⟨y, -⟩ | ⟨y, y2, -⟩
        · exact Or.inl y
        · exact Or.inr ⟨y, y2⟩
      have hb43 : m14 0 43 = -2 ∧ bq = -1 ∨ 1 ≤ m14 0 43 ∧ m14 0 43 ≤ 358 ∧ 0 ≤ bq := by
        rcases hbm with y | y
        · exact Or.inl ⟨y.2, y.1⟩
        · have := we_rng hF hn hX.1 y.1 (show bq < 4913 by omega)
          rw [y.2.1]; exact Or.inr ⟨this.1, this.2, y.1⟩
      refine v_aload_n C 1 dX11_fuel_35 rfl ?_
      refine v_aload_n C 1 dX11_fuel_36 rfl ?_
      refine v_get C 0 43 lR0 (eR0 _) rfl inX11 (by decide) rfl qw1183 dX11_fuel_37 ?_
      refine v_bipush (z := -2) C dX11_fuel_40 (by decide) ?_
      refine v_icmp_ne (tgt := 50) C dX11_fuel_42 (by decide) (by omega) (by omega) (fun c15 => ?_) (fun c15 => ?_)
      · refine v_aload_n C 1 dX11_fuel_50 rfl ?_
        refine v_get C 0 42 lR0 (eR0 _) rfl inX11 (by decide) rfl qw1182 dX11_fuel_51 ?_
        refine v_iload_n C 3 dX11_fuel_54 rfl ?_
        refine v_iald C 15 lR15 (eR15 _) (by decide) (by omega) dX11_fuel_55 ?_
        refine v_callV (st := []) (n := 1) (q := 0) C [.int (iz (m14 15 s))] (ct_StageRatiosModel_good C.2.2.2.2.2.2.1 m14 (m14 15 s) ) lR0 (eR0 _) rfl qw1444 qw16 qw1441 rfl rfl ⟨Nat.le_of_ble_eq_true rfl, Nat.le_of_ble_eq_true rfl⟩ (by decide +kernel) qw1443 qp56 rfl rfl (Nat.le_of_ble_eq_true rfl) dX11_fuel_56 (fun r m16 hq16 => ?_)
        obtain ⟨z16, rfl, rfl, hq16⟩ := hq16
        show V E (wR D cy aa ad) 4 m16 59 [(3, .int (iz (z11))), (0, .ref (aa 0)), (1, .int (iz (k0))), (2, .int (iz (s)))] [.int (iz ((m14 15 s)))]
        refine v_iret C X rfl dX11_fuel_59 ⟨_, rfl, ?_, ?_⟩
        · rw [← hq16]
          refine RP.mk fk4 ?_ (by decide : (0 : Int) ≠ 4)
          refine Or.inl ⟨hhs, hkp, rfl, bq, hbe, ?_⟩
          rcases hbm with y | y
          · rw [if_pos (by omega)]
            try omega
          · rw [if_neg (by omega)]
            first
              | (exfalso; omega)
              | exact y.2.2 s hs0.1 (by omega)
        · trivial
      · refine v_bipush (z := -2) C dX11_fuel_45 (by decide) ?_
        refine v_goto (tgt := 56) C dX11_fuel_47 (by decide) ?_
        refine v_callV (st := []) (n := 1) (q := 0) C [.int (iz (-2))] (ct_StageRatiosModel_good C.2.2.2.2.2.2.1 m14 (-2) ) lR0 (eR0 _) rfl qw1444 qw16 qw1441 rfl rfl ⟨Nat.le_of_ble_eq_true rfl, Nat.le_of_ble_eq_true rfl⟩ (by decide +kernel) qw1443 qp56 rfl rfl (Nat.le_of_ble_eq_true rfl) dX11_fuel_56 (fun r m17 hq17 => ?_)
        obtain ⟨z17, rfl, rfl, hq17⟩ := hq17
        show V E (wR D cy aa ad) 4 m17 59 [(3, .int (iz (z11))), (0, .ref (aa 0)), (1, .int (iz (k0))), (2, .int (iz (s)))] [.int (iz ((-2)))]
        refine v_iret C X rfl dX11_fuel_59 ⟨_, rfl, ?_, ?_⟩
        · rw [← hq17]
          refine RP.mk fk4 ?_ (by decide : (0 : Int) ≠ 4)
          refine Or.inl ⟨hhs, hkp, rfl, bq, hbe, ?_⟩
          rcases hbm with y | y
          · rw [if_pos (by omega)]
            try omega
          · rw [if_neg (by omega)]
            first
              | (exfalso; omega)
              | exact y.2.2 s hs0.1 (by omega)
        · trivial
    · refine v_aload_n C 1 dX11_fuel_20 rfl ?_
      refine v_iload_n C 0 dX11_fuel_21 rfl ?_
      refine v_callV (st := []) (n := 1) (q := 0) C [.int (iz (z11))] (ct_StageRatiosModel_refused C.2.2.2.2.2.2.1 m1 (z11) ) lR0 (eR0 _) rfl qw1340 qw16 qw1337 rfl rfl ⟨Nat.le_of_ble_eq_true rfl, Nat.le_of_ble_eq_true rfl⟩ (by decide +kernel) qw1339 qp36 rfl rfl (Nat.le_of_ble_eq_true rfl) dX11_fuel_22 (fun r m18 hq18 => ?_)
      obtain ⟨z18, rfl, rfl, hq18⟩ := hq18
      show V E (wR D cy aa ad) 4 m18 25 [(3, .int (iz (z11))), (0, .ref (aa 0)), (1, .int (iz (k0))), (2, .int (iz (s)))] [.int (iz (-1))]
      refine v_iret C X rfl dX11_fuel_25 ⟨_, rfl, ?_, ?_⟩
      · rw [← hq18]
        refine RP.mk fk2 ?_ (by omega)
        rcases hq11 with ⟨y, y2⟩ | ⟨y, ⟨y2, y3⟩ | ⟨y2, y3⟩⟩
        · rw [y]; exact Or.inr (Or.inr ⟨fun h => by first | exact hq2 h | exact y2 ⟨h.1, rfl⟩, rfl, rfl⟩)
        · omega
        · rw [y2]
          first
            | exact Or.inr (Or.inl ⟨hq2, y3, rfl, rfl⟩)
            | (have := y.2; omega)
      · trivial

set_option maxHeartbeats 4000000 in
set_option maxRecDepth 100000 in
theorem ct_StageRatiosModel_farthest {lau : Launch} {D : va_G} {cy : Nat → ClassId} {aa ad : Nat → Nat} (hI : wI (wR D cy aa ad)) (m : Mem) (fa Af Bf Cf Rr Xx : Int → Int) (hT : TT m fa Af Bf Cf Rr Xx) : MT lau (wR D cy aa ad) yX11_farthest cX11_farthest 4 (some .int) ({ frames := 6, cells := 0, slots := 0, locals := 131 } : Room) m [.ref (aa 0)] (Pi (fun z m' => (RP (qFar (m 0 20) fa Rr Xx) m m' z) ∧ True)) := by
  refine v_entry hI RX11 (by decide) rfl (Nat.le_of_ble_eq_true rfl) (fun E hE C X => ?_)
  subst hE
  show V E (wR D cy aa ad) 4 m 0 [(0, .ref (aa 0))] []
  refine v_aload_n C 0 dX11_farthest_0 rfl ?_
  refine v_iconst (z := 0) C dX11_farthest_1 rfl ?_
  refine v_put C 0 0 (0) 0 rfl lR0 (eR0 _) rfl inX11 tyX11 tyX11_ok nmX11 (by decide) qw1140 rfl rfl rfl (Nat.le_of_ble_eq_true rfl) (by rw [mup_r]; exact (eR0 _)) dX11_farthest_2 (fun m1 em1 => ?_)
  have fk2 : FK m m1 := by rw [em1]; exact FK.up 0 0 (by unfold CKj; omega)
  have hT2 := fk2.tt hT
  have e20 : m1 0 20 = m 0 20 := fk2.1 20 (Or.inr (Or.inl rfl))
  have ht01 : m 0 20 = 0 ∨ m 0 20 = 1 := hT.imp (fun a => a) (fun a => a.1)
  refine v_aload_n C 0 dX11_farthest_5 rfl ?_
  refine v_get C 0 20 lR0 (eR0 _) rfl inX11 (by decide) rfl qw1160 dX11_farthest_6 ?_
  refine v_if_ne (tgt := 18) C dX11_farthest_9 (by decide) (by omega) (fun c2 => ?_) (fun c2 => ?_)
  · obtain ⟨hT1, hg0⟩ := hT.resolve_left (by omega)
    have hg := fk2.rt hg0
    obtain ⟨⟨r11, r8, r9, r10, r12⟩, r1, r2, r6, hvd, hfo⟩ := id hg
    obtain ⟨hn, hF, hup, hlw, hX⟩ := id hvd
    refine v_bipush (z := -2) C dX11_farthest_18 (by decide) ?_
    refine v_istore_n (L1 := [(1, .int (iz (-2))), (0, .ref (aa 0))]) C dX11_farthest_20 (by decide) rfl ?_
    refine v_aload_n C 1 dX11_farthest_21 rfl ?_
    refine v_callV (st := []) (n := 0) (q := 0) C [] (ct_StageRatiosModel_laysBox C.2.2.2.2.2.2.1 m1 (fa) (Af) (Bf) (Cf) (Rr) (Xx) (by first | assumption | omega)) lR0 (eR0 _) rfl qw1590 qw16 qw1587 rfl rfl ⟨Nat.le_of_ble_eq_true rfl, Nat.le_of_ble_eq_true rfl⟩ (by decide +kernel) qw1589 qp78 rfl rfl (Nat.le_of_ble_eq_true rfl) dX11_farthest_22 (fun r m3 hq3 => ?_)
    obtain ⟨rfl, hq3⟩ := hq3
    show V E (wR D cy aa ad) 4 m3 25 [(1, .int (iz (-2))), (0, .ref (aa 0))] []
    have fk3 := fk2.tr (show FK _ m3 from ⟨fun j hj => hq3.2.2.2.1 j (by unfold CKj at hj; omega), fun q hq => hq3.2.2.2.2 q (by omega) (by omega) (by omega) (by omega)⟩)
    have hg3 := fk3.rt hg0
    have hbx3 := hq3.1
    have hat3 := hq3.2.1
    have h343 := hq3.2.2.1
    have hfb := first_box (lo := loX Xx) (hi := hiX Xx) (fun j j0 j1 => (hbx3 j j0 j1).2.2)
    have hwo : ∀ c : Int, inB (loX Xx) (hiX Xx) c → woM fa (Rr 5) (unZ c) := fun c h => in_wo hvd h
    refine v_iconst (z := 1) C dX11_farthest_25 rfl ?_
    refine v_istore_n (L1 := [(2, .int (iz (1))), (1, .int (iz (-2))), (0, .ref (aa 0))]) C dX11_farthest_26 (by decide) rfl ?_
    have K27 : ∀ (nK : Nat) (z : Int) (b : Int) (i : Int) (mL : Mem) (hst : SeC mL (loX Xx) (hiX Xx) b i) (hz : fhP (fun c => inB (loX Xx) (hiX Xx) c ∧ hoA fa (Rr 5) (Xx 0) (unZ c)) (fun c y => paA fa (Rr 5) (Rr 2) (Rr 3) (Xx 0) (unZ c) y) i z) (hzr : -2 ≤ z ∧ z ≤ 40) (h0 : ∀ j : Int, j ≠ 37 → j ≠ 38 → mL 0 j = m3 0 j) (hf : ∀ q : Nat, q ≠ 0 → q ≠ 9 → q ≠ 10 → q ≠ 11 → mL q = m3 q), (4913 - i).toNat < nK → V E (wR D cy aa ad) 4 mL 27 [(0, .ref (aa 0)), (1, .int (iz (z))), (2, .int (iz (b)))] [] := by
      intro nK
      induction nK with
      | zero => intro z b i mL hst hz hzr h0 hf hn; exact absurd hn (Nat.not_lt_zero _)
      | succ nK ih27 =>
        intro z b i mL hst hz hzr h0 hf hn27
        obtain ⟨hb01, hi0, hi1⟩ := hst.b
        have fkL := fk3.tr (show FK _ mL from ⟨fun j hj => h0 j (by unfold CKj at hj; omega) (by unfold CKj at hj; omega), fun q hq => hf q (by omega) (by omega) (by omega) (by omega)⟩)
        have hgL := fkL.rt hg0
        have hbxL := hbx3.fr (hf 13 (by decide) (by decide) (by decide) (by decide)) (hf 14 (by decide) (by decide) (by decide) (by decide))
        have h34L : mL 0 34 = Xx 0 := by rw [h0 34 (by decide) (by decide)]; exact h343
        refine v_iload_n C 2 dX11_farthest_27 rfl ?_
        refine v_if_eq (tgt := 62) C dX11_farthest_28 (by decide) (by omega) (fun c4 => ?_) (fun c4 => ?_)
        · refine v_aload_n C 0 dX11_farthest_62 rfl ?_
          refine v_iload_n C 1 dX11_farthest_63 rfl ?_
          refine v_callV (st := []) (n := 1) (q := 0) C [.int (iz (z))] (ct_StageRatiosModel_good C.2.2.2.2.2.2.1 mL (z) ) lR0 (eR0 _) rfl qw1444 qw16 qw1441 rfl rfl ⟨Nat.le_of_ble_eq_true rfl, Nat.le_of_ble_eq_true rfl⟩ (by decide +kernel) qw1443 qp56 rfl rfl (Nat.le_of_ble_eq_true rfl) dX11_farthest_64 (fun r m5 hq5 => ?_)
          obtain ⟨z5, rfl, rfl, hq5⟩ := hq5
          show V E (wR D cy aa ad) 4 m5 67 [(0, .ref (aa 0)), (1, .int (iz (z))), (2, .int (iz (b)))] [.int (iz (z))]
          refine v_iret C X rfl dX11_farthest_67 ⟨_, rfl, ?_, ?_⟩
          · rw [← hq5]
            refine RP.mk (fk3.tr (show FK _ mL from ⟨fun j hj => h0 j (by unfold CKj at hj; omega) (by unfold CKj at hj; omega), fun q hq => hf q (by omega) (by omega) (by omega) (by omega)⟩)) ?_ (by decide : (0 : Int) ≠ 4)
            rw [hst.end (by omega)] at hz
            have key : ∀ c : Int, (inB (loX Xx) (hiX Xx) c ∧ hoA fa (Rr 5) (Xx 0) (unZ c)) ↔ cnA fa (Rr 5) (Xx 0) (loX Xx) (hiX Xx) c := fun c => ⟨fun y => ⟨y.1, hwo c y.1, y.2⟩, fun y => ⟨y.1, y.2.2⟩⟩
            refine Or.inl ⟨hT1, rfl, ?_⟩
            rcases hz with ⟨y, y2⟩ | ⟨y, ⟨c, c0, c1, c2, c3⟩, y3⟩
            · exact Or.inl ⟨y, fun c c0 c1 h => y2 c c0 c1 ((key c).mpr h)⟩
            · exact Or.inr ⟨⟨c, c0, c1, (key c).mp c2, c3⟩, fun d d0 d1 d2 => y3 d d0 d1 ((key d).mpr d2)⟩
          · trivial
        · have hatL := hst.at (by omega)
          have hdL := hatL.dt hn hX.1 h34L
          have al := hdL.2.2.al hF
          refine v_aload_n C 0 dX11_farthest_31 rfl ?_
          have K54 : ∀ (z2 : Int) (mK : Mem) (hz2 : fhP (fun c => inB (loX Xx) (hiX Xx) c ∧ hoA fa (Rr 5) (Xx 0) (unZ c)) (fun c y => paA fa (Rr 5) (Rr 2) (Rr 3) (Xx 0) (unZ c) y) (i + 1) z2) (hzr2 : -2 ≤ z2 ∧ z2 ≤ 40) (h0K : ∀ j : Int, j ≠ 37 → j ≠ 38 → mK 0 j = mL 0 j) (hfK : ∀ q : Nat, q ≠ 0 → q ≠ 10 → q ≠ 11 → mK q = mL q), V E (wR D cy aa ad) 4 mK 54 [(0, .ref (aa 0)), (1, .int (iz (z2)))] [] := by
            intro z2 mK hz2 hzr2 h0K hfK
            refine v_aload_n C 0 dX11_farthest_54 rfl ?_
            refine v_callV (st := []) (n := 0) (q := 0) C [] (ct_StageRatiosModel_goesOn C.2.2.2.2.2.2.1 mK (loX Xx) (hiX Xx) (i) (by exact hbxL.fr (hfK 13 (by decide) (by decide) (by decide)) (hfK 14 (by decide) (by decide) (by decide))) (by exact hatL.fr (hfK 9 (by decide) (by decide) (by decide)))) lR0 (eR0 _) rfl qw1598 qw16 qw1595 rfl rfl ⟨Nat.le_of_ble_eq_true rfl, Nat.le_of_ble_eq_true rfl⟩ (by decide +kernel) qw1597 qp80 rfl rfl (Nat.le_of_ble_eq_true rfl) dX11_farthest_55 (fun r m6 hq6 => ?_)
            obtain ⟨z6, rfl, hq6, hm6⟩ := hq6
            show V E (wR D cy aa ad) 4 m6 58 [(0, .ref (aa 0)), (1, .int (iz (z2)))] [.int (iz (z6))]
            obtain ⟨n2x, hn2a, hst2, hsk2⟩ := hq6
            have hb2 := hst2.b
            refine v_istore_n (L1 := [(2, .int (iz (z6))), (0, .ref (aa 0)), (1, .int (iz (z2)))]) C dX11_farthest_58 (by decide) rfl ?_
            refine v_goto (tgt := 27) C dX11_farthest_59 (by decide) ?_
            refine v_sub [1, 2, 0] rfl ?_
            exact ih27 (z2) (z6) (n2x) m6 (by exact hst2) (by exact hz2.to (by omega) (fun c c0 c1 h => hsk2 c (by omega) c1 h.1)) (by exact hzr2) (by intro j a1 a2; rw [hm6 0 (by decide), h0K j a1 a2]; exact h0 j a1 a2) (by intro q a1 a2 a3 a4; rw [hm6 q a2, hfK q a1 a3 a4]; exact hf q a1 a2 a3 a4) (by omega)
          refine v_callV (st := []) (n := 0) (q := 0) C [] (ct_StageRatiosModel_allHold C.2.2.2.2.2.2.1 mL (fa) (Af) (Bf) (Cf) (Rr) (Xx) (Xx 0) (unZ i) (by exact hgL) (by exact hdL)) lR0 (eR0 _) rfl qw1557 qw16 qw1554 rfl rfl ⟨Nat.le_of_ble_eq_true rfl, Nat.le_of_ble_eq_true rfl⟩ (by decide +kernel) qw1556 qp73 rfl rfl (Nat.le_of_ble_eq_true rfl) dX11_farthest_32 (fun r m7 hq7 => ?_)
          obtain ⟨z7, rfl, ⟨rfl, hq7, rfl⟩ | ⟨rfl, hq7, rfl⟩⟩ := hq7
          · show V E (wR D cy aa ad) 4 mL 35 [(0, .ref (aa 0)), (1, .int (iz (z))), (2, .int (iz (b)))] [.int (iz (1))]
            refine v_if_eq (tgt := 54) C dX11_farthest_35 (by decide) (by omega) (fun c8 => by exact absurd c8 (by decide)) (fun c8 => ?_)
            refine v_aload_n C 0 dX11_farthest_38 rfl ?_
            refine v_callV (st := []) (n := 0) (q := 0) C [] (ct_StageRatiosModel_laysSpeed C.2.2.2.2.2.2.1 mL (fa) (Af) (Bf) (Cf) (Rr) (Xx) (Xx 0) (unZ i) (by exact hgL) (by exact hdL)) lR0 (eR0 _) rfl qw1516 qw16 qw1513 rfl rfl ⟨Nat.le_of_ble_eq_true rfl, Nat.le_of_ble_eq_true rfl⟩ (by decide +kernel) qw1515 qp65 rfl rfl (Nat.le_of_ble_eq_true rfl) dX11_farthest_39 (fun r m9 hq9 => ?_)
            obtain ⟨rfl, hq9⟩ := hq9
            show V E (wR D cy aa ad) 4 m9 42 [(0, .ref (aa 0)), (1, .int (iz (z))), (2, .int (iz (b)))] []
            refine v_aload_n C 0 dX11_farthest_42 rfl ?_
            refine v_callV (st := []) (n := 0) (q := 0) C [] (ct_StageRatiosModel_greatestBy C.2.2.2.2.2.2.1 m9 (fa) (Af) (Bf) (Cf) (Rr) (Xx) (numL (spT fa (Rr 5) (Xx 0) (unZ i))) (denL (spT fa (Rr 5) (Xx 0) (unZ i))) (by exact hq9.2.rt hgL) (by exact hq9.1) (by exact ⟨by omega, le_2200 al.2.2.1⟩) (by exact ⟨al.2.2.2.1, le_2200 (Int.le_trans al.2.2.2.2 al.2.2.1)⟩)) lR0 (eR0 _) rfl qw1549 qw16 qw1546 rfl rfl ⟨Nat.le_of_ble_eq_true rfl, Nat.le_of_ble_eq_true rfl⟩ (by decide +kernel) qw1548 qp72 rfl rfl (Nat.le_of_ble_eq_true rfl) dX11_farthest_43 (fun r m10 hq10 => ?_)
            obtain ⟨z10, rfl, hq10, hm10⟩ := hq10
            show V E (wR D cy aa ad) 4 m10 46 [(0, .ref (aa 0)), (1, .int (iz (z))), (2, .int (iz (b)))] [.int (iz (z10))]
            have hpo := hq10.pos al.2.2.2.2
            have hfb2 := hq9.2.tr hm10
            refine v_istore_n (L1 := [(3, .int (iz (z10))), (0, .ref (aa 0)), (1, .int (iz (z))), (2, .int (iz (b)))]) C dX11_farthest_46 (by decide) rfl ?_
            refine v_iload_n C 0 dX11_farthest_47 rfl ?_
            refine v_iload_n C 2 dX11_farthest_48 rfl ?_
            refine v_icmp_le (tgt := 54) C dX11_farthest_49 (by decide) (by omega) (by omega) (fun c11 => ?_) (fun c11 => ?_)
            · refine v_sub [1, 2] rfl ?_
              exact K54  (z) m10 (by 
                                first
                                  | exact hz.skip (fun y => hq7 y.2)
                                  | exact hz.keep hq10 hpo.1 (by omega)
                                  | exact hz.new hi0 ⟨hatL.2.1, hq7⟩ hq10 hpo.1 (by omega)
                              ) (by omega) (by first | exact fun _ _ _ => rfl | exact hfb2.1) (by first | exact fun _ _ _ _ => rfl | exact hfb2.2)
            · refine v_iload_n C 0 dX11_farthest_52 rfl ?_
              refine v_istore_n (L1 := [(1, .int (iz (z10))), (3, .int (iz (z10))), (0, .ref (aa 0)), (2, .int (iz (b)))]) C dX11_farthest_53 (by decide) rfl ?_
              refine v_sub [2, 0] rfl ?_
              exact K54  (z10) m10 (by 
                                first
                                  | exact hz.skip (fun y => hq7 y.2)
                                  | exact hz.keep hq10 hpo.1 (by omega)
                                  | exact hz.new hi0 ⟨hatL.2.1, hq7⟩ hq10 hpo.1 (by omega)
                              ) (by omega) (by first | exact fun _ _ _ => rfl | exact hfb2.1) (by first | exact fun _ _ _ _ => rfl | exact hfb2.2)
          · show V E (wR D cy aa ad) 4 mL 35 [(0, .ref (aa 0)), (1, .int (iz (z))), (2, .int (iz (b)))] [.int (iz (0))]
            refine v_if_eq (tgt := 54) C dX11_farthest_35 (by decide) (by omega) (fun c12 => ?_) (fun c12 => by exact absurd c12 (by decide))
            refine v_sub [0, 1] rfl ?_
            exact K54  (z) mL (by 
                            first
                              | exact hz.skip (fun y => hq7 y.2)
                              | exact hz.keep NO_q43 hpo.1 (by omega)
                              | exact hz.new hi0 ⟨hatL.2.1, hq7⟩ NO_q43 hpo.1 (by omega)
                          ) (by omega) (by first | exact fun _ _ _ => rfl | exact hfb2.1) (by first | exact fun _ _ _ _ => rfl | exact hfb2.2)
    refine v_sub [2, 1, 0] rfl ?_
    exact K27 _ (-2) (1) (cdZ (loX Xx)) m3 (by exact Or.inl ⟨rfl, hat3⟩) (by exact Or.inl ⟨rfl, fun c c0 c1 h => hfb.2 c c0 c1 h.1⟩) (by omega) (by intro j _ _; rfl) (by intro q _ _ _ _; rfl) (Nat.lt_succ_self _)
  · refine v_aload_n C 0 dX11_farthest_12 rfl ?_
    refine v_iconst (z := 1) C dX11_farthest_13 rfl ?_
    refine v_callV (st := []) (n := 1) (q := 0) C [.int (iz (1))] (ct_StageRatiosModel_refused C.2.2.2.2.2.2.1 m1 (1) ) lR0 (eR0 _) rfl qw1340 qw16 qw1337 rfl rfl ⟨Nat.le_of_ble_eq_true rfl, Nat.le_of_ble_eq_true rfl⟩ (by decide +kernel) qw1339 qp36 rfl rfl (Nat.le_of_ble_eq_true rfl) dX11_farthest_14 (fun r m13 hq13 => ?_)
    obtain ⟨z13, rfl, rfl, hq13⟩ := hq13
    show V E (wR D cy aa ad) 4 m13 17 [(0, .ref (aa 0))] [.int (iz (-1))]
    refine v_iret C X rfl dX11_farthest_17 ⟨_, rfl, ?_, ?_⟩
    · rw [← hq13]
      refine RP.mk fk2 ?_ (by decide)
      exact Or.inr ⟨by omega, rfl, rfl⟩
    · trivial

set_option maxHeartbeats 4000000 in
set_option maxRecDepth 100000 in
theorem ct_StageRatiosModel_lifts {lau : Launch} {D : va_G} {cy : Nat → ClassId} {aa ad : Nat → Nat} (hI : wI (wR D cy aa ad)) (m : Mem) (fa Af Bf Cf Rr Xx : Int → Int) (hT : TT m fa Af Bf Cf Rr Xx) : MT lau (wR D cy aa ad) yX11_lifts cX11_lifts 2 (some .int) ({ frames := 7, cells := 0, slots := 0, locals := 152 } : Room) m [.ref (aa 0)] (Pi (fun z m' => (RP (qLif (m 0 20) fa Rr Xx) m m' z) ∧ True)) := by
  refine v_entry hI RX11 (by decide) rfl (Nat.le_of_ble_eq_true rfl) (fun E hE C X => ?_)
  subst hE
  show V E (wR D cy aa ad) 2 m 0 [(0, .ref (aa 0))] []
  refine v_aload_n C 0 dX11_lifts_0 rfl ?_
  refine v_iconst (z := 0) C dX11_lifts_1 rfl ?_
  refine v_put C 0 0 (0) 0 rfl lR0 (eR0 _) rfl inX11 tyX11 tyX11_ok nmX11 (by decide) qw1140 rfl rfl rfl (Nat.le_of_ble_eq_true rfl) (by rw [mup_r]; exact (eR0 _)) dX11_lifts_2 (fun m1 em1 => ?_)
  have fk2 : FK m m1 := by rw [em1]; exact FK.up 0 0 (by unfold CKj; omega)
  have hT2 := fk2.tt hT
  have e20 : m1 0 20 = m 0 20 := fk2.1 20 (Or.inr (Or.inl rfl))
  have ht01 : m 0 20 = 0 ∨ m 0 20 = 1 := hT.imp (fun a => a) (fun a => a.1)
  refine v_aload_n C 0 dX11_lifts_5 rfl ?_
  refine v_get C 0 20 lR0 (eR0 _) rfl inX11 (by decide) rfl qw1160 dX11_lifts_6 ?_
  refine v_if_ne (tgt := 18) C dX11_lifts_9 (by decide) (by omega) (fun c2 => ?_) (fun c2 => ?_)
  · obtain ⟨hT1, hg0⟩ := hT.resolve_left (by omega)
    have hg := fk2.rt hg0
    obtain ⟨⟨r11, r8, r9, r10, r12⟩, r1, r2, r6, hvd, hfo⟩ := id hg
    obtain ⟨hn, hF, hup, hlw, hX⟩ := id hvd
    have hp1 := hX.2.1
    have hkey : ∀ v c : Int, pcA fa (Rr 5) (Rr 2) (Rr 3) v (loX Xx) (hiX Xx) (Xx 1) c ↔ (cnA fa (Rr 5) v (loX Xx) (hiX Xx) c ∧ reA fa (Rr 5) (Rr 2) (Rr 3) v (unZ c) (Xx 1).toNat) := fun v c => ⟨fun y => ⟨⟨y.1, in_wo hvd y.1, y.2.1⟩, y.2.2⟩, fun y => ⟨y.1.1, y.1.2.2, y.2⟩⟩
    refine v_bipush (z := 40) C dX11_lifts_18 (by decide) ?_
    refine v_istore_n (L1 := [(1, .int (iz (40))), (0, .ref (aa 0))]) C dX11_lifts_20 (by decide) rfl ?_
    have K21 : ∀ (nK : Nat) (v : Int) (mL : Mem) (hv : 0 ≤ v ∧ v ≤ 40) (hno : ∀ x c : Int, v < x → x ≤ 40 → 0 ≤ c → c < 4913 → ¬ pcA fa (Rr 5) (Rr 2) (Rr 3) x (loX Xx) (hiX Xx) (Xx 1) c) (fkL : FK m mL), v.toNat < nK → V E (wR D cy aa ad) 2 mL 21 [(0, .ref (aa 0)), (1, .int (iz (v)))] [] := by
      intro nK
      induction nK with
      | zero => intro v mL hv hno fkL hn; exact absurd hn (Nat.not_lt_zero _)
      | succ nK ih21 =>
        intro v mL hv hno fkL hn21
        have hgL := fkL.rt hg0
        refine v_iload_n C 1 dX11_lifts_21 rfl ?_
        refine v_if_le (tgt := 53) C dX11_lifts_22 (by decide) (by omega) (fun c3 => ?_) (fun c3 => ?_)
        · refine v_aload_n C 0 dX11_lifts_53 rfl ?_
          refine v_bipush (z := -2) C dX11_lifts_54 (by decide) ?_
          refine v_callV (st := []) (n := 1) (q := 0) C [.int (iz (-2))] (ct_StageRatiosModel_good C.2.2.2.2.2.2.1 mL (-2) ) lR0 (eR0 _) rfl qw1444 qw16 qw1441 rfl rfl ⟨Nat.le_of_ble_eq_true rfl, Nat.le_of_ble_eq_true rfl⟩ (by decide +kernel) qw1443 qp56 rfl rfl (Nat.le_of_ble_eq_true rfl) dX11_lifts_56 (fun r m4 hq4 => ?_)
          obtain ⟨z4, rfl, rfl, hq4⟩ := hq4
          show V E (wR D cy aa ad) 2 m4 59 [(0, .ref (aa 0)), (1, .int (iz (v)))] [.int (iz ((-2)))]
          refine v_iret C X rfl dX11_lifts_59 ⟨_, rfl, ?_, ?_⟩
          · rw [← hq4]
            refine RP.mk fkL ?_ (by decide : (0 : Int) ≠ 4)
            exact Or.inl ⟨hT1, rfl, Or.inl ⟨rfl, fun x c h1 h2 h3 h4 h5 => hno x c (by omega) h2 h3 h4 ((hkey x c).mpr h5)⟩⟩
          · trivial
        · refine v_aload_n C 0 dX11_lifts_25 rfl ?_
          refine v_callV (st := []) (n := 0) (q := 0) C [] (ct_StageRatiosModel_laysBox C.2.2.2.2.2.2.1 mL (fa) (Af) (Bf) (Cf) (Rr) (Xx) (by exact hgL)) lR0 (eR0 _) rfl qw1590 qw16 qw1587 rfl rfl ⟨Nat.le_of_ble_eq_true rfl, Nat.le_of_ble_eq_true rfl⟩ (by decide +kernel) qw1589 qp78 rfl rfl (Nat.le_of_ble_eq_true rfl) dX11_lifts_26 (fun r m5 hq5 => ?_)
          obtain ⟨rfl, hq5⟩ := hq5
          show V E (wR D cy aa ad) 2 m5 29 [(0, .ref (aa 0)), (1, .int (iz (v)))] []
          have fk3 := fkL.tr (show FK _ m5 from ⟨fun j hj => hq5.2.2.2.1 j (by unfold CKj at hj; omega), fun q hq => hq5.2.2.2.2 q (by omega) (by omega) (by omega) (by omega)⟩)
          have hfb := first_box (lo := loX Xx) (hi := hiX Xx) (fun j j0 j1 => (hq5.1 j j0 j1).2.2)
          refine v_aload_n C 0 dX11_lifts_29 rfl ?_
          refine v_iload_n C 1 dX11_lifts_30 rfl ?_
          refine v_put C 0 34 (v) 34 rfl lR0 (eR0 _) rfl inX11 tyX11 tyX11_ok nmX11 (by decide) qw1174 rfl rfl rfl (Nat.le_of_ble_eq_true rfl) (by rw [mup_r]; exact (eR0 _)) dX11_lifts_31 (fun m6 em6 => ?_)
          have fkM := fk3.tr (show FK _ m6 from by rw [em6]; exact FK.up 34 v (by unfold CKj; omega))
          have hgM := fkM.rt hg0
          refine v_aload_n C 0 dX11_lifts_34 rfl ?_
          refine v_callV (st := []) (n := 0) (q := 0) C [] (ct_StageRatiosModel_isAny C.2.2.2.2.2.2.1 m6 (fa) (Af) (Bf) (Cf) (Rr) (Xx) (loX Xx) (hiX Xx) (v) (cdZ (loX Xx)) (Xx 1) (by exact hgM) (by exact hq5.1.fr (by rw [em6, mup_k _ _ _ (by decide)]) (by rw [em6, mup_k _ _ _ (by decide)])) (by exact hq5.2.1.fr (by rw [em6, mup_k _ _ _ (by decide)])) (by exact hfb.2) (by rw [em6, mup_s]) (by omega) (by exact ⟨by omega, by omega⟩) (by rfl)) lR0 (eR0 _) rfl qw1614 qw16 qw1611 rfl rfl ⟨Nat.le_of_ble_eq_true rfl, Nat.le_of_ble_eq_true rfl⟩ (by decide +kernel) qw1613 qp81 rfl rfl (Nat.le_of_ble_eq_true rfl) dX11_lifts_35 (fun r m7 hq7 => ?_)
          obtain ⟨z7, rfl, ⟨rfl, hq7, hm7⟩ | ⟨rfl, hq7, hm7⟩⟩ := hq7
          · show V E (wR D cy aa ad) 2 m7 38 [(0, .ref (aa 0)), (1, .int (iz (v)))] [.int (iz (1))]
            refine v_if_eq (tgt := 47) C dX11_lifts_38 (by decide) (by omega) (fun c8 => by exact absurd c8 (by decide)) (fun c8 => ?_)
            refine v_aload_n C 0 dX11_lifts_41 rfl ?_
            refine v_iload_n C 1 dX11_lifts_42 rfl ?_
            refine v_callV (st := []) (n := 1) (q := 0) C [.int (iz (v))] (ct_StageRatiosModel_good C.2.2.2.2.2.2.1 m7 (v) ) lR0 (eR0 _) rfl qw1444 qw16 qw1441 rfl rfl ⟨Nat.le_of_ble_eq_true rfl, Nat.le_of_ble_eq_true rfl⟩ (by decide +kernel) qw1443 qp56 rfl rfl (Nat.le_of_ble_eq_true rfl) dX11_lifts_43 (fun r m9 hq9 => ?_)
            obtain ⟨z9, rfl, rfl, hq9⟩ := hq9
            show V E (wR D cy aa ad) 2 m9 46 [(0, .ref (aa 0)), (1, .int (iz (v)))] [.int (iz (v))]
            refine v_iret C X rfl dX11_lifts_46 ⟨_, rfl, ?_, ?_⟩
            · rw [← hq9]
              refine RP.mk (fkM.tr (show FK _ m7 from ⟨fun j hj => hm7.1 j (by unfold CKj at hj; omega) (by unfold CKj at hj; omega), fun q hq => hm7.2 q (by omega) (by omega) (by omega) (by omega)⟩)) ?_ (by decide : (0 : Int) ≠ 4)
              refine Or.inl ⟨hT1, rfl, Or.inr ⟨⟨by omega, by omega⟩, ?_, fun x c h1 h2 h3 h4 h5 => hno x c h1 h2 h3 h4 ((hkey x c).mpr h5)⟩⟩
              obtain ⟨c, c0, c1, c2⟩ := hq7
              exact ⟨c, c0, c1, (hkey v c).mp c2⟩
            · trivial
          · show V E (wR D cy aa ad) 2 m7 38 [(0, .ref (aa 0)), (1, .int (iz (v)))] [.int (iz (0))]
            refine v_if_eq (tgt := 47) C dX11_lifts_38 (by decide) (by omega) (fun c10 => ?_) (fun c10 => by exact absurd c10 (by decide))
            refine v_iinc (L1 := [(1, .int (iz (v + (-1)))), (0, .ref (aa 0))]) C 1 dX11_lifts_47 rfl (by decide) rfl ?_
            refine v_goto (tgt := 21) C dX11_lifts_50 (by decide) ?_
            refine v_sub [1, 0] rfl ?_
            exact ih21 (v + (-1)) m7 (by omega) (by 
                            intro x c h1 h2 h3 h4 h5
                            by_cases e : x = v
                            · subst e; exact hq7 ⟨c, h3, h4, h5⟩
                            · exact hno x c (by omega) h2 h3 h4 h5
                          ) (by exact fkM.tr (show FK _ m7 from ⟨fun j hj => hm7.1 j (by unfold CKj at hj; omega) (by unfold CKj at hj; omega), fun q hq => hm7.2 q (by omega) (by omega) (by omega) (by omega)⟩)) (by omega)
    refine v_sub [1, 0] rfl ?_
    exact K21 _ (40) m1 (by omega) (by intro x c h1 h2; omega) (by exact fk2) (Nat.lt_succ_self _)
  · refine v_aload_n C 0 dX11_lifts_12 rfl ?_
    refine v_iconst (z := 1) C dX11_lifts_13 rfl ?_
    refine v_callV (st := []) (n := 1) (q := 0) C [.int (iz (1))] (ct_StageRatiosModel_refused C.2.2.2.2.2.2.1 m1 (1) ) lR0 (eR0 _) rfl qw1340 qw16 qw1337 rfl rfl ⟨Nat.le_of_ble_eq_true rfl, Nat.le_of_ble_eq_true rfl⟩ (by decide +kernel) qw1339 qp36 rfl rfl (Nat.le_of_ble_eq_true rfl) dX11_lifts_14 (fun r m11 hq11 => ?_)
    obtain ⟨z11, rfl, rfl, hq11⟩ := hq11
    show V E (wR D cy aa ad) 2 m11 17 [(0, .ref (aa 0))] [.int (iz (-1))]
    refine v_iret C X rfl dX11_lifts_17 ⟨_, rfl, ?_, ?_⟩
    · rw [← hq11]
      refine RP.mk fk2 ?_ (by decide)
      exact Or.inr ⟨by omega, rfl, rfl⟩
    · trivial

set_option maxHeartbeats 4000000 in
set_option maxRecDepth 100000 in
theorem ct_StageRatiosModel_ways {lau : Launch} {D : va_G} {cy : Nat → ClassId} {aa ad : Nat → Nat} (hI : wI (wR D cy aa ad)) (m : Mem) (fa Af Bf Cf Rr Xx : Int → Int) (k0 : Int) (hT : TT m fa Af Bf Cf Rr Xx) (hk0 : -2147483648 ≤ k0 ∧ k0 ≤ 2147483647) : MT lau (wR D cy aa ad) yX11_ways cX11_ways 3 (some .int) ({ frames := 7, cells := 0, slots := 0, locals := 154 } : Room) m [.ref (aa 0), .int (iz (k0))] (Pi (fun z m' => (RP (qWay (m 0 20) fa Rr Xx k0) m m' z) ∧ True)) := by
  refine v_entry hI RX11 (by decide) rfl (Nat.le_of_ble_eq_true rfl) (fun E hE C X => ?_)
  subst hE
  show V E (wR D cy aa ad) 3 m 0 [(0, .ref (aa 0)), (1, .int (iz (k0)))] []
  refine v_aload_n C 0 dX11_ways_0 rfl ?_
  refine v_iconst (z := 0) C dX11_ways_1 rfl ?_
  refine v_put C 0 0 (0) 0 rfl lR0 (eR0 _) rfl inX11 tyX11 tyX11_ok nmX11 (by decide) qw1140 rfl rfl rfl (Nat.le_of_ble_eq_true rfl) (by rw [mup_r]; exact (eR0 _)) dX11_ways_2 (fun m1 em1 => ?_)
  have fk2 : FK m m1 := by rw [em1]; exact FK.up 0 0 (by unfold CKj; omega)
  have hT2 := fk2.tt hT
  have e20 : m1 0 20 = m 0 20 := fk2.1 20 (Or.inr (Or.inl rfl))
  have ht01 : m 0 20 = 0 ∨ m 0 20 = 1 := hT.imp (fun a => a) (fun a => a.1)
  refine v_aload_n C 0 dX11_ways_5 rfl ?_
  refine v_iconst (z := 1) C dX11_ways_6 rfl ?_
  refine v_iload_n C 1 dX11_ways_7 rfl ?_
  refine v_callV (st := []) (n := 2) (q := 0) C [.int (iz (1)), .int (iz (k0))] (ct_StageRatiosModel_refusesPower C.2.2.2.2.2.2.1 m1 (1) (k0) (by first | decide | omega) (by first | assumption | omega) (by rw [e20]; exact ht01)) lR0 (eR0 _) rfl qw1508 qw16 qw1505 rfl rfl ⟨Nat.le_of_ble_eq_true rfl, Nat.le_of_ble_eq_true rfl⟩ (by decide +kernel) qw1507 qp63 rfl rfl (Nat.le_of_ble_eq_true rfl) dX11_ways_8 (fun r m2 hq2 => ?_)
  obtain ⟨z2, rfl, hq2, rfl⟩ := hq2
  show V E (wR D cy aa ad) 3 m1 11 [(0, .ref (aa 0)), (1, .int (iz (k0)))] [.int (iz (z2))]
  rw [e20] at hq2
  have hzp : z2 = 0 ∨ z2 = 1 ∨ z2 = 2 := by rcases hq2 with y | ⟨-, y | y⟩ <;> omega
  refine v_istore_n (L1 := [(2, .int (iz (z2))), (0, .ref (aa 0)), (1, .int (iz (k0)))]) C dX11_ways_11 (by decide) rfl ?_
  refine v_iload_n C 0 dX11_ways_12 rfl ?_
  refine v_if_le (tgt := 22) C dX11_ways_13 (by decide) (by omega) (fun c3 => ?_) (fun c3 => ?_)
  · have hpk : m 0 20 = 1 ∧ kPw k0 := by
      rcases hq2 with ⟨y, -⟩ | ⟨y, ⟨-, y2⟩ | ⟨y2, -⟩⟩
      · omega
      · exact ⟨y.1, y2⟩
      · omega
    obtain ⟨hT1, hkp⟩ := hpk
    obtain ⟨-, hg0⟩ := hT.resolve_left (by omega)
    have hg := fk2.rt hg0
    obtain ⟨⟨r11, r8, r9, r10, r12⟩, r1, r2, r6, hvd, hfo⟩ := id hg
    obtain ⟨hn, hF, hup, hlw, hX⟩ := id hvd
    refine v_aload_n C 1 dX11_ways_22 rfl ?_
    refine v_iload_n C 2 dX11_ways_23 rfl ?_
    refine v_iconst (z := 0) C dX11_ways_24 rfl ?_
    refine v_callV (st := []) (n := 2) (q := 0) C [.int (iz (k0)), .int (iz (0))] (ct_StageRatiosModel_laysWays C.2.2.2.2.2.2.1 m1 (fa) (Af) (Bf) (Cf) (Rr) (Xx) (k0) (0) (by exact hg) (by exact hkp) (by decide)) lR0 (eR0 _) rfl qw1626 qw16 qw1623 rfl rfl ⟨Nat.le_of_ble_eq_true rfl, Nat.le_of_ble_eq_true rfl⟩ (by decide +kernel) qw1625 qp82 rfl rfl (Nat.le_of_ble_eq_true rfl) dX11_ways_25 (fun r m4 hq4 => ?_)
    obtain ⟨rfl, hq4⟩ := hq4
    show V E (wR D cy aa ad) 3 m4 28 [(2, .int (iz (z2))), (0, .ref (aa 0)), (1, .int (iz (k0)))] []
    refine v_aload_n C 1 dX11_ways_28 rfl ?_
    refine v_aload_n C 1 dX11_ways_29 rfl ?_
    refine v_get C 0 44 lR0 (eR0 _) rfl inX11 (by decide) rfl qw1184 dX11_ways_30 ?_
    refine v_callV (st := []) (n := 1) (q := 0) C [.int (iz (m4 0 44))] (ct_StageRatiosModel_good C.2.2.2.2.2.2.1 m4 (m4 0 44) ) lR0 (eR0 _) rfl qw1444 qw16 qw1441 rfl rfl ⟨Nat.le_of_ble_eq_true rfl, Nat.le_of_ble_eq_true rfl⟩ (by decide +kernel) qw1443 qp56 rfl rfl (Nat.le_of_ble_eq_true rfl) dX11_ways_33 (fun r m5 hq5 => ?_)
    obtain ⟨z5, rfl, rfl, hq5⟩ := hq5
    show V E (wR D cy aa ad) 3 m5 36 [(2, .int (iz (z2))), (0, .ref (aa 0)), (1, .int (iz (k0)))] [.int (iz ((m4 0 44)))]
    refine v_iret C X rfl dX11_ways_36 ⟨_, rfl, ?_, ?_⟩
    · rw [← hq5]
      refine RP.mk (fk2.tr (show FK _ m4 from ⟨fun j hj => hq4.2.2.2.1 j (by unfold CKj at hj; omega) (by unfold CKj at hj; omega) (by unfold CKj at hj; omega) (by unfold CKj at hj; omega) (by unfold CKj at hj; omega) (by unfold CKj at hj; omega), fun q hq => hq4.2.2.2.2 q (by omega) (by omega) (by omega) (by omega) (by omega) (by omega)⟩)) ?_ (by decide : (0 : Int) ≠ 4)
      exact Or.inl ⟨hT1, hkp, rfl, hq4.1.trans (cnP_cg 4913 fun c _ _ => pc_cd (fun h => in_wo hvd h))⟩
    · trivial
  · refine v_aload_n C 1 dX11_ways_16 rfl ?_
    refine v_iload_n C 0 dX11_ways_17 rfl ?_
    refine v_callV (st := []) (n := 1) (q := 0) C [.int (iz (z2))] (ct_StageRatiosModel_refused C.2.2.2.2.2.2.1 m1 (z2) ) lR0 (eR0 _) rfl qw1340 qw16 qw1337 rfl rfl ⟨Nat.le_of_ble_eq_true rfl, Nat.le_of_ble_eq_true rfl⟩ (by decide +kernel) qw1339 qp36 rfl rfl (Nat.le_of_ble_eq_true rfl) dX11_ways_18 (fun r m6 hq6 => ?_)
    obtain ⟨z6, rfl, rfl, hq6⟩ := hq6
    show V E (wR D cy aa ad) 3 m6 21 [(2, .int (iz (z2))), (0, .ref (aa 0)), (1, .int (iz (k0)))] [.int (iz (-1))]
    refine v_iret C X rfl dX11_ways_21 ⟨_, rfl, ?_, ?_⟩
    · rw [← hq6]
      refine RP.mk fk2 ?_ (by omega)
      rcases hq2 with ⟨y, y2⟩ | ⟨y, ⟨y2, y3⟩ | ⟨y2, y3⟩⟩
      · rw [y]; exact Or.inr (Or.inr ⟨fun h => y2 ⟨h, rfl⟩, rfl, rfl⟩)
      · omega
      · rw [y2]; exact Or.inr (Or.inl ⟨y.1, y3, rfl, rfl⟩)
    · trivial

set_option maxHeartbeats 4000000 in
set_option maxRecDepth 100000 in
theorem ct_StageRatiosModel_range {lau : Launch} {D : va_G} {cy : Nat → ClassId} {aa ad : Nat → Nat} (hI : wI (wR D cy aa ad)) (m : Mem) (fa Af Bf Cf Rr Xx : Int → Int) (k0 s up : Int) (hT : TT m fa Af Bf Cf Rr Xx) (hk0 : -2147483648 ≤ k0 ∧ k0 ≤ 2147483647) (hs : -2147483648 ≤ s ∧ s ≤ 2147483647) (hu : up = 0 ∨ up = 1) : MT lau (wR D cy aa ad) yX11_range cX11_range 5 (some .int) ({ frames := 7, cells := 0, slots := 0, locals := 154 } : Room) m [.ref (aa 0), .int (iz (k0)), .int (iz (s)), .int (iz (up))] (Pi (fun z m' => (RP (qRan (m 0 20) fa Rr Xx k0 s up) m m' z) ∧ True)) := by
  refine v_entry hI RX11 (by decide) rfl (Nat.le_of_ble_eq_true rfl) (fun E hE C X => ?_)
  subst hE
  show V E (wR D cy aa ad) 5 m 0 [(0, .ref (aa 0)), (1, .int (iz (k0))), (2, .int (iz (s))), (3, .int (iz (up)))] []
  refine v_aload_n C 0 dX11_range_0 rfl ?_
  refine v_iconst (z := 0) C dX11_range_1 rfl ?_
  refine v_put C 0 0 (0) 0 rfl lR0 (eR0 _) rfl inX11 tyX11 tyX11_ok nmX11 (by decide) qw1140 rfl rfl rfl (Nat.le_of_ble_eq_true rfl) (by rw [mup_r]; exact (eR0 _)) dX11_range_2 (fun m1 em1 => ?_)
  have fk2 : FK m m1 := by rw [em1]; exact FK.up 0 0 (by unfold CKj; omega)
  have hT2 := fk2.tt hT
  have e20 : m1 0 20 = m 0 20 := fk2.1 20 (Or.inr (Or.inl rfl))
  have ht01 : m 0 20 = 0 ∨ m 0 20 = 1 := hT.imp (fun a => a) (fun a => a.1)
  refine v_aload_n C 0 dX11_range_5 rfl ?_
  refine v_aload_n C 0 dX11_range_6 rfl ?_
  refine v_iload_n C 2 dX11_range_7 rfl ?_
  refine v_callV (st := [.ref (aa 0)]) (n := 1) (q := 0) C [.int (iz (s))] (ct_StageRatiosModel_isStage C.2.2.2.2.2.2.1 m1 (fa) (Af) (Bf) (Cf) (Rr) (Xx) (s) (by exact hT2) (by first | assumption | omega)) lR0 (eR0 _) rfl qw1464 qw16 qw1461 rfl rfl ⟨Nat.le_of_ble_eq_true rfl, Nat.le_of_ble_eq_true rfl⟩ (by decide +kernel) qw1463 qp57 rfl rfl (Nat.le_of_ble_eq_true rfl) dX11_range_8 (fun r m2 hq2 => ?_)
  obtain ⟨z2, rfl, ⟨rfl, hq2, rfl⟩ | ⟨rfl, hq2, rfl⟩⟩ := hq2
  · show V E (wR D cy aa ad) 5 m1 11 [(0, .ref (aa 0)), (1, .int (iz (k0))), (2, .int (iz (s))), (3, .int (iz (up)))] [.int (iz (1)), .ref (aa 0)]
    rw [e20] at hq2
    refine v_iload_n C 1 dX11_range_11 rfl ?_
    refine v_callV (st := []) (n := 2) (q := 0) C [.int (iz (1)), .int (iz (k0))] (ct_StageRatiosModel_refusesPower C.2.2.2.2.2.2.1 m1 (1) (k0) (by first | decide | omega) (by first | assumption | omega) (by rw [e20]; exact ht01)) lR0 (eR0 _) rfl qw1508 qw16 qw1505 rfl rfl ⟨Nat.le_of_ble_eq_true rfl, Nat.le_of_ble_eq_true rfl⟩ (by decide +kernel) qw1507 qp63 rfl rfl (Nat.le_of_ble_eq_true rfl) dX11_range_12 (fun r m3 hq3 => ?_)
    obtain ⟨z3, rfl, hq3, rfl⟩ := hq3
    show V E (wR D cy aa ad) 5 m1 15 [(0, .ref (aa 0)), (1, .int (iz (k0))), (2, .int (iz (s))), (3, .int (iz (up)))] [.int (iz (z3))]
    rw [e20] at hq3
    have hzp : z3 = 0 ∨ z3 = 1 ∨ z3 = 2 := by rcases hq3 with y | ⟨-, y | y⟩ <;> omega
    refine v_istore (L1 := [(4, .int (iz (z3))), (0, .ref (aa 0)), (1, .int (iz (k0))), (2, .int (iz (s))), (3, .int (iz (up)))]) C dX11_range_15 (by decide) rfl ?_
    refine v_iload C 0 dX11_range_17 rfl ?_
    refine v_if_le (tgt := 29) C dX11_range_19 (by decide) (by omega) (fun c4 => ?_) (fun c4 => ?_)
    · have hpk : hsS (m 0 20) Rr s ∧ kPw k0 := by
        rcases hq3 with ⟨y, -⟩ | ⟨y, ⟨-, y2⟩ | ⟨y2, -⟩⟩
        · omega
        · first
            | exact ⟨hq2, y2⟩
            | (have := y.2; omega)
        · omega
      obtain ⟨hhs, hkp⟩ := hpk
      obtain ⟨hT1, hs0⟩ := id hhs
      obtain ⟨-, hg0⟩ := hT.resolve_left (by omega)
      have hg := fk2.rt hg0
      obtain ⟨⟨r11, r8, r9, r10, r12⟩, r1, r2, r6, hvd, hfo⟩ := id hg
      obtain ⟨hn, hF, hup, hlw, hX⟩ := id hvd
      refine v_aload_n C 1 dX11_range_29 rfl ?_
      refine v_iload_n C 2 dX11_range_30 rfl ?_
      refine v_iload_n C 3 dX11_range_31 rfl ?_
      refine v_callV (st := []) (n := 2) (q := 0) C [.int (iz (k0)), .int (iz (s))] (ct_StageRatiosModel_laysWays C.2.2.2.2.2.2.1 m1 (fa) (Af) (Bf) (Cf) (Rr) (Xx) (k0) (s) (by exact hg) (by exact hkp) (by omega)) lR0 (eR0 _) rfl qw1626 qw16 qw1623 rfl rfl ⟨Nat.le_of_ble_eq_true rfl, Nat.le_of_ble_eq_true rfl⟩ (by decide +kernel) qw1625 qp82 rfl rfl (Nat.le_of_ble_eq_true rfl) dX11_range_32 (fun r m5 hq5 => ?_)
      obtain ⟨rfl, hq5⟩ := hq5
      show V E (wR D cy aa ad) 5 m5 35 [(4, .int (iz (z3))), (0, .ref (aa 0)), (1, .int (iz (k0))), (2, .int (iz (s))), (3, .int (iz (up)))] []
      refine v_aload_n C 1 dX11_range_35 rfl ?_
      refine v_iload_n C 4 dX11_range_36 rfl ?_
      refine v_if_eq (tgt := 47) C dX11_range_37 (by decide) (by omega) (fun c6 => ?_) (fun c6 => ?_)
      · refine v_aload_n C 1 dX11_range_47 rfl ?_
        refine v_get C 0 45 lR0 (eR0 _) rfl inX11 (by decide) rfl qw1185 dX11_range_48 ?_
        refine v_callV (st := []) (n := 1) (q := 0) C [.int (iz (m5 0 45))] (ct_StageRatiosModel_good C.2.2.2.2.2.2.1 m5 (m5 0 45) ) lR0 (eR0 _) rfl qw1444 qw16 qw1441 rfl rfl ⟨Nat.le_of_ble_eq_true rfl, Nat.le_of_ble_eq_true rfl⟩ (by decide +kernel) qw1443 qp56 rfl rfl (Nat.le_of_ble_eq_true rfl) dX11_range_51 (fun r m7 hq7 => ?_)
        obtain ⟨z7, rfl, rfl, hq7⟩ := hq7
        show V E (wR D cy aa ad) 5 m7 54 [(4, .int (iz (z3))), (0, .ref (aa 0)), (1, .int (iz (k0))), (2, .int (iz (s))), (3, .int (iz (up)))] [.int (iz ((m5 0 45)))]
        refine v_iret C X rfl dX11_range_54 ⟨_, rfl, ?_, ?_⟩
        · rw [← hq7]
          refine RP.mk (fk2.tr (show FK _ m5 from ⟨fun j hj => hq5.2.2.2.1 j (by unfold CKj at hj; omega) (by unfold CKj at hj; omega) (by unfold CKj at hj; omega) (by unfold CKj at hj; omega) (by unfold CKj at hj; omega) (by unfold CKj at hj; omega), fun q hq => hq5.2.2.2.2 q (by omega) (by omega) (by omega) (by omega) (by omega) (by omega)⟩)) ?_ (by decide : (0 : Int) ≠ 4)
          have ky : ∀ c : Int, 0 ≤ c → c < 4913 → (pcA fa (Rr 5) (Rr 2) (Rr 3) (Xx 0) (loX Xx) (hiX Xx) k0 c ↔ cdA fa Rr Xx (loX Xx) (hiX Xx) k0 c) := fun c _ _ => pc_cd (fun h => in_wo hvd h)
          first
            | exact Or.inl ⟨hhs, hkp, rfl, fun y => by omega, fun y => hq5.2.1.cg ky (fun _ _ _ _ => rfl)⟩
            | exact Or.inl ⟨hhs, hkp, rfl, fun y => hq5.2.2.1.cg ky (fun _ _ _ _ => rfl), fun y => by omega⟩
        · trivial
      · refine v_aload_n C 1 dX11_range_40 rfl ?_
        refine v_get C 0 46 lR0 (eR0 _) rfl inX11 (by decide) rfl qw1186 dX11_range_41 ?_
        refine v_goto (tgt := 51) C dX11_range_44 (by decide) ?_
        refine v_callV (st := []) (n := 1) (q := 0) C [.int (iz (m5 0 46))] (ct_StageRatiosModel_good C.2.2.2.2.2.2.1 m5 (m5 0 46) ) lR0 (eR0 _) rfl qw1444 qw16 qw1441 rfl rfl ⟨Nat.le_of_ble_eq_true rfl, Nat.le_of_ble_eq_true rfl⟩ (by decide +kernel) qw1443 qp56 rfl rfl (Nat.le_of_ble_eq_true rfl) dX11_range_51 (fun r m8 hq8 => ?_)
        obtain ⟨z8, rfl, rfl, hq8⟩ := hq8
        show V E (wR D cy aa ad) 5 m8 54 [(4, .int (iz (z3))), (0, .ref (aa 0)), (1, .int (iz (k0))), (2, .int (iz (s))), (3, .int (iz (up)))] [.int (iz ((m5 0 46)))]
        refine v_iret C X rfl dX11_range_54 ⟨_, rfl, ?_, ?_⟩
        · rw [← hq8]
          refine RP.mk (fk2.tr (show FK _ m5 from ⟨fun j hj => hq5.2.2.2.1 j (by unfold CKj at hj; omega) (by unfold CKj at hj; omega) (by unfold CKj at hj; omega) (by unfold CKj at hj; omega) (by unfold CKj at hj; omega) (by unfold CKj at hj; omega), fun q hq => hq5.2.2.2.2 q (by omega) (by omega) (by omega) (by omega) (by omega) (by omega)⟩)) ?_ (by decide : (0 : Int) ≠ 4)
          have ky : ∀ c : Int, 0 ≤ c → c < 4913 → (pcA fa (Rr 5) (Rr 2) (Rr 3) (Xx 0) (loX Xx) (hiX Xx) k0 c ↔ cdA fa Rr Xx (loX Xx) (hiX Xx) k0 c) := fun c _ _ => pc_cd (fun h => in_wo hvd h)
          first
            | exact Or.inl ⟨hhs, hkp, rfl, fun y => by omega, fun y => hq5.2.1.cg ky (fun _ _ _ _ => rfl)⟩
            | exact Or.inl ⟨hhs, hkp, rfl, fun y => hq5.2.2.1.cg ky (fun _ _ _ _ => rfl), fun y => by omega⟩
        · trivial
    · refine v_aload_n C 1 dX11_range_22 rfl ?_
      refine v_iload C 0 dX11_range_23 rfl ?_
      refine v_callV (st := []) (n := 1) (q := 0) C [.int (iz (z3))] (ct_StageRatiosModel_refused C.2.2.2.2.2.2.1 m1 (z3) ) lR0 (eR0 _) rfl qw1340 qw16 qw1337 rfl rfl ⟨Nat.le_of_ble_eq_true rfl, Nat.le_of_ble_eq_true rfl⟩ (by decide +kernel) qw1339 qp36 rfl rfl (Nat.le_of_ble_eq_true rfl) dX11_range_25 (fun r m9 hq9 => ?_)
      obtain ⟨z9, rfl, rfl, hq9⟩ := hq9
      show V E (wR D cy aa ad) 5 m9 28 [(4, .int (iz (z3))), (0, .ref (aa 0)), (1, .int (iz (k0))), (2, .int (iz (s))), (3, .int (iz (up)))] [.int (iz (-1))]
      refine v_iret C X rfl dX11_range_28 ⟨_, rfl, ?_, ?_⟩
      · rw [← hq9]
        refine RP.mk fk2 ?_ (by omega)
        rcases hq3 with ⟨y, y2⟩ | ⟨y, ⟨y2, y3⟩ | ⟨y2, y3⟩⟩
        · rw [y]; exact Or.inr (Or.inr ⟨fun h => by first | exact hq2 h | exact y2 ⟨h.1, rfl⟩, rfl, rfl⟩)
        · omega
        · rw [y2]
          first
            | exact Or.inr (Or.inl ⟨hq2, y3, rfl, rfl⟩)
            | (have := y.2; omega)
      · trivial
  · show V E (wR D cy aa ad) 5 m1 11 [(0, .ref (aa 0)), (1, .int (iz (k0))), (2, .int (iz (s))), (3, .int (iz (up)))] [.int (iz (0)), .ref (aa 0)]
    rw [e20] at hq2
    refine v_iload_n C 1 dX11_range_11 rfl ?_
    refine v_callV (st := []) (n := 2) (q := 0) C [.int (iz (0)), .int (iz (k0))] (ct_StageRatiosModel_refusesPower C.2.2.2.2.2.2.1 m1 (0) (k0) (by first | decide | omega) (by first | assumption | omega) (by rw [e20]; exact ht01)) lR0 (eR0 _) rfl qw1508 qw16 qw1505 rfl rfl ⟨Nat.le_of_ble_eq_true rfl, Nat.le_of_ble_eq_true rfl⟩ (by decide +kernel) qw1507 qp63 rfl rfl (Nat.le_of_ble_eq_true rfl) dX11_range_12 (fun r m10 hq10 => ?_)
    obtain ⟨z10, rfl, hq10, rfl⟩ := hq10
    show V E (wR D cy aa ad) 5 m1 15 [(0, .ref (aa 0)), (1, .int (iz (k0))), (2, .int (iz (s))), (3, .int (iz (up)))] [.int (iz (z10))]
    rw [e20] at hq10
    have hzp : z10 = 0 ∨ z10 = 1 ∨ z10 = 2 := by rcases hq10 with y | ⟨-, y | y⟩ <;> omega
    refine v_istore (L1 := [(4, .int (iz (z10))), (0, .ref (aa 0)), (1, .int (iz (k0))), (2, .int (iz (s))), (3, .int (iz (up)))]) C dX11_range_15 (by decide) rfl ?_
    refine v_iload C 0 dX11_range_17 rfl ?_
    refine v_if_le (tgt := 29) C dX11_range_19 (by decide) (by omega) (fun c11 => ?_) (fun c11 => ?_)
    · have hpk : hsS (m 0 20) Rr s ∧ kPw k0 := by
        rcases hq10 with ⟨y, -⟩ | ⟨y, ⟨-, y2⟩ | ⟨y2, -⟩⟩
        · omega
        · first
            | exact ⟨hq2, y2⟩
            | (have := y.2; omega)
        · omega
      obtain ⟨hhs, hkp⟩ := hpk
      obtain ⟨hT1, hs0⟩ := id hhs
      obtain ⟨-, hg0⟩ := hT.resolve_left (by omega)
      have hg := fk2.rt hg0
      obtain ⟨⟨r11, r8, r9, r10, r12⟩, r1, r2, r6, hvd, hfo⟩ := id hg
      obtain ⟨hn, hF, hup, hlw, hX⟩ := id hvd
      refine v_aload_n C 1 dX11_range_29 rfl ?_
      refine v_iload_n C 2 dX11_range_30 rfl ?_
      refine v_iload_n C 3 dX11_range_31 rfl ?_
      refine v_callV (st := []) (n := 2) (q := 0) C [.int (iz (k0)), .int (iz (s))] (ct_StageRatiosModel_laysWays C.2.2.2.2.2.2.1 m1 (fa) (Af) (Bf) (Cf) (Rr) (Xx) (k0) (s) (by exact hg) (by exact hkp) (by omega)) lR0 (eR0 _) rfl qw1626 qw16 qw1623 rfl rfl ⟨Nat.le_of_ble_eq_true rfl, Nat.le_of_ble_eq_true rfl⟩ (by decide +kernel) qw1625 qp82 rfl rfl (Nat.le_of_ble_eq_true rfl) dX11_range_32 (fun r m12 hq12 => ?_)
      obtain ⟨rfl, hq12⟩ := hq12
      show V E (wR D cy aa ad) 5 m12 35 [(4, .int (iz (z10))), (0, .ref (aa 0)), (1, .int (iz (k0))), (2, .int (iz (s))), (3, .int (iz (up)))] []
      refine v_aload_n C 1 dX11_range_35 rfl ?_
      refine v_iload_n C 4 dX11_range_36 rfl ?_
      refine v_if_eq (tgt := 47) C dX11_range_37 (by decide) (by omega) (fun c13 => ?_) (fun c13 => ?_)
      · refine v_aload_n C 1 dX11_range_47 rfl ?_
        refine v_get C 0 45 lR0 (eR0 _) rfl inX11 (by decide) rfl qw1185 dX11_range_48 ?_
        refine v_callV (st := []) (n := 1) (q := 0) C [.int (iz (m12 0 45))] (ct_StageRatiosModel_good C.2.2.2.2.2.2.1 m12 (m12 0 45) ) lR0 (eR0 _) rfl qw1444 qw16 qw1441 rfl rfl ⟨Nat.le_of_ble_eq_true rfl, Nat.le_of_ble_eq_true rfl⟩ (by decide +kernel) qw1443 qp56 rfl rfl (Nat.le_of_ble_eq_true rfl) dX11_range_51 (fun r m14 hq14 => ?_)
        obtain ⟨z14, rfl, rfl, hq14⟩ := hq14
        show V E (wR D cy aa ad) 5 m14 54 [(4, .int (iz (z10))), (0, .ref (aa 0)), (1, .int (iz (k0))), (2, .int (iz (s))), (3, .int (iz (up)))] [.int (iz ((m12 0 45)))]
        refine v_iret C X rfl dX11_range_54 ⟨_, rfl, ?_, ?_⟩
        · rw [← hq14]
          refine RP.mk (fk2.tr (show FK _ m12 from ⟨fun j hj => hq12.2.2.2.1 j (by unfold CKj at hj; omega) (by unfold CKj at hj; omega) (by unfold CKj at hj; omega) (by unfold CKj at hj; omega) (by unfold CKj at hj; omega) (by unfold CKj at hj; omega), fun q hq => hq12.2.2.2.2 q (by omega) (by omega) (by omega) (by omega) (by omega) (by omega)⟩)) ?_ (by decide : (0 : Int) ≠ 4)
          have ky : ∀ c : Int, 0 ≤ c → c < 4913 → (pcA fa (Rr 5) (Rr 2) (Rr 3) (Xx 0) (loX Xx) (hiX Xx) k0 c ↔ cdA fa Rr Xx (loX Xx) (hiX Xx) k0 c) := fun c _ _ => pc_cd (fun h => in_wo hvd h)
          first
            | exact Or.inl ⟨hhs, hkp, rfl, fun y => by omega, fun y => hq12.2.1.cg ky (fun _ _ _ _ => rfl)⟩
            | exact Or.inl ⟨hhs, hkp, rfl, fun y => hq12.2.2.1.cg ky (fun _ _ _ _ => rfl), fun y => by omega⟩
        · trivial
      · refine v_aload_n C 1 dX11_range_40 rfl ?_
        refine v_get C 0 46 lR0 (eR0 _) rfl inX11 (by decide) rfl qw1186 dX11_range_41 ?_
        refine v_goto (tgt := 51) C dX11_range_44 (by decide) ?_
        refine v_callV (st := []) (n := 1) (q := 0) C [.int (iz (m12 0 46))] (ct_StageRatiosModel_good C.2.2.2.2.2.2.1 m12 (m12 0 46) ) lR0 (eR0 _) rfl qw1444 qw16 qw1441 rfl rfl ⟨Nat.le_of_ble_eq_true rfl, Nat.le_of_ble_eq_true rfl⟩ (by decide +kernel) qw1443 qp56 rfl rfl (Nat.le_of_ble_eq_true rfl) dX11_range_51 (fun r m15 hq15 => ?_)
        obtain ⟨z15, rfl, rfl, hq15⟩ := hq15
        show V E (wR D cy aa ad) 5 m15 54 [(4, .int (iz (z10))), (0, .ref (aa 0)), (1, .int (iz (k0))), (2, .int (iz (s))), (3, .int (iz (up)))] [.int (iz ((m12 0 46)))]
        refine v_iret C X rfl dX11_range_54 ⟨_, rfl, ?_, ?_⟩
        · rw [← hq15]
          refine RP.mk (fk2.tr (show FK _ m12 from ⟨fun j hj => hq12.2.2.2.1 j (by unfold CKj at hj; omega) (by unfold CKj at hj; omega) (by unfold CKj at hj; omega) (by unfold CKj at hj; omega) (by unfold CKj at hj; omega) (by unfold CKj at hj; omega), fun q hq => hq12.2.2.2.2 q (by omega) (by omega) (by omega) (by omega) (by omega) (by omega)⟩)) ?_ (by decide : (0 : Int) ≠ 4)
          have ky : ∀ c : Int, 0 ≤ c → c < 4913 → (pcA fa (Rr 5) (Rr 2) (Rr 3) (Xx 0) (loX Xx) (hiX Xx) k0 c ↔ cdA fa Rr Xx (loX Xx) (hiX Xx) k0 c) := fun c _ _ => pc_cd (fun h => in_wo hvd h)
          first
            | exact Or.inl ⟨hhs, hkp, rfl, fun y => by omega, fun y => hq12.2.1.cg ky (fun _ _ _ _ => rfl)⟩
            | exact Or.inl ⟨hhs, hkp, rfl, fun y => hq12.2.2.1.cg ky (fun _ _ _ _ => rfl), fun y => by omega⟩
        · trivial
    · refine v_aload_n C 1 dX11_range_22 rfl ?_
      refine v_iload C 0 dX11_range_23 rfl ?_
      refine v_callV (st := []) (n := 1) (q := 0) C [.int (iz (z10))] (ct_StageRatiosModel_refused C.2.2.2.2.2.2.1 m1 (z10) ) lR0 (eR0 _) rfl qw1340 qw16 qw1337 rfl rfl ⟨Nat.le_of_ble_eq_true rfl, Nat.le_of_ble_eq_true rfl⟩ (by decide +kernel) qw1339 qp36 rfl rfl (Nat.le_of_ble_eq_true rfl) dX11_range_25 (fun r m16 hq16 => ?_)
      obtain ⟨z16, rfl, rfl, hq16⟩ := hq16
      show V E (wR D cy aa ad) 5 m16 28 [(4, .int (iz (z10))), (0, .ref (aa 0)), (1, .int (iz (k0))), (2, .int (iz (s))), (3, .int (iz (up)))] [.int (iz (-1))]
      refine v_iret C X rfl dX11_range_28 ⟨_, rfl, ?_, ?_⟩
      · rw [← hq16]
        refine RP.mk fk2 ?_ (by omega)
        rcases hq10 with ⟨y, y2⟩ | ⟨y, ⟨y2, y3⟩ | ⟨y2, y3⟩⟩
        · rw [y]; exact Or.inr (Or.inr ⟨fun h => by first | exact hq2 h | exact y2 ⟨h.1, rfl⟩, rfl, rfl⟩)
        · omega
        · rw [y2]
          first
            | exact Or.inr (Or.inl ⟨hq2, y3, rfl, rfl⟩)
            | (have := y.2; omega)
      · trivial
