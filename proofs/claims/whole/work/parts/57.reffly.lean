set_option maxHeartbeats 4000000 in
set_option maxRecDepth 100000 in
theorem ct_StageRatiosModel_failsIn {lau : Launch} {D : va_G} {cy : Nat → ClassId} {aa ad : Nat → Nat} (hI : wI (wR D cy aa ad)) (m : Mem) (fa Af Bf Cf Rr Xx : Int → Int) (s w xs xt : Int) (hg : RT m fa Af Bf Cf Rr Xx) (hs : 0 ≤ s ∧ s < Rr 5) (hw : 1 ≤ w ∧ w ≤ 1000) (hxs : -2147483648 ≤ xs ∧ xs ≤ 2147483647) (hxt : -2147483648 ≤ xt ∧ xt ≤ 2147483647) : MT lau (wR D cy aa ad) yX11_failsIn cX11_failsIn 7 (some .int) ({ frames := 1, cells := 0, slots := 0, locals := 22 } : Room) m [.ref (aa 0), .int (iz (s)), .int (iz (w)), .int (iz (xs)), .int (iz (xt))] (Pi (fun z m' => flZ fa Af Bf Cf (Rr 6).toNat s (if s = xs then xt else 0) w = z ∧ m = m')) := by
  refine v_entry hI RX11 (by decide) rfl (Nat.le_of_ble_eq_true rfl) (fun E hE C X => ?_)
  subst hE
  show V E (wR D cy aa ad) 7 m 0 [(0, .ref (aa 0)), (1, .int (iz (s))), (2, .int (iz (w))), (3, .int (iz (xs))), (4, .int (iz (xt)))] []
  obtain ⟨⟨r11, r8, r9, r10, r12⟩, r1, r2, r6, hvd, hfo⟩ := id hg
  obtain ⟨hn, hF, hup, hlw, hX⟩ := id hvd
  obtain ⟨hpl, hnf, hfa⟩ := id hfo
  have hfs := hF s hs.1 hs.2
  have K16 : ∀ (e : Int) (he : e = if w = (if s = xs then xt else 0) then 1 else 0), V E (wR D cy aa ad) 7 m 16 [(0, .ref (aa 0)), (1, .int (iz (s))), (2, .int (iz (w))), (3, .int (iz (xs))), (4, .int (iz (xt)))] [.int (iz (e))] := by
    intro e  he
    have her : 0 ≤ e ∧ e ≤ 1 := by rw [he]; split <;> omega
    refine v_istore (L1 := [(5, .int (iz (e))), (0, .ref (aa 0)), (1, .int (iz (s))), (2, .int (iz (w))), (3, .int (iz (xs))), (4, .int (iz (xt)))]) C dX11_failsIn_16 (by decide) rfl ?_
    refine v_iconst (z := 0) C dX11_failsIn_18 rfl ?_
    refine v_istore (L1 := [(6, .int (iz (0))), (5, .int (iz (e))), (0, .ref (aa 0)), (1, .int (iz (s))), (2, .int (iz (w))), (3, .int (iz (xs))), (4, .int (iz (xt)))]) C dX11_failsIn_19 (by decide) rfl ?_
    have K21 : ∀ (nK : Nat) (z : Int) (i : Int) (hi : 0 ≤ i ∧ i ≤ Rr 6) (hz : z = e + faC Af Bf Cf s w i.toNat), (Rr 6 - i).toNat < nK → V E (wR D cy aa ad) 7 m 21 [(0, .ref (aa 0)), (1, .int (iz (s))), (2, .int (iz (w))), (3, .int (iz (xs))), (4, .int (iz (xt))), (5, .int (iz (z))), (6, .int (iz (i)))] [] := by
      intro nK
      induction nK with
      | zero => intro z i  hi hz hn; exact absurd hn (Nat.not_lt_zero _)
      | succ nK ih21 =>
        intro z i  hi hz hn21
        have hfr := faC_rng (A := Af) (B := Bf) (Cn := Cf) (s := s) (t := w) i.toNat (fun j j0 j1 => (hfa j j0 (by omega)).2.2)
        refine v_iload C 6 dX11_failsIn_21 rfl ?_
        refine v_aload_n C 0 dX11_failsIn_23 rfl ?_
        refine v_get C 0 12 lR0 (eR0 _) rfl inX11 (by decide) rfl qw1152 dX11_failsIn_24 ?_
        refine v_icmp_ge (tgt := 80) C dX11_failsIn_27 (by decide) (by omega) (by omega) (fun c1 => ?_) (fun c1 => ?_)
        · refine v_aload_n C 0 dX11_failsIn_80 rfl ?_
          refine v_iload_n C 1 dX11_failsIn_81 rfl ?_
          refine v_iconst (z := 0) C dX11_failsIn_82 rfl ?_
          refine v_callV (st := []) (n := 2) (q := 0) C [.int (iz (s)), .int (iz (0))] (ct_StageRatiosModel_told C.2.2.2.2.2.2.1 m (fa) (Af) (Bf) (Cf) (Rr) (Xx) (s) (0) (by first | assumption | omega) (by first | assumption | omega) (by first | assumption | omega)) lR0 (eR0 _) rfl qw1440 qw16 qw1437 rfl rfl ⟨Nat.le_of_ble_eq_true rfl, Nat.le_of_ble_eq_true rfl⟩ (by decide +kernel) qw1439 qp55 rfl rfl (Nat.le_of_ble_eq_true rfl) dX11_failsIn_83 (fun r m2 hq2 => ?_)
          obtain ⟨z2, rfl, rfl, rfl⟩ := hq2
          show V E (wR D cy aa ad) 7 m 86 [(0, .ref (aa 0)), (1, .int (iz (s))), (2, .int (iz (w))), (3, .int (iz (xs))), (4, .int (iz (xt))), (5, .int (iz (z))), (6, .int (iz (i)))] [.int (iz (fa (s * 9 + 0)))]
          refine v_iconst (z := 2) C dX11_failsIn_86 rfl ?_
          refine v_icmp_ne (tgt := 94) C dX11_failsIn_87 (by decide) (by omega) (by omega) (fun c3 => ?_) (fun c3 => ?_)
          · refine v_iload C 5 dX11_failsIn_94 rfl ?_
            refine v_iret C X rfl dX11_failsIn_96 ⟨_, rfl, ?_, ?_⟩
            · unfold flZ
              first
                | (rw [if_pos (by omega)])
                | (rw [if_neg (by omega), hz, ← he, show i.toNat = (Rr 6).toNat by omega]; omega)
            · rfl
          · refine v_iconst (z := 0) C dX11_failsIn_90 rfl ?_
            refine v_goto (tgt := 96) C dX11_failsIn_91 (by decide) ?_
            refine v_iret C X rfl dX11_failsIn_96 ⟨_, rfl, ?_, ?_⟩
            · unfold flZ
              first
                | (rw [if_pos (by omega)])
                | (rw [if_neg (by omega), hz, ← he, show i.toNat = (Rr 6).toNat by omega]; omega)
            · rfl
        · have K74 : ∀ (z2 : Int) (hz2 : z2 = e + faC Af Bf Cf s w (i + 1).toNat), V E (wR D cy aa ad) 7 m 74 [(0, .ref (aa 0)), (1, .int (iz (s))), (2, .int (iz (w))), (3, .int (iz (xs))), (4, .int (iz (xt))), (5, .int (iz (z2))), (6, .int (iz (i)))] [] := by
            intro z2  hz2
            refine v_iinc (L1 := [(6, .int (iz (i + 1))), (0, .ref (aa 0)), (1, .int (iz (s))), (2, .int (iz (w))), (3, .int (iz (xs))), (4, .int (iz (xt))), (5, .int (iz (z2)))]) C 6 dX11_failsIn_74 rfl (by decide) rfl ?_
            refine v_goto (tgt := 21) C dX11_failsIn_77 (by decide) ?_
            refine v_sub [1, 2, 3, 4, 5, 6, 0] rfl ?_
            exact ih21 (z2) (i + 1)  (by omega) (by exact hz2) (by omega)
          have y2 := r2 i (by omega) (by omega)
          have hfi := hfa i (by omega) (by omega)
          refine v_aload_n C 0 dX11_failsIn_30 rfl ?_
          refine v_get C 0 4 lR0 (eR0 _) rfl inX11 (by decide) rfl qw1144 dX11_failsIn_31 ?_
          refine v_iconst (z := 3) C dX11_failsIn_34 rfl ?_
          refine v_iload C 6 dX11_failsIn_35 rfl ?_
          refine v_imul C dX11_failsIn_37 ?_
          refine v_iald C 2 lR2 (eR2 _) (by decide) (by omega) dX11_failsIn_38 ?_
          refine v_iload_n C 1 dX11_failsIn_39 rfl ?_
          refine v_icmp_ne (tgt := 74) C dX11_failsIn_40 (by decide) (by omega) (by omega) (fun c4 => ?_) (fun c4 => ?_)
          · refine v_sub [0, 1, 2, 3, 4, 5, 6] rfl ?_
            exact K74  (z)  (by 
                            rw [show (i + 1).toNat = i.toNat + 1 by omega]
                            show _ = e + (faC Af Bf Cf s w i.toNat + ite _ _ _)
                            rw [show ((i.toNat : Nat) : Int) = i by omega]
                            first
                              | (rw [if_pos ⟨by omega, by omega⟩]; omega)
                              | (rw [if_neg (fun y => by omega)]; omega)
                          )
          · refine v_aload_n C 0 dX11_failsIn_43 rfl ?_
            refine v_get C 0 4 lR0 (eR0 _) rfl inX11 (by decide) rfl qw1144 dX11_failsIn_44 ?_
            refine v_iconst (z := 3) C dX11_failsIn_47 rfl ?_
            refine v_iload C 6 dX11_failsIn_48 rfl ?_
            refine v_imul C dX11_failsIn_50 ?_
            refine v_iconst (z := 1) C dX11_failsIn_51 rfl ?_
            refine v_iadd C dX11_failsIn_52 ?_
            refine v_iald C 2 lR2 (eR2 _) (by decide) (by omega) dX11_failsIn_53 ?_
            refine v_iload_n C 2 dX11_failsIn_54 rfl ?_
            refine v_icmp_ne (tgt := 74) C dX11_failsIn_55 (by decide) (by omega) (by omega) (fun c5 => ?_) (fun c5 => ?_)
            · refine v_sub [0, 1, 2, 3, 4, 5, 6] rfl ?_
              exact K74  (z)  (by 
                                rw [show (i + 1).toNat = i.toNat + 1 by omega]
                                show _ = e + (faC Af Bf Cf s w i.toNat + ite _ _ _)
                                rw [show ((i.toNat : Nat) : Int) = i by omega]
                                first
                                  | (rw [if_pos ⟨by omega, by omega⟩]; omega)
                                  | (rw [if_neg (fun y => by omega)]; omega)
                              )
            · refine v_iload C 5 dX11_failsIn_58 rfl ?_
              refine v_aload_n C 0 dX11_failsIn_60 rfl ?_
              refine v_get C 0 4 lR0 (eR0 _) rfl inX11 (by decide) rfl qw1144 dX11_failsIn_61 ?_
              refine v_iconst (z := 3) C dX11_failsIn_64 rfl ?_
              refine v_iload C 6 dX11_failsIn_65 rfl ?_
              refine v_imul C dX11_failsIn_67 ?_
              refine v_iconst (z := 2) C dX11_failsIn_68 rfl ?_
              refine v_iadd C dX11_failsIn_69 ?_
              refine v_iald C 2 lR2 (eR2 _) (by decide) (by omega) dX11_failsIn_70 ?_
              refine v_iadd C dX11_failsIn_71 ?_
              refine v_istore (L1 := [(5, .int (iz (z + (m 2 ((3 * i) + 2))))), (0, .ref (aa 0)), (1, .int (iz (s))), (2, .int (iz (w))), (3, .int (iz (xs))), (4, .int (iz (xt))), (6, .int (iz (i)))]) C dX11_failsIn_72 (by decide) rfl ?_
              refine v_sub [1, 2, 3, 4, 5, 0, 6] rfl ?_
              exact K74  (z + (m 2 ((3 * i) + 2)))  (by 
                                rw [show (i + 1).toNat = i.toNat + 1 by omega]
                                show _ = e + (faC Af Bf Cf s w i.toNat + ite _ _ _)
                                rw [show ((i.toNat : Nat) : Int) = i by omega]
                                first
                                  | (rw [if_pos ⟨by omega, by omega⟩]; omega)
                                  | (rw [if_neg (fun y => by omega)]; omega)
                              )
    refine v_sub [2, 3, 4, 5, 6, 1, 0] rfl ?_
    exact K21 _ (e) (0)  (by omega) (by show e = e + 0; omega) (Nat.lt_succ_self _)
  refine v_iload_n C 1 dX11_failsIn_0 rfl ?_
  refine v_iload_n C 3 dX11_failsIn_1 rfl ?_
  refine v_icmp_ne (tgt := 15) C dX11_failsIn_2 (by decide) (by omega) (by omega) (fun c6 => ?_) (fun c6 => ?_)
  · refine v_iconst (z := 0) C dX11_failsIn_15 rfl ?_
    refine v_sub [0, 1, 2, 3, 4] rfl ?_
    exact K16  (0)  (by 
            first
              | (rw [if_pos (by rw [if_pos (by omega)]; omega)])
              | (rw [if_neg (by rw [if_pos (by omega)]; omega)])
              | (rw [if_neg (by rw [if_neg (by omega)]; omega)])
          )
  · refine v_iload_n C 2 dX11_failsIn_5 rfl ?_
    refine v_iload C 4 dX11_failsIn_6 rfl ?_
    refine v_icmp_ne (tgt := 15) C dX11_failsIn_8 (by decide) (by omega) (by omega) (fun c7 => ?_) (fun c7 => ?_)
    · refine v_iconst (z := 0) C dX11_failsIn_15 rfl ?_
      refine v_sub [0, 1, 2, 3, 4] rfl ?_
      exact K16  (0)  (by 
                first
                  | (rw [if_pos (by rw [if_pos (by omega)]; omega)])
                  | (rw [if_neg (by rw [if_pos (by omega)]; omega)])
                  | (rw [if_neg (by rw [if_neg (by omega)]; omega)])
              )
    · refine v_iconst (z := 1) C dX11_failsIn_11 rfl ?_
      refine v_goto (tgt := 16) C dX11_failsIn_12 (by decide) ?_
      refine v_sub [0, 1, 2, 3, 4] rfl ?_
      exact K16  (1)  (by 
                first
                  | (rw [if_pos (by rw [if_pos (by omega)]; omega)])
                  | (rw [if_neg (by rw [if_pos (by omega)]; omega)])
                  | (rw [if_neg (by rw [if_neg (by omega)]; omega)])
              )

set_option maxHeartbeats 4000000 in
set_option maxRecDepth 100000 in
theorem ct_StageRatiosModel_flies {lau : Launch} {D : va_G} {cy : Nat → ClassId} {aa ad : Nat → Nat} (hI : wI (wR D cy aa ad)) (m : Mem) (fa Af Bf Cf Rr Xx : Int → Int) (xs yt xt : Int) (hg : RT m fa Af Bf Cf Rr Xx) (hxs : -2147483648 ≤ xs ∧ xs ≤ 2147483647) (hyt : -2147483648 ≤ yt ∧ yt ≤ 2147483647) (hxt : xt = yt ∨ xs = -1) : MT lau (wR D cy aa ad) yX11_flies cX11_flies 10 (none) ({ frames := 3, cells := 0, slots := 0, locals := 67 } : Room) m [.ref (aa 0), .int (iz (xs)), .int (iz (yt))] (Pv (fun m' => TkR m' (ftl fa Af Bf Cf Rr Xx xs xt) ∧ m' 0 59 = drA (flS fa Af Bf Cf Rr Xx xs xt) (Rr 5).toNat ∧ m' 0 60 = spA fa (flS fa Af Bf Cf Rr Xx xs xt) (Rr 5).toNat ∧ DT m' (Rr 5) (Xx 0) (uX Xx) ∧ (∀ j : Int, j ≠ 34 → j ≠ 58 → j ≠ 59 → j ≠ 60 → m' 0 j = m 0 j) ∧ (∀ q : Nat, q ≠ 0 → q ≠ 9 → q ≠ 20 → q ≠ 21 → q ≠ 22 → q ≠ 23 → q ≠ 24 → q ≠ 25 → m' q = m q))) := by
  refine v_entry hI RX11 (by decide) rfl (Nat.le_of_ble_eq_true rfl) (fun E hE C X => ?_)
  subst hE
  show V E (wR D cy aa ad) 10 m 0 [(0, .ref (aa 0)), (1, .int (iz (xs))), (2, .int (iz (yt)))] []
  obtain ⟨⟨r11, r8, r9, r10, r12⟩, r1, r2, r6, hvd, hfo⟩ := id hg
  obtain ⟨hn, hF, hup, hlw, hX⟩ := id hvd
  obtain ⟨hpl, hnf, hfa⟩ := id hfo
  obtain ⟨SF, hSF⟩ : ∃ SF, SF = (flS fa Af Bf Cf Rr Xx xs xt) := ⟨_, rfl⟩
  unfold ftl at X
  rw [← hSF] at X
  have hlen : ∀ s : Int, 0 ≤ s → s < Rr 5 → ((SF s).1.length : Int) ≤ 17 := fun s h0 h1 => by rw [hSF]; exact stA_len hF (fun i a b => (hfa i a (by omega)).2.2) hvd.ut h0 h1
  refine v_aload_n C 0 dX11_flies_0 rfl ?_
  refine v_callV (st := []) (n := 0) (q := 0) C [] (ct_StageRatiosModel_laysOwn C.2.2.2.2.2.2.1 m (fa) (Af) (Bf) (Cf) (Rr) (Xx) (by first | assumption | omega)) lR0 (eR0 _) rfl qw1476 qw16 qw1473 rfl rfl ⟨Nat.le_of_ble_eq_true rfl, Nat.le_of_ble_eq_true rfl⟩ (by decide +kernel) qw1475 qp59 rfl rfl (Nat.le_of_ble_eq_true rfl) dX11_flies_1 (fun r m1 hq1 => ?_)
  obtain ⟨rfl, hq1⟩ := hq1
  show V E (wR D cy aa ad) 10 m1 4 [(0, .ref (aa 0)), (1, .int (iz (xs))), (2, .int (iz (yt)))] []
  have hg1 : RT m1 fa Af Bf Cf Rr Xx := hg.fr (fun j hj => hq1.2.1 j (by unfold CKj at hj; omega)) (hq1.2.2 1 (by decide) (by decide)) (hq1.2.2 2 (by decide) (by decide)) (hq1.2.2 6 (by decide) (by decide))
  have hd1 := hq1.1
  have hDv := hd1.2.2
  refine v_aload_n C 0 dX11_flies_4 rfl ?_
  refine v_iconst (z := 0) C dX11_flies_5 rfl ?_
  refine v_put C 0 58 (0) 58 rfl lR0 (eR0 _) rfl inX11 tyX11 tyX11_ok nmX11 (by decide) qw1198 rfl rfl rfl (Nat.le_of_ble_eq_true rfl) (by rw [mup_r]; exact (eR0 _)) dX11_flies_6 (fun m2 em2 => ?_)
  refine v_aload_n C 0 dX11_flies_9 rfl ?_
  refine v_iconst (z := 0) C dX11_flies_10 rfl ?_
  refine v_put C 0 59 (0) 59 rfl lR0 (eR0 _) rfl inX11 tyX11 tyX11_ok nmX11 (by decide) qw1199 rfl rfl rfl (Nat.le_of_ble_eq_true rfl) (by rw [mup_r]; exact (eR0 _)) dX11_flies_11 (fun m3 em3 => ?_)
  refine v_aload_n C 0 dX11_flies_14 rfl ?_
  refine v_iconst (z := 0) C dX11_flies_15 rfl ?_
  refine v_put C 0 60 (0) 60 rfl lR0 (eR0 _) rfl inX11 tyX11 tyX11_ok nmX11 (by decide) qw1200 rfl rfl rfl (Nat.le_of_ble_eq_true rfl) (by rw [mup_r]; exact (eR0 _)) dX11_flies_16 (fun m4 em4 => ?_)
  have h0s : ∀ j : Int, j ≠ 58 → j ≠ 59 → j ≠ 60 → m4 0 j = m1 0 j := fun j a b c => by rw [em4, mup_j _ _ c, em3, mup_j _ _ b, em2, mup_j _ _ a]
  have hfs_ : ∀ q : Nat, q ≠ 0 → m4 q = m1 q := fun q h => by rw [em4, mup_k _ _ _ h, em3, mup_k _ _ _ h, em2, mup_k _ _ _ h]
  have hg_s : RT m4 fa Af Bf Cf Rr Xx := hg1.fr (fun j hj => h0s j (by unfold CKj at hj; omega) (by unfold CKj at hj; omega) (by unfold CKj at hj; omega)) (hfs_ 1 (by decide)) (hfs_ 2 (by decide)) (hfs_ 6 (by decide))
  have hd_s : DT m4 (Rr 5) (Xx 0) (uX Xx) := hd1.fr (h0s 34 (by decide) (by decide) (by decide)) (hfs_ 9 (by decide))
  refine v_aload_n C 0 dX11_flies_19 rfl ?_
  refine v_iconst (z := 0) C dX11_flies_20 rfl ?_
  refine v_callV (st := []) (n := 1) (q := 0) C [.int (iz (0))] (ct_StageRatiosModel_start C.2.2.2.2.2.2.1 m4 (fa) (Af) (Bf) (Cf) (Rr) (Xx) (Xx 0) (uX Xx) (0) (by exact hg_s) (by exact hd_s) (by first | assumption | omega)) lR0 (eR0 _) rfl qw1480 qw16 qw1477 rfl rfl ⟨Nat.le_of_ble_eq_true rfl, Nat.le_of_ble_eq_true rfl⟩ (by decide +kernel) qw1479 qp60 rfl rfl (Nat.le_of_ble_eq_true rfl) dX11_flies_21 (fun r m5 hq5 => ?_)
  obtain ⟨z5, rfl, rfl, rfl⟩ := hq5
  show V E (wR D cy aa ad) 10 m4 24 [(0, .ref (aa 0)), (1, .int (iz (xs))), (2, .int (iz (yt)))] [.int (iz (stZ fa (Rr 5) (Xx 0) (uX Xx) 0))]
  refine v_istore_n (L1 := [(3, .int (iz (stZ fa (Rr 5) (Xx 0) (uX Xx) 0))), (0, .ref (aa 0)), (1, .int (iz (xs))), (2, .int (iz (yt)))]) C dX11_flies_24 (by decide) rfl ?_
  refine v_iconst (z := 0) C dX11_flies_25 rfl ?_
  refine v_istore (L1 := [(4, .int (iz (0))), (3, .int (iz (stZ fa (Rr 5) (Xx 0) (uX Xx) 0))), (0, .ref (aa 0)), (1, .int (iz (xs))), (2, .int (iz (yt)))]) C dX11_flies_26 (by decide) rfl ?_
  have K28 : ∀ (nK : Nat) (y : Int) (i : Int) (mL : Mem) (hi : 0 ≤ i ∧ i ≤ Rr 5) (hy : y = stX fa Rr Xx i) (hT : TkR mL (tkA SF i.toNat)) (h59 : mL 0 59 = drA SF i.toNat) (h60 : mL 0 60 = spA fa SF i.toNat) (h0 : (∀ j : Int, j ≠ 58 → j ≠ 59 → j ≠ 60 → mL 0 j = m1 0 j)) (hf : (∀ q : Nat, q ≠ 0 → q ≠ 20 → q ≠ 21 → q ≠ 22 → q ≠ 23 → q ≠ 24 → q ≠ 25 → mL q = m1 q)), (Rr 5 - i).toNat < nK → V E (wR D cy aa ad) 10 mL 28 [(0, .ref (aa 0)), (1, .int (iz (xs))), (2, .int (iz (yt))), (3, .int (iz (y))), (4, .int (iz (i)))] [] := by
    intro nK
    induction nK with
    | zero => intro y i mL hi hy hT h59 h60 h0 hf hn; exact absurd hn (Nat.not_lt_zero _)
    | succ nK ih28 =>
      intro y i mL hi hy hT h59 h60 h0 hf hn28
      have hg_mL : RT mL fa Af Bf Cf Rr Xx := hg1.fr (fun j hj => h0 j (by unfold CKj at hj; omega) (by unfold CKj at hj; omega) (by unfold CKj at hj; omega)) (hf 1 (by decide) (by decide) (by decide) (by decide) (by decide) (by decide) (by decide)) (hf 2 (by decide) (by decide) (by decide) (by decide) (by decide) (by decide) (by decide)) (hf 6 (by decide) (by decide) (by decide) (by decide) (by decide) (by decide) (by decide))
      have hd_mL : DT mL (Rr 5) (Xx 0) (uX Xx) := hd1.fr (h0 34 (by decide) (by decide) (by decide)) (hf 9 (by decide) (by decide) (by decide) (by decide) (by decide) (by decide) (by decide))
      have l11 : mL 0 11 = Rr 5 := hg_mL.1.1
      have e1 : (i + 1).toNat = i.toNat + 1 := by omega
      have eN : ((i.toNat : Nat) : Int) = i := by omega
      have hTl := tkA_len (S := SF) (n := i.toNat) (fun s h0 h1 => hlen s h0 (by omega))
      refine v_iload C 4 dX11_flies_28 rfl ?_
      refine v_aload_n C 0 dX11_flies_30 rfl ?_
      refine v_get C 0 11 lR0 (eR0 _) rfl inX11 (by decide) rfl qw1151 dX11_flies_31 ?_
      refine v_icmp_ge (tgt := 284) C dX11_flies_34 (by decide) (by omega) (by omega) (fun c6 => ?_) (fun c6 => ?_)
      · refine v_vret C X dX11_flies_284 ⟨rfl, ?_⟩
        have ei : i.toNat = (Rr 5).toNat := by omega
        rw [ei] at hT h59 h60
        exact ⟨hT, h59, h60, hd_mL, fun j a b c d => by rw [h0 j b c d]; exact hq1.2.1 j a, fun q a b c d e f g h => by rw [hf q a c d e f g h]; exact hq1.2.2 q a b⟩
      · have e9 : mL 9 i = uX Xx i := hd_mL.2.1 i (by omega) (by omega)
        have hui := hDv.2.2 i (by omega) (by omega)
        have hfi := hF i (by omega) (by omega)
        have hut := hvd.ut i (by omega) (by omega)
        obtain ⟨fl, hfd⟩ : ∃ fl, fl = flZ fa Af Bf Cf (Rr 6).toNat i (if i = xs then xt else 0) := ⟨_, rfl⟩
        have hfl0 : ∀ t, 0 ≤ fl t := fun t => by rw [hfd]; exact flZ_0 (fun j a b => (hfa j a (by omega)).2.2) t
        have hflr : ∀ t, fl t ≤ 60 := fun t => by
          rw [hfd]; unfold flZ
          have := faC_rng (A := Af) (B := Bf) (Cn := Cf) (s := i) (t := t) (Rr 6).toNat (fun j a b => (hfa j a (by omega)).2.2)
          split
          · omega
          · split <;> omega
        obtain ⟨R, hR⟩ : ∃ R, R = SF i := ⟨_, rfl⟩
        have hRb : R = buF i fl (fa (i * 9 + 6)) (fa (i * 9 + 5)) 18 1 (uX Xx i) (fa (i * 9 + 4)) (stX fa Rr Xx i) := by rw [hR, hSF, hfd]; rfl
        have hxx : (if i = xs then yt else 0) = (if i = xs then xt else 0) := by
          by_cases c : i = xs
          · rw [if_pos c, if_pos c]; omega
          · rw [if_neg c, if_neg c]
        refine v_aload_n C 0 dX11_flies_37 rfl ?_
        refine v_get C 0 33 lR0 (eR0 _) rfl inX11 (by decide) rfl qw1173 dX11_flies_38 ?_
        refine v_iload C 4 dX11_flies_41 rfl ?_
        refine v_iald C 9 lR9 (eR9 _) (by decide) (by omega) dX11_flies_43 ?_
        refine v_istore (L1 := [(5, .int (iz (mL 9 i))), (0, .ref (aa 0)), (1, .int (iz (xs))), (2, .int (iz (yt))), (3, .int (iz (y))), (4, .int (iz (i)))]) C dX11_flies_44 (by decide) rfl ?_
        refine v_aload_n C 1 dX11_flies_46 rfl ?_
        refine v_iload C 5 dX11_flies_47 rfl ?_
        refine v_iconst (z := 4) C dX11_flies_49 rfl ?_
        refine v_callV (st := []) (n := 2) (q := 0) C [.int (iz (i)), .int (iz (4))] (ct_StageRatiosModel_told C.2.2.2.2.2.2.1 mL (fa) (Af) (Bf) (Cf) (Rr) (Xx) (i) (4) (by exact hg_mL) (by first | assumption | omega) (by first | assumption | omega)) lR0 (eR0 _) rfl qw1440 qw16 qw1437 rfl rfl ⟨Nat.le_of_ble_eq_true rfl, Nat.le_of_ble_eq_true rfl⟩ (by decide +kernel) qw1439 qp55 rfl rfl (Nat.le_of_ble_eq_true rfl) dX11_flies_50 (fun r m7 hq7 => ?_)
        obtain ⟨z7, rfl, rfl, rfl⟩ := hq7
        show V E (wR D cy aa ad) 10 mL 53 [(5, .int (iz (mL 9 i))), (0, .ref (aa 0)), (1, .int (iz (xs))), (2, .int (iz (yt))), (3, .int (iz (y))), (4, .int (iz (i)))] [.int (iz (fa (i * 9 + 4)))]
        refine v_istore (L1 := [(6, .int (iz (fa (i * 9 + 4)))), (5, .int (iz (mL 9 i))), (0, .ref (aa 0)), (1, .int (iz (xs))), (2, .int (iz (yt))), (3, .int (iz (y))), (4, .int (iz (i)))]) C dX11_flies_53 (by decide) rfl ?_
        refine v_iconst (z := 0) C dX11_flies_55 rfl ?_
        refine v_istore (L1 := [(7, .int (iz (0))), (6, .int (iz (fa (i * 9 + 4)))), (5, .int (iz (mL 9 i))), (0, .ref (aa 0)), (1, .int (iz (xs))), (2, .int (iz (yt))), (3, .int (iz (y))), (4, .int (iz (i)))]) C dX11_flies_56 (by decide) rfl ?_
        have K58 : ∀ (nK : Nat) (fy : Int) (le : Int) (en : Int) (ow : Int) (n : Nat) (acc : List Tk) (mI : Mem) (hB : acc ++ (buF i fl (fa (i * 9 + 6)) (fa (i * 9 + 5)) n (ow + 1) le en fy).1 = R.1 ∧ (buF i fl (fa (i * 9 + 6)) (fa (i * 9 + 5)) n (ow + 1) le en fy).2 = R.2) (hT2 : TkR mI (tkA SF i.toNat ++ acc)) (hr : ((0 ≤ le ∧ le ≤ 16) ∧ (0 ≤ en ∧ en ≤ 9) ∧ 0 ≤ ow ∧ ow + n = 18 ∧ (ow + le ≤ 16 ∨ (en = 0 ∧ ow + le ≤ 17)) ∧ (acc.length : Int) = ow) ∧ fy - le = stX fa Rr Xx i - uX Xx i ∧ fy ≤ 400) (h592 : mI 0 59 = drA SF i.toNat) (h602 : mI 0 60 = spA fa SF i.toNat + (fa (i * 9 + 4) - en)) (h02 : (∀ j : Int, j ≠ 58 → j ≠ 59 → j ≠ 60 → mI 0 j = m1 0 j)) (hf2 : (∀ q : Nat, q ≠ 0 → q ≠ 20 → q ≠ 21 → q ≠ 22 → q ≠ 23 → q ≠ 24 → q ≠ 25 → mI q = m1 q)), (18 - ow).toNat < nK → V E (wR D cy aa ad) 10 mI 58 [(0, .ref (aa 0)), (1, .int (iz (xs))), (2, .int (iz (yt))), (3, .int (iz (fy))), (4, .int (iz (i))), (5, .int (iz (le))), (6, .int (iz (en))), (7, .int (iz (ow)))] [] := by
          intro nK
          induction nK with
          | zero => intro fy le en ow n acc mI hB hT2 hr h592 h602 h02 hf2 hn; exact absurd hn (Nat.not_lt_zero _)
          | succ nK ih58 =>
            intro fy le en ow n acc mI hB hT2 hr h592 h602 h02 hf2 hn58
            have hg_mI : RT mI fa Af Bf Cf Rr Xx := hg1.fr (fun j hj => h02 j (by unfold CKj at hj; omega) (by unfold CKj at hj; omega) (by unfold CKj at hj; omega)) (hf2 1 (by decide) (by decide) (by decide) (by decide) (by decide) (by decide) (by decide)) (hf2 2 (by decide) (by decide) (by decide) (by decide) (by decide) (by decide) (by decide)) (hf2 6 (by decide) (by decide) (by decide) (by decide) (by decide) (by decide) (by decide))
            have hd_mI : DT mI (Rr 5) (Xx 0) (uX Xx) := hd1.fr (h02 34 (by decide) (by decide) (by decide)) (hf2 9 (by decide) (by decide) (by decide) (by decide) (by decide) (by decide) (by decide))
            have h58 := hT2.1
            have hlA : ((tkA SF i.toNat ++ acc).length : Int) = (tkA SF i.toNat).length + acc.length := by rw [List.length_append]; omega
            refine v_iload C 5 dX11_flies_58 rfl ?_
            refine v_if_le (tgt := 248) C dX11_flies_60 (by decide) (by omega) (fun c8 => ?_) (fun c8 => ?_)
            · have hBe : buF i fl (fa (i * 9 + 6)) (fa (i * 9 + 5)) n (ow + 1) le en fy = ([], le, en, fy) := buF_e (by omega)
              rw [hBe] at hB
              have hB1 : acc = R.1 := by rw [← hB.1]; exact (List.append_nil _).symm
              have hB2 : R.2 = (le, en, fy) := hB.2.symm
              have r2_ : R.2.1 = le ∧ R.2.2.1 = en ∧ R.2.2.2 = fy := by rw [hB2]; exact ⟨rfl, rfl, rfl⟩
              refine v_aload_n C 0 dX11_flies_248 rfl ?_
              refine v_dup C dX11_flies_249 rfl ?_
              refine v_get C 0 59 lR0 (eR0 _) rfl inX11 (by decide) rfl qw1199 dX11_flies_250 ?_
              refine v_iload C 5 dX11_flies_253 rfl ?_
              refine v_iadd C dX11_flies_255 ?_
              refine v_put C 0 59 ((mI 0 59) + le) 59 rfl lR0 (eR0 _) rfl inX11 tyX11 tyX11_ok nmX11 (by decide) qw1199 rfl rfl rfl (Nat.le_of_ble_eq_true rfl) (by rw [mup_r]; exact (eR0 _)) dX11_flies_256 (fun m9 em9 => ?_)
              have h0d : ∀ j : Int, j ≠ 59 → m9 0 j = mI 0 j := fun j h => by rw [em9, mup_j _ _ h]
              have hqd : ∀ q : Nat, q ≠ 0 → m9 q = mI q := fun q h => by rw [em9, mup_k _ _ _ h]
              have hg256 : RT m9 fa Af Bf Cf Rr Xx := hg_mI.fr (fun j hj => h0d j (by unfold CKj at hj; omega)) (hqd 1 (by decide)) (hqd 2 (by decide)) (hqd 6 (by decide))
              have e9d : m9 9 i = uX Xx i := by rw [hqd 9 (by decide)]; exact hd_mI.2.1 i (by omega) (by omega)
              refine v_iload_n C 3 dX11_flies_259 rfl ?_
              refine v_iload C 5 dX11_flies_260 rfl ?_
              refine v_aload_n C 0 dX11_flies_262 rfl ?_
              refine v_iload C 4 dX11_flies_263 rfl ?_
              refine v_aload_n C 0 dX11_flies_265 rfl ?_
              refine v_get C 0 33 lR0 (eR0 _) rfl inX11 (by decide) rfl qw1173 dX11_flies_266 ?_
              refine v_iload C 4 dX11_flies_269 rfl ?_
              refine v_iald C 9 lR9 (eR9 _) (by decide) (by omega) dX11_flies_271 ?_
              refine v_callV (st := [.int (iz (le)), .int (iz (fy))]) (n := 2) (q := 0) C [.int (iz (i)), .int (iz (m9 9 i))] (ct_StageRatiosModel_shell C.2.2.2.2.2.2.1 m9 (fa) (Af) (Bf) (Cf) (Rr) (Xx) (i) (m9 9 i) (by exact hg256) (by first | assumption | omega) (by rw [e9d]; exact hui)) lR0 (eR0 _) rfl qw1468 qw16 qw1465 rfl rfl ⟨Nat.le_of_ble_eq_true rfl, Nat.le_of_ble_eq_true rfl⟩ (by decide +kernel) qw1467 qp58 rfl rfl (Nat.le_of_ble_eq_true rfl) dX11_flies_272 (fun r m10 hq10 => ?_)
              obtain ⟨z10, rfl, rfl, rfl⟩ := hq10
              show V E (wR D cy aa ad) 10 m9 275 [(0, .ref (aa 0)), (1, .int (iz (xs))), (2, .int (iz (yt))), (3, .int (iz (fy))), (4, .int (iz (i))), (5, .int (iz (le))), (6, .int (iz (en))), (7, .int (iz (ow)))] [.int (iz (shZ fa i (m9 9 i))), .int (iz (le)), .int (iz (fy))]
              refine v_iadd C dX11_flies_275 ?_
              refine v_isub C dX11_flies_276 ?_
              refine v_istore_n (L1 := [(3, .int (iz (fy - (le + (shZ fa i (m9 9 i)))))), (0, .ref (aa 0)), (1, .int (iz (xs))), (2, .int (iz (yt))), (4, .int (iz (i))), (5, .int (iz (le))), (6, .int (iz (en))), (7, .int (iz (ow)))]) C dX11_flies_277 (by decide) rfl ?_
              refine v_iinc (L1 := [(4, .int (iz (i + 1))), (3, .int (iz (fy - (le + (shZ fa i (m9 9 i)))))), (0, .ref (aa 0)), (1, .int (iz (xs))), (2, .int (iz (yt))), (5, .int (iz (le))), (6, .int (iz (en))), (7, .int (iz (ow)))]) C 4 dX11_flies_278 rfl (by decide) rfl ?_
              refine v_goto (tgt := 28) C dX11_flies_281 (by decide) ?_
              refine v_sub [2, 3, 4, 1, 0] rfl ?_
              exact ih28 (fy - (le + (shZ fa i (m9 9 i)))) (i + 1) m9 (by omega) (by 
                                rw [e9d]
                                have y1 := stZ_s (fa := fa) (P := Xx 0) (U := uX Xx) (show i < Rr 5 by omega)
                                unfold stX at hr ⊢; omega
                              ) (by rw [e1]; show TkR _ (tkA SF i.toNat ++ (SF ((i.toNat : Nat) : Int)).1); rw [eN, ← hR, ← hB1]; exact hT2.fr (h0d 58 (by decide)) (hqd 20 (by decide)) (hqd 21 (by decide)) (hqd 22 (by decide)) (hqd 23 (by decide)) (hqd 24 (by decide)) (hqd 25 (by decide))) (by rw [e1]; show _ = drA SF i.toNat + (SF ((i.toNat : Nat) : Int)).2.1; rw [eN, ← hR, r2_.1, em9, mup_s, h592]) (by rw [e1]; show _ = spA fa SF i.toNat + (fa (((i.toNat : Nat) : Int) * 9 + 4) - (SF ((i.toNat : Nat) : Int)).2.2.1); rw [eN, ← hR, r2_.2.1, h0d 60 (by decide), h602]) (by intro j a b c; rw [h0d j b]; exact h02 j a b c) (by intro q a b c d e f g; rw [hqd q a]; exact hf2 q a b c d e f g) (by omega)
            · refine v_iload C 6 dX11_flies_63 rfl ?_
              refine v_if_le (tgt := 248) C dX11_flies_65 (by decide) (by omega) (fun c11 => ?_) (fun c11 => ?_)
              · have hBe : buF i fl (fa (i * 9 + 6)) (fa (i * 9 + 5)) n (ow + 1) le en fy = ([], le, en, fy) := buF_e (by omega)
                rw [hBe] at hB
                have hB1 : acc = R.1 := by rw [← hB.1]; exact (List.append_nil _).symm
                have hB2 : R.2 = (le, en, fy) := hB.2.symm
                have r2_ : R.2.1 = le ∧ R.2.2.1 = en ∧ R.2.2.2 = fy := by rw [hB2]; exact ⟨rfl, rfl, rfl⟩
                refine v_aload_n C 0 dX11_flies_248 rfl ?_
                refine v_dup C dX11_flies_249 rfl ?_
                refine v_get C 0 59 lR0 (eR0 _) rfl inX11 (by decide) rfl qw1199 dX11_flies_250 ?_
                refine v_iload C 5 dX11_flies_253 rfl ?_
                refine v_iadd C dX11_flies_255 ?_
                refine v_put C 0 59 ((mI 0 59) + le) 59 rfl lR0 (eR0 _) rfl inX11 tyX11 tyX11_ok nmX11 (by decide) qw1199 rfl rfl rfl (Nat.le_of_ble_eq_true rfl) (by rw [mup_r]; exact (eR0 _)) dX11_flies_256 (fun m12 em12 => ?_)
                have h0d : ∀ j : Int, j ≠ 59 → m12 0 j = mI 0 j := fun j h => by rw [em12, mup_j _ _ h]
                have hqd : ∀ q : Nat, q ≠ 0 → m12 q = mI q := fun q h => by rw [em12, mup_k _ _ _ h]
                have hg256 : RT m12 fa Af Bf Cf Rr Xx := hg_mI.fr (fun j hj => h0d j (by unfold CKj at hj; omega)) (hqd 1 (by decide)) (hqd 2 (by decide)) (hqd 6 (by decide))
                have e9d : m12 9 i = uX Xx i := by rw [hqd 9 (by decide)]; exact hd_mI.2.1 i (by omega) (by omega)
                refine v_iload_n C 3 dX11_flies_259 rfl ?_
                refine v_iload C 5 dX11_flies_260 rfl ?_
                refine v_aload_n C 0 dX11_flies_262 rfl ?_
                refine v_iload C 4 dX11_flies_263 rfl ?_
                refine v_aload_n C 0 dX11_flies_265 rfl ?_
                refine v_get C 0 33 lR0 (eR0 _) rfl inX11 (by decide) rfl qw1173 dX11_flies_266 ?_
                refine v_iload C 4 dX11_flies_269 rfl ?_
                refine v_iald C 9 lR9 (eR9 _) (by decide) (by omega) dX11_flies_271 ?_
                refine v_callV (st := [.int (iz (le)), .int (iz (fy))]) (n := 2) (q := 0) C [.int (iz (i)), .int (iz (m12 9 i))] (ct_StageRatiosModel_shell C.2.2.2.2.2.2.1 m12 (fa) (Af) (Bf) (Cf) (Rr) (Xx) (i) (m12 9 i) (by exact hg256) (by first | assumption | omega) (by rw [e9d]; exact hui)) lR0 (eR0 _) rfl qw1468 qw16 qw1465 rfl rfl ⟨Nat.le_of_ble_eq_true rfl, Nat.le_of_ble_eq_true rfl⟩ (by decide +kernel) qw1467 qp58 rfl rfl (Nat.le_of_ble_eq_true rfl) dX11_flies_272 (fun r m13 hq13 => ?_)
                obtain ⟨z13, rfl, rfl, rfl⟩ := hq13
                show V E (wR D cy aa ad) 10 m12 275 [(0, .ref (aa 0)), (1, .int (iz (xs))), (2, .int (iz (yt))), (3, .int (iz (fy))), (4, .int (iz (i))), (5, .int (iz (le))), (6, .int (iz (en))), (7, .int (iz (ow)))] [.int (iz (shZ fa i (m12 9 i))), .int (iz (le)), .int (iz (fy))]
                refine v_iadd C dX11_flies_275 ?_
                refine v_isub C dX11_flies_276 ?_
                refine v_istore_n (L1 := [(3, .int (iz (fy - (le + (shZ fa i (m12 9 i)))))), (0, .ref (aa 0)), (1, .int (iz (xs))), (2, .int (iz (yt))), (4, .int (iz (i))), (5, .int (iz (le))), (6, .int (iz (en))), (7, .int (iz (ow)))]) C dX11_flies_277 (by decide) rfl ?_
                refine v_iinc (L1 := [(4, .int (iz (i + 1))), (3, .int (iz (fy - (le + (shZ fa i (m12 9 i)))))), (0, .ref (aa 0)), (1, .int (iz (xs))), (2, .int (iz (yt))), (5, .int (iz (le))), (6, .int (iz (en))), (7, .int (iz (ow)))]) C 4 dX11_flies_278 rfl (by decide) rfl ?_
                refine v_goto (tgt := 28) C dX11_flies_281 (by decide) ?_
                refine v_sub [2, 3, 4, 1, 0] rfl ?_
                exact ih28 (fy - (le + (shZ fa i (m12 9 i)))) (i + 1) m12 (by omega) (by 
                                    rw [e9d]
                                    have y1 := stZ_s (fa := fa) (P := Xx 0) (U := uX Xx) (show i < Rr 5 by omega)
                                    unfold stX at hr ⊢; omega
                                  ) (by rw [e1]; show TkR _ (tkA SF i.toNat ++ (SF ((i.toNat : Nat) : Int)).1); rw [eN, ← hR, ← hB1]; exact hT2.fr (h0d 58 (by decide)) (hqd 20 (by decide)) (hqd 21 (by decide)) (hqd 22 (by decide)) (hqd 23 (by decide)) (hqd 24 (by decide)) (hqd 25 (by decide))) (by rw [e1]; show _ = drA SF i.toNat + (SF ((i.toNat : Nat) : Int)).2.1; rw [eN, ← hR, r2_.1, em12, mup_s, h592]) (by rw [e1]; show _ = spA fa SF i.toNat + (fa (((i.toNat : Nat) : Int) * 9 + 4) - (SF ((i.toNat : Nat) : Int)).2.2.1); rw [eN, ← hR, r2_.2.1, h0d 60 (by decide), h602]) (by intro j a b c; rw [h0d j b]; exact h02 j a b c) (by intro q a b c d e f g; rw [hqd q a]; exact hf2 q a b c d e f g) (by omega)
              · refine v_iinc (L1 := [(7, .int (iz (ow + 1))), (0, .ref (aa 0)), (1, .int (iz (xs))), (2, .int (iz (yt))), (3, .int (iz (fy))), (4, .int (iz (i))), (5, .int (iz (le))), (6, .int (iz (en)))]) C 7 dX11_flies_68 rfl (by decide) rfl ?_
                refine v_aload_n C 1 dX11_flies_71 rfl ?_
                refine v_iload C 5 dX11_flies_72 rfl ?_
                refine v_iload C 0 dX11_flies_74 rfl ?_
                refine v_iload_n C 2 dX11_flies_76 rfl ?_
                refine v_iload_n C 3 dX11_flies_77 rfl ?_
                refine v_callV (st := []) (n := 4) (q := 0) C [.int (iz (i)), .int (iz (ow + 1)), .int (iz (xs)), .int (iz (yt))] (ct_StageRatiosModel_failsIn C.2.2.2.2.2.2.1 mI (fa) (Af) (Bf) (Cf) (Rr) (Xx) (i) (ow + 1) (xs) (yt) (by exact hg_mI) (by first | assumption | omega) (by omega) (by first | assumption | omega) (by first | assumption | omega)) lR0 (eR0 _) rfl qw1674 qw16 qw1671 rfl rfl ⟨Nat.le_of_ble_eq_true rfl, Nat.le_of_ble_eq_true rfl⟩ (by decide +kernel) qw1673 qp88 rfl rfl (Nat.le_of_ble_eq_true rfl) dX11_flies_78 (fun r m14 hq14 => ?_)
                obtain ⟨z14, rfl, rfl, rfl⟩ := hq14
                show V E (wR D cy aa ad) 10 mI 81 [(7, .int (iz (ow + 1))), (0, .ref (aa 0)), (1, .int (iz (xs))), (2, .int (iz (yt))), (3, .int (iz (fy))), (4, .int (iz (i))), (5, .int (iz (le))), (6, .int (iz (en)))] [.int (iz (flZ fa Af Bf Cf (Rr 6).toNat i (if i = xs then yt else 0) (ow + 1)))]
                refine v_st (st1 := [.int (iz (fl (ow + 1)))]) (by rw [hfd, hxx]) ?_
                have hflt := hfl0 (ow + 1)
                have hfltr := hflr (ow + 1)
                refine v_istore (L1 := [(8, .int (iz (fl (ow + 1)))), (7, .int (iz (ow + 1))), (0, .ref (aa 0)), (1, .int (iz (xs))), (2, .int (iz (yt))), (3, .int (iz (fy))), (4, .int (iz (i))), (5, .int (iz (le))), (6, .int (iz (en)))]) C dX11_flies_81 (by decide) rfl ?_
                have K94 : ∀ (st : Int) (hst : stopZ fl (ow + 1) en = st), V E (wR D cy aa ad) 10 mI 94 [(0, .ref (aa 0)), (1, .int (iz (xs))), (2, .int (iz (yt))), (3, .int (iz (fy))), (4, .int (iz (i))), (5, .int (iz (le))), (6, .int (iz (en))), (7, .int (iz (ow + 1))), (8, .int (iz (st)))] [] := by
                  intro st  hst
                  refine v_aload_n C 0 dX11_flies_94 rfl ?_
                  refine v_dup C dX11_flies_95 rfl ?_
                  refine v_get C 0 60 lR0 (eR0 _) rfl inX11 (by decide) rfl qw1200 dX11_flies_96 ?_
                  refine v_iload C 8 dX11_flies_99 rfl ?_
                  refine v_iadd C dX11_flies_101 ?_
                  refine v_put C 0 60 ((mI 0 60) + st) 60 rfl lR0 (eR0 _) rfl inX11 tyX11 tyX11_ok nmX11 (by decide) qw1200 rfl rfl rfl (Nat.le_of_ble_eq_true rfl) (by rw [mup_r]; exact (eR0 _)) dX11_flies_102 (fun m15 em15 => ?_)
                  have hg102 : RT m15 fa Af Bf Cf Rr Xx := hg_mI.fr (fun j hj => by rw [em15, mup_j _ _ (by unfold CKj at hj; omega)]) (by rw [em15, mup_k _ _ _ (by decide)]) (by rw [em15, mup_k _ _ _ (by decide)]) (by rw [em15, mup_k _ _ _ (by decide)])
                  have hstr := stop_rng (fl := fl) (t := ow + 1) (hfl0 (ow + 1)) (show 0 < en by omega)
                  rw [hst] at hstr
                  have hmu : 0 ≤ (en - st) * fa (i * 9 + 6) ∧ (en - st) * fa (i * 9 + 6) ≤ 81 := ⟨Int.mul_nonneg (by omega) (by omega), by have y := Int.mul_le_mul_of_nonneg_right (show en - st ≤ 9 by omega) (show 0 ≤ fa (i * 9 + 6) by omega); omega⟩
                  refine v_iload C 6 dX11_flies_105 rfl ?_
                  refine v_iload C 8 dX11_flies_107 rfl ?_
                  refine v_isub C dX11_flies_109 ?_
                  refine v_istore (L1 := [(6, .int (iz (en - st))), (0, .ref (aa 0)), (1, .int (iz (xs))), (2, .int (iz (yt))), (3, .int (iz (fy))), (4, .int (iz (i))), (5, .int (iz (le))), (7, .int (iz (ow + 1))), (8, .int (iz (st)))]) C dX11_flies_110 (by decide) rfl ?_
                  have K144 : ∀ (bu : Int) (hbr : brnZ (fa (i * 9 + 6)) (en - st) le = bu), V E (wR D cy aa ad) 10 m15 144 [(0, .ref (aa 0)), (1, .int (iz (xs))), (2, .int (iz (yt))), (3, .int (iz (fy))), (4, .int (iz (i))), (5, .int (iz (le))), (6, .int (iz (en - st))), (7, .int (iz (ow + 1))), (8, .int (iz (st)))] [.int (iz (bu))] := by
                    intro bu  hbr
                    refine v_istore (L1 := [(9, .int (iz (bu))), (0, .ref (aa 0)), (1, .int (iz (xs))), (2, .int (iz (yt))), (3, .int (iz (fy))), (4, .int (iz (i))), (5, .int (iz (le))), (6, .int (iz (en - st))), (7, .int (iz (ow + 1))), (8, .int (iz (st)))]) C dX11_flies_144 (by decide) rfl ?_
                    have hbq := brn_rng (flow := fa (i * 9 + 6)) (e := en - st) (left := le) (by omega) (by omega) (by omega)
                    rw [hbr] at hbq
                    have hcs : (0 < en - st ∧ 1 ≤ bu) ∨ (en - st = 0 ∧ bu = 0) := by
                      by_cases z : en - st = 0
                      · exact Or.inr ⟨z, hbq.2.2.2 z⟩
                      · exact Or.inl ⟨by omega, hbq.2.2.1 (by omega)⟩
                    have hb0 := hbq.1
                    have hb1 := hbq.2.1
                    have i102 : m15 0 58 = mI 0 58 := by rw [em15, mup_j _ _ (by decide)]
                    refine v_aload_n C 1 dX11_flies_146 rfl ?_
                    refine v_get C 0 52 lR0 (eR0 _) rfl inX11 (by decide) rfl qw1192 dX11_flies_147 ?_
                    refine v_aload_n C 1 dX11_flies_150 rfl ?_
                    refine v_get C 0 58 lR0 (eR0 _) rfl inX11 (by decide) rfl qw1198 dX11_flies_151 ?_
                    refine v_iload C 5 dX11_flies_154 rfl ?_
                    refine v_iast C 20 lR20 eR20 (by decide) (by omega) dX11_flies_156 (fun m16 em16 => ?_)
                    have i156 : m16 0 58 = mI 0 58 := by rw [em16, mup_k _ _ _ (by decide)]; exact i102
                    refine v_aload_n C 1 dX11_flies_157 rfl ?_
                    refine v_get C 0 53 lR0 (eR0 _) rfl inX11 (by decide) rfl qw1193 dX11_flies_158 ?_
                    refine v_aload_n C 1 dX11_flies_161 rfl ?_
                    refine v_get C 0 58 lR0 (eR0 _) rfl inX11 (by decide) rfl qw1198 dX11_flies_162 ?_
                    refine v_iload C 8 dX11_flies_165 rfl ?_
                    refine v_iast C 21 lR21 eR21 (by decide) (by omega) dX11_flies_167 (fun m17 em17 => ?_)
                    have i167 : m17 0 58 = mI 0 58 := by rw [em17, mup_k _ _ _ (by decide)]; exact i156
                    refine v_aload_n C 1 dX11_flies_168 rfl ?_
                    refine v_get C 0 54 lR0 (eR0 _) rfl inX11 (by decide) rfl qw1194 dX11_flies_169 ?_
                    refine v_aload_n C 1 dX11_flies_172 rfl ?_
                    refine v_get C 0 58 lR0 (eR0 _) rfl inX11 (by decide) rfl qw1198 dX11_flies_173 ?_
                    refine v_iload_n C 4 dX11_flies_176 rfl ?_
                    refine v_iast C 22 lR22 eR22 (by decide) (by omega) dX11_flies_177 (fun m18 em18 => ?_)
                    have i177 : m18 0 58 = mI 0 58 := by rw [em18, mup_k _ _ _ (by decide)]; exact i167
                    refine v_aload_n C 1 dX11_flies_178 rfl ?_
                    refine v_get C 0 56 lR0 (eR0 _) rfl inX11 (by decide) rfl qw1196 dX11_flies_179 ?_
                    refine v_aload_n C 1 dX11_flies_182 rfl ?_
                    refine v_get C 0 58 lR0 (eR0 _) rfl inX11 (by decide) rfl qw1198 dX11_flies_183 ?_
                    refine v_iload C 7 dX11_flies_186 rfl ?_
                    refine v_iast C 24 lR24 eR24 (by decide) (by omega) dX11_flies_188 (fun m19 em19 => ?_)
                    have i188 : m19 0 58 = mI 0 58 := by rw [em19, mup_k _ _ _ (by decide)]; exact i177
                    have hg188 : RT m19 fa Af Bf Cf Rr Xx := hg102.fr (fun j hj => by rw [em19, mup_k _ _ _ (by decide), em18, mup_k _ _ _ (by decide), em17, mup_k _ _ _ (by decide), em16, mup_k _ _ _ (by decide)]) (by rw [em19, mup_k _ _ _ (by decide), em18, mup_k _ _ _ (by decide), em17, mup_k _ _ _ (by decide), em16, mup_k _ _ _ (by decide)]) (by rw [em19, mup_k _ _ _ (by decide), em18, mup_k _ _ _ (by decide), em17, mup_k _ _ _ (by decide), em16, mup_k _ _ _ (by decide)]) (by rw [em19, mup_k _ _ _ (by decide), em18, mup_k _ _ _ (by decide), em17, mup_k _ _ _ (by decide), em16, mup_k _ _ _ (by decide)])
                    have hpu : 0 ≤ 100 * fa (i * 9 + 5) * (en - st) ∧ 100 * fa (i * 9 + 5) * (en - st) ≤ 2147483647 := by
                      have a1 : 0 ≤ 100 * fa (i * 9 + 5) * (en - st) := Int.mul_nonneg (by omega) (by omega)
                      have a2 : 100 * fa (i * 9 + 5) * (en - st) ≤ 99900 * (en - st) := Int.mul_le_mul_of_nonneg_right (by omega) (by omega)
                      exact ⟨a1, by omega⟩
                    refine v_aload_n C 1 dX11_flies_189 rfl ?_
                    refine v_get C 0 57 lR0 (eR0 _) rfl inX11 (by decide) rfl qw1197 dX11_flies_190 ?_
                    refine v_aload_n C 1 dX11_flies_193 rfl ?_
                    refine v_get C 0 58 lR0 (eR0 _) rfl inX11 (by decide) rfl qw1198 dX11_flies_194 ?_
                    refine v_bipush (z := 100) C dX11_flies_197 (by decide) ?_
                    refine v_aload_n C 1 dX11_flies_199 rfl ?_
                    refine v_iload C 5 dX11_flies_200 rfl ?_
                    refine v_iconst (z := 5) C dX11_flies_202 rfl ?_
                    refine v_callV (st := [.int (iz (100)), .int (iz (m19 0 58)), .ref (aa 25)]) (n := 2) (q := 0) C [.int (iz (i)), .int (iz (5))] (ct_StageRatiosModel_told C.2.2.2.2.2.2.1 m19 (fa) (Af) (Bf) (Cf) (Rr) (Xx) (i) (5) (by exact hg188) (by first | assumption | omega) (by first | assumption | omega)) lR0 (eR0 _) rfl qw1440 qw16 qw1437 rfl rfl ⟨Nat.le_of_ble_eq_true rfl, Nat.le_of_ble_eq_true rfl⟩ (by decide +kernel) qw1439 qp55 rfl rfl (Nat.le_of_ble_eq_true rfl) dX11_flies_203 (fun r m20 hq20 => ?_)
                    obtain ⟨z20, rfl, rfl, rfl⟩ := hq20
                    show V E (wR D cy aa ad) 10 m19 206 [(9, .int (iz (bu))), (0, .ref (aa 0)), (1, .int (iz (xs))), (2, .int (iz (yt))), (3, .int (iz (fy))), (4, .int (iz (i))), (5, .int (iz (le))), (6, .int (iz (en - st))), (7, .int (iz (ow + 1))), (8, .int (iz (st)))] [.int (iz (fa (i * 9 + 5))), .int (iz (100)), .int (iz (m19 0 58)), .ref (aa 25)]
                    refine v_imul C dX11_flies_206 ?_
                    refine v_iload C 7 dX11_flies_207 rfl ?_
                    refine v_imul C dX11_flies_209 ?_
                    refine v_iload_n C 4 dX11_flies_210 rfl ?_
                    refine v_idiv C (by first | exact hpu | omega) (by first | exact hpu | omega) dX11_flies_211 ?_
                    refine v_iast C 25 lR25 eR25 (by decide) (by omega) dX11_flies_212 (fun m21 em21 => ?_)
                    have i212 : m21 0 58 = mI 0 58 := by rw [em21, mup_k _ _ _ (by decide)]; exact i188
                    refine v_iload_n C 4 dX11_flies_213 rfl ?_
                    refine v_iload C 0 dX11_flies_214 rfl ?_
                    refine v_isub C dX11_flies_216 ?_
                    refine v_istore_n (L1 := [(3, .int (iz (fy - bu))), (9, .int (iz (bu))), (0, .ref (aa 0)), (1, .int (iz (xs))), (2, .int (iz (yt))), (4, .int (iz (i))), (5, .int (iz (le))), (6, .int (iz (en - st))), (7, .int (iz (ow + 1))), (8, .int (iz (st)))]) C dX11_flies_217 (by decide) rfl ?_
                    refine v_iload C 6 dX11_flies_218 rfl ?_
                    refine v_iload C 1 dX11_flies_220 rfl ?_
                    refine v_isub C dX11_flies_222 ?_
                    refine v_istore (L1 := [(5, .int (iz (le - bu))), (3, .int (iz (fy - bu))), (9, .int (iz (bu))), (0, .ref (aa 0)), (1, .int (iz (xs))), (2, .int (iz (yt))), (4, .int (iz (i))), (6, .int (iz (en - st))), (7, .int (iz (ow + 1))), (8, .int (iz (st)))]) C dX11_flies_223 (by decide) rfl ?_
                    refine v_aload_n C 3 dX11_flies_225 rfl ?_
                    refine v_get C 0 55 lR0 (eR0 _) rfl inX11 (by decide) rfl qw1195 dX11_flies_226 ?_
                    refine v_aload_n C 3 dX11_flies_229 rfl ?_
                    refine v_get C 0 58 lR0 (eR0 _) rfl inX11 (by decide) rfl qw1198 dX11_flies_230 ?_
                    refine v_iload_n C 1 dX11_flies_233 rfl ?_
                    refine v_iast C 23 lR23 eR23 (by decide) (by omega) dX11_flies_234 (fun m22 em22 => ?_)
                    have i234 : m22 0 58 = mI 0 58 := by rw [em22, mup_k _ _ _ (by decide)]; exact i212
                    refine v_aload_n C 3 dX11_flies_235 rfl ?_
                    refine v_dup C dX11_flies_236 rfl ?_
                    refine v_get C 0 58 lR0 (eR0 _) rfl inX11 (by decide) rfl qw1198 dX11_flies_237 ?_
                    refine v_iconst (z := 1) C dX11_flies_240 rfl ?_
                    refine v_iadd C dX11_flies_241 ?_
                    refine v_put C 0 58 ((m22 0 58) + 1) 58 rfl lR0 (eR0 _) rfl inX11 tyX11 tyX11_ok nmX11 (by decide) qw1198 rfl rfl rfl (Nat.le_of_ble_eq_true rfl) (by rw [mup_r]; exact (eR0 _)) dX11_flies_242 (fun m23 em23 => ?_)
                    refine v_goto (tgt := 58) C dX11_flies_245 (by decide) ?_
                    obtain ⟨n, rfl⟩ : ∃ c, n = c + 1 := ⟨n - 1, by omega⟩
                    rw [buF_s (by omega), hst, hbr, List.append_cons] at hB
                    have hpush := hT2.push em15 em16 em17 em18 em19 em21 em22 em23
                    refine v_sub [3, 4, 5, 1, 6, 0, 7, 8] rfl ?_
                    exact ih58 (fy - bu) (le - bu) (en - st) (ow + 1) (n) (acc ++ [(i, ow + 1, fy, fy - bu, en - st, 100 * (fa (i * 9 + 5) * (en - st)) / fy)]) m23 (by exact hB) (by rw [← List.append_assoc, ← Int.mul_assoc]; exact hpush.1) (by 
                                            refine ⟨⟨by omega, by omega, by omega, by omega, by omega, ?_⟩, by omega, by omega⟩
                                            rw [List.length_append]; show ((acc.length + 1 : Nat) : Int) = _; omega
                                          ) (by rw [hpush.2.2.1 59 (by decide) (by decide)]; exact h592) (by rw [hpush.2.1, h602]; omega) (by intro j a b c; rw [hpush.2.2.1 j a c]; exact h02 j a b c) (by intro q a b c d e f g; rw [hpush.2.2.2 q a b c d e f g]; exact hf2 q a b c d e f g) (by omega)
                  refine v_iload C 0 dX11_flies_112 rfl ?_
                  refine v_aload_n C 1 dX11_flies_114 rfl ?_
                  refine v_iload C 5 dX11_flies_115 rfl ?_
                  refine v_bipush (z := 6) C dX11_flies_117 (by decide) ?_
                  refine v_callV (st := [.int (iz (en - st))]) (n := 2) (q := 0) C [.int (iz (i)), .int (iz (6))] (ct_StageRatiosModel_told C.2.2.2.2.2.2.1 m15 (fa) (Af) (Bf) (Cf) (Rr) (Xx) (i) (6) (by exact hg102) (by first | assumption | omega) (by first | assumption | omega)) lR0 (eR0 _) rfl qw1440 qw16 qw1437 rfl rfl ⟨Nat.le_of_ble_eq_true rfl, Nat.le_of_ble_eq_true rfl⟩ (by decide +kernel) qw1439 qp55 rfl rfl (Nat.le_of_ble_eq_true rfl) dX11_flies_119 (fun r m24 hq24 => ?_)
                  obtain ⟨z24, rfl, rfl, rfl⟩ := hq24
                  show V E (wR D cy aa ad) 10 m15 122 [(6, .int (iz (en - st))), (0, .ref (aa 0)), (1, .int (iz (xs))), (2, .int (iz (yt))), (3, .int (iz (fy))), (4, .int (iz (i))), (5, .int (iz (le))), (7, .int (iz (ow + 1))), (8, .int (iz (st)))] [.int (iz (fa (i * 9 + 6))), .int (iz (en - st))]
                  refine v_imul C dX11_flies_122 ?_
                  refine v_iload C 6 dX11_flies_123 rfl ?_
                  refine v_icmp_ge (tgt := 142) C dX11_flies_125 (by decide) (by omega) (by omega) (fun c25 => ?_) (fun c25 => ?_)
                  · refine v_iload C 6 dX11_flies_142 rfl ?_
                    refine v_sub [1, 2, 3, 4, 5, 6, 0, 7, 8] rfl ?_
                    exact K144  (le)  (by unfold brnZ; rw [Int.mul_comm (fa (i * 9 + 6))]; split <;> omega)
                  · refine v_iload C 0 dX11_flies_128 rfl ?_
                    refine v_aload_n C 1 dX11_flies_130 rfl ?_
                    refine v_iload C 5 dX11_flies_131 rfl ?_
                    refine v_bipush (z := 6) C dX11_flies_133 (by decide) ?_
                    refine v_callV (st := [.int (iz (en - st))]) (n := 2) (q := 0) C [.int (iz (i)), .int (iz (6))] (ct_StageRatiosModel_told C.2.2.2.2.2.2.1 m15 (fa) (Af) (Bf) (Cf) (Rr) (Xx) (i) (6) (by exact hg102) (by first | assumption | omega) (by first | assumption | omega)) lR0 (eR0 _) rfl qw1440 qw16 qw1437 rfl rfl ⟨Nat.le_of_ble_eq_true rfl, Nat.le_of_ble_eq_true rfl⟩ (by decide +kernel) qw1439 qp55 rfl rfl (Nat.le_of_ble_eq_true rfl) dX11_flies_135 (fun r m26 hq26 => ?_)
                    obtain ⟨z26, rfl, rfl, rfl⟩ := hq26
                    show V E (wR D cy aa ad) 10 m15 138 [(6, .int (iz (en - st))), (0, .ref (aa 0)), (1, .int (iz (xs))), (2, .int (iz (yt))), (3, .int (iz (fy))), (4, .int (iz (i))), (5, .int (iz (le))), (7, .int (iz (ow + 1))), (8, .int (iz (st)))] [.int (iz (fa (i * 9 + 6))), .int (iz (en - st))]
                    refine v_imul C dX11_flies_138 ?_
                    refine v_goto (tgt := 144) C dX11_flies_139 (by decide) ?_
                    refine v_sub [1, 2, 3, 4, 5, 6, 0, 7, 8] rfl ?_
                    exact K144  ((en - st) * (fa (i * 9 + 6)))  (by unfold brnZ; rw [Int.mul_comm (fa (i * 9 + 6))]; split <;> omega)
                refine v_iload C 0 dX11_flies_83 rfl ?_
                refine v_iload C 8 dX11_flies_85 rfl ?_
                refine v_icmp_le (tgt := 94) C dX11_flies_87 (by decide) (by omega) (by omega) (fun c27 => ?_) (fun c27 => ?_)
                · refine v_sub [2, 3, 4, 5, 6, 7, 8, 1, 0] rfl ?_
                  exact K94  (fl (ow + 1))  (by 
                                        unfold stopZ
                                        first
                                          | rw [if_pos (by omega)]
                                          | rw [if_neg (by omega)]
                                      )
                · refine v_iload C 8 dX11_flies_90 rfl ?_
                  refine v_istore (L1 := [(8, .int (iz (en))), (7, .int (iz (ow + 1))), (0, .ref (aa 0)), (1, .int (iz (xs))), (2, .int (iz (yt))), (3, .int (iz (fy))), (4, .int (iz (i))), (5, .int (iz (le))), (6, .int (iz (en)))]) C dX11_flies_92 (by decide) rfl ?_
                  refine v_sub [2, 3, 4, 5, 6, 7, 8, 1, 0] rfl ?_
                  exact K94  (en)  (by 
                                        unfold stopZ
                                        first
                                          | rw [if_pos (by omega)]
                                          | rw [if_neg (by omega)]
                                      )
        refine v_sub [3, 4, 5, 6, 7, 2, 1, 0] rfl ?_
        exact K58 _ (y) (mL 9 i) (fa (i * 9 + 4)) (0) (18) ([]) mL (by rw [hRb, e9, hy]; exact ⟨rfl, rfl⟩) (by rw [List.append_nil]; exact hT) (by rw [e9, hy]; exact ⟨⟨by omega, by omega, by omega, by omega, by omega, rfl⟩, rfl, by omega⟩) (by exact h59) (by rw [h60]; omega) (by exact h0) (by exact hf) (Nat.lt_succ_self _)
  refine v_sub [2, 3, 4, 1, 0] rfl ?_
  exact K28 _ (stZ fa (Rr 5) (Xx 0) (uX Xx) 0) (0) m4 (by omega) (by rfl) (by exact ⟨by rw [em4, mup_j _ _ (by decide), em3, mup_j _ _ (by decide), em2, mup_s]; rfl, fun i q hq => by cases hq⟩) (by rw [em4, mup_j _ _ (by decide), em3, mup_s]; rfl) (by rw [em4, mup_s]; rfl) (by exact h0s) (by intro q h _ _ _ _ _ _; exact hfs_ q h) (Nat.lt_succ_self _)
