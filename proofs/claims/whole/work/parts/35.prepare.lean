def soL (q : Int → Int → Prop) (f n : Int) : Prop := f = 0 ∨ ∃ d : Int, 0 ≤ d ∧ d < n ∧ q f d
theorem soL.up {q : Int → Int → Prop} {f n : Int} (h : soL q f n) : soL q f (n + 1) := by
  rcases h with y | ⟨d, y1, y2, y3⟩
  · exact Or.inl y
  · exact Or.inr ⟨d, y1, by omega, y3⟩
set_option maxHeartbeats 4000000 in
set_option maxRecDepth 100000 in
theorem ct_Choice_prepare {lau : Launch} {D : va_G} {cy : Nat → ClassId} {aa ad : Nat → Nat} (hI : wI (wC D cy aa ad)) (m : Mem) (k kf ks kt kc : Nat) (hk : RocketAt k kf ks kt kc) (hrk : RkIs m k kf ks kt kc) (hnw : 1 ≤ m 5 0 ∧ m 5 0 ≤ 40) (hkn : 0 ≤ m 8 5 ∧ m 8 5 ≤ 40) (hkc : m 8 5 ≠ 0 → CeOk (m 9) (m kf) (m k 5) (m k 2) (m k 3) (m 8 5)) : MT lau (wC D cy aa ad) yX1_prepare cX1_prepare 7 (none) ({ frames := 5, cells := 0, slots := 0, locals := 146 } : Room) m [.ref (aa 8), .ref (aa k), .ref (aa 5), .ref (aa 19)] (Pv (fun m' => m' 8 5 = m 5 0 ∧ CeOk (m' 9) (m kf) (m k 5) (m k 2) (m k 3) (m 5 0) ∧ (∀ j : Int, 0 ≤ j → j < 3 → m' 10 j = m 5 (5 + j) ∧ m' 11 j = m 5 (8 + j)) ∧ (∀ q, (q < 8 ∨ (12 ≤ q ∧ q < 15) ∨ (23 ≤ q ∧ q < 39) ∨ 42 ≤ q) → m' q = m q))) := by
  refine v_entry hI RX1 (by decide) rfl (Nat.le_of_ble_eq_true rfl) (fun E hE C X => ?_)
  subst hE
  show V E (wC D cy aa ad) 7 m 0 [(0, .ref (aa 8)), (1, .ref (aa k)), (2, .ref (aa 5)), (3, .ref (aa 19))] []
  have hkk : 73 ≤ k ∧ 73 ≤ kf ∧ 73 ≤ ks ∧ 73 ≤ kt ∧ 73 ≤ kc := by unfold RocketAt at hk; omega
  obtain ⟨hk5, hF, hup, hlw, -⟩ := id hrk
  refine v_iconst (z := 0) C dX1_prepare_0 rfl ?_
  refine v_istore (L1 := [(4, .int (iz (0))), (0, .ref (aa 8)), (1, .ref (aa k)), (2, .ref (aa 5)), (3, .ref (aa 19))]) C dX1_prepare_1 (by decide) rfl ?_
  have K3 : ∀ (nK : Nat) (s : Int) (mA : Mem) (hs : 0 ≤ s ∧ s ≤ 3) (hv : ∀ j : Int, 0 ≤ j → j < s → mA 10 j = m 5 (5 + j) ∧ mA 11 j = m 5 (8 + j)) (hf : ∀ q, q ≠ 10 → q ≠ 11 → mA q = m q), (3 - s).toNat < nK → V E (wC D cy aa ad) 7 mA 3 [(0, .ref (aa 8)), (1, .ref (aa k)), (2, .ref (aa 5)), (3, .ref (aa 19)), (4, .int (iz (s)))] [] := by
    intro nK
    induction nK with
    | zero => intro s mA hs hv hf hn; exact absurd hn (Nat.not_lt_zero _)
    | succ nK ih3 =>
      intro s mA hs hv hf hn3
      have h5A : mA 5 = m 5 := hf 5 (by decide) (by decide)
      have h8A : mA 8 = m 8 := hf 8 (by decide) (by decide)
      refine v_iload C 4 dX1_prepare_3 rfl ?_
      refine v_iconst (z := 3) C dX1_prepare_5 rfl ?_
      refine v_icmp_ge (tgt := 38) C dX1_prepare_6 (by decide) (by omega) (by omega) (fun c1 => ?_) (fun c1 => ?_)
      · refine v_aload_n C 2 dX1_prepare_38 rfl ?_
        refine v_iconst (z := 0) C dX1_prepare_39 rfl ?_
        refine v_callSN (st := []) (n := 2) C [.ref (aa 5), .int (iz (0))] (ct_StageRatios_at C.2.2.2.2.2.2.1 mA (5) (11) (0) ⟨lC5, by decide, eC5⟩ (by first | assumption | omega)) qw618 qw1 "StageRatios" (by decide +kernel) rfl rfl ⟨Nat.le_of_ble_eq_true rfl, Nat.le_of_ble_eq_true rfl⟩ (by decide +kernel) qw617 rfl rfl (Nat.le_of_ble_eq_true rfl) dX1_prepare_40 (fun r m2 hq2 => ?_)
        obtain ⟨z2, rfl, rfl, rfl⟩ := hq2
        show V E (wC D cy aa ad) 7 mA 43 [(0, .ref (aa 8)), (1, .ref (aa k)), (2, .ref (aa 5)), (3, .ref (aa 19)), (4, .int (iz (s)))] [.int (iz (mA 5 0))]
        have e50 : mA 5 0 = m 5 0 := by rw [h5A]
        have e85 : mA 8 5 = m 8 5 := by rw [h8A]
        refine v_istore (L1 := [(4, .int (iz (mA 5 0))), (0, .ref (aa 8)), (1, .ref (aa k)), (2, .ref (aa 5)), (3, .ref (aa 19))]) C dX1_prepare_43 (by decide) rfl ?_
        refine v_aload_n C 1 dX1_prepare_45 rfl ?_
        refine v_get C 8 5 lC8 (eC8 _) rfl inX1 (by decide) rfl qw256 dX1_prepare_46 ?_
        refine v_iload C 0 dX1_prepare_49 rfl ?_
        refine v_icmp_ne (tgt := 55) C dX1_prepare_51 (by decide) (by omega) (by omega) (fun c3 => ?_) (fun c3 => ?_)
        · refine v_iconst (z := 0) C dX1_prepare_55 rfl ?_
          refine v_istore (L1 := [(5, .int (iz (0))), (4, .int (iz (mA 5 0))), (0, .ref (aa 8)), (1, .ref (aa k)), (2, .ref (aa 5)), (3, .ref (aa 19))]) C dX1_prepare_56 (by decide) rfl ?_
          have K58 : ∀ (nK : Nat) (c : Int) (mB : Mem) (hc : 0 ≤ c ∧ c ≤ 4913) (hce : ∀ d : Int, 0 ≤ d → d < c → Ce1 (mB 9) (m kf) (m k 5) (m k 2) (m k 3) (m 5 0) d) (hfB : ∀ q, (q < 9 ∨ (10 ≤ q ∧ q < 15) ∨ (23 ≤ q ∧ q < 39) ∨ 42 ≤ q) → mB q = mA q), (4913 - c).toNat < nK → V E (wC D cy aa ad) 7 mB 58 [(0, .ref (aa 8)), (1, .ref (aa k)), (2, .ref (aa 5)), (3, .ref (aa 19)), (4, .int (iz (mA 5 0))), (5, .int (iz (c)))] [] := by
            intro nK
            induction nK with
            | zero => intro c mB hc hce hfB hn; exact absurd hn (Nat.not_lt_zero _)
            | succ nK ih58 =>
              intro c mB hc hce hfB hn58
              have kB : mB k = m k := by rw [hfB k (by omega), hf k (by omega) (by omega)]
              have kfB : mB kf = m kf := by rw [hfB kf (by omega), hf kf (by omega) (by omega)]
              have ksB : mB ks = m ks := by rw [hfB ks (by omega), hf ks (by omega) (by omega)]
              have ktB : mB kt = m kt := by rw [hfB kt (by omega), hf kt (by omega) (by omega)]
              have kcB : mB kc = m kc := by rw [hfB kc (by omega), hf kc (by omega) (by omega)]
              refine v_iload C 5 dX1_prepare_58 rfl ?_
              refine v_aload_n C 0 dX1_prepare_60 rfl ?_
              refine v_get C 8 0 lC8 (eC8 _) rfl inX1 (by decide) rfl qw251 dX1_prepare_61 ?_
              refine v_alen C 9 0 lC9 (eC9 _) rfl dX1_prepare_64 ?_
              refine v_st (st1 := [.int (iz (4913)), .int (iz (c))]) rfl ?_
              refine v_icmp_ge (tgt := 128) C dX1_prepare_65 (by decide) (by omega) (by omega) (fun c4 => ?_) (fun c4 => ?_)
              · refine v_aload_n C 0 dX1_prepare_128 rfl ?_
                refine v_iload C 4 dX1_prepare_129 rfl ?_
                refine v_put C 8 5 (mA 5 0) 5 rfl lC8 (eC8 _) rfl inX1 tyX1 tyX1_ok nmX1 (by decide) qw256 rfl rfl rfl (Nat.le_of_ble_eq_true rfl) (by rw [mup_r]; exact (eC8 _)) dX1_prepare_131 (fun m5 em5 => ?_)
                refine v_vret C X dX1_prepare_134 ⟨rfl, ?_⟩
                refine ⟨by rw [em5, mup_s]; exact e50, ?_, fun j h0 h1 => ?_, fun q h => ?_⟩
                · intro d h0 h1; rw [em5, mup_k _ _ _ (by decide)]; exact hce d h0 (by omega)
                · rw [em5, mup_k _ _ _ (by decide), mup_k _ _ _ (by decide), hfB 10 (by omega), hfB 11 (by omega)]; exact hv j h0 (by omega)
                · rw [em5, mup_k _ _ _ (by omega), hfB q (by omega)]; exact hf q (by omega) (by omega)
              · refine v_aload_n C 3 dX1_prepare_68 rfl ?_
                refine v_iload C 5 dX1_prepare_69 rfl ?_
                refine v_callV (st := []) (n := 1) (q := 19) C [.int (iz (c))] (ct_Weights_layCode C.2.2.2.2.2.2.1 mB (19) (20) (21) (22) (c) (by unfold WeightsAt; decide) (by first | assumption | omega)) lC19 (eC19 _) rfl qw829 qw8 qw826 rfl rfl ⟨Nat.le_of_ble_eq_true rfl, Nat.le_of_ble_eq_true rfl⟩ (by decide +kernel) qw827 qw828 rfl rfl (Nat.le_of_ble_eq_true rfl) dX1_prepare_71 (fun r m6 hq6 => ?_)
                obtain ⟨rfl, hq6⟩ := hq6
                show V E (wC D cy aa ad) 7 m6 74 [(0, .ref (aa 8)), (1, .ref (aa k)), (2, .ref (aa 5)), (3, .ref (aa 19)), (4, .int (iz (mA 5 0))), (5, .int (iz (c)))] []
                have o71 : ∀ q, q ≠ 20 → m6 q = mB q := hq6.2
                have e71k : m6 k = m k := by rw [o71 k (by omega), kB]
                have e71kf : m6 kf = m kf := by rw [o71 kf (by omega), kfB]
                have e71ks : m6 ks = m ks := by rw [o71 ks (by omega), ksB]
                have e71kt : m6 kt = m kt := by rw [o71 kt (by omega), ktB]
                have e71kc : m6 kc = m kc := by rw [o71 kc (by omega), kcB]
                have hcg := dv_cg (fa := m kf) (n := m k 5) (P := m 5 0) (U := m6 20) (W := unZ c) hk5.2 hq6.1
                refine v_aload_n C 1 dX1_prepare_74 rfl ?_
                refine v_aload_n C 3 dX1_prepare_75 rfl ?_
                have K94 : ∀ (rv : Int) (mJ : Mem) (hrv : (rv = -1 ∧ ¬ (woM (m kf) (m k 5) (unZ c) ∧ hoA (m kf) (m k 5) (m 5 0) (unZ c))) ∨ (woM (m kf) (m k 5) (unZ c) ∧ hoA (m kf) (m k 5) (m 5 0) (unZ c) ∧ (0 ≤ rv ∧ rv ≤ 40) ∧ paA (m kf) (m k 5) (m k 2) (m k 3) (m 5 0) (unZ c) rv ∧ mJ 19 3 = stZ (m kf) (m k 5) (m 5 0) (unZ c) 0)) (hfJ : ∀ q, (q < 15 ∨ (23 ≤ q ∧ q < 39) ∨ 42 ≤ q) → mJ q = mB q), V E (wC D cy aa ad) 7 mJ 94 [(0, .ref (aa 8)), (1, .ref (aa k)), (2, .ref (aa 5)), (3, .ref (aa 19)), (4, .int (iz (mA 5 0))), (5, .int (iz (c)))] [.int (iz (rv))] := by
                  intro rv mJ hrv hfJ
                  have hrr : -1 ≤ rv ∧ rv ≤ 40 := by rcases hrv with ⟨e1, -⟩ | ⟨-, -, e1, -⟩ <;> omega
                  refine v_istore (L1 := [(6, .int (iz (rv))), (0, .ref (aa 8)), (1, .ref (aa k)), (2, .ref (aa 5)), (3, .ref (aa 19)), (4, .int (iz (mA 5 0))), (5, .int (iz (c)))]) C dX1_prepare_94 (by decide) rfl ?_
                  refine v_aload_n C 1 dX1_prepare_96 rfl ?_
                  refine v_get C 8 0 lC8 (eC8 _) rfl inX1 (by decide) rfl qw251 dX1_prepare_97 ?_
                  refine v_iload C 6 dX1_prepare_100 rfl ?_
                  refine v_iload C 0 dX1_prepare_102 rfl ?_
                  refine v_if_ge (tgt := 111) C dX1_prepare_104 (by decide) (by omega) (fun c7 => ?_) (fun c7 => ?_)
                  · refine v_aload_n C 4 dX1_prepare_111 rfl ?_
                    refine v_get C 19 3 lC19 (eC19 _) rfl inX9 (by decide) rfl qw187 dX1_prepare_112 ?_
                    refine v_bipush (z := 64) C dX1_prepare_115 (by decide) ?_
                    refine v_imul C dX1_prepare_117 ?_
                    refine v_iload C 0 dX1_prepare_118 rfl ?_
                    refine v_iadd C dX1_prepare_120 ?_
                    refine v_iast C 9 lC9 eC9 (by decide) (by omega) dX1_prepare_121 (fun m8 em8 => ?_)
                    refine v_iinc (L1 := [(5, .int (iz (c + 1))), (6, .int (iz (rv))), (0, .ref (aa 8)), (1, .ref (aa k)), (2, .ref (aa 5)), (3, .ref (aa 19)), (4, .int (iz (mA 5 0)))]) C 6 dX1_prepare_122 rfl (by decide) rfl ?_
                    refine v_goto (tgt := 58) C dX1_prepare_125 (by decide) ?_
                    refine v_sub [2, 3, 4, 5, 6, 0] rfl ?_
                    exact ih58 (c + 1) m8 (by first | assumption | omega) (by 
                                            intro d h0 h1
                                            rw [em8, mup_r]
                                            by_cases e : d = c
                                            · rcases hrv with ⟨e1, e2⟩ | ⟨e1, e2, e3, e4, e5⟩
                                              · first
                                                  | (exfalso; omega)
                                                  | exact Or.inr ⟨by rw [e]; exact e2, if_pos e⟩
                                              · first
                                                  | (exfalso; omega)
                                                  | exact Or.inl ⟨by rw [e]; exact e1, by rw [e]; exact e2, rv, e3, by rw [e]; exact e4, by rw [e]; exact (if_pos rfl).trans (by rw [e5])⟩
                                            · have z := hce d h0 (by omega)
                                              unfold Ce1 at z ⊢
                                              dsimp only
                                              rw [if_neg e, hfJ 9 (by omega)]; exact z
                                          ) (by intro q h; rw [em8, mup_k _ _ _ (by omega), hfJ q (by omega)]; exact hfB q h) (by omega)
                  · refine v_iconst (z := -1) C dX1_prepare_107 rfl ?_
                    refine v_goto (tgt := 121) C dX1_prepare_108 (by decide) ?_
                    refine v_iast C 9 lC9 eC9 (by decide) (by omega) dX1_prepare_121 (fun m9 em9 => ?_)
                    refine v_iinc (L1 := [(5, .int (iz (c + 1))), (6, .int (iz (rv))), (0, .ref (aa 8)), (1, .ref (aa k)), (2, .ref (aa 5)), (3, .ref (aa 19)), (4, .int (iz (mA 5 0)))]) C 6 dX1_prepare_122 rfl (by decide) rfl ?_
                    refine v_goto (tgt := 58) C dX1_prepare_125 (by decide) ?_
                    refine v_sub [2, 3, 4, 5, 6, 0] rfl ?_
                    exact ih58 (c + 1) m9 (by first | assumption | omega) (by 
                                            intro d h0 h1
                                            rw [em9, mup_r]
                                            by_cases e : d = c
                                            · rcases hrv with ⟨e1, e2⟩ | ⟨e1, e2, e3, e4, e5⟩
                                              · first
                                                  | (exfalso; omega)
                                                  | exact Or.inr ⟨by rw [e]; exact e2, if_pos e⟩
                                              · first
                                                  | (exfalso; omega)
                                                  | exact Or.inl ⟨by rw [e]; exact e1, by rw [e]; exact e2, rv, e3, by rw [e]; exact e4, by rw [e]; exact (if_pos rfl).trans (by rw [e5])⟩
                                            · have z := hce d h0 (by omega)
                                              unfold Ce1 at z ⊢
                                              dsimp only
                                              rw [if_neg e, hfJ 9 (by omega)]; exact z
                                          ) (by intro q h; rw [em9, mup_k _ _ _ (by omega), hfJ q (by omega)]; exact hfB q h) (by omega)
                refine v_callS (st := []) (n := 2) C [.ref (aa k), .ref (aa 19)] (ct_Choice_isWithinMost C.2.2.2.2.2.2.1 m6 (k) (kf) (ks) (kt) (kc) (19) (20) (21) (22) hk (by unfold WeightsAt; decide) (by rw [e71k]; exact hk5) (by rw [e71k, e71kf]; exact hF) (by intro j h0 h1; rw [hq6.1 j h0 h1]; have := unZ_rng (s := j) (show 0 ≤ c by omega) (show c < 4913 by omega); omega)) qw835 qw12 qw833 rfl rfl ⟨Nat.le_of_ble_eq_true rfl, Nat.le_of_ble_eq_true rfl⟩ (by decide +kernel) qw834 rfl rfl (Nat.le_of_ble_eq_true rfl) dX1_prepare_76 (fun r m10 hq10 => ?_)
                obtain ⟨z10, rfl, ⟨rfl, hq10, rfl⟩ | ⟨rfl, hq10, rfl⟩⟩ := hq10
                · show V E (wC D cy aa ad) 7 m6 79 [(0, .ref (aa 8)), (1, .ref (aa k)), (2, .ref (aa 5)), (3, .ref (aa 19)), (4, .int (iz (mA 5 0))), (5, .int (iz (c)))] [.int (iz (1))]
                  rw [e71k, e71kf] at hq10
                  refine v_if_eq (tgt := 93) C dX1_prepare_79 (by decide) (by omega) (fun c11 => by exact absurd c11 (by decide)) (fun c11 => ?_)
                  refine v_aload_n C 0 dX1_prepare_82 rfl ?_
                  refine v_aload_n C 1 dX1_prepare_83 rfl ?_
                  refine v_iload C 4 dX1_prepare_84 rfl ?_
                  refine v_aload_n C 3 dX1_prepare_86 rfl ?_
                  refine v_callV (st := []) (n := 3) (q := 8) C [.ref (aa k), .int (iz (mA 5 0)), .ref (aa 19)] (ct_Choice_powerHeld C.2.2.2.2.2.2.1 m6 (k) (kf) (ks) (kt) (kc) (mA 5 0) hk (by exact hrk.fr e71k e71kf e71ks e71kt e71kc) (by rw [e50]; exact hnw) (by rw [e71k]; intro j h0 h1; rw [hq6.1 j h0 (by omega)]; exact unZ_rng (by omega) (by omega))) lC8 (eC8 _) rfl qw840 qw12 qw837 rfl rfl ⟨Nat.le_of_ble_eq_true rfl, Nat.le_of_ble_eq_true rfl⟩ (by decide +kernel) qw839 qp25 rfl rfl (Nat.le_of_ble_eq_true rfl) dX1_prepare_87 (fun r m12 hq12 => ?_)
                  obtain ⟨z12, rfl, hq12, hm12⟩ := hq12
                  show V E (wC D cy aa ad) 7 m12 90 [(0, .ref (aa 8)), (1, .ref (aa k)), (2, .ref (aa 5)), (3, .ref (aa 19)), (4, .int (iz (mA 5 0))), (5, .int (iz (c)))] [.int (iz (z12))]
                  rw [e71k, e71kf, e50] at hq12 hm12
                  refine v_goto (tgt := 94) C dX1_prepare_90 (by decide) ?_
                  refine v_sub [0, 1, 2, 3, 4, 5] rfl ?_
                  exact K94  (z12) m12 (by 
                                        first
                                          | exact Or.inl ⟨rfl, fun z => hq10 (by rw [e71k, e71kf]; exact hcg.1.mpr z.1)⟩
                                          | (rcases hq12 with ⟨z1, z2⟩ | ⟨z1, z2, z3⟩
                                             · exact Or.inl ⟨z2, fun z => z1 (hcg.2.1.mpr z.2)⟩
                                             · refine Or.inr ⟨hcg.1.mp hq10, hcg.2.1.mp z1, z2, ?_, by rw [hm12.1]; exact hcg.2.2.1⟩
                                               unfold paA at z3 ⊢; rw [← hcg.2.2.2]; exact z3)
                                      ) (by 
                                        first
                                          | exact fun q h => hq6.2 q (by omega)
                                          | exact fun q h => by rw [hm12.2 q (by omega)]; exact hq6.2 q (by omega)
                                      )
                · show V E (wC D cy aa ad) 7 m6 79 [(0, .ref (aa 8)), (1, .ref (aa k)), (2, .ref (aa 5)), (3, .ref (aa 19)), (4, .int (iz (mA 5 0))), (5, .int (iz (c)))] [.int (iz (0))]
                  refine v_if_eq (tgt := 93) C dX1_prepare_79 (by decide) (by omega) (fun c13 => ?_) (fun c13 => by exact absurd c13 (by decide))
                  refine v_iconst (z := -1) C dX1_prepare_93 rfl ?_
                  refine v_sub [0, 1, 2, 3, 4, 5] rfl ?_
                  exact K94  (-1) m6 (by 
                                        first
                                          | exact Or.inl ⟨rfl, fun z => hq10 (by rw [e71k, e71kf]; exact hcg.1.mpr z.1)⟩
                                          | (rcases NO_q87 with ⟨z1, z2⟩ | ⟨z1, z2, z3⟩
                                             · exact Or.inl ⟨z2, fun z => z1 (hcg.2.1.mpr z.2)⟩
                                             · refine Or.inr ⟨hcg.1.mp hq10, hcg.2.1.mp z1, z2, ?_, by rw [NO_h87.1]; exact hcg.2.2.1⟩
                                               unfold paA at z3 ⊢; rw [← hcg.2.2.2]; exact z3)
                                      ) (by 
                                        first
                                          | exact fun q h => hq6.2 q (by omega)
                                          | exact fun q h => by rw [NO_h87.2 q (by omega)]; exact hq6.2 q (by omega)
                                      )
          refine v_sub [2, 3, 4, 5, 1, 0] rfl ?_
          exact K58 _ (0) mA (by first | assumption | omega) (by intro d h0 h1; omega) (by intro q _; rfl) (Nat.lt_succ_self _)
        · refine v_vret C X dX1_prepare_54 ⟨rfl, ?_⟩
          refine ⟨by rw [h8A]; omega, ?_, fun j h0 h1 => hv j h0 (by omega), fun q h => hf q (by omega) (by omega)⟩
          rw [hf 9 (by decide) (by decide), show m 5 0 = m 8 5 by omega]; exact hkc (by omega)
      · refine v_aload_n C 0 dX1_prepare_9 rfl ?_
        refine v_iload C 4 dX1_prepare_10 rfl ?_
        refine v_aload_n C 2 dX1_prepare_12 rfl ?_
        refine v_iconst (z := 5) C dX1_prepare_13 rfl ?_
        refine v_iload C 4 dX1_prepare_14 rfl ?_
        refine v_iadd C dX1_prepare_16 ?_
        refine v_callSN (st := [.int (iz (s)), .ref (aa 8)]) (n := 2) C [.ref (aa 5), .int (iz (5 + s))] (ct_StageRatios_at C.2.2.2.2.2.2.1 mA (5) (11) (5 + s) ⟨lC5, by decide, eC5⟩ (by first | assumption | omega)) qw618 qw1 "StageRatios" (by decide +kernel) rfl rfl ⟨Nat.le_of_ble_eq_true rfl, Nat.le_of_ble_eq_true rfl⟩ (by decide +kernel) qw617 rfl rfl (Nat.le_of_ble_eq_true rfl) dX1_prepare_17 (fun r m14 hq14 => ?_)
        obtain ⟨z14, rfl, rfl, rfl⟩ := hq14
        show V E (wC D cy aa ad) 7 mA 20 [(0, .ref (aa 8)), (1, .ref (aa k)), (2, .ref (aa 5)), (3, .ref (aa 19)), (4, .int (iz (s)))] [.int (iz (mA 5 (5 + s))), .int (iz (s)), .ref (aa 8)]
        refine v_aload_n C 2 dX1_prepare_20 rfl ?_
        refine v_bipush (z := 8) C dX1_prepare_21 (by decide) ?_
        refine v_iload C 4 dX1_prepare_23 rfl ?_
        refine v_iadd C dX1_prepare_25 ?_
        refine v_callSN (st := [.int (iz (mA 5 (5 + s))), .int (iz (s)), .ref (aa 8)]) (n := 2) C [.ref (aa 5), .int (iz (8 + s))] (ct_StageRatios_at C.2.2.2.2.2.2.1 mA (5) (11) (8 + s) ⟨lC5, by decide, eC5⟩ (by first | assumption | omega)) qw618 qw1 "StageRatios" (by decide +kernel) rfl rfl ⟨Nat.le_of_ble_eq_true rfl, Nat.le_of_ble_eq_true rfl⟩ (by decide +kernel) qw617 rfl rfl (Nat.le_of_ble_eq_true rfl) dX1_prepare_26 (fun r m15 hq15 => ?_)
        obtain ⟨z15, rfl, rfl, rfl⟩ := hq15
        show V E (wC D cy aa ad) 7 mA 29 [(0, .ref (aa 8)), (1, .ref (aa k)), (2, .ref (aa 5)), (3, .ref (aa 19)), (4, .int (iz (s)))] [.int (iz (mA 5 (8 + s))), .int (iz (mA 5 (5 + s))), .int (iz (s)), .ref (aa 8)]
        refine v_callV (st := []) (n := 3) (q := 8) C [.int (iz (s)), .int (iz (mA 5 (5 + s))), .int (iz (mA 5 (8 + s)))] (ct_Choice_bound C.2.2.2.2.2.2.1 mA (s) (mA 5 (5 + s)) (mA 5 (8 + s)) (by first | assumption | omega)) lC8 (eC8 _) rfl qw824 qw12 qw821 rfl rfl ⟨Nat.le_of_ble_eq_true rfl, Nat.le_of_ble_eq_true rfl⟩ (by decide +kernel) qw822 qw823 rfl rfl (Nat.le_of_ble_eq_true rfl) dX1_prepare_29 (fun r m16 hq16 => ?_)
        obtain ⟨rfl, hq16⟩ := hq16
        show V E (wC D cy aa ad) 7 m16 32 [(0, .ref (aa 8)), (1, .ref (aa k)), (2, .ref (aa 5)), (3, .ref (aa 19)), (4, .int (iz (s)))] []
        refine v_iinc (L1 := [(4, .int (iz (s + 1))), (0, .ref (aa 8)), (1, .ref (aa k)), (2, .ref (aa 5)), (3, .ref (aa 19))]) C 4 dX1_prepare_32 rfl (by decide) rfl ?_
        refine v_goto (tgt := 3) C dX1_prepare_35 (by decide) ?_
        refine v_sub [1, 2, 3, 4, 0] rfl ?_
        exact ih3 (s + 1) m16 (by first | assumption | omega) (by 
                    intro j h0 h1
                    rw [← hq16, mup_k _ _ _ (show (10 : Nat) ≠ 11 by decide)]
                    by_cases e : j = s
                    · subst e; rw [mup_s, mup_s, h5A]; exact ⟨rfl, rfl⟩
                    · rw [mup_j _ _ e, mup_j _ _ e, mup_k _ _ _ (show (11 : Nat) ≠ 10 by decide)]; exact hv j h0 (by omega)
                  ) (by intro q h1 h2; rw [← hq16, mup_k _ _ _ h2, mup_k _ _ _ h1]; exact hf q h1 h2) (by omega)
  refine v_sub [1, 2, 3, 4, 0] rfl ?_
  exact K3 _ (0) m (by first | assumption | omega) (by intro j h0 h1; omega) (by intro q _ _; rfl) (Nat.lt_succ_self _)

set_option maxHeartbeats 4000000 in
set_option maxRecDepth 100000 in
theorem ct_Choice_heaviestLoad {lau : Launch} {D : va_G} {cy : Nat → ClassId} {aa ad : Nat → Nat} (hI : wI (wC D cy aa ad)) (m : Mem) (k kf ks kt kc : Nat) (k0 : Int) (hk : RocketAt k kf ks kt kc) (hrk : RkIs m k kf ks kt kc) (hk0 : 0 ≤ k0 ∧ k0 ≤ 40) (hlh : ∀ j : Int, 0 ≤ j → j < 3 → (0 ≤ m 10 j ∧ m 10 j ≤ 16) ∧ (0 ≤ m 11 j ∧ m 11 j ≤ 16)) : MT lau (wC D cy aa ad) yX1_heaviestLoad cX1_heaviestLoad 6 (some .int) ({ frames := 5, cells := 0, slots := 0, locals := 146 } : Room) m [.ref (aa 8), .ref (aa k), .int (iz (k0)), .ref (aa 19)] (Pi (fun z m' => (liP (okL (m kf) (m k 5) (m k 2) (m k 3) k0 (m 10) (m 11)) z) ∧ (∀ q, (q < 15 ∨ (23 ≤ q ∧ q < 39) ∨ 42 ≤ q) → m' q = m q))) := by
  refine v_entry hI RX1 (by decide) rfl (Nat.le_of_ble_eq_true rfl) (fun E hE C X => ?_)
  subst hE
  show V E (wC D cy aa ad) 6 m 0 [(0, .ref (aa 8)), (1, .ref (aa k)), (2, .int (iz (k0))), (3, .ref (aa 19))] []
  have hkk : 73 ≤ k ∧ 73 ≤ kf ∧ 73 ≤ ks ∧ 73 ≤ kt ∧ 73 ≤ kc := by unfold RocketAt at hk; omega
  obtain ⟨hk5, hF, hup, hlw, -⟩ := id hrk
  refine v_iconst (z := 0) C dX1_heaviestLoad_0 rfl ?_
  refine v_istore (L1 := [(4, .int (iz (0))), (0, .ref (aa 8)), (1, .ref (aa k)), (2, .int (iz (k0))), (3, .ref (aa 19))]) C dX1_heaviestLoad_1 (by decide) rfl ?_
  refine v_iconst (z := 0) C dX1_heaviestLoad_3 rfl ?_
  refine v_istore (L1 := [(5, .int (iz (0))), (4, .int (iz (0))), (0, .ref (aa 8)), (1, .ref (aa k)), (2, .int (iz (k0))), (3, .ref (aa 19))]) C dX1_heaviestLoad_4 (by decide) rfl ?_
  have K6 : ∀ (nK : Nat) (f : Int) (c : Int) (mB : Mem) (hc : 0 ≤ c ∧ c ≤ 4913) (hfr : 0 ≤ f ∧ f ≤ 40) (hex : soL (okL (m kf) (m k 5) (m k 2) (m k 3) k0 (m 10) (m 11)) f c) (hno : ∀ d v : Int, 0 ≤ d → d < c → f < v → v ≤ 40 → ¬ (okL (m kf) (m k 5) (m k 2) (m k 3) k0 (m 10) (m 11)) v d) (hf : ∀ q, (q < 15 ∨ (23 ≤ q ∧ q < 39) ∨ 42 ≤ q) → mB q = m q), (4913 - c).toNat < nK → V E (wC D cy aa ad) 6 mB 6 [(0, .ref (aa 8)), (1, .ref (aa k)), (2, .int (iz (k0))), (3, .ref (aa 19)), (4, .int (iz (f))), (5, .int (iz (c)))] [] := by
    intro nK
    induction nK with
    | zero => intro f c mB hc hfr hex hno hf hn; exact absurd hn (Nat.not_lt_zero _)
    | succ nK ih6 =>
      intro f c mB hc hfr hex hno hf hn6
      refine v_iload C 5 dX1_heaviestLoad_6 rfl ?_
      refine v_aload_n C 0 dX1_heaviestLoad_8 rfl ?_
      refine v_get C 8 0 lC8 (eC8 _) rfl inX1 (by decide) rfl qw251 dX1_heaviestLoad_9 ?_
      refine v_alen C 9 0 lC9 (eC9 _) rfl dX1_heaviestLoad_12 ?_
      refine v_st (st1 := [.int (iz (4913)), .int (iz (c))]) rfl ?_
      refine v_icmp_ge (tgt := 72) C dX1_heaviestLoad_13 (by decide) (by omega) (by omega) (fun c1 => ?_) (fun c1 => ?_)
      · refine v_iload C 4 dX1_heaviestLoad_72 rfl ?_
        refine v_if_ne (tgt := 82) C dX1_heaviestLoad_74 (by decide) (by omega) (fun c2 => ?_) (fun c2 => ?_)
        · refine v_iload C 4 dX1_heaviestLoad_82 rfl ?_
          refine v_iret C X rfl dX1_heaviestLoad_84 ⟨_, rfl, ?_, ?_⟩
          · rcases hex with y | ⟨d, y1, y2, y3⟩
            · first
                | (exfalso; omega)
                | exact Or.inl ⟨rfl, fun v c2 h1 h2 h3 h4 => hno c2 v h3 (by omega) (by omega) h2⟩
            · first
                | exact Or.inr ⟨⟨by omega, by omega⟩, ⟨d, y1, by omega, y3⟩, fun v c2 h1 h2 h3 h4 => hno c2 v h3 (by omega) h1 h2⟩
                | exact Or.inl ⟨rfl, fun v c2 h1 h2 h3 h4 => hno c2 v h3 (by omega) (by omega) h2⟩
          · exact fun q h => hf q (by omega)
        · refine v_bipush (z := -2) C dX1_heaviestLoad_77 (by decide) ?_
          refine v_goto (tgt := 84) C dX1_heaviestLoad_79 (by decide) ?_
          refine v_iret C X rfl dX1_heaviestLoad_84 ⟨_, rfl, ?_, ?_⟩
          · rcases hex with y | ⟨d, y1, y2, y3⟩
            · first
                | (exfalso; omega)
                | exact Or.inl ⟨rfl, fun v c2 h1 h2 h3 h4 => hno c2 v h3 (by omega) (by omega) h2⟩
            · first
                | exact Or.inr ⟨⟨by omega, by omega⟩, ⟨d, y1, by omega, y3⟩, fun v c2 h1 h2 h3 h4 => hno c2 v h3 (by omega) h1 h2⟩
                | exact Or.inl ⟨rfl, fun v c2 h1 h2 h3 h4 => hno c2 v h3 (by omega) (by omega) h2⟩
          · exact fun q h => hf q (by omega)
      · have K66 : ∀ (f2 : Int) (mJ : Mem) (hfr2 : 0 ≤ f2 ∧ f2 ≤ 40) (hex2 : soL (okL (m kf) (m k 5) (m k 2) (m k 3) k0 (m 10) (m 11)) f2 (c + 1)) (hno2 : ∀ d v : Int, 0 ≤ d → d < c + 1 → f2 < v → v ≤ 40 → ¬ (okL (m kf) (m k 5) (m k 2) (m k 3) k0 (m 10) (m 11)) v d) (hf2 : ∀ q, (q < 15 ∨ (23 ≤ q ∧ q < 39) ∨ 42 ≤ q) → mJ q = m q), V E (wC D cy aa ad) 6 mJ 66 [(0, .ref (aa 8)), (1, .ref (aa k)), (2, .int (iz (k0))), (3, .ref (aa 19)), (4, .int (iz (f2))), (5, .int (iz (c)))] [] := by
          intro f2 mJ hfr2 hex2 hno2 hf2
          refine v_iinc (L1 := [(5, .int (iz (c + 1))), (0, .ref (aa 8)), (1, .ref (aa k)), (2, .int (iz (k0))), (3, .ref (aa 19)), (4, .int (iz (f2)))]) C 5 dX1_heaviestLoad_66 rfl (by decide) rfl ?_
          refine v_goto (tgt := 6) C dX1_heaviestLoad_69 (by decide) ?_
          refine v_sub [1, 2, 3, 4, 5, 0] rfl ?_
          exact ih6 (f2) (c + 1) mJ (by first | assumption | omega) (by exact hfr2) (by exact hex2) (by exact hno2) (by exact hf2) (by omega)
        refine v_aload_n C 3 dX1_heaviestLoad_16 rfl ?_
        refine v_iload C 5 dX1_heaviestLoad_17 rfl ?_
        refine v_callV (st := []) (n := 1) (q := 19) C [.int (iz (c))] (ct_Weights_layCode C.2.2.2.2.2.2.1 mB (19) (20) (21) (22) (c) (by unfold WeightsAt; decide) (by first | assumption | omega)) lC19 (eC19 _) rfl qw829 qw8 qw826 rfl rfl ⟨Nat.le_of_ble_eq_true rfl, Nat.le_of_ble_eq_true rfl⟩ (by decide +kernel) qw827 qw828 rfl rfl (Nat.le_of_ble_eq_true rfl) dX1_heaviestLoad_19 (fun r m3 hq3 => ?_)
        obtain ⟨rfl, hq3⟩ := hq3
        show V E (wC D cy aa ad) 6 m3 22 [(0, .ref (aa 8)), (1, .ref (aa k)), (2, .int (iz (k0))), (3, .ref (aa 19)), (4, .int (iz (f))), (5, .int (iz (c)))] []
        have o19 : ∀ q, q ≠ 20 → m3 q = mB q := hq3.2
        have e19k : m3 k = m k := by rw [o19 k (by omega), hf k (by omega)]
        have e19kf : m3 kf = m kf := by rw [o19 kf (by omega), hf kf (by omega)]
        have e19l : m3 10 = m 10 := by rw [o19 10 (by omega), hf 10 (by omega)]
        have e19h : m3 11 = m 11 := by rw [o19 11 (by omega), hf 11 (by omega)]
        have hcg := dv_cg (fa := m kf) (n := m k 5) (P := 1) (U := m3 20) (W := unZ c) hk5.2 hq3.1
        refine v_aload_n C 1 dX1_heaviestLoad_22 rfl ?_
        refine v_aload_n C 3 dX1_heaviestLoad_23 rfl ?_
        refine v_callS (st := []) (n := 2) C [.ref (aa k), .ref (aa 19)] (ct_Choice_isWithinMost C.2.2.2.2.2.2.1 m3 (k) (kf) (ks) (kt) (kc) (19) (20) (21) (22) hk (by unfold WeightsAt; decide) (by rw [e19k]; exact hk5) (by rw [e19k, e19kf]; exact hF) (by intro j h0 h1; rw [hq3.1 j h0 h1]; have := unZ_rng (s := j) (show 0 ≤ c by omega) (show c < 4913 by omega); omega)) qw835 qw12 qw833 rfl rfl ⟨Nat.le_of_ble_eq_true rfl, Nat.le_of_ble_eq_true rfl⟩ (by decide +kernel) qw834 rfl rfl (Nat.le_of_ble_eq_true rfl) dX1_heaviestLoad_24 (fun r m4 hq4 => ?_)
        obtain ⟨z4, rfl, ⟨rfl, hq4, rfl⟩ | ⟨rfl, hq4, rfl⟩⟩ := hq4
        · show V E (wC D cy aa ad) 6 m3 27 [(0, .ref (aa 8)), (1, .ref (aa k)), (2, .int (iz (k0))), (3, .ref (aa 19)), (4, .int (iz (f))), (5, .int (iz (c)))] [.int (iz (1))]
          rw [e19k, e19kf] at hq4
          have hwo := hcg.1.mp hq4
          refine v_if_eq (tgt := 66) C dX1_heaviestLoad_27 (by decide) (by omega) (fun c5 => by exact absurd c5 (by decide)) (fun c5 => ?_)
          refine v_aload_n C 0 dX1_heaviestLoad_30 rfl ?_
          refine v_iload C 5 dX1_heaviestLoad_31 rfl ?_
          refine v_callV (st := []) (n := 1) (q := 8) C [.int (iz (c))] (ct_Choice_isInside C.2.2.2.2.2.2.1 m3 (c) (by first | assumption | omega) (by rw [e19l, e19h]; exact hlh)) lC8 (eC8 _) rfl qw856 qw12 qw853 rfl rfl ⟨Nat.le_of_ble_eq_true rfl, Nat.le_of_ble_eq_true rfl⟩ (by decide +kernel) qw855 qp26 rfl rfl (Nat.le_of_ble_eq_true rfl) dX1_heaviestLoad_33 (fun r m6 hq6 => ?_)
          obtain ⟨z6, rfl, ⟨rfl, hq6, rfl⟩ | ⟨rfl, hq6, rfl⟩⟩ := hq6
          · show V E (wC D cy aa ad) 6 m3 36 [(0, .ref (aa 8)), (1, .ref (aa k)), (2, .int (iz (k0))), (3, .ref (aa 19)), (4, .int (iz (f))), (5, .int (iz (c)))] [.int (iz (1))]
            rw [e19l, e19h] at hq6
            refine v_if_eq (tgt := 66) C dX1_heaviestLoad_36 (by decide) (by omega) (fun c7 => by exact absurd c7 (by decide)) (fun c7 => ?_)
            have K39 : ∀ (nK : Nat) (f3 : Int) (mI : Mem) (hfr3 : (0 ≤ f3 ∧ f3 ≤ 40)) (hge : f ≤ f3) (hex3 : soL (okL (m kf) (m k 5) (m k 2) (m k 3) k0 (m 10) (m 11)) f3 (c + 1)) (hf3 : ∀ q, (q < 15 ∨ (23 ≤ q ∧ q < 39) ∨ 42 ≤ q) → mI q = m q) (hun : ∀ j : Int, 0 ≤ j → j < 3 → mI 20 j = unZ c j), (40 - f3).toNat < nK → V E (wC D cy aa ad) 6 mI 39 [(0, .ref (aa 8)), (1, .ref (aa k)), (2, .int (iz (k0))), (3, .ref (aa 19)), (4, .int (iz (f3))), (5, .int (iz (c)))] [] := by
              intro nK
              induction nK with
              | zero => intro f3 mI hfr3 hge hex3 hf3 hun hn; exact absurd hn (Nat.not_lt_zero _)
              | succ nK ih39 =>
                intro f3 mI hfr3 hge hex3 hf3 hun hn39
                have kI : mI k = m k := hf3 k (by omega)
                have kfI : mI kf = m kf := hf3 kf (by omega)
                have hcI := dv_cg (fa := m kf) (n := m k 5) (P := f3 + 1) (U := mI 20) (W := unZ c) hk5.2 hun
                refine v_iload C 4 dX1_heaviestLoad_39 rfl ?_
                refine v_bipush (z := 40) C dX1_heaviestLoad_41 (by decide) ?_
                refine v_icmp_ge (tgt := 66) C dX1_heaviestLoad_43 (by decide) (by omega) (by omega) (fun c8 => ?_) (fun c8 => ?_)
                · refine v_sub [0, 1, 2, 3, 4, 5] rfl ?_
                  exact K66  (f3) mI (by first | exact hfr | exact hfr3) (by 
                                        first
                                          | exact hex3
                                          | exact hex.up
                                      ) (by 
                                        intro d v h0 h1 h2 h3 h4
                                        by_cases e : d = c
                                        · subst e
                                          first
                                            | exact hq4 (by rw [e19k, e19kf]; exact hcg.1.mpr h4.1.1)
                                            | exact hq6 (by rw [e19l, e19h]; exact h4.1.2)
                                            | omega
                                            | exact hst v h2 h3 h4
                                        · exact hno d v h0 (by omega) (by omega) h3 h4
                                      ) (by 
                                        first
                                          | exact hf3
                                          | (intro q h; rw [o19 q (by omega)]; exact hf q h)
                                          | (intro q h; rw [NO_h53.2 q (by omega)]; exact hf3 q h)
                                      )
                · refine v_aload_n C 0 dX1_heaviestLoad_46 rfl ?_
                  refine v_aload_n C 1 dX1_heaviestLoad_47 rfl ?_
                  refine v_iload C 4 dX1_heaviestLoad_48 rfl ?_
                  refine v_iconst (z := 1) C dX1_heaviestLoad_50 rfl ?_
                  refine v_iadd C dX1_heaviestLoad_51 ?_
                  refine v_aload_n C 3 dX1_heaviestLoad_52 rfl ?_
                  refine v_callV (st := []) (n := 3) (q := 8) C [.ref (aa k), .int (iz (f3 + 1)), .ref (aa 19)] (ct_Choice_powerHeld C.2.2.2.2.2.2.1 mI (k) (kf) (ks) (kt) (kc) (f3 + 1) hk (by exact hrk.fr kI kfI (hf3 ks (by omega)) (hf3 kt (by omega)) (hf3 kc (by omega))) (by first | assumption | omega) (by rw [kI]; intro j h0 h1; rw [hun j h0 (by omega)]; exact unZ_rng (by omega) (by omega))) lC8 (eC8 _) rfl qw840 qw12 qw837 rfl rfl ⟨Nat.le_of_ble_eq_true rfl, Nat.le_of_ble_eq_true rfl⟩ (by decide +kernel) qw839 qp25 rfl rfl (Nat.le_of_ble_eq_true rfl) dX1_heaviestLoad_53 (fun r m9 hq9 => ?_)
                  obtain ⟨z9, rfl, hq9, hm9⟩ := hq9
                  show V E (wC D cy aa ad) 6 m9 56 [(0, .ref (aa 8)), (1, .ref (aa k)), (2, .int (iz (k0))), (3, .ref (aa 19)), (4, .int (iz (f3))), (5, .int (iz (c)))] [.int (iz (z9))]
                  rw [kI, kfI] at hq9 hm9
                  have hpr : -1 ≤ z9 ∧ z9 ≤ 40 := by rcases hq9 with ⟨-, y⟩ | ⟨-, y, -⟩ <;> omega
                  have hal := (un_dv hk5 (show 1 ≤ f3 + 1 ∧ f3 + 1 ≤ 40 by omega) hc.1 (show c < 4913 by omega)).al hF
                  refine v_iload_n C 2 dX1_heaviestLoad_56 rfl ?_
                  refine v_icmp_lt (tgt := 66) C dX1_heaviestLoad_57 (by decide) (by omega) (by omega) (fun c10 => ?_) (fun c10 => ?_)
                  · have hst : ∀ v : Int, f3 < v → v ≤ 40 → ¬ (okL (m kf) (m k 5) (m k 2) (m k 3) k0 (m 10) (m 11)) v c := fun v h1 h2 h3 => by
                      have z := h3.dn hF hk5 (by omega) hlw.1 hc.1 (by omega) (a := f3 + 1) (by omega) (by omega) h2
                      rcases hq9 with ⟨y, -⟩ | ⟨y, -, y2⟩
                      · exact y (hcI.2.1.mpr z.2.1)
                      · unfold paA at y2; rw [hcI.2.2.2] at y2
                        have := (y2.iff (by omega) hlw.1 hlw.2 hk0.1 hk0.2).mpr z.2.2; omega
                    refine v_sub [0, 1, 2, 3, 4, 5] rfl ?_
                    exact K66  (f3) m9 (by first | exact hfr | exact hfr3) (by 
                                            first
                                              | exact hex3
                                              | exact hex.up
                                          ) (by 
                                            intro d v h0 h1 h2 h3 h4
                                            by_cases e : d = c
                                            · subst e
                                              first
                                                | exact hq4 (by rw [e19k, e19kf]; exact hcg.1.mpr h4.1.1)
                                                | exact hq6 (by rw [e19l, e19h]; exact h4.1.2)
                                                | omega
                                                | exact hst v h2 h3 h4
                                            · exact hno d v h0 (by omega) (by omega) h3 h4
                                          ) (by 
                                            first
                                              | exact hf3
                                              | (intro q h; rw [o19 q (by omega)]; exact hf q h)
                                              | (intro q h; rw [hm9.2 q (by omega)]; exact hf3 q h)
                                          )
                  · have hok : (okL (m kf) (m k 5) (m k 2) (m k 3) k0 (m 10) (m 11)) (f3 + 1) c := by
                      rcases hq9 with ⟨-, y⟩ | ⟨y, -, y2⟩
                      · omega
                      · unfold paA at y2; rw [hcI.2.2.2] at y2
                        exact ⟨⟨hwo, hq6⟩, hcI.2.1.mp y, (y2.iff (by omega) hlw.1 hlw.2 hk0.1 hk0.2).mp (by omega)⟩
                    refine v_iinc (L1 := [(4, .int (iz (f3 + 1))), (0, .ref (aa 8)), (1, .ref (aa k)), (2, .int (iz (k0))), (3, .ref (aa 19)), (5, .int (iz (c)))]) C 4 dX1_heaviestLoad_60 rfl (by decide) rfl ?_
                    refine v_goto (tgt := 39) C dX1_heaviestLoad_63 (by decide) ?_
                    refine v_sub [1, 2, 3, 4, 0, 5] rfl ?_
                    exact ih39 (f3 + 1) m9 (by first | assumption | omega) (by first | assumption | omega) (by exact Or.inr ⟨c, hc.1, by omega, hok⟩) (by intro q h; rw [hm9.2 q (by omega)]; exact hf3 q h) (by intro j h0 h1; rw [hm9.2 20 (by omega)]; exact hun j h0 h1) (by omega)
            refine v_sub [0, 1, 2, 3, 4, 5] rfl ?_
            exact K39 _ (f) m3 (by first | assumption | omega) (by first | assumption | omega) (by exact hex.up) (by intro q h; rw [o19 q (by omega)]; exact hf q h) (by exact hq3.1) (Nat.lt_succ_self _)
          · show V E (wC D cy aa ad) 6 m3 36 [(0, .ref (aa 8)), (1, .ref (aa k)), (2, .int (iz (k0))), (3, .ref (aa 19)), (4, .int (iz (f))), (5, .int (iz (c)))] [.int (iz (0))]
            refine v_if_eq (tgt := 66) C dX1_heaviestLoad_36 (by decide) (by omega) (fun c11 => ?_) (fun c11 => by exact absurd c11 (by decide))
            refine v_sub [0, 1, 2, 3, 4, 5] rfl ?_
            exact K66  (f) m3 (by first | exact hfr | exact hfr3) (by 
                            first
                              | exact hex3
                              | exact hex.up
                          ) (by 
                            intro d v h0 h1 h2 h3 h4
                            by_cases e : d = c
                            · subst e
                              first
                                | exact hq4 (by rw [e19k, e19kf]; exact hcg.1.mpr h4.1.1)
                                | exact hq6 (by rw [e19l, e19h]; exact h4.1.2)
                                | omega
                                | exact hst v h2 h3 h4
                            · exact hno d v h0 (by omega) (by omega) h3 h4
                          ) (by 
                            first
                              | exact hf3
                              | (intro q h; rw [o19 q (by omega)]; exact hf q h)
                              | (intro q h; rw [NO_h53.2 q (by omega)]; exact hf3 q h)
                          )
        · show V E (wC D cy aa ad) 6 m3 27 [(0, .ref (aa 8)), (1, .ref (aa k)), (2, .int (iz (k0))), (3, .ref (aa 19)), (4, .int (iz (f))), (5, .int (iz (c)))] [.int (iz (0))]
          refine v_if_eq (tgt := 66) C dX1_heaviestLoad_27 (by decide) (by omega) (fun c12 => ?_) (fun c12 => by exact absurd c12 (by decide))
          refine v_sub [0, 1, 2, 3, 4, 5] rfl ?_
          exact K66  (f) m3 (by first | exact hfr | exact hfr3) (by 
                        first
                          | exact hex3
                          | exact hex.up
                      ) (by 
                        intro d v h0 h1 h2 h3 h4
                        by_cases e : d = c
                        · subst e
                          first
                            | exact hq4 (by rw [e19k, e19kf]; exact hcg.1.mpr h4.1.1)
                            | exact NO_q33 (by rw [e19l, e19h]; exact h4.1.2)
                            | omega
                            | exact hst v h2 h3 h4
                        · exact hno d v h0 (by omega) (by omega) h3 h4
                      ) (by 
                        first
                          | exact hf3
                          | (intro q h; rw [o19 q (by omega)]; exact hf q h)
                          | (intro q h; rw [NO_h53.2 q (by omega)]; exact hf3 q h)
                      )
  refine v_sub [2, 3, 4, 5, 1, 0] rfl ?_
  exact K6 _ (0) (0) m (by first | assumption | omega) (by first | assumption | omega) (by exact Or.inl rfl) (by intro d v h0 h1; omega) (by intro q _; rfl) (Nat.lt_succ_self _)
