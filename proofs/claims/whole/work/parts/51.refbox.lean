def SeC (m : Mem) (lo hi : Int → Int) (b n : Int) : Prop := (b = 1 ∧ AtC m lo hi n) ∨ (b = 0 ∧ n = 4913)
theorem AtC.fr {m m1 : Mem} {lo hi : Int → Int} {n : Int} (h : AtC m lo hi n) (e : m1 9 = m 9) : AtC m1 lo hi n := by unfold AtC; rw [e]; exact h
theorem SeC.fr {m m1 : Mem} {lo hi : Int → Int} {b n : Int} (h : SeC m lo hi b n) (e : m1 9 = m 9) : SeC m1 lo hi b n := h.imp (fun a => ⟨a.1, a.2.fr e⟩) (fun a => a)
theorem SeC.at {m : Mem} {lo hi : Int → Int} {b n : Int} (h : SeC m lo hi b n) (hb : b ≠ 0) : AtC m lo hi n := by
  rcases h with ⟨-, a⟩ | ⟨a, -⟩
  · exact a
  · exact absurd a hb
theorem SeC.end {m : Mem} {lo hi : Int → Int} {b n : Int} (h : SeC m lo hi b n) (hb : b = 0) : n = 4913 := by
  rcases h with ⟨a, -⟩ | ⟨-, a⟩
  · omega
  · exact a
theorem SeC.b {m : Mem} {lo hi : Int → Int} {b n : Int} (h : SeC m lo hi b n) : (b = 0 ∨ b = 1) ∧ 0 ≤ n ∧ n ≤ 4913 := by
  rcases h with ⟨a, c⟩ | ⟨a, c⟩
  · have := c.1; omega
  · omega
theorem BxOk.fr {m m1 : Mem} {lo hi : Int → Int} (h : BxOk m lo hi) (e : m1 13 = m 13) (f : m1 14 = m 14) : BxOk m1 lo hi := by unfold BxOk; rw [e, f]; exact h
def pcA (fa : Int → Int) (n up lw P : Int) (lo hi : Int → Int) (k c : Int) : Prop := inB lo hi c ∧ hoA fa n P (unZ c) ∧ reA fa n up lw P (unZ c) k.toNat
theorem we_rng {fa : Int → Int} {n P c : Int} (hF : FaOk fa n) (hn : 1 ≤ n ∧ n ≤ 3) (hP : 1 ≤ P ∧ P ≤ 40) (h0 : 0 ≤ c) (h1 : c < 4913) : 1 ≤ weA fa n P c ∧ weA fa n P c ≤ 358 := stZ_rng hF hn.2 hP (un_dv hn hP h0 h1).2.2 (by omega) (by omega)
set_option maxHeartbeats 4000000 in
set_option maxRecDepth 100000 in
theorem ct_StageRatiosModel_laysBox {lau : Launch} {D : va_G} {cy : Nat → ClassId} {aa ad : Nat → Nat} (hI : wI (wR D cy aa ad)) (m : Mem) (fa Af Bf Cf Rr Xx : Int → Int) (hg : RT m fa Af Bf Cf Rr Xx) : MT lau (wR D cy aa ad) yX11_laysBox cX11_laysBox 2 (none) ({ frames := 0, cells := 0, slots := 0, locals := 0 } : Room) m [.ref (aa 0)] (Pv (fun m' => BxOk m' (loX Xx) (hiX Xx) ∧ AtC m' (loX Xx) (hiX Xx) (cdZ (loX Xx)) ∧ m' 0 34 = Xx 0 ∧ (∀ j : Int, j ≠ 34 → m' 0 j = m 0 j) ∧ ∀ q : Nat, q ≠ 0 → q ≠ 9 → q ≠ 13 → q ≠ 14 → m' q = m q)) := by
  refine v_entry hI RX11 (by decide) rfl (Nat.le_of_ble_eq_true rfl) (fun E hE C X => ?_)
  subst hE
  show V E (wR D cy aa ad) 2 m 0 [(0, .ref (aa 0))] []
  obtain ⟨⟨r11, r8, r9, r10, r12⟩, r1, r2, r6, hvd, hfo⟩ := id hg
  obtain ⟨hn, hF, hup, hlw, hX⟩ := id hvd
  have hb3 := hX.2.2
  have hms : ∀ s : Int, 0 ≤ s → 0 ≤ mstZ fa (Rr 5) s ∧ mstZ fa (Rr 5) s ≤ 16 := fun s h => mst_rng hF h
  refine v_aload_n C 0 dX11_laysBox_0 rfl ?_
  refine v_aload_n C 0 dX11_laysBox_1 rfl ?_
  refine v_get C 0 21 lR0 (eR0 _) rfl inX11 (by decide) rfl qw1161 dX11_laysBox_2 ?_
  refine v_iconst (z := 0) C dX11_laysBox_5 rfl ?_
  refine v_iald C 6 lR6 (eR6 _) (by decide) (by omega) dX11_laysBox_6 ?_
  refine v_put C 0 34 (m 6 0) 34 rfl lR0 (eR0 _) rfl inX11 tyX11 tyX11_ok nmX11 (by decide) qw1174 rfl rfl rfl (Nat.le_of_ble_eq_true rfl) (by rw [mup_r]; exact (eR0 _)) dX11_laysBox_7 (fun m1 em1 => ?_)
  refine v_iconst (z := 0) C dX11_laysBox_10 rfl ?_
  refine v_istore_n (L1 := [(1, .int (iz (0))), (0, .ref (aa 0))]) C dX11_laysBox_11 (by decide) rfl ?_
  have K12 : ∀ (nK : Nat) (i : Int) (mL : Mem) (hi : 0 ≤ i ∧ i ≤ 3) (h9 : ∀ j : Int, 0 ≤ j → j < i → mL 13 j = loX Xx j ∧ mL 14 j = hiX Xx j ∧ mL 9 j = loX Xx j) (h34 : mL 0 34 = Xx 0) (h0 : ∀ j : Int, j ≠ 34 → mL 0 j = m 0 j) (hf : ∀ q : Nat, q ≠ 0 → q ≠ 9 → q ≠ 13 → q ≠ 14 → mL q = m q), (3 - i).toNat < nK → V E (wR D cy aa ad) 2 mL 12 [(0, .ref (aa 0)), (1, .int (iz (i)))] [] := by
    intro nK
    induction nK with
    | zero => intro i mL hi h9 h34 h0 hf hn; exact absurd hn (Nat.not_lt_zero _)
    | succ nK ih12 =>
      intro i mL hi h9 h34 h0 hf hn12
      have e6 : mL 6 = m 6 := hf 6 (by decide) (by decide) (by decide) (by decide)
      have e11 : mL 0 11 = Rr 5 := by rw [h0 11 (by decide)]; exact r11
      refine v_iload_n C 1 dX11_laysBox_12 rfl ?_
      refine v_iconst (z := 3) C dX11_laysBox_13 rfl ?_
      refine v_icmp_ge (tgt := 88) C dX11_laysBox_14 (by decide) (by omega) (by omega) (fun c2 => ?_) (fun c2 => ?_)
      · refine v_vret C X dX11_laysBox_88 ⟨rfl, ?_⟩
        have hbx : BxOk mL (loX Xx) (hiX Xx) := fun j j0 j1 => by
          have y := h9 j j0 (by omega)
          have z := (hb3 j j0 j1).2
          have w9 := hms j j0
          refine ⟨y.1, y.2.1, ?_⟩
          unfold loX hiX; omega
        have hfb := first_box (fun j j0 j1 => (hbx j j0 j1).2.2)
        have huc := unZ_cd (U := loX Xx) (fun j j0 j1 => by have := (hbx j j0 j1).2.2; omega)
        exact ⟨hbx, ⟨huc.1, hfb.1, fun j j0 j1 => by rw [(h9 j j0 (by omega)).2.2]; exact (huc.2 j j0 j1).symm⟩, h34, h0, hf⟩
      · refine v_aload_n C 0 dX11_laysBox_17 rfl ?_
        refine v_get C 0 40 lR0 (eR0 _) rfl inX11 (by decide) rfl qw1180 dX11_laysBox_18 ?_
        refine v_iload_n C 1 dX11_laysBox_21 rfl ?_
        have K42 : ∀ (v : Int) (h13 : v = loX Xx i), V E (wR D cy aa ad) 2 mL 42 [(0, .ref (aa 0)), (1, .int (iz (i)))] [.int (iz (v)), .int (iz (i)), .ref (aa 13)] := by
          intro v  h13
          refine v_iast C 13 lR13 eR13 (by decide) (by omega) dX11_laysBox_42 (fun m3 em3 => ?_)
          have e6b : m3 6 = m 6 := by rw [em3, mup_k _ _ _ (by decide)]; exact e6
          have e11b : m3 0 11 = Rr 5 := by rw [em3, mup_k _ _ _ (by decide)]; exact e11
          refine v_aload_n C 0 dX11_laysBox_43 rfl ?_
          refine v_get C 0 41 lR0 (eR0 _) rfl inX11 (by decide) rfl qw1181 dX11_laysBox_44 ?_
          refine v_iload_n C 1 dX11_laysBox_47 rfl ?_
          have K69 : ∀ (u : Int) (h14 : u = hiX Xx i), V E (wR D cy aa ad) 2 m3 69 [(0, .ref (aa 0)), (1, .int (iz (i)))] [.int (iz (u)), .int (iz (i)), .ref (aa 14)] := by
            intro u  h14
            refine v_iast C 14 lR14 eR14 (by decide) (by omega) dX11_laysBox_69 (fun m4 em4 => ?_)
            refine v_aload_n C 0 dX11_laysBox_70 rfl ?_
            refine v_get C 0 33 lR0 (eR0 _) rfl inX11 (by decide) rfl qw1173 dX11_laysBox_71 ?_
            refine v_iload_n C 1 dX11_laysBox_74 rfl ?_
            refine v_aload_n C 0 dX11_laysBox_75 rfl ?_
            refine v_get C 0 40 lR0 (eR0 _) rfl inX11 (by decide) rfl qw1180 dX11_laysBox_76 ?_
            refine v_iload_n C 1 dX11_laysBox_79 rfl ?_
            refine v_iald C 13 lR13 (eR13 _) (by decide) (by omega) dX11_laysBox_80 ?_
            refine v_iast C 9 lR9 eR9 (by decide) (by omega) dX11_laysBox_81 (fun m5 em5 => ?_)
            refine v_iinc (L1 := [(1, .int (iz (i + 1))), (0, .ref (aa 0))]) C 1 dX11_laysBox_82 rfl (by decide) rfl ?_
            refine v_goto (tgt := 12) C dX11_laysBox_85 (by decide) ?_
            refine v_sub [1, 0] rfl ?_
            exact ih12 (i + 1) m5 (by first | assumption | omega) (by 
                            intro j j0 j1
                            have e13 : m5 13 = m3 13 := by rw [em5, mup_k _ _ _ (by decide), em4, mup_k _ _ _ (by decide)]
                            have e14 : m5 14 = m4 14 := by rw [em5, mup_k _ _ _ (by decide)]
                            by_cases e : j = i
                            · subst e
                              rw [e13, e14, em5, mup_s, em4, mup_s, mup_k _ _ _ (by decide), em3, mup_s, h13, h14]
                              exact ⟨rfl, rfl, rfl⟩
                            · rw [e13, e14, em5, mup_r, em4, mup_r, em3, mup_r]
                              have y := h9 j j0 (by omega)
                              exact ⟨(if_neg e).trans y.1, (if_neg e).trans (by rw [mup_k _ _ _ (by decide)]; exact y.2.1), (if_neg e).trans (by rw [mup_k _ _ _ (by decide), mup_k _ _ _ (by decide)]; exact y.2.2)⟩
                          ) (by rw [em5, mup_k _ _ _ (by decide), em4, mup_k _ _ _ (by decide), em3, mup_k _ _ _ (by decide)]; exact h34) (by intro j h; rw [em5, mup_k _ _ _ (by decide), em4, mup_k _ _ _ (by decide), em3, mup_k _ _ _ (by decide)]; exact h0 j h) (by intro q h1 h2 h3 h4; rw [em5, mup_k _ _ _ h2, em4, mup_k _ _ _ h4, em3, mup_k _ _ _ h3]; exact hf q h1 h2 h3 h4) (by omega)
          refine v_iload_n C 1 dX11_laysBox_48 rfl ?_
          refine v_aload_n C 0 dX11_laysBox_49 rfl ?_
          refine v_get C 0 11 lR0 (eR0 _) rfl inX11 (by decide) rfl qw1151 dX11_laysBox_50 ?_
          refine v_icmp_ge (tgt := 68) C dX11_laysBox_53 (by decide) (by omega) (by omega) (fun c6 => ?_) (fun c6 => ?_)
          · refine v_iconst (z := 0) C dX11_laysBox_68 rfl ?_
            refine v_sub [0, 1] rfl ?_
            exact K69  (0)  (by 
                            first
                              | (rw [e6b]; exact r6 _ (by omega) (by omega))
                              | (have y := hb3 i (by omega) (by omega)
                                 have z : mstZ fa (Rr 5) i = 0 := if_neg (by omega)
                                 unfold hiX; omega)
                          )
          · refine v_aload_n C 0 dX11_laysBox_56 rfl ?_
            refine v_get C 0 21 lR0 (eR0 _) rfl inX11 (by decide) rfl qw1161 dX11_laysBox_57 ?_
            refine v_bipush (z := 8) C dX11_laysBox_60 (by decide) ?_
            refine v_iload_n C 1 dX11_laysBox_62 rfl ?_
            refine v_iadd C dX11_laysBox_63 ?_
            refine v_iald C 6 lR6 (eR6 _) (by decide) (by omega) dX11_laysBox_64 ?_
            refine v_goto (tgt := 69) C dX11_laysBox_65 (by decide) ?_
            refine v_sub [0, 1] rfl ?_
            exact K69  (m3 6 (8 + i))  (by 
                            first
                              | (rw [e6b]; exact r6 _ (by omega) (by omega))
                              | (have y := hb3 i (by omega) (by omega)
                                 have z : mstZ fa (Rr 5) i = 0 := if_neg (by omega)
                                 unfold hiX; omega)
                          )
        refine v_iload_n C 1 dX11_laysBox_22 rfl ?_
        refine v_aload_n C 0 dX11_laysBox_23 rfl ?_
        refine v_get C 0 11 lR0 (eR0 _) rfl inX11 (by decide) rfl qw1151 dX11_laysBox_24 ?_
        refine v_icmp_ge (tgt := 41) C dX11_laysBox_27 (by decide) (by omega) (by omega) (fun c7 => ?_) (fun c7 => ?_)
        · refine v_iconst (z := 0) C dX11_laysBox_41 rfl ?_
          refine v_sub [0, 1] rfl ?_
          exact K42  (0)  (by 
                        first
                          | (rw [e6]; exact r6 _ (by omega) (by omega))
                          | (have y := hb3 i (by omega) (by omega)
                             have z : mstZ fa (Rr 5) i = 0 := if_neg (by omega)
                             unfold loX; omega)
                      )
        · refine v_aload_n C 0 dX11_laysBox_30 rfl ?_
          refine v_get C 0 21 lR0 (eR0 _) rfl inX11 (by decide) rfl qw1161 dX11_laysBox_31 ?_
          refine v_iconst (z := 5) C dX11_laysBox_34 rfl ?_
          refine v_iload_n C 1 dX11_laysBox_35 rfl ?_
          refine v_iadd C dX11_laysBox_36 ?_
          refine v_iald C 6 lR6 (eR6 _) (by decide) (by omega) dX11_laysBox_37 ?_
          refine v_goto (tgt := 42) C dX11_laysBox_38 (by decide) ?_
          refine v_sub [0, 1] rfl ?_
          exact K42  (mL 6 (5 + i))  (by 
                        first
                          | (rw [e6]; exact r6 _ (by omega) (by omega))
                          | (have y := hb3 i (by omega) (by omega)
                             have z : mstZ fa (Rr 5) i = 0 := if_neg (by omega)
                             unfold loX; omega)
                      )
  refine v_sub [1, 0] rfl ?_
  exact K12 _ (0) m1 (by first | assumption | omega) (by intro j h0 h1; omega) (by rw [em1, mup_s]; exact r6 0 (by decide) (by decide)) (by intro j h; rw [em1, mup_j _ _ h]) (by intro q h1 h2 h3 h4; rw [em1, mup_k _ _ _ h1]) (Nat.lt_succ_self _)

set_option maxHeartbeats 4000000 in
set_option maxRecDepth 100000 in
theorem ct_StageRatiosModel_goesOn {lau : Launch} {D : va_G} {cy : Nat → ClassId} {aa ad : Nat → Nat} (hI : wI (wR D cy aa ad)) (m : Mem) (lo hi : Int → Int) (n : Int) (hbx : BxOk m lo hi) (hat : AtC m lo hi n) : MT lau (wR D cy aa ad) yX11_goesOn cX11_goesOn 2 (some .boolean) ({ frames := 0, cells := 0, slots := 0, locals := 0 } : Room) m [.ref (aa 0)] (Pi (fun z m' => (∃ n2, n < n2 ∧ SeC m' lo hi z n2 ∧ ∀ c : Int, n < c → c < n2 → ¬ inB lo hi c) ∧ ∀ q : Nat, q ≠ 9 → m' q = m q)) := by
  refine v_entry hI RX11 (by decide) rfl (Nat.le_of_ble_eq_true rfl) (fun E hE C X => ?_)
  subst hE
  show V E (wR D cy aa ad) 2 m 0 [(0, .ref (aa 0))] []
  obtain ⟨hnr, hnb, h9⟩ := id hat
  have hb3 : ∀ j : Int, 0 ≤ j → j < 3 → 0 ≤ lo j ∧ lo j ≤ hi j ∧ hi j ≤ 16 := fun j j0 j1 => (hbx j j0 j1).2.2
  have ecd := cd_unZ hnr.1
  refine v_iconst (z := 2) C dX11_goesOn_0 rfl ?_
  refine v_istore_n (L1 := [(1, .int (iz (2))), (0, .ref (aa 0))]) C dX11_goesOn_1 (by decide) rfl ?_
  have K2 : ∀ (nK : Nat) (s : Int) (mL : Mem) (hs : -1 ≤ s ∧ s ≤ 2) (hlo : ∀ j : Int, s < j → j < 3 → mL 9 j = lo j) (heq : ∀ j : Int, 0 ≤ j → j ≤ s → mL 9 j = unZ n j) (hmax : ∀ j : Int, s < j → j < 3 → unZ n j = hi j) (hf : ∀ q : Nat, q ≠ 9 → mL q = m q), (s + 1).toNat < nK → V E (wR D cy aa ad) 2 mL 2 [(0, .ref (aa 0)), (1, .int (iz (s)))] [] := by
    intro nK
    induction nK with
    | zero => intro s mL hs hlo heq hmax hf hn; exact absurd hn (Nat.not_lt_zero _)
    | succ nK ih2 =>
      intro s mL hs hlo heq hmax hf hn2
      refine v_iload_n C 1 dX11_goesOn_2 rfl ?_
      refine v_if_lt (tgt := 51) C dX11_goesOn_3 (by decide) (by omega) (fun c1 => ?_) (fun c1 => ?_)
      · refine v_iconst (z := 0) C dX11_goesOn_51 rfl ?_
        refine v_iret C X (by decide) dX11_goesOn_52 ⟨_, rfl, ?_, ?_⟩
        · exact ⟨4913, hnr.2, Or.inr ⟨rfl, rfl⟩, fun c c0 c1 => last_box (D := unZ n) (fun j j0 j1 => hmax j (by omega) j1) (by omega) (by rw [ecd]; exact c0)⟩
        · exact hf
      · have e14 : mL 14 s = hi s := by rw [hf 14 (by decide)]; exact (hbx s (by omega) (by omega)).2.1
        have e9s := heq s (by omega) (Int.le_refl _)
        have hbs := hb3 s (by omega) (by omega)
        have hns := hnb s (by omega) (by omega)
        refine v_aload_n C 0 dX11_goesOn_6 rfl ?_
        refine v_get C 0 33 lR0 (eR0 _) rfl inX11 (by decide) rfl qw1173 dX11_goesOn_7 ?_
        refine v_iload_n C 1 dX11_goesOn_10 rfl ?_
        refine v_iald C 9 lR9 (eR9 _) (by decide) (by omega) dX11_goesOn_11 ?_
        refine v_aload_n C 0 dX11_goesOn_12 rfl ?_
        refine v_get C 0 41 lR0 (eR0 _) rfl inX11 (by decide) rfl qw1181 dX11_goesOn_13 ?_
        refine v_iload_n C 1 dX11_goesOn_16 rfl ?_
        refine v_iald C 14 lR14 (eR14 _) (by decide) (by omega) dX11_goesOn_17 ?_
        refine v_icmp_ge (tgt := 33) C dX11_goesOn_18 (by decide) (by omega) (by omega) (fun c2 => ?_) (fun c2 => ?_)
        · refine v_aload_n C 0 dX11_goesOn_33 rfl ?_
          refine v_get C 0 33 lR0 (eR0 _) rfl inX11 (by decide) rfl qw1173 dX11_goesOn_34 ?_
          refine v_iload_n C 1 dX11_goesOn_37 rfl ?_
          refine v_aload_n C 0 dX11_goesOn_38 rfl ?_
          refine v_get C 0 40 lR0 (eR0 _) rfl inX11 (by decide) rfl qw1180 dX11_goesOn_39 ?_
          refine v_iload_n C 1 dX11_goesOn_42 rfl ?_
          refine v_iald C 13 lR13 (eR13 _) (by decide) (by omega) dX11_goesOn_43 ?_
          refine v_iast C 9 lR9 eR9 (by decide) (by omega) dX11_goesOn_44 (fun m3 em3 => ?_)
          refine v_iinc (L1 := [(1, .int (iz (s + (-1)))), (0, .ref (aa 0))]) C 1 dX11_goesOn_45 rfl (by decide) rfl ?_
          refine v_goto (tgt := 2) C dX11_goesOn_48 (by decide) ?_
          refine v_sub [1, 0] rfl ?_
          exact ih2 (s + (-1)) m3 (by first | assumption | omega) (by 
                        intro j h0 h1; rw [em3, mup_r]
                        by_cases e : j = s
                        · refine (if_pos e).trans ?_; rw [hf 13 (by decide), e]; exact (hbx s (by omega) (by omega)).1
                        · exact (if_neg e).trans (hlo j (by omega) h1)
                      ) (by intro j h0 h1; rw [em3, mup_r]; exact (if_neg (by omega)).trans (heq j h0 (by omega))) (by 
                        intro j h0 h1
                        by_cases e : j = s
                        · rw [e]; omega
                        · exact hmax j (by omega) h1
                      ) (by intro q h; rw [em3, mup_k _ _ _ h]; exact hf q h) (by omega)
        · refine v_aload_n C 0 dX11_goesOn_21 rfl ?_
          refine v_get C 0 33 lR0 (eR0 _) rfl inX11 (by decide) rfl qw1173 dX11_goesOn_22 ?_
          refine v_iload_n C 1 dX11_goesOn_25 rfl ?_
          refine v_dup2 C dX11_goesOn_26 rfl rfl ?_
          refine v_iald C 9 lR9 (eR9 _) (by decide) (by omega) dX11_goesOn_27 ?_
          refine v_iconst (z := 1) C dX11_goesOn_28 rfl ?_
          refine v_iadd C dX11_goesOn_29 ?_
          refine v_iast C 9 lR9 eR9 (by decide) (by omega) dX11_goesOn_30 (fun m4 em4 => ?_)
          refine v_iconst (z := 1) C dX11_goesOn_31 rfl ?_
          refine v_iret C X (by decide) dX11_goesOn_32 ⟨_, rfl, ?_, ?_⟩
          · have hF : ∀ j : Int, 0 ≤ j → j < 3 → m4 9 j = if j = s then unZ n j + 1 else if s < j then lo j else unZ n j := fun j j0 j1 => by
              rw [em4, mup_r]
              by_cases e : j = s
              · rw [if_pos e, e]; exact (if_pos rfl).trans (by rw [e9s])
              · rw [if_neg e]; refine (if_neg e).trans ?_
                by_cases d : s < j
                · rw [if_pos d]; exact hlo j d j1
                · rw [if_neg d]; exact heq j j0 (by omega)
            have nb := next_box hb3 (D := unZ n) (F := m4 9) hnb (by omega) (by omega) (by omega) hmax hF
            rw [ecd] at nb
            have hur : ∀ j : Int, 0 ≤ j → j < 3 → 0 ≤ m4 9 j ∧ m4 9 j ≤ 16 := fun j j0 j1 => by
              have a := hb3 j j0 j1
              have b := hnb j j0 j1
              rw [hF j j0 j1]; split
              · rename_i e; subst e; omega
              · split <;> omega
            have u := unZ_cd hur
            exact ⟨cdZ (m4 9), nb.1, Or.inl ⟨rfl, u.1, nb.2.1, fun j j0 j1 => (u.2 j j0 j1).symm⟩, nb.2.2⟩
          · intro q h; rw [em4, mup_k _ _ _ h]; exact hf q h
  refine v_sub [1, 0] rfl ?_
  exact K2 _ (2) m (by first | assumption | omega) (by intro j h0 h1; omega) (by intro j h0 h1; exact h9 j h0 (by omega)) (by intro j h0 h1; omega) (by intro q _; rfl) (Nat.lt_succ_self _)

set_option maxHeartbeats 4000000 in
set_option maxRecDepth 100000 in
theorem ct_StageRatiosModel_laysBest {lau : Launch} {D : va_G} {cy : Nat → ClassId} {aa ad : Nat → Nat} (hI : wI (wR D cy aa ad)) (m : Mem) (fa Af Bf Cf Rr Xx : Int → Int) (lo hi : Int → Int) (Pp n k : Int) (hg : RT m fa Af Bf Cf Rr Xx) (hbx : BxOk m lo hi) (hat : AtC m lo hi n) (hfst : ∀ c : Int, 0 ≤ c → c < n → ¬ inB lo hi c) (h34 : m 0 34 = Pp) (hPp : 1 ≤ Pp ∧ Pp ≤ 40) (hk : kPw k) : MT lau (wR D cy aa ad) yX11_laysBest cX11_laysBest 5 (none) ({ frames := 6, cells := 0, slots := 0, locals := 131 } : Room) m [.ref (aa 0), .int (iz (k))] (Pv (fun m' => (∃ b, bsP (pcA fa (Rr 5) (Rr 2) (Rr 3) Pp lo hi k) (weA fa (Rr 5) Pp) 4913 b ∧ ((b = -1 ∧ m' 0 43 = -2) ∨ (0 ≤ b ∧ m' 0 43 = weA fa (Rr 5) Pp b ∧ ∀ j : Int, 0 ≤ j → j < 3 → m' 15 j = unZ b j))) ∧ (∀ j : Int, j ≠ 37 → j ≠ 38 → j ≠ 43 → m' 0 j = m 0 j) ∧ (∀ q : Nat, q ≠ 0 → q ≠ 9 → q ≠ 10 → q ≠ 11 → q ≠ 15 → m' q = m q))) := by
  refine v_entry hI RX11 (by decide) rfl (Nat.le_of_ble_eq_true rfl) (fun E hE C X => ?_)
  subst hE
  show V E (wR D cy aa ad) 5 m 0 [(0, .ref (aa 0)), (1, .int (iz (k)))] []
  obtain ⟨⟨r11, r8, r9, r10, r12⟩, r1, r2, r6, hvd, hfo⟩ := id hg
  obtain ⟨hn, hF, hup, hlw, hX⟩ := id hvd
  have n9 := n
  refine v_aload_n C 0 dX11_laysBest_0 rfl ?_
  refine v_bipush (z := -2) C dX11_laysBest_1 (by decide) ?_
  refine v_put C 0 43 (-2) 43 rfl lR0 (eR0 _) rfl inX11 tyX11 tyX11_ok nmX11 (by decide) qw1183 rfl rfl rfl (Nat.le_of_ble_eq_true rfl) (by rw [mup_r]; exact (eR0 _)) dX11_laysBest_3 (fun m1 em1 => ?_)
  refine v_iconst (z := 1) C dX11_laysBest_6 rfl ?_
  refine v_istore_n (L1 := [(2, .int (iz (1))), (0, .ref (aa 0)), (1, .int (iz (k)))]) C dX11_laysBest_7 (by decide) rfl ?_
  have K8 : ∀ (nK : Nat) (b : Int) (i : Int) (z : Int) (mL : Mem) (hst : SeC mL lo hi b i) (hz : bsP (pcA fa (Rr 5) (Rr 2) (Rr 3) Pp lo hi k) (weA fa (Rr 5) Pp) i z) (hbm : ((z = -1 ∧ mL 0 43 = -2) ∨ (0 ≤ z ∧ mL 0 43 = weA fa (Rr 5) Pp z ∧ ∀ j : Int, 0 ≤ j → j < 3 → mL 15 j = unZ z j))) (h0 : (∀ j : Int, j ≠ 37 → j ≠ 38 → j ≠ 43 → mL 0 j = m 0 j)) (hf : (∀ q : Nat, q ≠ 0 → q ≠ 9 → q ≠ 10 → q ≠ 11 → q ≠ 15 → mL q = m q)), (4913 - i).toNat < nK → V E (wR D cy aa ad) 5 mL 8 [(0, .ref (aa 0)), (1, .int (iz (k))), (2, .int (iz (b)))] [] := by
    intro nK
    induction nK with
    | zero => intro b i z mL hst hz hbm h0 hf hn; exact absurd hn (Nat.not_lt_zero _)
    | succ nK ih8 =>
      intro b i z mL hst hz hbm h0 hf hn8
      obtain ⟨hb01, hi0, hi1⟩ := hst.b
      refine v_iload_n C 2 dX11_laysBest_8 rfl ?_
      refine v_if_eq (tgt := 92) C dX11_laysBest_9 (by decide) (by omega) (fun c2 => ?_) (fun c2 => ?_)
      · refine v_vret C X dX11_laysBest_92 ⟨rfl, ?_⟩
        rw [hst.end (by omega)] at hz; exact ⟨⟨z, hz, hbm⟩, h0, hf⟩
      · have hg_mL : RT mL fa Af Bf Cf Rr Xx := hg.fr (fun j hj => h0 j (by unfold CKj at hj; omega) (by unfold CKj at hj; omega) (by unfold CKj at hj; omega)) (hf 1 (by decide) (by decide) (by decide) (by decide) (by decide)) (hf 2 (by decide) (by decide) (by decide) (by decide) (by decide)) (hf 6 (by decide) (by decide) (by decide) (by decide) (by decide))
        have hbx_mL : BxOk mL lo hi := hbx.fr (hf 13 (by decide) (by decide) (by decide) (by decide) (by decide)) (hf 14 (by decide) (by decide) (by decide) (by decide) (by decide))
        have h34_mL : mL 0 34 = Pp := by rw [h0 34 (by decide) (by decide) (by decide)]; exact h34
        have hatL := hst.at (by omega)
        have hdL := hatL.dt hn hPp h34_mL
        have hwr := we_rng hF hn hPp hatL.1.1 hatL.1.2
        have hbm3 : (z = -1 ∧ mL 0 43 = -2) ∨ (0 ≤ z ∧ (1 ≤ mL 0 43 ∧ mL 0 43 ≤ 358) ∧ mL 0 43 = weA fa (Rr 5) Pp z) := by
          rcases hbm with y | y
          · exact Or.inl y
          · refine Or.inr ⟨y.1, ?_, y.2.1⟩
            rw [y.2.1]
            rcases hz with ⟨w1, -⟩ | ⟨w1, w2, -⟩
            · omega
            · exact we_rng hF hn hPp w1 (by omega)
        refine v_aload_n C 0 dX11_laysBest_12 rfl ?_
        refine v_iconst (z := 0) C dX11_laysBest_13 rfl ?_
        refine v_callV (st := []) (n := 1) (q := 0) C [.int (iz (0))] (ct_StageRatiosModel_start C.2.2.2.2.2.2.1 mL (fa) (Af) (Bf) (Cf) (Rr) (Xx) (Pp) (unZ i) (0) (by exact hg_mL) (by exact hdL) (by first | assumption | omega)) lR0 (eR0 _) rfl qw1480 qw16 qw1477 rfl rfl ⟨Nat.le_of_ble_eq_true rfl, Nat.le_of_ble_eq_true rfl⟩ (by decide +kernel) qw1479 qp60 rfl rfl (Nat.le_of_ble_eq_true rfl) dX11_laysBest_14 (fun r m3 hq3 => ?_)
        obtain ⟨z3, rfl, rfl, rfl⟩ := hq3
        show V E (wR D cy aa ad) 5 mL 17 [(0, .ref (aa 0)), (1, .int (iz (k))), (2, .int (iz (b)))] [.int (iz (stZ fa (Rr 5) Pp (unZ i) 0))]
        refine v_st (st1 := [.int (iz (weA fa (Rr 5) Pp i))]) (by rfl) ?_
        refine v_istore_n (L1 := [(3, .int (iz (weA fa (Rr 5) Pp i))), (0, .ref (aa 0)), (1, .int (iz (k))), (2, .int (iz (b)))]) C dX11_laysBest_17 (by decide) rfl ?_
        have K84 : ∀ (z2 : Int) (mK : Mem) (hz2 : bsP (pcA fa (Rr 5) (Rr 2) (Rr 3) Pp lo hi k) (weA fa (Rr 5) Pp) (i + 1) z2) (hbm2 : ((z2 = -1 ∧ mK 0 43 = -2) ∨ (0 ≤ z2 ∧ mK 0 43 = weA fa (Rr 5) Pp z2 ∧ ∀ j : Int, 0 ≤ j → j < 3 → mK 15 j = unZ z2 j))) (h9K : mK 9 = mL 9) (h0K : (∀ j : Int, j ≠ 37 → j ≠ 38 → j ≠ 43 → mK 0 j = m 0 j)) (hfK : (∀ q : Nat, q ≠ 0 → q ≠ 9 → q ≠ 10 → q ≠ 11 → q ≠ 15 → mK q = m q)), V E (wR D cy aa ad) 5 mK 84 [(0, .ref (aa 0)), (1, .int (iz (k)))] [] := by
          intro z2 mK hz2 hbm2 h9K h0K hfK
          have hg_mK : RT mK fa Af Bf Cf Rr Xx := hg.fr (fun j hj => h0K j (by unfold CKj at hj; omega) (by unfold CKj at hj; omega) (by unfold CKj at hj; omega)) (hfK 1 (by decide) (by decide) (by decide) (by decide) (by decide)) (hfK 2 (by decide) (by decide) (by decide) (by decide) (by decide)) (hfK 6 (by decide) (by decide) (by decide) (by decide) (by decide))
          have hbx_mK : BxOk mK lo hi := hbx.fr (hfK 13 (by decide) (by decide) (by decide) (by decide) (by decide)) (hfK 14 (by decide) (by decide) (by decide) (by decide) (by decide))
          have h34_mK : mK 0 34 = Pp := by rw [h0K 34 (by decide) (by decide) (by decide)]; exact h34
          have hatK := hatL.fr h9K
          refine v_aload_n C 0 dX11_laysBest_84 rfl ?_
          refine v_callV (st := []) (n := 0) (q := 0) C [] (ct_StageRatiosModel_goesOn C.2.2.2.2.2.2.1 mK (lo) (hi) (i) (by exact hbx_mK) (by exact hatK)) lR0 (eR0 _) rfl qw1598 qw16 qw1595 rfl rfl ⟨Nat.le_of_ble_eq_true rfl, Nat.le_of_ble_eq_true rfl⟩ (by decide +kernel) qw1597 qp80 rfl rfl (Nat.le_of_ble_eq_true rfl) dX11_laysBest_85 (fun r m4 hq4 => ?_)
          obtain ⟨z4, rfl, hq4, hm4⟩ := hq4
          show V E (wR D cy aa ad) 5 m4 88 [(0, .ref (aa 0)), (1, .int (iz (k)))] [.int (iz (z4))]
          obtain ⟨n2x, hn2a, hst2, hsk2⟩ := hq4
          have hb2 := hst2.b
          refine v_istore_n (L1 := [(2, .int (iz (z4))), (0, .ref (aa 0)), (1, .int (iz (k)))]) C dX11_laysBest_88 (by decide) rfl ?_
          refine v_goto (tgt := 8) C dX11_laysBest_89 (by decide) ?_
          refine v_sub [1, 2, 0] rfl ?_
          exact ih8 (z4) (n2x) (z2) m4 (by exact hst2) (by exact hz2.to (by omega) (fun c c0 c1 h => hsk2 c (by omega) c1 h.1)) (by rw [hm4 0 (by decide), hm4 15 (by decide)]; exact hbm2) (by intro j a1 a2 a3; rw [hm4 0 (by decide)]; exact h0K j a1 a2 a3) (by intro q a1 a2 a3 a4 a5; rw [hm4 q a2]; exact hfK q a1 a2 a3 a4 a5) (by omega)
        refine v_aload_n C 1 dX11_laysBest_18 rfl ?_
        have K35 : ∀  (hzi : z < 0 ∨ weA fa (Rr 5) Pp i < weA fa (Rr 5) Pp z), V E (wR D cy aa ad) 5 mL 35 [(0, .ref (aa 0)), (1, .int (iz (k))), (3, .int (iz (weA fa (Rr 5) Pp i)))] [] := by
          intro   hzi
          refine v_aload_n C 0 dX11_laysBest_35 rfl ?_
          refine v_callV (st := []) (n := 0) (q := 0) C [] (ct_StageRatiosModel_allHold C.2.2.2.2.2.2.1 mL (fa) (Af) (Bf) (Cf) (Rr) (Xx) (Pp) (unZ i) (by exact hg_mL) (by exact hdL)) lR0 (eR0 _) rfl qw1557 qw16 qw1554 rfl rfl ⟨Nat.le_of_ble_eq_true rfl, Nat.le_of_ble_eq_true rfl⟩ (by decide +kernel) qw1556 qp73 rfl rfl (Nat.le_of_ble_eq_true rfl) dX11_laysBest_36 (fun r m5 hq5 => ?_)
          obtain ⟨z5, rfl, ⟨rfl, hq5, rfl⟩ | ⟨rfl, hq5, rfl⟩⟩ := hq5
          · show V E (wR D cy aa ad) 5 mL 39 [(0, .ref (aa 0)), (1, .int (iz (k))), (3, .int (iz (weA fa (Rr 5) Pp i)))] [.int (iz (1))]
            refine v_if_eq (tgt := 84) C dX11_laysBest_39 (by decide) (by omega) (fun c6 => by exact absurd c6 (by decide)) (fun c6 => ?_)
            refine v_aload_n C 0 dX11_laysBest_42 rfl ?_
            refine v_iload_n C 1 dX11_laysBest_43 rfl ?_
            refine v_callV (st := []) (n := 1) (q := 0) C [.int (iz (k))] (ct_StageRatiosModel_divReaches C.2.2.2.2.2.2.1 mL (fa) (Af) (Bf) (Cf) (Rr) (Xx) (Pp) (unZ i) (k) (by exact hg_mL) (by exact hdL) (by first | assumption | omega)) lR0 (eR0 _) rfl qw1512 qw16 qw1509 rfl rfl ⟨Nat.le_of_ble_eq_true rfl, Nat.le_of_ble_eq_true rfl⟩ (by decide +kernel) qw1511 qp64 rfl rfl (Nat.le_of_ble_eq_true rfl) dX11_laysBest_44 (fun r m7 hq7 => ?_)
            obtain ⟨z7, rfl, ⟨rfl, hq7, hm7⟩ | ⟨rfl, hq7, hm7⟩⟩ := hq7
            · show V E (wR D cy aa ad) 5 m7 47 [(0, .ref (aa 0)), (1, .int (iz (k))), (3, .int (iz (weA fa (Rr 5) Pp i)))] [.int (iz (1))]
              refine v_if_eq (tgt := 84) C dX11_laysBest_47 (by decide) (by omega) (fun c8 => by exact absurd c8 (by decide)) (fun c8 => ?_)
              refine v_aload_n C 0 dX11_laysBest_50 rfl ?_
              refine v_iload_n C 2 dX11_laysBest_51 rfl ?_
              refine v_put C 0 43 (weA fa (Rr 5) Pp i) 43 rfl lR0 (eR0 _) rfl inX11 tyX11 tyX11_ok nmX11 (by decide) qw1183 rfl rfl rfl (Nat.le_of_ble_eq_true rfl) (by rw [mup_r]; exact (eR0 _)) dX11_laysBest_52 (fun m9 em9 => ?_)
              refine v_iconst (z := 0) C dX11_laysBest_55 rfl ?_
              refine v_istore (L1 := [(4, .int (iz (0))), (0, .ref (aa 0)), (1, .int (iz (k))), (3, .int (iz (weA fa (Rr 5) Pp i)))]) C dX11_laysBest_56 (by decide) rfl ?_
              have K58 : ∀ (nK : Nat) (s : Int) (mI : Mem) (hs : 0 ≤ s ∧ s ≤ 3) (hI15 : ∀ j : Int, 0 ≤ j → j < s → mI 15 j = unZ i j) (hI43 : mI 0 43 = weA fa (Rr 5) Pp i) (hI9 : mI 9 = mL 9) (hI0 : (∀ j : Int, j ≠ 37 → j ≠ 38 → j ≠ 43 → mI 0 j = m 0 j)) (hIf : (∀ q : Nat, q ≠ 0 → q ≠ 9 → q ≠ 10 → q ≠ 11 → q ≠ 15 → mI q = m q)), (3 - s).toNat < nK → V E (wR D cy aa ad) 5 mI 58 [(0, .ref (aa 0)), (1, .int (iz (k))), (3, .int (iz (weA fa (Rr 5) Pp i))), (4, .int (iz (s)))] [] := by
                intro nK
                induction nK with
                | zero => intro s mI hs hI15 hI43 hI9 hI0 hIf hn; exact absurd hn (Nat.not_lt_zero _)
                | succ nK ih58 =>
                  intro s mI hs hI15 hI43 hI9 hI0 hIf hn58
                  refine v_iload C 3 dX11_laysBest_58 rfl ?_
                  refine v_iconst (z := 3) C dX11_laysBest_60 rfl ?_
                  refine v_icmp_ge (tgt := 84) C dX11_laysBest_61 (by decide) (by omega) (by omega) (fun c10 => ?_) (fun c10 => ?_)
                  · refine v_sub [0, 1] rfl ?_
                    exact K84  (i) mI (by 
                                            first
                                              | exact hz.new (by omega) ⟨hatL.2.1, hq5, hq7⟩ hzi
                                              | exact hz.skip (fun y => hq5 y.2.1)
                                              | exact hz.skip (fun y => hq7 y.2.2)
                                              | (rcases hbm3 with y | y
                                                 · omega
                                                 · exact hz.keep y.1 (by omega))
                                          ) (by 
                                            first
                                              | exact Or.inr ⟨by omega, hI43, fun j j0 j1 => hI15 j j0 (by omega)⟩
                                              | exact hbm
                                              | (rw [hm7.1 43 (by decide) (by decide), hm7.2 15 (by decide) (by decide) (by decide)]; exact hbm)
                                          ) (by first | exact hI9 | rfl | exact hm7.2 9 (by decide) (by decide) (by decide)) (by first | exact hI0 | exact h0 | (intro j a1 a2 a3; rw [hm7.1 j a1 a2]; exact h0 j a1 a2 a3)) (by first | exact hIf | exact hf | (intro q a1 a2 a3 a4 a5; rw [hm7.2 q a1 a3 a4]; exact hf q a1 a2 a3 a4 a5))
                  · refine v_aload_n C 0 dX11_laysBest_64 rfl ?_
                    refine v_get C 0 42 lR0 (eR0 _) rfl inX11 (by decide) rfl qw1182 dX11_laysBest_65 ?_
                    refine v_iload C 3 dX11_laysBest_68 rfl ?_
                    refine v_aload_n C 0 dX11_laysBest_70 rfl ?_
                    refine v_get C 0 33 lR0 (eR0 _) rfl inX11 (by decide) rfl qw1173 dX11_laysBest_71 ?_
                    refine v_iload C 3 dX11_laysBest_74 rfl ?_
                    refine v_iald C 9 lR9 (eR9 _) (by decide) (by omega) dX11_laysBest_76 ?_
                    refine v_iast C 15 lR15 eR15 (by decide) (by omega) dX11_laysBest_77 (fun m11 em11 => ?_)
                    refine v_iinc (L1 := [(4, .int (iz (s + 1))), (0, .ref (aa 0)), (1, .int (iz (k))), (3, .int (iz (weA fa (Rr 5) Pp i)))]) C 3 dX11_laysBest_78 rfl (by decide) rfl ?_
                    refine v_goto (tgt := 58) C dX11_laysBest_81 (by decide) ?_
                    refine v_sub [1, 2, 3, 0] rfl ?_
                    exact ih58 (s + 1) m11 (by first | assumption | omega) (by 
                                            intro j j0 j1; rw [em11, mup_r]
                                            by_cases e : j = s
                                            · refine (if_pos e).trans ?_; rw [hI9, e]; exact hatL.2.2 s (by omega) (by omega)
                                            · exact (if_neg e).trans (hI15 j j0 (by omega))
                                          ) (by rw [em11, mup_k _ _ _ (by decide)]; exact hI43) (by rw [em11, mup_k _ _ _ (by decide)]; exact hI9) (by intro j a1 a2 a3; rw [em11, mup_k _ _ _ (by decide)]; exact hI0 j a1 a2 a3) (by intro q a1 a2 a3 a4 a5; rw [em11, mup_k _ _ _ a5]; exact hIf q a1 a2 a3 a4 a5) (by omega)
              refine v_sub [1, 2, 3, 0] rfl ?_
              exact K58 _ (0) m9 (by first | assumption | omega) (by intro j j0 j1; omega) (by rw [em9, mup_s]) (by rw [em9, mup_k _ _ _ (by decide)]; exact hm7.2 9 (by decide) (by decide) (by decide)) (by intro j a1 a2 a3; rw [em9, mup_j _ _ a3, hm7.1 j a1 a2]; exact h0 j a1 a2 a3) (by intro q a1 a2 a3 a4 a5; rw [em9, mup_k _ _ _ a1, hm7.2 q a1 a3 a4]; exact hf q a1 a2 a3 a4 a5) (Nat.lt_succ_self _)
            · show V E (wR D cy aa ad) 5 m7 47 [(0, .ref (aa 0)), (1, .int (iz (k))), (3, .int (iz (weA fa (Rr 5) Pp i)))] [.int (iz (0))]
              refine v_if_eq (tgt := 84) C dX11_laysBest_47 (by decide) (by omega) (fun c12 => ?_) (fun c12 => by exact absurd c12 (by decide))
              refine v_sub [0, 1] rfl ?_
              exact K84  (z) m7 (by 
                                first
                                  | exact hz.new (by omega) ⟨hatL.2.1, hq5, hq7⟩ hzi
                                  | exact hz.skip (fun y => hq5 y.2.1)
                                  | exact hz.skip (fun y => hq7 y.2.2)
                                  | (rcases hbm3 with y | y
                                     · omega
                                     · exact hz.keep y.1 (by omega))
                              ) (by 
                                first
                                  | exact Or.inr ⟨by omega, hI43, fun j j0 j1 => hI15 j j0 (by omega)⟩
                                  | exact hbm
                                  | (rw [hm7.1 43 (by decide) (by decide), hm7.2 15 (by decide) (by decide) (by decide)]; exact hbm)
                              ) (by first | exact hI9 | rfl | exact hm7.2 9 (by decide) (by decide) (by decide)) (by first | exact hI0 | exact h0 | (intro j a1 a2 a3; rw [hm7.1 j a1 a2]; exact h0 j a1 a2 a3)) (by first | exact hIf | exact hf | (intro q a1 a2 a3 a4 a5; rw [hm7.2 q a1 a3 a4]; exact hf q a1 a2 a3 a4 a5))
          · show V E (wR D cy aa ad) 5 mL 39 [(0, .ref (aa 0)), (1, .int (iz (k))), (3, .int (iz (weA fa (Rr 5) Pp i)))] [.int (iz (0))]
            refine v_if_eq (tgt := 84) C dX11_laysBest_39 (by decide) (by omega) (fun c13 => ?_) (fun c13 => by exact absurd c13 (by decide))
            refine v_sub [0, 1] rfl ?_
            exact K84  (z) mL (by 
                            first
                              | exact hz.new (by omega) ⟨hatL.2.1, hq5, NO_q44⟩ hzi
                              | exact hz.skip (fun y => hq5 y.2.1)
                              | exact hz.skip (fun y => NO_q44 y.2.2)
                              | (rcases hbm3 with y | y
                                 · omega
                                 · exact hz.keep y.1 (by omega))
                          ) (by 
                            first
                              | exact Or.inr ⟨by omega, hI43, fun j j0 j1 => hI15 j j0 (by omega)⟩
                              | exact hbm
                              | (rw [NO_h44.1 43 (by decide) (by decide), NO_h44.2 15 (by decide) (by decide) (by decide)]; exact hbm)
                          ) (by first | exact hI9 | rfl | exact NO_h44.2 9 (by decide) (by decide) (by decide)) (by first | exact hI0 | exact h0 | (intro j a1 a2 a3; rw [NO_h44.1 j a1 a2]; exact h0 j a1 a2 a3)) (by first | exact hIf | exact hf | (intro q a1 a2 a3 a4 a5; rw [NO_h44.2 q a1 a3 a4]; exact hf q a1 a2 a3 a4 a5))
        refine v_get C 0 43 lR0 (eR0 _) rfl inX11 (by decide) rfl qw1183 dX11_laysBest_19 ?_
        refine v_bipush (z := -2) C dX11_laysBest_22 (by decide) ?_
        refine v_icmp_eq (tgt := 35) C dX11_laysBest_24 (by decide) (by omega) (by omega) (fun c14 => ?_) (fun c14 => ?_)
        · refine v_sub [1, 2, 0] rfl ?_
          exact K35    (by 
                        rcases hbm3 with y | y
                        · exact Or.inl (by omega)
                        · exact Or.inr (by omega)
                      )
        · refine v_iload_n C 0 dX11_laysBest_27 rfl ?_
          refine v_aload_n C 1 dX11_laysBest_28 rfl ?_
          refine v_get C 0 43 lR0 (eR0 _) rfl inX11 (by decide) rfl qw1183 dX11_laysBest_29 ?_
          refine v_icmp_ge (tgt := 84) C dX11_laysBest_32 (by decide) (by omega) (by omega) (fun c15 => ?_) (fun c15 => ?_)
          · refine v_sub [1, 2] rfl ?_
            exact K84  (z) mL (by 
                            first
                              | exact hz.new (by omega) ⟨hatL.2.1, NO_q36, NO_q44⟩ hzi
                              | exact hz.skip (fun y => NO_q36 y.2.1)
                              | exact hz.skip (fun y => NO_q44 y.2.2)
                              | (rcases hbm3 with y | y
                                 · omega
                                 · exact hz.keep y.1 (by omega))
                          ) (by 
                            first
                              | exact Or.inr ⟨by omega, hI43, fun j j0 j1 => hI15 j j0 (by omega)⟩
                              | exact hbm
                              | (rw [NO_h44.1 43 (by decide) (by decide), NO_h44.2 15 (by decide) (by decide) (by decide)]; exact hbm)
                          ) (by first | exact hI9 | rfl | exact NO_h44.2 9 (by decide) (by decide) (by decide)) (by first | exact hI0 | exact h0 | (intro j a1 a2 a3; rw [NO_h44.1 j a1 a2]; exact h0 j a1 a2 a3)) (by first | exact hIf | exact hf | (intro q a1 a2 a3 a4 a5; rw [NO_h44.2 q a1 a3 a4]; exact hf q a1 a2 a3 a4 a5))
          · refine v_sub [1, 2, 0] rfl ?_
            exact K35    (by 
                            rcases hbm3 with y | y
                            · exact Or.inl (by omega)
                            · exact Or.inr (by omega)
                          )
  refine v_sub [1, 2, 0] rfl ?_
  exact K8 _ (1) (n) (-1) m1 (by exact Or.inl ⟨rfl, hat.fr (by rw [em1, mup_k _ _ _ (by decide)])⟩) (by exact Or.inl ⟨rfl, fun c c0 c1 h => hfst c c0 c1 h.1⟩) (by exact Or.inl ⟨rfl, by rw [em1, mup_s]⟩) (by intro j _ _ h; rw [em1, mup_j _ _ h]) (by intro q h _ _ _ _; rw [em1, mup_k _ _ _ h]) (Nat.lt_succ_self _)

set_option maxHeartbeats 4000000 in
set_option maxRecDepth 100000 in
theorem ct_StageRatiosModel_isAny {lau : Launch} {D : va_G} {cy : Nat → ClassId} {aa ad : Nat → Nat} (hI : wI (wR D cy aa ad)) (m : Mem) (fa Af Bf Cf Rr Xx : Int → Int) (lo hi : Int → Int) (Pp n k : Int) (hg : RT m fa Af Bf Cf Rr Xx) (hbx : BxOk m lo hi) (hat : AtC m lo hi n) (hfst : ∀ c : Int, 0 ≤ c → c < n → ¬ inB lo hi c) (h34 : m 0 34 = Pp) (hPp : 1 ≤ Pp ∧ Pp ≤ 40) (hk : kPw k) (hkx : k = Xx 1) : MT lau (wR D cy aa ad) yX11_isAny cX11_isAny 2 (some .boolean) ({ frames := 6, cells := 0, slots := 0, locals := 131 } : Room) m [.ref (aa 0)] (Pi (fun z m' => (1 = z ∧ (∃ c : Int, 0 ≤ c ∧ c < 4913 ∧ (pcA fa (Rr 5) (Rr 2) (Rr 3) Pp lo hi k) c) ∧ (∀ j : Int, j ≠ 37 → j ≠ 38 → m' 0 j = m 0 j) ∧ (∀ q : Nat, q ≠ 0 → q ≠ 9 → q ≠ 10 → q ≠ 11 → m' q = m q)) ∨ (0 = z ∧ ¬ (∃ c : Int, 0 ≤ c ∧ c < 4913 ∧ (pcA fa (Rr 5) (Rr 2) (Rr 3) Pp lo hi k) c) ∧ (∀ j : Int, j ≠ 37 → j ≠ 38 → m' 0 j = m 0 j) ∧ (∀ q : Nat, q ≠ 0 → q ≠ 9 → q ≠ 10 → q ≠ 11 → m' q = m q)))) := by
  refine v_entry hI RX11 (by decide) rfl (Nat.le_of_ble_eq_true rfl) (fun E hE C X => ?_)
  subst hE
  show V E (wR D cy aa ad) 2 m 0 [(0, .ref (aa 0))] []
  obtain ⟨⟨r11, r8, r9, r10, r12⟩, r1, r2, r6, hvd, hfo⟩ := id hg
  obtain ⟨hn, hF, hup, hlw, hX⟩ := id hvd
  have n9 := n
  refine v_iconst (z := 1) C dX11_isAny_0 rfl ?_
  refine v_istore_n (L1 := [(1, .int (iz (1))), (0, .ref (aa 0))]) C dX11_isAny_1 (by decide) rfl ?_
  have K2 : ∀ (nK : Nat) (b : Int) (i : Int) (mL : Mem) (hst : SeC mL lo hi b i) (hz : ∀ c : Int, 0 ≤ c → c < i → ¬ (pcA fa (Rr 5) (Rr 2) (Rr 3) Pp lo hi k) c) (h0 : (∀ j : Int, j ≠ 37 → j ≠ 38 → mL 0 j = m 0 j)) (hf : (∀ q : Nat, q ≠ 0 → q ≠ 9 → q ≠ 10 → q ≠ 11 → mL q = m q)), (4913 - i).toNat < nK → V E (wR D cy aa ad) 2 mL 2 [(0, .ref (aa 0)), (1, .int (iz (b)))] [] := by
    intro nK
    induction nK with
    | zero => intro b i mL hst hz h0 hf hn; exact absurd hn (Nat.not_lt_zero _)
    | succ nK ih2 =>
      intro b i mL hst hz h0 hf hn2
      obtain ⟨hb01, hi0, hi1⟩ := hst.b
      refine v_iload_n C 1 dX11_isAny_2 rfl ?_
      refine v_if_eq (tgt := 36) C dX11_isAny_3 (by decide) (by omega) (fun c1 => ?_) (fun c1 => ?_)
      · refine v_iconst (z := 0) C dX11_isAny_36 rfl ?_
        refine v_iret C X (by decide) dX11_isAny_37 ⟨_, rfl, Or.inr ⟨rfl, ?_, ?_⟩⟩
        · rw [hst.end (by omega)] at hz; exact fun h => h.elim fun c y => hz c y.1 y.2.1 y.2.2
        · exact ⟨h0, hf⟩
      · have hg_mL : RT mL fa Af Bf Cf Rr Xx := hg.fr (fun j hj => h0 j (by unfold CKj at hj; omega) (by unfold CKj at hj; omega)) (hf 1 (by decide) (by decide) (by decide) (by decide)) (hf 2 (by decide) (by decide) (by decide) (by decide)) (hf 6 (by decide) (by decide) (by decide) (by decide))
        have hbx_mL : BxOk mL lo hi := hbx.fr (hf 13 (by decide) (by decide) (by decide) (by decide)) (hf 14 (by decide) (by decide) (by decide) (by decide))
        have h34_mL : mL 0 34 = Pp := by rw [h0 34 (by decide) (by decide)]; exact h34
        have hatL := hst.at (by omega)
        have hdL := hatL.dt hn hPp h34_mL
        have e61 : mL 6 1 = k := by rw [hf 6 (by decide) (by decide) (by decide) (by decide), hkx]; exact r6 1 (by decide) (by decide)
        refine v_aload_n C 0 dX11_isAny_6 rfl ?_
        have K28 : ∀  (mK : Mem) (hz2 : ∀ c : Int, 0 ≤ c → c < i + 1 → ¬ (pcA fa (Rr 5) (Rr 2) (Rr 3) Pp lo hi k) c) (h9K : mK 9 = mL 9) (h0K : (∀ j : Int, j ≠ 37 → j ≠ 38 → mK 0 j = m 0 j)) (hfK : (∀ q : Nat, q ≠ 0 → q ≠ 9 → q ≠ 10 → q ≠ 11 → mK q = m q)), V E (wR D cy aa ad) 2 mK 28 [(0, .ref (aa 0))] [] := by
          intro  mK hz2 h9K h0K hfK
          have hg_mK : RT mK fa Af Bf Cf Rr Xx := hg.fr (fun j hj => h0K j (by unfold CKj at hj; omega) (by unfold CKj at hj; omega)) (hfK 1 (by decide) (by decide) (by decide) (by decide)) (hfK 2 (by decide) (by decide) (by decide) (by decide)) (hfK 6 (by decide) (by decide) (by decide) (by decide))
          have hbx_mK : BxOk mK lo hi := hbx.fr (hfK 13 (by decide) (by decide) (by decide) (by decide)) (hfK 14 (by decide) (by decide) (by decide) (by decide))
          have h34_mK : mK 0 34 = Pp := by rw [h0K 34 (by decide) (by decide)]; exact h34
          have hatK := hatL.fr h9K
          refine v_aload_n C 0 dX11_isAny_28 rfl ?_
          refine v_callV (st := []) (n := 0) (q := 0) C [] (ct_StageRatiosModel_goesOn C.2.2.2.2.2.2.1 mK (lo) (hi) (i) (by exact hbx_mK) (by exact hatK)) lR0 (eR0 _) rfl qw1598 qw16 qw1595 rfl rfl ⟨Nat.le_of_ble_eq_true rfl, Nat.le_of_ble_eq_true rfl⟩ (by decide +kernel) qw1597 qp80 rfl rfl (Nat.le_of_ble_eq_true rfl) dX11_isAny_29 (fun r m2 hq2 => ?_)
          obtain ⟨z2, rfl, hq2, hm2⟩ := hq2
          show V E (wR D cy aa ad) 2 m2 32 [(0, .ref (aa 0))] [.int (iz (z2))]
          obtain ⟨n2x, hn2a, hst2, hsk2⟩ := hq2
          have hb2 := hst2.b
          refine v_istore_n (L1 := [(1, .int (iz (z2))), (0, .ref (aa 0))]) C dX11_isAny_32 (by decide) rfl ?_
          refine v_goto (tgt := 2) C dX11_isAny_33 (by decide) ?_
          refine v_sub [1, 0] rfl ?_
          exact ih2 (z2) (n2x) m2 (by exact hst2) (by 
                        intro c c0 c1 h
                        by_cases e : c < i + 1
                        · exact hz2 c c0 e h
                        · exact hsk2 c (by omega) c1 h.1
                      ) (by intro j a1 a2; rw [hm2 0 (by decide)]; exact h0K j a1 a2) (by intro q a1 a2 a3 a4; rw [hm2 q a2]; exact hfK q a1 a2 a3 a4) (by omega)
        refine v_callV (st := []) (n := 0) (q := 0) C [] (ct_StageRatiosModel_allHold C.2.2.2.2.2.2.1 mL (fa) (Af) (Bf) (Cf) (Rr) (Xx) (Pp) (unZ i) (by exact hg_mL) (by exact hdL)) lR0 (eR0 _) rfl qw1557 qw16 qw1554 rfl rfl ⟨Nat.le_of_ble_eq_true rfl, Nat.le_of_ble_eq_true rfl⟩ (by decide +kernel) qw1556 qp73 rfl rfl (Nat.le_of_ble_eq_true rfl) dX11_isAny_7 (fun r m3 hq3 => ?_)
        obtain ⟨z3, rfl, ⟨rfl, hq3, rfl⟩ | ⟨rfl, hq3, rfl⟩⟩ := hq3
        · show V E (wR D cy aa ad) 2 mL 10 [(0, .ref (aa 0)), (1, .int (iz (b)))] [.int (iz (1))]
          refine v_if_eq (tgt := 28) C dX11_isAny_10 (by decide) (by omega) (fun c4 => by exact absurd c4 (by decide)) (fun c4 => ?_)
          refine v_aload_n C 0 dX11_isAny_13 rfl ?_
          refine v_aload_n C 0 dX11_isAny_14 rfl ?_
          refine v_get C 0 21 lR0 (eR0 _) rfl inX11 (by decide) rfl qw1161 dX11_isAny_15 ?_
          refine v_iconst (z := 1) C dX11_isAny_18 rfl ?_
          refine v_iald C 6 lR6 (eR6 _) (by decide) (by omega) dX11_isAny_19 ?_
          refine v_callV (st := []) (n := 1) (q := 0) C [.int (iz (mL 6 1))] (ct_StageRatiosModel_divReaches C.2.2.2.2.2.2.1 mL (fa) (Af) (Bf) (Cf) (Rr) (Xx) (Pp) (unZ i) (mL 6 1) (by exact hg_mL) (by exact hdL) (by rw [e61]; exact hk)) lR0 (eR0 _) rfl qw1512 qw16 qw1509 rfl rfl ⟨Nat.le_of_ble_eq_true rfl, Nat.le_of_ble_eq_true rfl⟩ (by decide +kernel) qw1511 qp64 rfl rfl (Nat.le_of_ble_eq_true rfl) dX11_isAny_20 (fun r m5 hq5 => ?_)
          obtain ⟨z5, rfl, ⟨rfl, hq5, hm5⟩ | ⟨rfl, hq5, hm5⟩⟩ := hq5
          · show V E (wR D cy aa ad) 2 m5 23 [(0, .ref (aa 0)), (1, .int (iz (b)))] [.int (iz (1))]
            rw [e61] at hq5
            refine v_if_eq (tgt := 28) C dX11_isAny_23 (by decide) (by omega) (fun c6 => by exact absurd c6 (by decide)) (fun c6 => ?_)
            refine v_iconst (z := 1) C dX11_isAny_26 rfl ?_
            refine v_iret C X (by decide) dX11_isAny_27 ⟨_, rfl, Or.inl ⟨rfl, ?_, ?_⟩⟩
            · exact ⟨i, hatL.1.1, hatL.1.2, hatL.2.1, hq3, hq5⟩
            · exact ⟨fun j a1 a2 => by rw [hm5.1 j a1 a2]; exact h0 j a1 a2, fun q a1 a2 a3 a4 => by rw [hm5.2 q a1 a3 a4]; exact hf q a1 a2 a3 a4⟩
          · show V E (wR D cy aa ad) 2 m5 23 [(0, .ref (aa 0)), (1, .int (iz (b)))] [.int (iz (0))]
            rw [e61] at hq5
            refine v_if_eq (tgt := 28) C dX11_isAny_23 (by decide) (by omega) (fun c7 => ?_) (fun c7 => by exact absurd c7 (by decide))
            refine v_sub [0] rfl ?_
            exact K28   m5 (by 
                            intro c c0 c1 h
                            by_cases e : c = i
                            · subst e
                              first
                                | exact hq3 h.2.1
                                | exact hq5 h.2.2
                            · exact hz c c0 (by omega) h
                          ) (by first | rfl | exact hm5.2 9 (by decide) (by decide) (by decide)) (by first | exact h0 | (intro j a1 a2; rw [hm5.1 j a1 a2]; exact h0 j a1 a2)) (by first | exact hf | (intro q a1 a2 a3 a4; rw [hm5.2 q a1 a3 a4]; exact hf q a1 a2 a3 a4))
        · show V E (wR D cy aa ad) 2 mL 10 [(0, .ref (aa 0)), (1, .int (iz (b)))] [.int (iz (0))]
          refine v_if_eq (tgt := 28) C dX11_isAny_10 (by decide) (by omega) (fun c8 => ?_) (fun c8 => by exact absurd c8 (by decide))
          refine v_sub [0] rfl ?_
          exact K28   mL (by 
                        intro c c0 c1 h
                        by_cases e : c = i
                        · subst e
                          first
                            | exact hq3 h.2.1
                            | exact NO_q20 h.2.2
                        · exact hz c c0 (by omega) h
                      ) (by first | rfl | exact NO_h20.2 9 (by decide) (by decide) (by decide)) (by first | exact h0 | (intro j a1 a2; rw [NO_h20.1 j a1 a2]; exact h0 j a1 a2)) (by first | exact hf | (intro q a1 a2 a3 a4; rw [NO_h20.2 q a1 a3 a4]; exact hf q a1 a2 a3 a4))
  refine v_sub [1, 0] rfl ?_
  exact K2 _ (1) (n) m (by exact Or.inl ⟨rfl, hat⟩) (by exact fun c c0 c1 h => hfst c c0 c1 h.1) (by intro j _ _; rfl) (by intro q _ _ _ _; rfl) (Nat.lt_succ_self _)
