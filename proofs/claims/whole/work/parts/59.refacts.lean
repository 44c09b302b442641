def RA_ (t : Int) (m m' : Mem) : Prop := m' 0 1 = t ∧ m' 0 2 = -1 ∧ aKeep (m 0 23) (m 7) (m 6) (m' 0 23) (m' 7) ∧ (∀ j : Int, CKj j → j ≠ 23 → m' 0 j = m 0 j) ∧ ∀ q : Nat, (q = 1 ∨ q = 2 ∨ q = 8) → m' q = m q
def RU_ (t : Int) (m m' : Mem) : Prop := m' 0 1 = t ∧ m' 0 2 = -1 ∧ m' 0 23 = m 0 23 - 1 ∧ (∀ j : Int, CKj j → j ≠ 23 → m' 0 j = m 0 j) ∧ ∀ q : Nat, (q = 1 ∨ q = 2 ∨ q = 7 ∨ q = 8) → m' q = m q
def RAP (B : Int → Int → Int → (Int → Int) → Prop) (m m' : Mem) (z : Int) : Prop := ∃ t c, t ≠ 4 ∧ B t z c (m' 6) ∧ ((c = 0 ∧ RQ t m m') ∨ (c = 1 ∧ RA_ t m m') ∨ (c = 2 ∧ RU_ t m m'))
/-- what remembering leaves: acts and past alone change -/
def KPm (m m1 : Mem) : Prop := aKeep (m 0 23) (m 7) (m 6) (m1 0 23) (m1 7) ∧ (∀ j : Int, CKj j → j ≠ 23 → m1 0 j = m 0 j) ∧ ∀ q : Nat, (q = 1 ∨ q = 2 ∨ q = 8) → m1 q = m q
theorem KPm.ra {m m1 : Mem} {t : Int} (h : KPm m m1) : RA_ t m (mup (mup m1 0 1 t) 0 2 (-1)) := by
  refine ⟨by rw [mup_j _ _ (by decide), mup_s], mup_s _ _ _ _, ?_, fun j hj h23 => ?_, fun q hq => by rw [mup_k _ _ _ (by omega), mup_k _ _ _ (by omega)]; exact h.2.2 q hq⟩
  · rw [mup_j _ _ (by decide), mup_j _ _ (by decide), mup_k _ _ _ (by decide), mup_k _ _ _ (by decide)]; exact h.1
  · have : j ≠ 1 ∧ j ≠ 2 := by unfold CKj at hj; omega
    rw [mup_j _ _ this.2, mup_j _ _ this.1]; exact h.2.1 j hj h23
theorem RAP.q {B : Int → Int → Int → (Int → Int) → Prop} {m m1 : Mem} {z t : Int} (k : FK m m1) (b : B t z 0 (mup (mup m1 0 1 t) 0 2 (-1) 6)) (ht : t ≠ 4) : RAP B m (mup (mup m1 0 1 t) 0 2 (-1)) z := ⟨t, 0, ht, b, Or.inl ⟨rfl, RQ.of k.1 k.2⟩⟩
theorem up2_6 (m : Mem) (t : Int) : mup (mup m 0 1 t) 0 2 (-1) 6 = m 6 := by rw [mup_k _ _ _ (by decide), mup_k _ _ _ (by decide)]
set_option maxHeartbeats 4000000 in
set_option maxRecDepth 100000 in
theorem ct_StageRatiosModel_remembers {lau : Launch} {D : va_G} {cy : Nat → ClassId} {aa ad : Nat → Nat} (hI : wI (wR D cy aa ad)) (m : Mem)  (hac : 0 ≤ m 0 23 ∧ m 0 23 ≤ 10) : MT lau (wR D cy aa ad) yX11_remembers cX11_remembers 2 (none) ({ frames := 0, cells := 0, slots := 0, locals := 0 } : Room) m [.ref (aa 0)] (Pv (fun m' => aKeep (m 0 23) (m 7) (m 6) (m' 0 23) (m' 7) ∧ (∀ j : Int, j ≠ 23 → m' 0 j = m 0 j) ∧ ∀ q : Nat, q ≠ 0 → q ≠ 7 → m' q = m q)) := by
  refine v_entry hI RX11 (by decide) rfl (Nat.le_of_ble_eq_true rfl) (fun E hE C X => ?_)
  subst hE
  show V E (wR D cy aa ad) 2 m 0 [(0, .ref (aa 0))] []
  refine v_aload_n C 0 dX11_remembers_0 rfl ?_
  have K49 : ∀  (mB : Mem) (hK : (m 0 23 < 10 ∧ mB 0 23 = m 0 23 ∧ ∀ j : Int, 0 ≤ j → j < 110 → mB 7 j = m 7 j) ∨ (10 ≤ m 0 23 ∧ mB 0 23 = 9 ∧ ∀ j : Int, 0 ≤ j → j < 99 → mB 7 j = m 7 (j + 11))) (h0B : ∀ j : Int, j ≠ 23 → mB 0 j = m 0 j) (hfB : ∀ q : Nat, q ≠ 0 → q ≠ 7 → mB q = m q), V E (wR D cy aa ad) 2 mB 49 [(0, .ref (aa 0))] [] := by
    intro  mB hK h0B hfB
    refine v_iconst (z := 0) C dX11_remembers_49 rfl ?_
    refine v_istore_n (L1 := [(1, .int (iz (0))), (0, .ref (aa 0))]) C dX11_remembers_50 (by decide) rfl ?_
    have K51 : ∀ (nK : Nat) (i : Int) (mC : Mem) (hi : 0 ≤ i ∧ i ≤ 11) (h7C : ∀ j : Int, 0 ≤ j → j < 11 * mB 0 23 + i → mC 7 j = if j < 11 * mB 0 23 then mB 7 j else m 6 (j - 11 * mB 0 23)) (hfC : ∀ q : Nat, q ≠ 7 → mC q = mB q), (11 - i).toNat < nK → V E (wR D cy aa ad) 2 mC 51 [(0, .ref (aa 0)), (1, .int (iz (i)))] [] := by
      intro nK
      induction nK with
      | zero => intro i mC hi h7C hfC hn; exact absurd hn (Nat.not_lt_zero _)
      | succ nK ih51 =>
        intro i mC hi h7C hfC hn51
        have hKr : 0 ≤ mB 0 23 ∧ mB 0 23 ≤ 9 := by rcases hK with y | y <;> omega
        have e0C : mC 0 = mB 0 := hfC 0 (by decide)
        have e023 : mC 0 23 = mB 0 23 := by rw [e0C]
        have e6C : mC 6 = m 6 := by rw [hfC 6 (by decide), hfB 6 (by decide) (by decide)]
        refine v_iload_n C 1 dX11_remembers_51 rfl ?_
        refine v_bipush (z := 11) C dX11_remembers_52 (by decide) ?_
        refine v_icmp_ge (tgt := 83) C dX11_remembers_54 (by decide) (by omega) (by omega) (fun c1 => ?_) (fun c1 => ?_)
        · refine v_aload_n C 0 dX11_remembers_83 rfl ?_
          refine v_dup C dX11_remembers_84 rfl ?_
          refine v_get C 0 23 lR0 (eR0 _) rfl inX11 (by decide) rfl qw1163 dX11_remembers_85 ?_
          refine v_iconst (z := 1) C dX11_remembers_88 rfl ?_
          refine v_iadd C dX11_remembers_89 ?_
          refine v_put C 0 23 ((mC 0 23) + 1) 23 rfl lR0 (eR0 _) rfl inX11 tyX11 tyX11_ok nmX11 (by decide) qw1163 rfl rfl rfl (Nat.le_of_ble_eq_true rfl) (by rw [mup_r]; exact (eR0 _)) dX11_remembers_90 (fun m2 em2 => ?_)
          refine v_vret C X dX11_remembers_93 ⟨rfl, ?_⟩
          have e7 : m2 7 = mC 7 := by rw [em2, mup_k _ _ _ (by decide)]
          have e23 : m2 0 23 = mB 0 23 + 1 := by rw [em2, mup_s, e023]
          refine ⟨?_, fun j h1 => by rw [em2, mup_j _ _ h1, e0C, h0B j h1], fun q h1 h2 => by rw [em2, mup_k _ _ _ h1, hfC q h2, hfB q h1 h2]⟩
          rw [e7, e23]
          have hi11 : i = 11 := by omega
          subst hi11
          rcases hK with ⟨y1, y2, y3⟩ | ⟨y1, y2, y3⟩
          · refine Or.inl ⟨y1, by omega, fun j h0 h1 => ?_, fun j h0 h1 => ?_⟩
            · rw [h7C j h0 (by omega), if_pos (by omega)]; exact y3 j h0 (by omega)
            · rw [h7C _ (by omega) (by omega), if_neg (by omega)]; congr 1; omega
          · refine Or.inr ⟨y1, by omega, fun j h0 h1 => ?_, fun j h0 h1 => ?_⟩
            · rw [h7C j h0 (by omega), if_pos (by omega)]; exact y3 j h0 h1
            · rw [h7C _ (by omega) (by omega), if_neg (by omega)]; congr 1; omega
        · refine v_aload_n C 0 dX11_remembers_57 rfl ?_
          refine v_get C 0 22 lR0 (eR0 _) rfl inX11 (by decide) rfl qw1162 dX11_remembers_58 ?_
          refine v_bipush (z := 11) C dX11_remembers_61 (by decide) ?_
          refine v_aload_n C 0 dX11_remembers_63 rfl ?_
          refine v_get C 0 23 lR0 (eR0 _) rfl inX11 (by decide) rfl qw1163 dX11_remembers_64 ?_
          refine v_imul C dX11_remembers_67 ?_
          refine v_iload_n C 1 dX11_remembers_68 rfl ?_
          refine v_iadd C dX11_remembers_69 ?_
          refine v_aload_n C 0 dX11_remembers_70 rfl ?_
          refine v_get C 0 21 lR0 (eR0 _) rfl inX11 (by decide) rfl qw1161 dX11_remembers_71 ?_
          refine v_iload_n C 1 dX11_remembers_74 rfl ?_
          refine v_iald C 6 lR6 (eR6 _) (by decide) (by omega) dX11_remembers_75 ?_
          refine v_iast C 7 lR7 eR7 (by decide) (by omega) dX11_remembers_76 (fun m3 em3 => ?_)
          refine v_iinc (L1 := [(1, .int (iz (i + 1))), (0, .ref (aa 0))]) C 1 dX11_remembers_77 rfl (by decide) rfl ?_
          refine v_goto (tgt := 51) C dX11_remembers_80 (by decide) ?_
          refine v_sub [1, 0] rfl ?_
          exact ih51 (i + 1) m3 (by omega) (by 
                        intro j h0 h1; rw [em3, mup_r]
                        by_cases e : j = 11 * mC 0 23 + i
                        · rw [if_neg (by omega)]; refine (if_pos e).trans ?_; rw [e6C]; congr 1; omega
                        · exact (if_neg e).trans (h7C j h0 (by omega))
                      ) (by intro q h; rw [em3, mup_k _ _ _ h]; exact hfC q h) (by omega)
    refine v_sub [1, 0] rfl ?_
    exact K51 _ (0) mB (by omega) (by intro j h0 h1; rw [if_pos (by omega)]) (by intro q _; rfl) (Nat.lt_succ_self _)
  refine v_get C 0 23 lR0 (eR0 _) rfl inX11 (by decide) rfl qw1163 dX11_remembers_1 ?_
  refine v_bipush (z := 10) C dX11_remembers_4 (by decide) ?_
  refine v_icmp_ne (tgt := 49) C dX11_remembers_6 (by decide) (by omega) (by omega) (fun c4 => ?_) (fun c4 => ?_)
  · refine v_sub [0] rfl ?_
    exact K49   m (by 
            first
              | exact Or.inl ⟨by omega, rfl, fun _ _ _ => rfl⟩
              | exact Or.inr ⟨by omega, by rw [NO_em46, mup_s, hf 0 (by decide)]; omega, fun j h0 h1 => by rw [NO_em46, mup_k _ _ _ (by decide), h7 j h0 (by omega), if_pos (by omega)]⟩
          ) (by 
            first
              | exact fun _ _ => rfl
              | (intro j h; rw [NO_em46, mup_j _ _ h, hf 0 (by decide)])
          ) (by 
            first
              | exact fun _ _ _ => rfl
              | (intro q h1 h2; rw [NO_em46, mup_k _ _ _ h1]; exact hf q h2)
          )
  · refine v_bipush (z := 11) C dX11_remembers_9 (by decide) ?_
    refine v_istore_n (L1 := [(1, .int (iz (11))), (0, .ref (aa 0))]) C dX11_remembers_11 (by decide) rfl ?_
    have K12 : ∀ (nK : Nat) (i : Int) (mA : Mem) (hi : 11 ≤ i ∧ i ≤ 110) (h7 : ∀ j : Int, 0 ≤ j → j < 110 → mA 7 j = if j < i - 11 then m 7 (j + 11) else m 7 j) (hf : ∀ q : Nat, q ≠ 7 → mA q = m q), (110 - i).toNat < nK → V E (wR D cy aa ad) 2 mA 12 [(0, .ref (aa 0)), (1, .int (iz (i)))] [] := by
      intro nK
      induction nK with
      | zero => intro i mA hi h7 hf hn; exact absurd hn (Nat.not_lt_zero _)
      | succ nK ih12 =>
        intro i mA hi h7 hf hn12
        refine v_iload_n C 1 dX11_remembers_12 rfl ?_
        refine v_bipush (z := 110) C dX11_remembers_13 (by decide) ?_
        refine v_icmp_ge (tgt := 39) C dX11_remembers_15 (by decide) (by omega) (by omega) (fun c5 => ?_) (fun c5 => ?_)
        · refine v_aload_n C 0 dX11_remembers_39 rfl ?_
          refine v_dup C dX11_remembers_40 rfl ?_
          refine v_get C 0 23 lR0 (eR0 _) rfl inX11 (by decide) rfl qw1163 dX11_remembers_41 ?_
          refine v_iconst (z := 1) C dX11_remembers_44 rfl ?_
          refine v_isub C dX11_remembers_45 ?_
          refine v_put C 0 23 ((mA 0 23) - 1) 23 rfl lR0 (eR0 _) rfl inX11 tyX11 tyX11_ok nmX11 (by decide) qw1163 rfl rfl rfl (Nat.le_of_ble_eq_true rfl) (by rw [mup_r]; exact (eR0 _)) dX11_remembers_46 (fun m6 em6 => ?_)
          refine v_sub [0] rfl ?_
          exact K49   m6 (by 
                        first
                          | exact Or.inl ⟨by omega, rfl, fun _ _ _ => rfl⟩
                          | exact Or.inr ⟨by omega, by rw [em6, mup_s, hf 0 (by decide)]; omega, fun j h0 h1 => by rw [em6, mup_k _ _ _ (by decide), h7 j h0 (by omega), if_pos (by omega)]⟩
                      ) (by 
                        first
                          | exact fun _ _ => rfl
                          | (intro j h; rw [em6, mup_j _ _ h, hf 0 (by decide)])
                      ) (by 
                        first
                          | exact fun _ _ _ => rfl
                          | (intro q h1 h2; rw [em6, mup_k _ _ _ h1]; exact hf q h2)
                      )
        · refine v_aload_n C 0 dX11_remembers_18 rfl ?_
          refine v_get C 0 22 lR0 (eR0 _) rfl inX11 (by decide) rfl qw1162 dX11_remembers_19 ?_
          refine v_iload_n C 1 dX11_remembers_22 rfl ?_
          refine v_bipush (z := 11) C dX11_remembers_23 (by decide) ?_
          refine v_isub C dX11_remembers_25 ?_
          refine v_aload_n C 0 dX11_remembers_26 rfl ?_
          refine v_get C 0 22 lR0 (eR0 _) rfl inX11 (by decide) rfl qw1162 dX11_remembers_27 ?_
          refine v_iload_n C 1 dX11_remembers_30 rfl ?_
          refine v_iald C 7 lR7 (eR7 _) (by decide) (by omega) dX11_remembers_31 ?_
          refine v_iast C 7 lR7 eR7 (by decide) (by omega) dX11_remembers_32 (fun m7 em7 => ?_)
          refine v_iinc (L1 := [(1, .int (iz (i + 1))), (0, .ref (aa 0))]) C 1 dX11_remembers_33 rfl (by decide) rfl ?_
          refine v_goto (tgt := 12) C dX11_remembers_36 (by decide) ?_
          refine v_sub [1, 0] rfl ?_
          exact ih12 (i + 1) m7 (by omega) (by 
                        intro j h0 h1; rw [em7, mup_r]
                        by_cases e : j = i - 11
                        · rw [if_pos (by omega)]; refine (if_pos e).trans ?_; rw [h7 i (by omega) (by omega), if_neg (by omega), e, show i - 11 + 11 = i by omega]
                        · refine (if_neg e).trans ?_
                          rw [h7 j h0 h1]; by_cases d : j < i - 11
                          · rw [if_pos d, if_pos (by omega)]
                          · rw [if_neg d, if_neg (by omega)]
                      ) (by intro q h; rw [em7, mup_k _ _ _ h]; exact hf q h) (by omega)
    refine v_sub [1, 0] rfl ?_
    exact K12 _ (11) m (by omega) (by intro j h0 h1; rw [if_neg (by omega)]) (by intro q _; rfl) (Nat.lt_succ_self _)

set_option maxHeartbeats 4000000 in
set_option maxRecDepth 100000 in
theorem ct_StageRatiosModel_load {lau : Launch} {D : va_G} {cy : Nat → ClassId} {aa ad : Nat → Nat} (hI : wI (wR D cy aa ad)) (m : Mem) (fa Af Bf Cf Rr Xx : Int → Int) (s w : Int) (hT : TT m fa Af Bf Cf Rr Xx) (hac : 0 ≤ m 0 23 ∧ m 0 23 ≤ 10) (hs : -2147483648 ≤ s ∧ s ≤ 2147483647) (hw : -2147483648 ≤ w ∧ w ≤ 2147483647) : MT lau (wR D cy aa ad) yX11_load cX11_load 4 (some .int) ({ frames := 2, cells := 0, slots := 0, locals := 43 } : Room) m [.ref (aa 0), .int (iz (s)), .int (iz (w))] (Pi (fun z m' => (RAP (qLoa (m 0 20) fa Rr Xx s w) m m' z) ∧ True)) := by
  refine v_entry hI RX11 (by decide) rfl (Nat.le_of_ble_eq_true rfl) (fun E hE C X => ?_)
  subst hE
  show V E (wR D cy aa ad) 4 m 0 [(0, .ref (aa 0)), (1, .int (iz (s))), (2, .int (iz (w)))] []
  refine v_aload_n C 0 dX11_load_0 rfl ?_
  refine v_iconst (z := 0) C dX11_load_1 rfl ?_
  refine v_put C 0 0 (0) 0 rfl lR0 (eR0 _) rfl inX11 tyX11 tyX11_ok nmX11 (by decide) qw1140 rfl rfl rfl (Nat.le_of_ble_eq_true rfl) (by rw [mup_r]; exact (eR0 _)) dX11_load_2 (fun m1 em1 => ?_)
  have fk2 : FK m m1 := by rw [em1]; exact FK.up 0 0 (by unfold CKj; omega)
  have hT2 := fk2.tt hT
  have e20 : m1 0 20 = m 0 20 := fk2.1 20 (Or.inr (Or.inl rfl))
  have ht01 : m 0 20 = 0 ∨ m 0 20 = 1 := hT.imp (fun a => a) (fun a => a.1)
  refine v_aload_n C 0 dX11_load_5 rfl ?_
  refine v_iload_n C 1 dX11_load_6 rfl ?_
  refine v_callV (st := []) (n := 1) (q := 0) C [.int (iz (s))] (ct_StageRatiosModel_isStage C.2.2.2.2.2.2.1 m1 (fa) (Af) (Bf) (Cf) (Rr) (Xx) (s) (by exact hT2) (by first | assumption | omega)) lR0 (eR0 _) rfl qw1464 qw16 qw1461 rfl rfl ⟨Nat.le_of_ble_eq_true rfl, Nat.le_of_ble_eq_true rfl⟩ (by decide +kernel) qw1463 qp57 rfl rfl (Nat.le_of_ble_eq_true rfl) dX11_load_7 (fun r m2 hq2 => ?_)
  obtain ⟨z2, rfl, ⟨rfl, hq2, rfl⟩ | ⟨rfl, hq2, rfl⟩⟩ := hq2
  · show V E (wR D cy aa ad) 4 m1 10 [(0, .ref (aa 0)), (1, .int (iz (s))), (2, .int (iz (w)))] [.int (iz (1))]
    rw [e20] at hq2
    obtain ⟨hT1, hs0⟩ := id hq2
    obtain ⟨-, hg0⟩ := hT.resolve_left (by omega)
    have hg := fk2.rt hg0
    obtain ⟨⟨r11, r8, r9, r10, r12⟩, r1, r2, r6, hvd, hfo⟩ := id hg
    obtain ⟨hn, hF, hup, hlw, hX⟩ := id hvd
    have hfs := hF s hs0.1 hs0.2
    refine v_if_ne (tgt := 19) C dX11_load_10 (by decide) (by omega) (fun c3 => ?_) (fun c3 => by exact absurd c3 (by decide))
    refine v_iload_n C 2 dX11_load_19 rfl ?_
    refine v_iconst (z := 0) C dX11_load_20 rfl ?_
    refine v_aload_n C 0 dX11_load_21 rfl ?_
    refine v_iload_n C 1 dX11_load_22 rfl ?_
    refine v_iconst (z := 3) C dX11_load_23 rfl ?_
    refine v_callV (st := [.int (iz (0)), .int (iz (w))]) (n := 2) (q := 0) C [.int (iz (s)), .int (iz (3))] (ct_StageRatiosModel_told C.2.2.2.2.2.2.1 m1 (fa) (Af) (Bf) (Cf) (Rr) (Xx) (s) (3) (by first | assumption | omega) (by first | assumption | omega) (by first | assumption | omega)) lR0 (eR0 _) rfl qw1440 qw16 qw1437 rfl rfl ⟨Nat.le_of_ble_eq_true rfl, Nat.le_of_ble_eq_true rfl⟩ (by decide +kernel) qw1439 qp55 rfl rfl (Nat.le_of_ble_eq_true rfl) dX11_load_24 (fun r m4 hq4 => ?_)
    obtain ⟨z4, rfl, rfl, rfl⟩ := hq4
    show V E (wR D cy aa ad) 4 m1 27 [(0, .ref (aa 0)), (1, .int (iz (s))), (2, .int (iz (w)))] [.int (iz (fa (s * 9 + 3))), .int (iz (0)), .int (iz (w))]
    refine v_callS (st := []) (n := 3) C [.int (iz (w)), .int (iz (0)), .int (iz (fa (s * 9 + 3)))] (ct_StageRatiosModel_in C.2.2.2.2.2.2.1 m1 (w) (0) (fa (s * 9 + 3)) (by first | assumption | omega) (by first | assumption | omega) (by first | assumption | omega)) qw1355 qw16 qw1353 rfl rfl ⟨Nat.le_of_ble_eq_true rfl, Nat.le_of_ble_eq_true rfl⟩ (by decide +kernel) qw1354 rfl rfl (Nat.le_of_ble_eq_true rfl) dX11_load_27 (fun r m5 hq5 => ?_)
    obtain ⟨z5, rfl, ⟨rfl, hq5, rfl⟩ | ⟨rfl, hq5, rfl⟩⟩ := hq5
    · show V E (wR D cy aa ad) 4 m1 30 [(0, .ref (aa 0)), (1, .int (iz (s))), (2, .int (iz (w)))] [.int (iz (1))]
      refine v_if_ne (tgt := 39) C dX11_load_30 (by decide) (by omega) (fun c6 => ?_) (fun c6 => by exact absurd c6 (by decide))
      refine v_aload_n C 0 dX11_load_39 rfl ?_
      refine v_callV (st := []) (n := 0) (q := 0) C [] (ct_StageRatiosModel_remembers C.2.2.2.2.2.2.1 m1  (by rw [show m1 0 23 = m 0 23 from fk2.1 23 (Or.inr (Or.inr (Or.inl rfl)))]; exact hac)) lR0 (eR0 _) rfl qw1714 qw16 qw1711 rfl rfl ⟨Nat.le_of_ble_eq_true rfl, Nat.le_of_ble_eq_true rfl⟩ (by decide +kernel) qw1713 qp92 rfl rfl (Nat.le_of_ble_eq_true rfl) dX11_load_40 (fun r m7 hq7 => ?_)
      obtain ⟨rfl, hq7⟩ := hq7
      show V E (wR D cy aa ad) 4 m7 43 [(0, .ref (aa 0)), (1, .int (iz (s))), (2, .int (iz (w)))] []
      refine v_aload_n C 0 dX11_load_43 rfl ?_
      refine v_get C 0 21 lR0 (eR0 _) rfl inX11 (by decide) rfl qw1161 dX11_load_44 ?_
      refine v_iconst (z := 2) C dX11_load_47 rfl ?_
      refine v_iload_n C 1 dX11_load_48 rfl ?_
      refine v_iadd C dX11_load_49 ?_
      refine v_iald C 6 lR6 (eR6 _) (by decide) (by omega) dX11_load_50 ?_
      refine v_istore_n (L1 := [(3, .int (iz (m7 6 (2 + s)))), (0, .ref (aa 0)), (1, .int (iz (s))), (2, .int (iz (w)))]) C dX11_load_51 (by decide) rfl ?_
      refine v_aload_n C 1 dX11_load_52 rfl ?_
      refine v_get C 0 21 lR0 (eR0 _) rfl inX11 (by decide) rfl qw1161 dX11_load_53 ?_
      refine v_iconst (z := 2) C dX11_load_56 rfl ?_
      refine v_iload_n C 2 dX11_load_57 rfl ?_
      refine v_iadd C dX11_load_58 ?_
      refine v_iload_n C 3 dX11_load_59 rfl ?_
      refine v_iast C 6 lR6 eR6 (by decide) (by omega) dX11_load_60 (fun m8 em8 => ?_)
      refine v_aload_n C 1 dX11_load_61 rfl ?_
      refine v_iload_n C 0 dX11_load_62 rfl ?_
      refine v_callV (st := []) (n := 1) (q := 0) C [.int (iz (m7 6 (2 + s)))] (ct_StageRatiosModel_good C.2.2.2.2.2.2.1 m8 (m7 6 (2 + s)) ) lR0 (eR0 _) rfl qw1444 qw16 qw1441 rfl rfl ⟨Nat.le_of_ble_eq_true rfl, Nat.le_of_ble_eq_true rfl⟩ (by decide +kernel) qw1443 qp56 rfl rfl (Nat.le_of_ble_eq_true rfl) dX11_load_63 (fun r m9 hq9 => ?_)
      obtain ⟨z9, rfl, rfl, hq9⟩ := hq9
      show V E (wR D cy aa ad) 4 m9 66 [(3, .int (iz (m7 6 (2 + s)))), (0, .ref (aa 0)), (1, .int (iz (s))), (2, .int (iz (w)))] [.int (iz ((m7 6 (2 + s))))]
      refine v_iret C X rfl dX11_load_66 ⟨_, rfl, ?_, ?_⟩
      · rw [← hq9]
        refine ⟨0, 1, by decide, ?_, Or.inr (Or.inl ⟨rfl, KPm.ra ⟨by rw [em8]; simp only [mup_k _ _ _ (show (0 : Nat) ≠ 6 by decide), mup_k _ _ _ (show (7 : Nat) ≠ 6 by decide)]; rw [← fk2.1 23 (Or.inr (Or.inr (Or.inl rfl))), ← fk2.2 7 (by decide), ← fk2.2 6 (by decide)]; exact hq7.1, fun j hj h23 => by rw [em8]; simp only [mup_k _ _ _ (show (0 : Nat) ≠ 6 by decide), mup_k _ _ _ (show (7 : Nat) ≠ 6 by decide)]; rw [hq7.2.1 j h23]; exact fk2.1 j hj, fun q hq => by rw [em8, mup_k _ _ _ (by omega)]; rw [hq7.2.2 q (by omega) (by omega)]; exact fk2.2 q (by omega)⟩⟩)⟩
        rw [up2_6]
        refine Or.inl ⟨⟨hq2, hq5⟩, rfl, ?_, rfl, fun j j0 j1 => ?_⟩
        · rw [hq7.2.2 6 (by decide) (by decide)]; exact r6 _ (by omega) (by omega)
        · rw [em8, mup_r]
          by_cases e : j = 2 + s
          · rw [if_pos e]; exact if_pos e
          · rw [if_neg e]; refine (if_neg e).trans ?_
            rw [hq7.2.2 6 (by decide) (by decide)]; exact r6 j j0 j1
      · trivial
    · show V E (wR D cy aa ad) 4 m1 30 [(0, .ref (aa 0)), (1, .int (iz (s))), (2, .int (iz (w)))] [.int (iz (0))]
      refine v_if_ne (tgt := 39) C dX11_load_30 (by decide) (by omega) (fun c10 => by exact absurd c10 (by decide)) (fun c10 => ?_)
      refine v_aload_n C 0 dX11_load_33 rfl ?_
      refine v_iconst (z := 2) C dX11_load_34 rfl ?_
      refine v_callV (st := []) (n := 1) (q := 0) C [.int (iz (2))] (ct_StageRatiosModel_refused C.2.2.2.2.2.2.1 m1 (2) ) lR0 (eR0 _) rfl qw1340 qw16 qw1337 rfl rfl ⟨Nat.le_of_ble_eq_true rfl, Nat.le_of_ble_eq_true rfl⟩ (by decide +kernel) qw1339 qp36 rfl rfl (Nat.le_of_ble_eq_true rfl) dX11_load_35 (fun r m11 hq11 => ?_)
      obtain ⟨z11, rfl, rfl, hq11⟩ := hq11
      show V E (wR D cy aa ad) 4 m11 38 [(0, .ref (aa 0)), (1, .int (iz (s))), (2, .int (iz (w)))] [.int (iz (-1))]
      refine v_iret C X rfl dX11_load_38 ⟨_, rfl, ?_, ?_⟩
      · rw [← hq11]
        exact RAP.q fk2 (Or.inr (Or.inl ⟨hq2, hq5, rfl, rfl, rfl⟩)) (by decide)
      · trivial
  · show V E (wR D cy aa ad) 4 m1 10 [(0, .ref (aa 0)), (1, .int (iz (s))), (2, .int (iz (w)))] [.int (iz (0))]
    refine v_if_ne (tgt := 19) C dX11_load_10 (by decide) (by omega) (fun c12 => by exact absurd c12 (by decide)) (fun c12 => ?_)
    refine v_aload_n C 0 dX11_load_13 rfl ?_
    refine v_iconst (z := 1) C dX11_load_14 rfl ?_
    refine v_callV (st := []) (n := 1) (q := 0) C [.int (iz (1))] (ct_StageRatiosModel_refused C.2.2.2.2.2.2.1 m1 (1) ) lR0 (eR0 _) rfl qw1340 qw16 qw1337 rfl rfl ⟨Nat.le_of_ble_eq_true rfl, Nat.le_of_ble_eq_true rfl⟩ (by decide +kernel) qw1339 qp36 rfl rfl (Nat.le_of_ble_eq_true rfl) dX11_load_15 (fun r m13 hq13 => ?_)
    obtain ⟨z13, rfl, rfl, hq13⟩ := hq13
    show V E (wR D cy aa ad) 4 m13 18 [(0, .ref (aa 0)), (1, .int (iz (s))), (2, .int (iz (w)))] [.int (iz (-1))]
    refine v_iret C X rfl dX11_load_18 ⟨_, rfl, ?_, ?_⟩
    · rw [← hq13]
      exact RAP.q fk2 (Or.inr (Or.inr ⟨e20 ▸ hq2, rfl, rfl, rfl⟩)) (by decide)
    · trivial

set_option maxHeartbeats 4000000 in
set_option maxRecDepth 100000 in
theorem ct_StageRatiosModel_payload {lau : Launch} {D : va_G} {cy : Nat → ClassId} {aa ad : Nat → Nat} (hI : wI (wR D cy aa ad)) (m : Mem) (fa Af Bf Cf Rr Xx : Int → Int) (v : Int) (hT : TT m fa Af Bf Cf Rr Xx) (hac : 0 ≤ m 0 23 ∧ m 0 23 ≤ 10) (hv : -2147483648 ≤ v ∧ v ≤ 2147483647) : MT lau (wR D cy aa ad) yX11_payload cX11_payload 3 (some .int) ({ frames := 1, cells := 0, slots := 0, locals := 22 } : Room) m [.ref (aa 0), .int (iz (v))] (Pi (fun z m' => (RAP (qPut (m 0 20) Xx 0 40 v) m m' z) ∧ True)) := by
  refine v_entry hI RX11 (by decide) rfl (Nat.le_of_ble_eq_true rfl) (fun E hE C X => ?_)
  subst hE
  show V E (wR D cy aa ad) 3 m 0 [(0, .ref (aa 0)), (1, .int (iz (v)))] []
  refine v_aload_n C 0 dX11_payload_0 rfl ?_
  refine v_iconst (z := 0) C dX11_payload_1 rfl ?_
  refine v_put C 0 0 (0) 0 rfl lR0 (eR0 _) rfl inX11 tyX11 tyX11_ok nmX11 (by decide) qw1140 rfl rfl rfl (Nat.le_of_ble_eq_true rfl) (by rw [mup_r]; exact (eR0 _)) dX11_payload_2 (fun m1 em1 => ?_)
  have fk2 : FK m m1 := by rw [em1]; exact FK.up 0 0 (by unfold CKj; omega)
  have hT2 := fk2.tt hT
  have e20 : m1 0 20 = m 0 20 := fk2.1 20 (Or.inr (Or.inl rfl))
  have ht01 : m 0 20 = 0 ∨ m 0 20 = 1 := hT.imp (fun a => a) (fun a => a.1)
  refine v_aload_n C 0 dX11_payload_5 rfl ?_
  refine v_get C 0 20 lR0 (eR0 _) rfl inX11 (by decide) rfl qw1160 dX11_payload_6 ?_
  refine v_if_ne (tgt := 18) C dX11_payload_9 (by decide) (by omega) (fun c2 => ?_) (fun c2 => ?_)
  · obtain ⟨hT1, hg0⟩ := hT.resolve_left (by omega)
    have hg := fk2.rt hg0
    obtain ⟨⟨r11, r8, r9, r10, r12⟩, r1, r2, r6, hvd, hfo⟩ := id hg
    obtain ⟨hn, hF, hup, hlw, hX⟩ := id hvd
    refine v_iload_n C 1 dX11_payload_18 rfl ?_
    refine v_iconst (z := 1) C dX11_payload_19 rfl ?_
    refine v_bipush (z := 40) C dX11_payload_20 (by decide) ?_
    refine v_callS (st := []) (n := 3) C [.int (iz (v)), .int (iz (1)), .int (iz (40))] (ct_StageRatiosModel_in C.2.2.2.2.2.2.1 m1 (v) (1) (40) (by first | assumption | omega) (by first | assumption | omega) (by first | assumption | omega)) qw1355 qw16 qw1353 rfl rfl ⟨Nat.le_of_ble_eq_true rfl, Nat.le_of_ble_eq_true rfl⟩ (by decide +kernel) qw1354 rfl rfl (Nat.le_of_ble_eq_true rfl) dX11_payload_22 (fun r m3 hq3 => ?_)
    obtain ⟨z3, rfl, ⟨rfl, hq3, rfl⟩ | ⟨rfl, hq3, rfl⟩⟩ := hq3
    · show V E (wR D cy aa ad) 3 m1 25 [(0, .ref (aa 0)), (1, .int (iz (v)))] [.int (iz (1))]
      refine v_if_ne (tgt := 34) C dX11_payload_25 (by decide) (by omega) (fun c4 => ?_) (fun c4 => by exact absurd c4 (by decide))
      refine v_aload_n C 0 dX11_payload_34 rfl ?_
      refine v_callV (st := []) (n := 0) (q := 0) C [] (ct_StageRatiosModel_remembers C.2.2.2.2.2.2.1 m1  (by rw [show m1 0 23 = m 0 23 from fk2.1 23 (Or.inr (Or.inr (Or.inl rfl)))]; exact hac)) lR0 (eR0 _) rfl qw1714 qw16 qw1711 rfl rfl ⟨Nat.le_of_ble_eq_true rfl, Nat.le_of_ble_eq_true rfl⟩ (by decide +kernel) qw1713 qp92 rfl rfl (Nat.le_of_ble_eq_true rfl) dX11_payload_35 (fun r m5 hq5 => ?_)
      obtain ⟨rfl, hq5⟩ := hq5
      show V E (wR D cy aa ad) 3 m5 38 [(0, .ref (aa 0)), (1, .int (iz (v)))] []
      refine v_aload_n C 0 dX11_payload_38 rfl ?_
      refine v_get C 0 21 lR0 (eR0 _) rfl inX11 (by decide) rfl qw1161 dX11_payload_39 ?_
      refine v_iconst (z := 0) C dX11_payload_42 rfl ?_
      refine v_iald C 6 lR6 (eR6 _) (by decide) (by omega) dX11_payload_43 ?_
      refine v_istore_n (L1 := [(2, .int (iz (m5 6 0))), (0, .ref (aa 0)), (1, .int (iz (v)))]) C dX11_payload_44 (by decide) rfl ?_
      refine v_aload_n C 1 dX11_payload_45 rfl ?_
      refine v_get C 0 21 lR0 (eR0 _) rfl inX11 (by decide) rfl qw1161 dX11_payload_46 ?_
      refine v_iconst (z := 0) C dX11_payload_49 rfl ?_
      refine v_iload_n C 2 dX11_payload_50 rfl ?_
      refine v_iast C 6 lR6 eR6 (by decide) (by omega) dX11_payload_51 (fun m6 em6 => ?_)
      refine v_aload_n C 1 dX11_payload_52 rfl ?_
      refine v_iload_n C 0 dX11_payload_53 rfl ?_
      refine v_callV (st := []) (n := 1) (q := 0) C [.int (iz (m5 6 0))] (ct_StageRatiosModel_good C.2.2.2.2.2.2.1 m6 (m5 6 0) ) lR0 (eR0 _) rfl qw1444 qw16 qw1441 rfl rfl ⟨Nat.le_of_ble_eq_true rfl, Nat.le_of_ble_eq_true rfl⟩ (by decide +kernel) qw1443 qp56 rfl rfl (Nat.le_of_ble_eq_true rfl) dX11_payload_54 (fun r m7 hq7 => ?_)
      obtain ⟨z7, rfl, rfl, hq7⟩ := hq7
      show V E (wR D cy aa ad) 3 m7 57 [(2, .int (iz (m5 6 0))), (0, .ref (aa 0)), (1, .int (iz (v)))] [.int (iz ((m5 6 0)))]
      refine v_iret C X rfl dX11_payload_57 ⟨_, rfl, ?_, ?_⟩
      · rw [← hq7]
        refine ⟨0, 1, by decide, ?_, Or.inr (Or.inl ⟨rfl, KPm.ra ⟨by rw [em6]; simp only [mup_k _ _ _ (show (0 : Nat) ≠ 6 by decide), mup_k _ _ _ (show (7 : Nat) ≠ 6 by decide)]; rw [← fk2.1 23 (Or.inr (Or.inr (Or.inl rfl))), ← fk2.2 7 (by decide), ← fk2.2 6 (by decide)]; exact hq5.1, fun j hj h23 => by rw [em6]; simp only [mup_k _ _ _ (show (0 : Nat) ≠ 6 by decide), mup_k _ _ _ (show (7 : Nat) ≠ 6 by decide)]; rw [hq5.2.1 j h23]; exact fk2.1 j hj, fun q hq => by rw [em6, mup_k _ _ _ (by omega)]; rw [hq5.2.2 q (by omega) (by omega)]; exact fk2.2 q (by omega)⟩⟩)⟩
        rw [up2_6]
        refine Or.inl ⟨⟨hT1, hq3⟩, rfl, ?_, rfl, fun j j0 j1 => ?_⟩
        · rw [hq5.2.2 6 (by decide) (by decide)]; exact r6 _ (by omega) (by omega)
        · rw [em6, mup_r]
          by_cases e : j = 0
          · rw [if_pos e]; exact if_pos e
          · rw [if_neg e]; refine (if_neg e).trans ?_
            rw [hq5.2.2 6 (by decide) (by decide)]; exact r6 j j0 j1
      · trivial
    · show V E (wR D cy aa ad) 3 m1 25 [(0, .ref (aa 0)), (1, .int (iz (v)))] [.int (iz (0))]
      refine v_if_ne (tgt := 34) C dX11_payload_25 (by decide) (by omega) (fun c8 => by exact absurd c8 (by decide)) (fun c8 => ?_)
      refine v_aload_n C 0 dX11_payload_28 rfl ?_
      refine v_iconst (z := 2) C dX11_payload_29 rfl ?_
      refine v_callV (st := []) (n := 1) (q := 0) C [.int (iz (2))] (ct_StageRatiosModel_refused C.2.2.2.2.2.2.1 m1 (2) ) lR0 (eR0 _) rfl qw1340 qw16 qw1337 rfl rfl ⟨Nat.le_of_ble_eq_true rfl, Nat.le_of_ble_eq_true rfl⟩ (by decide +kernel) qw1339 qp36 rfl rfl (Nat.le_of_ble_eq_true rfl) dX11_payload_30 (fun r m9 hq9 => ?_)
      obtain ⟨z9, rfl, rfl, hq9⟩ := hq9
      show V E (wR D cy aa ad) 3 m9 33 [(0, .ref (aa 0)), (1, .int (iz (v)))] [.int (iz (-1))]
      refine v_iret C X rfl dX11_payload_33 ⟨_, rfl, ?_, ?_⟩
      · rw [← hq9]
        exact RAP.q fk2 (Or.inr (Or.inl ⟨hT1, hq3, rfl, rfl, rfl⟩)) (by decide)
      · trivial
  · refine v_aload_n C 0 dX11_payload_12 rfl ?_
    refine v_iconst (z := 1) C dX11_payload_13 rfl ?_
    refine v_callV (st := []) (n := 1) (q := 0) C [.int (iz (1))] (ct_StageRatiosModel_refused C.2.2.2.2.2.2.1 m1 (1) ) lR0 (eR0 _) rfl qw1340 qw16 qw1337 rfl rfl ⟨Nat.le_of_ble_eq_true rfl, Nat.le_of_ble_eq_true rfl⟩ (by decide +kernel) qw1339 qp36 rfl rfl (Nat.le_of_ble_eq_true rfl) dX11_payload_14 (fun r m10 hq10 => ?_)
    obtain ⟨z10, rfl, rfl, hq10⟩ := hq10
    show V E (wR D cy aa ad) 3 m10 17 [(0, .ref (aa 0)), (1, .int (iz (v)))] [.int (iz (-1))]
    refine v_iret C X rfl dX11_payload_17 ⟨_, rfl, ?_, ?_⟩
    · rw [← hq10]
      exact RAP.q fk2 (Or.inr (Or.inr ⟨by omega, rfl, rfl, rfl⟩)) (by decide)
    · trivial

set_option maxHeartbeats 4000000 in
set_option maxRecDepth 100000 in
theorem ct_StageRatiosModel_power {lau : Launch} {D : va_G} {cy : Nat → ClassId} {aa ad : Nat → Nat} (hI : wI (wR D cy aa ad)) (m : Mem) (fa Af Bf Cf Rr Xx : Int → Int) (v : Int) (hT : TT m fa Af Bf Cf Rr Xx) (hac : 0 ≤ m 0 23 ∧ m 0 23 ≤ 10) (hv : -2147483648 ≤ v ∧ v ≤ 2147483647) : MT lau (wR D cy aa ad) yX11_power cX11_power 3 (some .int) ({ frames := 1, cells := 0, slots := 0, locals := 22 } : Room) m [.ref (aa 0), .int (iz (v))] (Pi (fun z m' => (RAP (qPut (m 0 20) Xx 1 12 v) m m' z) ∧ True)) := by
  refine v_entry hI RX11 (by decide) rfl (Nat.le_of_ble_eq_true rfl) (fun E hE C X => ?_)
  subst hE
  show V E (wR D cy aa ad) 3 m 0 [(0, .ref (aa 0)), (1, .int (iz (v)))] []
  refine v_aload_n C 0 dX11_power_0 rfl ?_
  refine v_iconst (z := 0) C dX11_power_1 rfl ?_
  refine v_put C 0 0 (0) 0 rfl lR0 (eR0 _) rfl inX11 tyX11 tyX11_ok nmX11 (by decide) qw1140 rfl rfl rfl (Nat.le_of_ble_eq_true rfl) (by rw [mup_r]; exact (eR0 _)) dX11_power_2 (fun m1 em1 => ?_)
  have fk2 : FK m m1 := by rw [em1]; exact FK.up 0 0 (by unfold CKj; omega)
  have hT2 := fk2.tt hT
  have e20 : m1 0 20 = m 0 20 := fk2.1 20 (Or.inr (Or.inl rfl))
  have ht01 : m 0 20 = 0 ∨ m 0 20 = 1 := hT.imp (fun a => a) (fun a => a.1)
  refine v_aload_n C 0 dX11_power_5 rfl ?_
  refine v_get C 0 20 lR0 (eR0 _) rfl inX11 (by decide) rfl qw1160 dX11_power_6 ?_
  refine v_if_ne (tgt := 18) C dX11_power_9 (by decide) (by omega) (fun c2 => ?_) (fun c2 => ?_)
  · obtain ⟨hT1, hg0⟩ := hT.resolve_left (by omega)
    have hg := fk2.rt hg0
    obtain ⟨⟨r11, r8, r9, r10, r12⟩, r1, r2, r6, hvd, hfo⟩ := id hg
    obtain ⟨hn, hF, hup, hlw, hX⟩ := id hvd
    refine v_iload_n C 1 dX11_power_18 rfl ?_
    refine v_iconst (z := 1) C dX11_power_19 rfl ?_
    refine v_bipush (z := 12) C dX11_power_20 (by decide) ?_
    refine v_callS (st := []) (n := 3) C [.int (iz (v)), .int (iz (1)), .int (iz (12))] (ct_StageRatiosModel_in C.2.2.2.2.2.2.1 m1 (v) (1) (12) (by first | assumption | omega) (by first | assumption | omega) (by first | assumption | omega)) qw1355 qw16 qw1353 rfl rfl ⟨Nat.le_of_ble_eq_true rfl, Nat.le_of_ble_eq_true rfl⟩ (by decide +kernel) qw1354 rfl rfl (Nat.le_of_ble_eq_true rfl) dX11_power_22 (fun r m3 hq3 => ?_)
    obtain ⟨z3, rfl, ⟨rfl, hq3, rfl⟩ | ⟨rfl, hq3, rfl⟩⟩ := hq3
    · show V E (wR D cy aa ad) 3 m1 25 [(0, .ref (aa 0)), (1, .int (iz (v)))] [.int (iz (1))]
      refine v_if_ne (tgt := 34) C dX11_power_25 (by decide) (by omega) (fun c4 => ?_) (fun c4 => by exact absurd c4 (by decide))
      refine v_aload_n C 0 dX11_power_34 rfl ?_
      refine v_callV (st := []) (n := 0) (q := 0) C [] (ct_StageRatiosModel_remembers C.2.2.2.2.2.2.1 m1  (by rw [show m1 0 23 = m 0 23 from fk2.1 23 (Or.inr (Or.inr (Or.inl rfl)))]; exact hac)) lR0 (eR0 _) rfl qw1714 qw16 qw1711 rfl rfl ⟨Nat.le_of_ble_eq_true rfl, Nat.le_of_ble_eq_true rfl⟩ (by decide +kernel) qw1713 qp92 rfl rfl (Nat.le_of_ble_eq_true rfl) dX11_power_35 (fun r m5 hq5 => ?_)
      obtain ⟨rfl, hq5⟩ := hq5
      show V E (wR D cy aa ad) 3 m5 38 [(0, .ref (aa 0)), (1, .int (iz (v)))] []
      refine v_aload_n C 0 dX11_power_38 rfl ?_
      refine v_get C 0 21 lR0 (eR0 _) rfl inX11 (by decide) rfl qw1161 dX11_power_39 ?_
      refine v_iconst (z := 1) C dX11_power_42 rfl ?_
      refine v_iald C 6 lR6 (eR6 _) (by decide) (by omega) dX11_power_43 ?_
      refine v_istore_n (L1 := [(2, .int (iz (m5 6 1))), (0, .ref (aa 0)), (1, .int (iz (v)))]) C dX11_power_44 (by decide) rfl ?_
      refine v_aload_n C 1 dX11_power_45 rfl ?_
      refine v_get C 0 21 lR0 (eR0 _) rfl inX11 (by decide) rfl qw1161 dX11_power_46 ?_
      refine v_iconst (z := 1) C dX11_power_49 rfl ?_
      refine v_iload_n C 2 dX11_power_50 rfl ?_
      refine v_iast C 6 lR6 eR6 (by decide) (by omega) dX11_power_51 (fun m6 em6 => ?_)
      refine v_aload_n C 1 dX11_power_52 rfl ?_
      refine v_iload_n C 0 dX11_power_53 rfl ?_
      refine v_callV (st := []) (n := 1) (q := 0) C [.int (iz (m5 6 1))] (ct_StageRatiosModel_good C.2.2.2.2.2.2.1 m6 (m5 6 1) ) lR0 (eR0 _) rfl qw1444 qw16 qw1441 rfl rfl ⟨Nat.le_of_ble_eq_true rfl, Nat.le_of_ble_eq_true rfl⟩ (by decide +kernel) qw1443 qp56 rfl rfl (Nat.le_of_ble_eq_true rfl) dX11_power_54 (fun r m7 hq7 => ?_)
      obtain ⟨z7, rfl, rfl, hq7⟩ := hq7
      show V E (wR D cy aa ad) 3 m7 57 [(2, .int (iz (m5 6 1))), (0, .ref (aa 0)), (1, .int (iz (v)))] [.int (iz ((m5 6 1)))]
      refine v_iret C X rfl dX11_power_57 ⟨_, rfl, ?_, ?_⟩
      · rw [← hq7]
        refine ⟨0, 1, by decide, ?_, Or.inr (Or.inl ⟨rfl, KPm.ra ⟨by rw [em6]; simp only [mup_k _ _ _ (show (0 : Nat) ≠ 6 by decide), mup_k _ _ _ (show (7 : Nat) ≠ 6 by decide)]; rw [← fk2.1 23 (Or.inr (Or.inr (Or.inl rfl))), ← fk2.2 7 (by decide), ← fk2.2 6 (by decide)]; exact hq5.1, fun j hj h23 => by rw [em6]; simp only [mup_k _ _ _ (show (0 : Nat) ≠ 6 by decide), mup_k _ _ _ (show (7 : Nat) ≠ 6 by decide)]; rw [hq5.2.1 j h23]; exact fk2.1 j hj, fun q hq => by rw [em6, mup_k _ _ _ (by omega)]; rw [hq5.2.2 q (by omega) (by omega)]; exact fk2.2 q (by omega)⟩⟩)⟩
        rw [up2_6]
        refine Or.inl ⟨⟨hT1, hq3⟩, rfl, ?_, rfl, fun j j0 j1 => ?_⟩
        · rw [hq5.2.2 6 (by decide) (by decide)]; exact r6 _ (by omega) (by omega)
        · rw [em6, mup_r]
          by_cases e : j = 1
          · rw [if_pos e]; exact if_pos e
          · rw [if_neg e]; refine (if_neg e).trans ?_
            rw [hq5.2.2 6 (by decide) (by decide)]; exact r6 j j0 j1
      · trivial
    · show V E (wR D cy aa ad) 3 m1 25 [(0, .ref (aa 0)), (1, .int (iz (v)))] [.int (iz (0))]
      refine v_if_ne (tgt := 34) C dX11_power_25 (by decide) (by omega) (fun c8 => by exact absurd c8 (by decide)) (fun c8 => ?_)
      refine v_aload_n C 0 dX11_power_28 rfl ?_
      refine v_iconst (z := 2) C dX11_power_29 rfl ?_
      refine v_callV (st := []) (n := 1) (q := 0) C [.int (iz (2))] (ct_StageRatiosModel_refused C.2.2.2.2.2.2.1 m1 (2) ) lR0 (eR0 _) rfl qw1340 qw16 qw1337 rfl rfl ⟨Nat.le_of_ble_eq_true rfl, Nat.le_of_ble_eq_true rfl⟩ (by decide +kernel) qw1339 qp36 rfl rfl (Nat.le_of_ble_eq_true rfl) dX11_power_30 (fun r m9 hq9 => ?_)
      obtain ⟨z9, rfl, rfl, hq9⟩ := hq9
      show V E (wR D cy aa ad) 3 m9 33 [(0, .ref (aa 0)), (1, .int (iz (v)))] [.int (iz (-1))]
      refine v_iret C X rfl dX11_power_33 ⟨_, rfl, ?_, ?_⟩
      · rw [← hq9]
        exact RAP.q fk2 (Or.inr (Or.inl ⟨hT1, hq3, rfl, rfl, rfl⟩)) (by decide)
      · trivial
  · refine v_aload_n C 0 dX11_power_12 rfl ?_
    refine v_iconst (z := 1) C dX11_power_13 rfl ?_
    refine v_callV (st := []) (n := 1) (q := 0) C [.int (iz (1))] (ct_StageRatiosModel_refused C.2.2.2.2.2.2.1 m1 (1) ) lR0 (eR0 _) rfl qw1340 qw16 qw1337 rfl rfl ⟨Nat.le_of_ble_eq_true rfl, Nat.le_of_ble_eq_true rfl⟩ (by decide +kernel) qw1339 qp36 rfl rfl (Nat.le_of_ble_eq_true rfl) dX11_power_14 (fun r m10 hq10 => ?_)
    obtain ⟨z10, rfl, rfl, hq10⟩ := hq10
    show V E (wR D cy aa ad) 3 m10 17 [(0, .ref (aa 0)), (1, .int (iz (v)))] [.int (iz (-1))]
    refine v_iret C X rfl dX11_power_17 ⟨_, rfl, ?_, ?_⟩
    · rw [← hq10]
      exact RAP.q fk2 (Or.inr (Or.inr ⟨by omega, rfl, rfl, rfl⟩)) (by decide)
    · trivial

set_option maxHeartbeats 4000000 in
set_option maxRecDepth 100000 in
theorem ct_StageRatiosModel_bounds {lau : Launch} {D : va_G} {cy : Nat → ClassId} {aa ad : Nat → Nat} (hI : wI (wR D cy aa ad)) (m : Mem) (fa Af Bf Cf Rr Xx : Int → Int) (s lo hi : Int) (hT : TT m fa Af Bf Cf Rr Xx) (hac : 0 ≤ m 0 23 ∧ m 0 23 ≤ 10) (hs : -2147483648 ≤ s ∧ s ≤ 2147483647) (hlo : -2147483648 ≤ lo ∧ lo ≤ 2147483647) (hhi : -2147483648 ≤ hi ∧ hi ≤ 2147483647) : MT lau (wR D cy aa ad) yX11_bounds cX11_bounds 5 (some .int) ({ frames := 2, cells := 0, slots := 0, locals := 43 } : Room) m [.ref (aa 0), .int (iz (s)), .int (iz (lo)), .int (iz (hi))] (Pi (fun z m' => (RAP (qBou (m 0 20) fa Rr Xx s lo hi) m m' z) ∧ True)) := by
  refine v_entry hI RX11 (by decide) rfl (Nat.le_of_ble_eq_true rfl) (fun E hE C X => ?_)
  subst hE
  show V E (wR D cy aa ad) 5 m 0 [(0, .ref (aa 0)), (1, .int (iz (s))), (2, .int (iz (lo))), (3, .int (iz (hi)))] []
  refine v_aload_n C 0 dX11_bounds_0 rfl ?_
  refine v_iconst (z := 0) C dX11_bounds_1 rfl ?_
  refine v_put C 0 0 (0) 0 rfl lR0 (eR0 _) rfl inX11 tyX11 tyX11_ok nmX11 (by decide) qw1140 rfl rfl rfl (Nat.le_of_ble_eq_true rfl) (by rw [mup_r]; exact (eR0 _)) dX11_bounds_2 (fun m1 em1 => ?_)
  have fk2 : FK m m1 := by rw [em1]; exact FK.up 0 0 (by unfold CKj; omega)
  have hT2 := fk2.tt hT
  have e20 : m1 0 20 = m 0 20 := fk2.1 20 (Or.inr (Or.inl rfl))
  have ht01 : m 0 20 = 0 ∨ m 0 20 = 1 := hT.imp (fun a => a) (fun a => a.1)
  refine v_aload_n C 0 dX11_bounds_5 rfl ?_
  refine v_iload_n C 1 dX11_bounds_6 rfl ?_
  refine v_callV (st := []) (n := 1) (q := 0) C [.int (iz (s))] (ct_StageRatiosModel_isStage C.2.2.2.2.2.2.1 m1 (fa) (Af) (Bf) (Cf) (Rr) (Xx) (s) (by exact hT2) (by first | assumption | omega)) lR0 (eR0 _) rfl qw1464 qw16 qw1461 rfl rfl ⟨Nat.le_of_ble_eq_true rfl, Nat.le_of_ble_eq_true rfl⟩ (by decide +kernel) qw1463 qp57 rfl rfl (Nat.le_of_ble_eq_true rfl) dX11_bounds_7 (fun r m2 hq2 => ?_)
  obtain ⟨z2, rfl, ⟨rfl, hq2, rfl⟩ | ⟨rfl, hq2, rfl⟩⟩ := hq2
  · show V E (wR D cy aa ad) 5 m1 10 [(0, .ref (aa 0)), (1, .int (iz (s))), (2, .int (iz (lo))), (3, .int (iz (hi)))] [.int (iz (1))]
    rw [e20] at hq2
    obtain ⟨hT1, hs0⟩ := id hq2
    obtain ⟨-, hg0⟩ := hT.resolve_left (by omega)
    have hg := fk2.rt hg0
    obtain ⟨⟨r11, r8, r9, r10, r12⟩, r1, r2, r6, hvd, hfo⟩ := id hg
    obtain ⟨hn, hF, hup, hlw, hX⟩ := id hvd
    have hfs := hF s hs0.1 hs0.2
    refine v_if_ne (tgt := 19) C dX11_bounds_10 (by decide) (by omega) (fun c3 => ?_) (fun c3 => by exact absurd c3 (by decide))
    refine v_iload_n C 2 dX11_bounds_19 rfl ?_
    refine v_iconst (z := 0) C dX11_bounds_20 rfl ?_
    refine v_aload_n C 0 dX11_bounds_21 rfl ?_
    refine v_iload_n C 1 dX11_bounds_22 rfl ?_
    refine v_iconst (z := 3) C dX11_bounds_23 rfl ?_
    refine v_callV (st := [.int (iz (0)), .int (iz (lo))]) (n := 2) (q := 0) C [.int (iz (s)), .int (iz (3))] (ct_StageRatiosModel_told C.2.2.2.2.2.2.1 m1 (fa) (Af) (Bf) (Cf) (Rr) (Xx) (s) (3) (by first | assumption | omega) (by first | assumption | omega) (by first | assumption | omega)) lR0 (eR0 _) rfl qw1440 qw16 qw1437 rfl rfl ⟨Nat.le_of_ble_eq_true rfl, Nat.le_of_ble_eq_true rfl⟩ (by decide +kernel) qw1439 qp55 rfl rfl (Nat.le_of_ble_eq_true rfl) dX11_bounds_24 (fun r m4 hq4 => ?_)
    obtain ⟨z4, rfl, rfl, rfl⟩ := hq4
    show V E (wR D cy aa ad) 5 m1 27 [(0, .ref (aa 0)), (1, .int (iz (s))), (2, .int (iz (lo))), (3, .int (iz (hi)))] [.int (iz (fa (s * 9 + 3))), .int (iz (0)), .int (iz (lo))]
    refine v_callS (st := []) (n := 3) C [.int (iz (lo)), .int (iz (0)), .int (iz (fa (s * 9 + 3)))] (ct_StageRatiosModel_in C.2.2.2.2.2.2.1 m1 (lo) (0) (fa (s * 9 + 3)) (by first | assumption | omega) (by first | assumption | omega) (by first | assumption | omega)) qw1355 qw16 qw1353 rfl rfl ⟨Nat.le_of_ble_eq_true rfl, Nat.le_of_ble_eq_true rfl⟩ (by decide +kernel) qw1354 rfl rfl (Nat.le_of_ble_eq_true rfl) dX11_bounds_27 (fun r m5 hq5 => ?_)
    obtain ⟨z5, rfl, ⟨rfl, hq5, rfl⟩ | ⟨rfl, hq5, rfl⟩⟩ := hq5
    · show V E (wR D cy aa ad) 5 m1 30 [(0, .ref (aa 0)), (1, .int (iz (s))), (2, .int (iz (lo))), (3, .int (iz (hi)))] [.int (iz (1))]
      refine v_if_eq (tgt := 47) C dX11_bounds_30 (by decide) (by omega) (fun c6 => by exact absurd c6 (by decide)) (fun c6 => ?_)
      refine v_iload_n C 3 dX11_bounds_33 rfl ?_
      refine v_iload_n C 2 dX11_bounds_34 rfl ?_
      refine v_aload_n C 0 dX11_bounds_35 rfl ?_
      refine v_iload_n C 1 dX11_bounds_36 rfl ?_
      refine v_iconst (z := 3) C dX11_bounds_37 rfl ?_
      refine v_callV (st := [.int (iz (lo)), .int (iz (hi))]) (n := 2) (q := 0) C [.int (iz (s)), .int (iz (3))] (ct_StageRatiosModel_told C.2.2.2.2.2.2.1 m1 (fa) (Af) (Bf) (Cf) (Rr) (Xx) (s) (3) (by first | assumption | omega) (by first | assumption | omega) (by first | assumption | omega)) lR0 (eR0 _) rfl qw1440 qw16 qw1437 rfl rfl ⟨Nat.le_of_ble_eq_true rfl, Nat.le_of_ble_eq_true rfl⟩ (by decide +kernel) qw1439 qp55 rfl rfl (Nat.le_of_ble_eq_true rfl) dX11_bounds_38 (fun r m7 hq7 => ?_)
      obtain ⟨z7, rfl, rfl, rfl⟩ := hq7
      show V E (wR D cy aa ad) 5 m1 41 [(0, .ref (aa 0)), (1, .int (iz (s))), (2, .int (iz (lo))), (3, .int (iz (hi)))] [.int (iz (fa (s * 9 + 3))), .int (iz (lo)), .int (iz (hi))]
      refine v_callS (st := []) (n := 3) C [.int (iz (hi)), .int (iz (lo)), .int (iz (fa (s * 9 + 3)))] (ct_StageRatiosModel_in C.2.2.2.2.2.2.1 m1 (hi) (lo) (fa (s * 9 + 3)) (by first | assumption | omega) (by first | assumption | omega) (by first | assumption | omega)) qw1355 qw16 qw1353 rfl rfl ⟨Nat.le_of_ble_eq_true rfl, Nat.le_of_ble_eq_true rfl⟩ (by decide +kernel) qw1354 rfl rfl (Nat.le_of_ble_eq_true rfl) dX11_bounds_41 (fun r m8 hq8 => ?_)
      obtain ⟨z8, rfl, ⟨rfl, hq8, rfl⟩ | ⟨rfl, hq8, rfl⟩⟩ := hq8
      · show V E (wR D cy aa ad) 5 m1 44 [(0, .ref (aa 0)), (1, .int (iz (s))), (2, .int (iz (lo))), (3, .int (iz (hi)))] [.int (iz (1))]
        refine v_if_ne (tgt := 53) C dX11_bounds_44 (by decide) (by omega) (fun c9 => ?_) (fun c9 => by exact absurd c9 (by decide))
        refine v_aload_n C 0 dX11_bounds_53 rfl ?_
        refine v_callV (st := []) (n := 0) (q := 0) C [] (ct_StageRatiosModel_remembers C.2.2.2.2.2.2.1 m1  (by rw [show m1 0 23 = m 0 23 from fk2.1 23 (Or.inr (Or.inr (Or.inl rfl)))]; exact hac)) lR0 (eR0 _) rfl qw1714 qw16 qw1711 rfl rfl ⟨Nat.le_of_ble_eq_true rfl, Nat.le_of_ble_eq_true rfl⟩ (by decide +kernel) qw1713 qp92 rfl rfl (Nat.le_of_ble_eq_true rfl) dX11_bounds_54 (fun r m10 hq10 => ?_)
        obtain ⟨rfl, hq10⟩ := hq10
        show V E (wR D cy aa ad) 5 m10 57 [(0, .ref (aa 0)), (1, .int (iz (s))), (2, .int (iz (lo))), (3, .int (iz (hi)))] []
        refine v_aload_n C 0 dX11_bounds_57 rfl ?_
        refine v_get C 0 21 lR0 (eR0 _) rfl inX11 (by decide) rfl qw1161 dX11_bounds_58 ?_
        refine v_bipush (z := 8) C dX11_bounds_61 (by decide) ?_
        refine v_iload_n C 1 dX11_bounds_63 rfl ?_
        refine v_iadd C dX11_bounds_64 ?_
        refine v_iald C 6 lR6 (eR6 _) (by decide) (by omega) dX11_bounds_65 ?_
        refine v_aload_n C 0 dX11_bounds_66 rfl ?_
        refine v_get C 0 21 lR0 (eR0 _) rfl inX11 (by decide) rfl qw1161 dX11_bounds_67 ?_
        refine v_iconst (z := 5) C dX11_bounds_70 rfl ?_
        refine v_iload_n C 1 dX11_bounds_71 rfl ?_
        refine v_iadd C dX11_bounds_72 ?_
        refine v_iald C 6 lR6 (eR6 _) (by decide) (by omega) dX11_bounds_73 ?_
        refine v_isub C dX11_bounds_74 ?_
        refine v_istore (L1 := [(4, .int (iz ((m10 6 (8 + s)) - (m10 6 (5 + s))))), (0, .ref (aa 0)), (1, .int (iz (s))), (2, .int (iz (lo))), (3, .int (iz (hi)))]) C dX11_bounds_75 (by decide) rfl ?_
        refine v_aload_n C 1 dX11_bounds_77 rfl ?_
        refine v_get C 0 21 lR0 (eR0 _) rfl inX11 (by decide) rfl qw1161 dX11_bounds_78 ?_
        refine v_iconst (z := 5) C dX11_bounds_81 rfl ?_
        refine v_iload_n C 2 dX11_bounds_82 rfl ?_
        refine v_iadd C dX11_bounds_83 ?_
        refine v_iload_n C 3 dX11_bounds_84 rfl ?_
        refine v_iast C 6 lR6 eR6 (by decide) (by omega) dX11_bounds_85 (fun m11 em11 => ?_)
        refine v_aload_n C 1 dX11_bounds_86 rfl ?_
        refine v_get C 0 21 lR0 (eR0 _) rfl inX11 (by decide) rfl qw1161 dX11_bounds_87 ?_
        refine v_bipush (z := 8) C dX11_bounds_90 (by decide) ?_
        refine v_iload_n C 2 dX11_bounds_92 rfl ?_
        refine v_iadd C dX11_bounds_93 ?_
        refine v_iload_n C 4 dX11_bounds_94 rfl ?_
        refine v_iast C 6 lR6 eR6 (by decide) (by omega) dX11_bounds_95 (fun m12 em12 => ?_)
        refine v_aload_n C 1 dX11_bounds_96 rfl ?_
        refine v_iload C 0 dX11_bounds_97 rfl ?_
        refine v_callV (st := []) (n := 1) (q := 0) C [.int (iz ((m10 6 (8 + s)) - (m10 6 (5 + s))))] (ct_StageRatiosModel_good C.2.2.2.2.2.2.1 m12 ((m10 6 (8 + s)) - (m10 6 (5 + s))) ) lR0 (eR0 _) rfl qw1444 qw16 qw1441 rfl rfl ⟨Nat.le_of_ble_eq_true rfl, Nat.le_of_ble_eq_true rfl⟩ (by decide +kernel) qw1443 qp56 rfl rfl (Nat.le_of_ble_eq_true rfl) dX11_bounds_99 (fun r m13 hq13 => ?_)
        obtain ⟨z13, rfl, rfl, hq13⟩ := hq13
        show V E (wR D cy aa ad) 5 m13 102 [(4, .int (iz ((m10 6 (8 + s)) - (m10 6 (5 + s))))), (0, .ref (aa 0)), (1, .int (iz (s))), (2, .int (iz (lo))), (3, .int (iz (hi)))] [.int (iz (((m10 6 (8 + s)) - (m10 6 (5 + s)))))]
        refine v_iret C X rfl dX11_bounds_102 ⟨_, rfl, ?_, ?_⟩
        · rw [← hq13]
          refine ⟨0, 1, by decide, ?_, Or.inr (Or.inl ⟨rfl, KPm.ra ⟨by rw [em12, em11]; simp only [mup_k _ _ _ (show (0 : Nat) ≠ 6 by decide), mup_k _ _ _ (show (7 : Nat) ≠ 6 by decide)]; rw [← fk2.1 23 (Or.inr (Or.inr (Or.inl rfl))), ← fk2.2 7 (by decide), ← fk2.2 6 (by decide)]; exact hq10.1, fun j hj h23 => by rw [em12, em11]; simp only [mup_k _ _ _ (show (0 : Nat) ≠ 6 by decide), mup_k _ _ _ (show (7 : Nat) ≠ 6 by decide)]; rw [hq10.2.1 j h23]; exact fk2.1 j hj, fun q hq => by rw [em12, mup_k _ _ _ (by omega), em11, mup_k _ _ _ (by omega)]; rw [hq10.2.2 q (by omega) (by omega)]; exact fk2.2 q (by omega)⟩⟩)⟩
          rw [up2_6]
          have e6k : ∀ j : Int, 0 ≤ j → j < 11 → m10 6 j = Xx j := fun j j0 j1 => by rw [hq10.2.2 6 (by decide) (by decide)]; exact r6 j j0 j1
          refine Or.inl ⟨⟨hq2, hq5.1, hq8⟩, rfl, ?_, rfl, fun j j0 j1 => ?_⟩
          · rw [e6k _ (by omega) (by omega), e6k _ (by omega) (by omega)]
          · rw [em12, mup_r, em11, mup_r]
            by_cases e : j = 5 + s
            · rw [if_pos e]; exact (if_neg (by omega)).trans (if_pos e)
            · rw [if_neg e]
              by_cases d : j = 8 + s
              · rw [if_pos d]; exact if_pos d
              · rw [if_neg d]; exact (if_neg d).trans ((if_neg e).trans (e6k j j0 j1))
        · trivial
      · show V E (wR D cy aa ad) 5 m1 44 [(0, .ref (aa 0)), (1, .int (iz (s))), (2, .int (iz (lo))), (3, .int (iz (hi)))] [.int (iz (0))]
        refine v_if_ne (tgt := 53) C dX11_bounds_44 (by decide) (by omega) (fun c14 => by exact absurd c14 (by decide)) (fun c14 => ?_)
        refine v_aload_n C 0 dX11_bounds_47 rfl ?_
        refine v_iconst (z := 2) C dX11_bounds_48 rfl ?_
        refine v_callV (st := []) (n := 1) (q := 0) C [.int (iz (2))] (ct_StageRatiosModel_refused C.2.2.2.2.2.2.1 m1 (2) ) lR0 (eR0 _) rfl qw1340 qw16 qw1337 rfl rfl ⟨Nat.le_of_ble_eq_true rfl, Nat.le_of_ble_eq_true rfl⟩ (by decide +kernel) qw1339 qp36 rfl rfl (Nat.le_of_ble_eq_true rfl) dX11_bounds_49 (fun r m15 hq15 => ?_)
        obtain ⟨z15, rfl, rfl, hq15⟩ := hq15
        show V E (wR D cy aa ad) 5 m15 52 [(0, .ref (aa 0)), (1, .int (iz (s))), (2, .int (iz (lo))), (3, .int (iz (hi)))] [.int (iz (-1))]
        refine v_iret C X rfl dX11_bounds_52 ⟨_, rfl, ?_, ?_⟩
        · rw [← hq15]
          exact RAP.q fk2 (Or.inr (Or.inl ⟨hq2, fun h => by first | exact hq5 ⟨h.1, by omega⟩ | exact hq8 ⟨h.2.1, h.2.2⟩, rfl, rfl, rfl⟩)) (by decide)
        · trivial
    · show V E (wR D cy aa ad) 5 m1 30 [(0, .ref (aa 0)), (1, .int (iz (s))), (2, .int (iz (lo))), (3, .int (iz (hi)))] [.int (iz (0))]
      refine v_if_eq (tgt := 47) C dX11_bounds_30 (by decide) (by omega) (fun c16 => ?_) (fun c16 => by exact absurd c16 (by decide))
      refine v_aload_n C 0 dX11_bounds_47 rfl ?_
      refine v_iconst (z := 2) C dX11_bounds_48 rfl ?_
      refine v_callV (st := []) (n := 1) (q := 0) C [.int (iz (2))] (ct_StageRatiosModel_refused C.2.2.2.2.2.2.1 m1 (2) ) lR0 (eR0 _) rfl qw1340 qw16 qw1337 rfl rfl ⟨Nat.le_of_ble_eq_true rfl, Nat.le_of_ble_eq_true rfl⟩ (by decide +kernel) qw1339 qp36 rfl rfl (Nat.le_of_ble_eq_true rfl) dX11_bounds_49 (fun r m17 hq17 => ?_)
      obtain ⟨z17, rfl, rfl, hq17⟩ := hq17
      show V E (wR D cy aa ad) 5 m17 52 [(0, .ref (aa 0)), (1, .int (iz (s))), (2, .int (iz (lo))), (3, .int (iz (hi)))] [.int (iz (-1))]
      refine v_iret C X rfl dX11_bounds_52 ⟨_, rfl, ?_, ?_⟩
      · rw [← hq17]
        exact RAP.q fk2 (Or.inr (Or.inl ⟨hq2, fun h => by first | exact hq5 ⟨h.1, by omega⟩ | exact NO_q41 ⟨h.2.1, h.2.2⟩, rfl, rfl, rfl⟩)) (by decide)
      · trivial
  · show V E (wR D cy aa ad) 5 m1 10 [(0, .ref (aa 0)), (1, .int (iz (s))), (2, .int (iz (lo))), (3, .int (iz (hi)))] [.int (iz (0))]
    refine v_if_ne (tgt := 19) C dX11_bounds_10 (by decide) (by omega) (fun c18 => by exact absurd c18 (by decide)) (fun c18 => ?_)
    refine v_aload_n C 0 dX11_bounds_13 rfl ?_
    refine v_iconst (z := 1) C dX11_bounds_14 rfl ?_
    refine v_callV (st := []) (n := 1) (q := 0) C [.int (iz (1))] (ct_StageRatiosModel_refused C.2.2.2.2.2.2.1 m1 (1) ) lR0 (eR0 _) rfl qw1340 qw16 qw1337 rfl rfl ⟨Nat.le_of_ble_eq_true rfl, Nat.le_of_ble_eq_true rfl⟩ (by decide +kernel) qw1339 qp36 rfl rfl (Nat.le_of_ble_eq_true rfl) dX11_bounds_15 (fun r m19 hq19 => ?_)
    obtain ⟨z19, rfl, rfl, hq19⟩ := hq19
    show V E (wR D cy aa ad) 5 m19 18 [(0, .ref (aa 0)), (1, .int (iz (s))), (2, .int (iz (lo))), (3, .int (iz (hi)))] [.int (iz (-1))]
    refine v_iret C X rfl dX11_bounds_18 ⟨_, rfl, ?_, ?_⟩
    · rw [← hq19]
      exact RAP.q fk2 (Or.inr (Or.inr ⟨e20 ▸ hq2, rfl, rfl, rfl⟩)) (by decide)
    · trivial

set_option maxHeartbeats 4000000 in
set_option maxRecDepth 100000 in
theorem ct_StageRatiosModel_adopt {lau : Launch} {D : va_G} {cy : Nat → ClassId} {aa ad : Nat → Nat} (hI : wI (wR D cy aa ad)) (m : Mem) (fa Af Bf Cf Rr Xx : Int → Int) (hT : TT m fa Af Bf Cf Rr Xx) (hac : 0 ≤ m 0 23 ∧ m 0 23 ≤ 10) : MT lau (wR D cy aa ad) yX11_adopt cX11_adopt 2 (some .int) ({ frames := 7, cells := 0, slots := 0, locals := 155 } : Room) m [.ref (aa 0)] (Pi (fun z m' => (RAP (qAdo (m 0 20) fa Rr Xx) m m' z) ∧ True)) := by
  refine v_entry hI RX11 (by decide) rfl (Nat.le_of_ble_eq_true rfl) (fun E hE C X => ?_)
  subst hE
  show V E (wR D cy aa ad) 2 m 0 [(0, .ref (aa 0))] []
  refine v_aload_n C 0 dX11_adopt_0 rfl ?_
  refine v_iconst (z := 0) C dX11_adopt_1 rfl ?_
  refine v_put C 0 0 (0) 0 rfl lR0 (eR0 _) rfl inX11 tyX11 tyX11_ok nmX11 (by decide) qw1140 rfl rfl rfl (Nat.le_of_ble_eq_true rfl) (by rw [mup_r]; exact (eR0 _)) dX11_adopt_2 (fun m1 em1 => ?_)
  have fk2 : FK m m1 := by rw [em1]; exact FK.up 0 0 (by unfold CKj; omega)
  have hT2 := fk2.tt hT
  have e20 : m1 0 20 = m 0 20 := fk2.1 20 (Or.inr (Or.inl rfl))
  have ht01 : m 0 20 = 0 ∨ m 0 20 = 1 := hT.imp (fun a => a) (fun a => a.1)
  refine v_aload_n C 0 dX11_adopt_5 rfl ?_
  refine v_get C 0 20 lR0 (eR0 _) rfl inX11 (by decide) rfl qw1160 dX11_adopt_6 ?_
  refine v_if_ne (tgt := 18) C dX11_adopt_9 (by decide) (by omega) (fun c2 => ?_) (fun c2 => ?_)
  · obtain ⟨hT1, hg0⟩ := hT.resolve_left (by omega)
    have hg := fk2.rt hg0
    obtain ⟨⟨r11, r8, r9, r10, r12⟩, r1, r2, r6, hvd, hfo⟩ := id hg
    obtain ⟨hn, hF, hup, hlw, hX⟩ := id hvd
    have hp1 := hX.2.1
    have hkp : kPw (Xx 1) := ⟨by omega, by omega⟩
    refine v_aload_n C 0 dX11_adopt_18 rfl ?_
    refine v_callV (st := []) (n := 0) (q := 0) C [] (ct_StageRatiosModel_laysBox C.2.2.2.2.2.2.1 m1 (fa) (Af) (Bf) (Cf) (Rr) (Xx) (by first | assumption | omega)) lR0 (eR0 _) rfl qw1590 qw16 qw1587 rfl rfl ⟨Nat.le_of_ble_eq_true rfl, Nat.le_of_ble_eq_true rfl⟩ (by decide +kernel) qw1589 qp78 rfl rfl (Nat.le_of_ble_eq_true rfl) dX11_adopt_19 (fun r m3 hq3 => ?_)
    obtain ⟨rfl, hq3⟩ := hq3
    show V E (wR D cy aa ad) 2 m3 22 [(0, .ref (aa 0))] []
    have fk3 := fk2.tr (show FK _ m3 from ⟨fun j hj => hq3.2.2.2.1 j (by unfold CKj at hj; omega), fun q hq => hq3.2.2.2.2 q (by omega) (by omega) (by omega) (by omega)⟩)
    have hg3 := fk3.rt hg0
    have hbx3 := hq3.1
    have hat3 := hq3.2.1
    have h343 := hq3.2.2.1
    have hfb := first_box (lo := loX Xx) (hi := hiX Xx) (fun j j0 j1 => (hbx3 j j0 j1).2.2)
    have hwo : ∀ c : Int, inB (loX Xx) (hiX Xx) c → woM fa (Rr 5) (unZ c) := fun c h => in_wo hvd h
    have e61 : m3 6 1 = Xx 1 := hg3.2.2.2.1 1 (by decide) (by decide)
    refine v_aload_n C 0 dX11_adopt_22 rfl ?_
    refine v_aload_n C 0 dX11_adopt_23 rfl ?_
    refine v_get C 0 21 lR0 (eR0 _) rfl inX11 (by decide) rfl qw1161 dX11_adopt_24 ?_
    refine v_iconst (z := 1) C dX11_adopt_27 rfl ?_
    refine v_iald C 6 lR6 (eR6 _) (by decide) (by omega) dX11_adopt_28 ?_
    refine v_callV (st := []) (n := 1) (q := 0) C [.int (iz (m3 6 1))] (ct_StageRatiosModel_laysBest C.2.2.2.2.2.2.1 m3 (fa) (Af) (Bf) (Cf) (Rr) (Xx) (loX Xx) (hiX Xx) (Xx 0) (cdZ (loX Xx)) (m3 6 1) (by exact hg3) (by exact hbx3) (by exact hat3) (by exact hfb.2) (by exact h343) (by exact hX.1) (by rw [e61]; exact hkp)) lR0 (eR0 _) rfl qw1594 qw16 qw1591 rfl rfl ⟨Nat.le_of_ble_eq_true rfl, Nat.le_of_ble_eq_true rfl⟩ (by decide +kernel) qw1593 qp79 rfl rfl (Nat.le_of_ble_eq_true rfl) dX11_adopt_29 (fun r m4 hq4 => ?_)
    obtain ⟨rfl, hq4⟩ := hq4
    show V E (wR D cy aa ad) 2 m4 32 [(0, .ref (aa 0))] []
    rw [e61] at hq4
    obtain ⟨bq, hbq, hbm⟩ := hq4.1
    have fk4 := fk3.tr (show FK _ m4 from ⟨fun j hj => hq4.2.1 j (by unfold CKj at hj; omega) (by unfold CKj at hj; omega) (by unfold CKj at hj; omega), fun q hq => hq4.2.2 q (by omega) (by omega) (by omega) (by omega) (by omega)⟩)
    have hbe : beA fa Rr Xx (loX Xx) (hiX Xx) (Xx 1) bq := hbq.cg (fun c _ _ => pc_cd (hwo c)) (fun _ _ _ _ => rfl)
    have hbr : bq = -1 ∨ (0 ≤ bq ∧ bq < 4913) := by
      rcases hbq with ⟨y, -⟩ | ⟨y, y2, -⟩
      · exact Or.inl y
      · exact Or.inr ⟨y, y2⟩
    have hg4 := fk4.rt hg0
    have hb43 : m4 0 43 = -2 ∧ bq = -1 ∨ (1 ≤ m4 0 43 ∧ m4 0 43 ≤ 358 ∧ 0 ≤ bq ∧ m4 0 43 = weA fa (Rr 5) (Xx 0) bq ∧ ∀ j : Int, 0 ≤ j → j < 3 → m4 15 j = unZ bq j) := by
      rcases hbm with y | y
      · exact Or.inl ⟨y.2, y.1⟩
      · have := we_rng hF hn hX.1 y.1 (show bq < 4913 by omega)
        rw [y.2.1]; exact Or.inr ⟨this.1, this.2, y.1, rfl, y.2.2⟩
    have hb43r : -2 ≤ m4 0 43 ∧ m4 0 43 ≤ 358 := by rcases hb43 with y | y <;> omega
    refine v_aload_n C 0 dX11_adopt_32 rfl ?_
    refine v_get C 0 43 lR0 (eR0 _) rfl inX11 (by decide) rfl qw1183 dX11_adopt_33 ?_
    refine v_bipush (z := -2) C dX11_adopt_36 (by decide) ?_
    refine v_icmp_ne (tgt := 47) C dX11_adopt_38 (by decide) (by omega) (by omega) (fun c5 => ?_) (fun c5 => ?_)
    · refine v_aload_n C 0 dX11_adopt_47 rfl ?_
      refine v_callV (st := []) (n := 0) (q := 0) C [] (ct_StageRatiosModel_remembers C.2.2.2.2.2.2.1 m4  (by rw [show m4 0 23 = m 0 23 from fk4.1 23 (Or.inr (Or.inr (Or.inl rfl)))]; exact hac)) lR0 (eR0 _) rfl qw1714 qw16 qw1711 rfl rfl ⟨Nat.le_of_ble_eq_true rfl, Nat.le_of_ble_eq_true rfl⟩ (by decide +kernel) qw1713 qp92 rfl rfl (Nat.le_of_ble_eq_true rfl) dX11_adopt_48 (fun r m6 hq6 => ?_)
      obtain ⟨rfl, hq6⟩ := hq6
      show V E (wR D cy aa ad) 2 m6 51 [(0, .ref (aa 0))] []
      have hbq0 : 0 ≤ bq ∧ bq < 4913 := by rcases hb43 with y | y <;> omega
      have hb43b : m4 0 43 = weA fa (Rr 5) (Xx 0) bq ∧ ∀ j : Int, 0 ≤ j → j < 3 → m4 15 j = unZ bq j := by
        rcases hb43 with y | y
        · omega
        · exact y.2.2.2
      have hin : inB (loX Xx) (hiX Xx) bq := by
        rcases hbq with ⟨y, -⟩ | ⟨-, -, y, -⟩
        · omega
        · exact y.1
      have l11k : m6 0 11 = Rr 5 := by rw [hq6.2.1 11 (by decide)]; exact hg4.1.1
      refine v_iconst (z := 0) C dX11_adopt_51 rfl ?_
      refine v_istore_n (L1 := [(1, .int (iz (0))), (0, .ref (aa 0))]) C dX11_adopt_52 (by decide) rfl ?_
      have K53 : ∀ (nK : Nat) (i : Int) (mL : Mem) (hi : 0 ≤ i ∧ i ≤ Rr 5) (h6L : ∀ j : Int, 0 ≤ j → j < 11 → mL 6 j = if 2 ≤ j ∧ j < 2 + i then unZ bq (j - 2) else Xx j) (hfL : ∀ q : Nat, q ≠ 6 → mL q = m6 q), (Rr 5 - i).toNat < nK → V E (wR D cy aa ad) 2 mL 53 [(0, .ref (aa 0)), (1, .int (iz (i)))] [] := by
        intro nK
        induction nK with
        | zero => intro i mL hi h6L hfL hn; exact absurd hn (Nat.not_lt_zero _)
        | succ nK ih53 =>
          intro i mL hi h6L hfL hn53
          have l11 : mL 0 11 = Rr 5 := by rw [hfL 0 (by decide)]; exact l11k
          refine v_iload_n C 1 dX11_adopt_53 rfl ?_
          refine v_aload_n C 0 dX11_adopt_54 rfl ?_
          refine v_get C 0 11 lR0 (eR0 _) rfl inX11 (by decide) rfl qw1151 dX11_adopt_55 ?_
          refine v_icmp_ge (tgt := 81) C dX11_adopt_58 (by decide) (by omega) (by omega) (fun c7 => ?_) (fun c7 => ?_)
          · refine v_aload_n C 0 dX11_adopt_81 rfl ?_
            refine v_aload_n C 0 dX11_adopt_82 rfl ?_
            refine v_get C 0 43 lR0 (eR0 _) rfl inX11 (by decide) rfl qw1183 dX11_adopt_83 ?_
            refine v_callV (st := []) (n := 1) (q := 0) C [.int (iz (mL 0 43))] (ct_StageRatiosModel_good C.2.2.2.2.2.2.1 mL (mL 0 43) ) lR0 (eR0 _) rfl qw1444 qw16 qw1441 rfl rfl ⟨Nat.le_of_ble_eq_true rfl, Nat.le_of_ble_eq_true rfl⟩ (by decide +kernel) qw1443 qp56 rfl rfl (Nat.le_of_ble_eq_true rfl) dX11_adopt_86 (fun r m8 hq8 => ?_)
            obtain ⟨z8, rfl, rfl, hq8⟩ := hq8
            show V E (wR D cy aa ad) 2 m8 89 [(0, .ref (aa 0)), (1, .int (iz (i)))] [.int (iz ((mL 0 43)))]
            refine v_iret C X rfl dX11_adopt_89 ⟨_, rfl, ?_, ?_⟩
            · rw [← hq8]
              refine ⟨0, 1, by decide, ?_, Or.inr (Or.inl ⟨rfl, KPm.ra ⟨?_, fun j hj h23 => ?_, fun q hq => ?_⟩⟩)⟩
              · rw [up2_6]
                refine Or.inl ⟨hT1, bq, hbe, Or.inl ⟨by omega, rfl, ?_, rfl, fun j j0 j1 => ?_⟩⟩
                · rw [hfL 0 (by decide), hq6.2.1 43 (by decide)]; omega
                · rw [h6L j j0 j1]
                  by_cases e : 2 ≤ j ∧ j < 5
                  · rw [if_pos e]
                    by_cases d : 2 ≤ j ∧ j < 2 + i
                    · rw [if_pos d]
                    · rw [if_neg d]
                      have a := hX.2.2 (j - 2) (by omega) (by omega)
                      have b := hin (j - 2) (by omega) (by omega)
                      have z0 : mstZ fa (Rr 5) (j - 2) = 0 := if_neg (by omega)
                      have u0 := unZ_rng (s := j - 2) hbq0.1 hbq0.2
                      unfold hiX loX at b
                      rw [show 2 + (j - 2) = j by omega] at a
                      omega
                  · rw [if_neg e, if_neg (by omega)]
              · rw [hfL 0 (by decide), hfL 7 (by decide)]
                have z := hq6.1
                rw [show m4 0 23 = m 0 23 from fk4.1 23 (Or.inr (Or.inr (Or.inl rfl))), show m4 7 = m 7 from fk4.2 7 (by decide), show m4 6 = m 6 from fk4.2 6 (by decide)] at z
                exact z
              · rw [hfL 0 (by decide), hq6.2.1 j h23]; exact fk4.1 j hj
              · rw [hfL q (by omega), hq6.2.2 q (by omega) (by omega)]; exact fk4.2 q (by omega)
            · trivial
          · refine v_aload_n C 0 dX11_adopt_61 rfl ?_
            refine v_get C 0 21 lR0 (eR0 _) rfl inX11 (by decide) rfl qw1161 dX11_adopt_62 ?_
            refine v_iconst (z := 2) C dX11_adopt_65 rfl ?_
            refine v_iload_n C 1 dX11_adopt_66 rfl ?_
            refine v_iadd C dX11_adopt_67 ?_
            refine v_aload_n C 0 dX11_adopt_68 rfl ?_
            refine v_get C 0 42 lR0 (eR0 _) rfl inX11 (by decide) rfl qw1182 dX11_adopt_69 ?_
            refine v_iload_n C 1 dX11_adopt_72 rfl ?_
            refine v_iald C 15 lR15 (eR15 _) (by decide) (by omega) dX11_adopt_73 ?_
            refine v_iast C 6 lR6 eR6 (by decide) (by omega) dX11_adopt_74 (fun m9 em9 => ?_)
            refine v_iinc (L1 := [(1, .int (iz (i + 1))), (0, .ref (aa 0))]) C 1 dX11_adopt_75 rfl (by decide) rfl ?_
            refine v_goto (tgt := 53) C dX11_adopt_78 (by decide) ?_
            refine v_sub [1, 0] rfl ?_
            exact ih53 (i + 1) m9 (by omega) (by 
                            intro j j0 j1; rw [em9, mup_r]
                            by_cases e : j = 2 + i
                            · rw [if_pos (by omega)]; refine (if_pos e).trans ?_; rw [hfL 15 (by decide), hq6.2.2 15 (by decide) (by decide), hb43b.2 i (by omega) (by omega), e, show 2 + i - 2 = i by omega]
                            · refine (if_neg e).trans ((h6L j j0 j1).trans ?_)
                              by_cases d : 2 ≤ j ∧ j < 2 + i
                              · rw [if_pos d, if_pos (by omega)]
                              · rw [if_neg d, if_neg (by omega)]
                          ) (by intro q h; rw [em9, mup_k _ _ _ h]; exact hfL q h) (by omega)
      refine v_sub [1, 0] rfl ?_
      exact K53 _ (0) m6 (by omega) (by intro j j0 j1; rw [if_neg (by omega), hq6.2.2 6 (by decide) (by decide)]; exact hg4.2.2.2.1 j j0 j1) (by intro q _; rfl) (Nat.lt_succ_self _)
    · refine v_aload_n C 0 dX11_adopt_41 rfl ?_
      refine v_iconst (z := 5) C dX11_adopt_42 rfl ?_
      refine v_callV (st := []) (n := 1) (q := 0) C [.int (iz (5))] (ct_StageRatiosModel_refused C.2.2.2.2.2.2.1 m4 (5) ) lR0 (eR0 _) rfl qw1340 qw16 qw1337 rfl rfl ⟨Nat.le_of_ble_eq_true rfl, Nat.le_of_ble_eq_true rfl⟩ (by decide +kernel) qw1339 qp36 rfl rfl (Nat.le_of_ble_eq_true rfl) dX11_adopt_43 (fun r m10 hq10 => ?_)
      obtain ⟨z10, rfl, rfl, hq10⟩ := hq10
      show V E (wR D cy aa ad) 2 m10 46 [(0, .ref (aa 0))] [.int (iz (-1))]
      refine v_iret C X rfl dX11_adopt_46 ⟨_, rfl, ?_, ?_⟩
      · rw [← hq10]
        exact RAP.q fk4 (Or.inl ⟨hT1, bq, hbe, Or.inr ⟨by omega, rfl, rfl, rfl⟩⟩) (by decide)
      · trivial
  · refine v_aload_n C 0 dX11_adopt_12 rfl ?_
    refine v_iconst (z := 1) C dX11_adopt_13 rfl ?_
    refine v_callV (st := []) (n := 1) (q := 0) C [.int (iz (1))] (ct_StageRatiosModel_refused C.2.2.2.2.2.2.1 m1 (1) ) lR0 (eR0 _) rfl qw1340 qw16 qw1337 rfl rfl ⟨Nat.le_of_ble_eq_true rfl, Nat.le_of_ble_eq_true rfl⟩ (by decide +kernel) qw1339 qp36 rfl rfl (Nat.le_of_ble_eq_true rfl) dX11_adopt_14 (fun r m11 hq11 => ?_)
    obtain ⟨z11, rfl, rfl, hq11⟩ := hq11
    show V E (wR D cy aa ad) 2 m11 17 [(0, .ref (aa 0))] [.int (iz (-1))]
    refine v_iret C X rfl dX11_adopt_17 ⟨_, rfl, ?_, ?_⟩
    · rw [← hq11]
      exact RAP.q fk2 (Or.inr ⟨by omega, rfl, rfl, rfl⟩) (by decide)
    · trivial

set_option maxHeartbeats 4000000 in
set_option maxRecDepth 100000 in
theorem ct_StageRatiosModel_undo {lau : Launch} {D : va_G} {cy : Nat → ClassId} {aa ad : Nat → Nat} (hI : wI (wR D cy aa ad)) (m : Mem) (fa Af Bf Cf Rr Xx : Int → Int) (hT : TT m fa Af Bf Cf Rr Xx) (hac : 0 ≤ m 0 23 ∧ m 0 23 ≤ 10) : MT lau (wR D cy aa ad) yX11_undo cX11_undo 2 (some .boolean) ({ frames := 1, cells := 0, slots := 0, locals := 21 } : Room) m [.ref (aa 0)] (Pi (fun z m' => (RAP (qUnd (m 0 20) (m 0 23) (m 7)) m m' z) ∧ True)) := by
  refine v_entry hI RX11 (by decide) rfl (Nat.le_of_ble_eq_true rfl) (fun E hE C X => ?_)
  subst hE
  show V E (wR D cy aa ad) 2 m 0 [(0, .ref (aa 0))] []
  refine v_aload_n C 0 dX11_undo_0 rfl ?_
  refine v_iconst (z := 0) C dX11_undo_1 rfl ?_
  refine v_put C 0 0 (0) 0 rfl lR0 (eR0 _) rfl inX11 tyX11 tyX11_ok nmX11 (by decide) qw1140 rfl rfl rfl (Nat.le_of_ble_eq_true rfl) (by rw [mup_r]; exact (eR0 _)) dX11_undo_2 (fun m1 em1 => ?_)
  have fk2 : FK m m1 := by rw [em1]; exact FK.up 0 0 (by unfold CKj; omega)
  have hT2 := fk2.tt hT
  have e20 : m1 0 20 = m 0 20 := fk2.1 20 (Or.inr (Or.inl rfl))
  have ht01 : m 0 20 = 0 ∨ m 0 20 = 1 := hT.imp (fun a => a) (fun a => a.1)
  refine v_aload_n C 0 dX11_undo_5 rfl ?_
  have K19 : ∀  (hno : ¬ (m 0 20 = 1 ∧ 1 ≤ m 0 23)), V E (wR D cy aa ad) 2 m1 19 [(0, .ref (aa 0))] [] := by
    intro   hno
    refine v_aload_n C 0 dX11_undo_19 rfl ?_
    refine v_iconst (z := 1) C dX11_undo_20 rfl ?_
    refine v_callV (st := []) (n := 1) (q := 0) C [.int (iz (1))] (ct_StageRatiosModel_refused C.2.2.2.2.2.2.1 m1 (1) ) lR0 (eR0 _) rfl qw1340 qw16 qw1337 rfl rfl ⟨Nat.le_of_ble_eq_true rfl, Nat.le_of_ble_eq_true rfl⟩ (by decide +kernel) qw1339 qp36 rfl rfl (Nat.le_of_ble_eq_true rfl) dX11_undo_21 (fun r m2 hq2 => ?_)
    obtain ⟨z2, rfl, rfl, hq2⟩ := hq2
    show V E (wR D cy aa ad) 2 m2 24 [(0, .ref (aa 0))] [.int (iz (-1))]
    refine v_pop C dX11_undo_24 rfl ?_
    refine v_iconst (z := 0) C dX11_undo_25 rfl ?_
    refine v_iret C X (by decide) dX11_undo_26 ?_
    refine ⟨_, rfl, ?_, trivial⟩
    rw [← hq2]; exact RAP.q fk2 (Or.inr ⟨hno, rfl, rfl, rfl⟩) (by decide)
  refine v_get C 0 20 lR0 (eR0 _) rfl inX11 (by decide) rfl qw1160 dX11_undo_6 ?_
  refine v_if_eq (tgt := 19) C dX11_undo_9 (by decide) (by omega) (fun c3 => ?_) (fun c3 => ?_)
  · refine v_sub [0] rfl ?_
    exact K19    (by first | assumption | omega)
  · obtain ⟨hT1, hg0⟩ := hT.resolve_left (by omega)
    have hg := fk2.rt hg0
    obtain ⟨⟨r11, r8, r9, r10, r12⟩, r1, r2, r6, hvd, hfo⟩ := id hg
    obtain ⟨hn, hF, hup, hlw, hX⟩ := id hvd
    have e23 : m1 0 23 = m 0 23 := fk2.1 23 (Or.inr (Or.inr (Or.inl rfl)))
    refine v_aload_n C 0 dX11_undo_12 rfl ?_
    refine v_get C 0 23 lR0 (eR0 _) rfl inX11 (by decide) rfl qw1163 dX11_undo_13 ?_
    refine v_if_ne (tgt := 27) C dX11_undo_16 (by decide) (by omega) (fun c4 => ?_) (fun c4 => ?_)
    · refine v_aload_n C 0 dX11_undo_27 rfl ?_
      refine v_dup C dX11_undo_28 rfl ?_
      refine v_get C 0 23 lR0 (eR0 _) rfl inX11 (by decide) rfl qw1163 dX11_undo_29 ?_
      refine v_iconst (z := 1) C dX11_undo_32 rfl ?_
      refine v_isub C dX11_undo_33 ?_
      refine v_put C 0 23 ((m1 0 23) - 1) 23 rfl lR0 (eR0 _) rfl inX11 tyX11 tyX11_ok nmX11 (by decide) qw1163 rfl rfl rfl (Nat.le_of_ble_eq_true rfl) (by rw [mup_r]; exact (eR0 _)) dX11_undo_34 (fun m5 em5 => ?_)
      refine v_iconst (z := 0) C dX11_undo_37 rfl ?_
      refine v_istore_n (L1 := [(1, .int (iz (0))), (0, .ref (aa 0))]) C dX11_undo_38 (by decide) rfl ?_
      have K39 : ∀ (nK : Nat) (i : Int) (mI : Mem) (hi : 0 ≤ i ∧ i ≤ 11) (h5I : ∀ j : Int, 0 ≤ j → j < i → mI 6 j = m 7 (11 * (m 0 23 - 1) + j)) (hfI : ∀ q : Nat, q ≠ 6 → mI q = m5 q), (11 - i).toNat < nK → V E (wR D cy aa ad) 2 mI 39 [(0, .ref (aa 0)), (1, .int (iz (i)))] [] := by
        intro nK
        induction nK with
        | zero => intro i mI hi h5I hfI hn; exact absurd hn (Nat.not_lt_zero _)
        | succ nK ih39 =>
          intro i mI hi h5I hfI hn39
          have e023 : mI 0 23 = m 0 23 - 1 := by rw [hfI 0 (by decide), em5, mup_s, e23]
          have e7I : mI 7 = m 7 := by rw [hfI 7 (by decide), em5, mup_k _ _ _ (by decide)]; exact fk2.2 7 (by decide)
          refine v_iload_n C 1 dX11_undo_39 rfl ?_
          refine v_bipush (z := 11) C dX11_undo_40 (by decide) ?_
          refine v_icmp_ge (tgt := 71) C dX11_undo_42 (by decide) (by omega) (by omega) (fun c6 => ?_) (fun c6 => ?_)
          · refine v_aload_n C 0 dX11_undo_71 rfl ?_
            refine v_iconst (z := 0) C dX11_undo_72 rfl ?_
            refine v_callV (st := []) (n := 1) (q := 0) C [.int (iz (0))] (ct_StageRatiosModel_good C.2.2.2.2.2.2.1 mI (0) ) lR0 (eR0 _) rfl qw1444 qw16 qw1441 rfl rfl ⟨Nat.le_of_ble_eq_true rfl, Nat.le_of_ble_eq_true rfl⟩ (by decide +kernel) qw1443 qp56 rfl rfl (Nat.le_of_ble_eq_true rfl) dX11_undo_73 (fun r m7 hq7 => ?_)
            obtain ⟨z7, rfl, rfl, hq7⟩ := hq7
            show V E (wR D cy aa ad) 2 m7 76 [(0, .ref (aa 0)), (1, .int (iz (i)))] [.int (iz (0))]
            refine v_pop C dX11_undo_76 rfl ?_
            refine v_iconst (z := 1) C dX11_undo_77 rfl ?_
            refine v_iret C X (by decide) dX11_undo_78 ?_
            refine ⟨_, rfl, ⟨0, 2, by decide, Or.inl ⟨⟨hT1, by omega⟩, rfl, rfl, rfl, fun j h0 h1 => ?_⟩, Or.inr (Or.inr ⟨rfl, ?_⟩)⟩, trivial⟩
            · rw [← hq7, up2_6]; exact h5I j h0 (by omega)
            · rw [← hq7]
              refine ⟨by rw [mup_j _ _ (by decide), mup_s], mup_s _ _ _ _, by rw [mup_j _ _ (by decide), mup_j _ _ (by decide)]; exact e023, fun j hj h23 => ?_, fun q hq => by rw [mup_k _ _ _ (by omega), mup_k _ _ _ (by omega), hfI q (by omega), em5, mup_k _ _ _ (by omega)]; exact fk2.2 q (by omega)⟩
              have : j ≠ 1 ∧ j ≠ 2 := by unfold CKj at hj; omega
              rw [mup_j _ _ this.2, mup_j _ _ this.1, hfI 0 (by decide), em5, mup_j _ _ h23]; exact fk2.1 j hj
          · refine v_aload_n C 0 dX11_undo_45 rfl ?_
            refine v_get C 0 21 lR0 (eR0 _) rfl inX11 (by decide) rfl qw1161 dX11_undo_46 ?_
            refine v_iload_n C 1 dX11_undo_49 rfl ?_
            refine v_aload_n C 0 dX11_undo_50 rfl ?_
            refine v_get C 0 22 lR0 (eR0 _) rfl inX11 (by decide) rfl qw1162 dX11_undo_51 ?_
            refine v_bipush (z := 11) C dX11_undo_54 (by decide) ?_
            refine v_aload_n C 0 dX11_undo_56 rfl ?_
            refine v_get C 0 23 lR0 (eR0 _) rfl inX11 (by decide) rfl qw1163 dX11_undo_57 ?_
            refine v_imul C dX11_undo_60 ?_
            refine v_iload_n C 1 dX11_undo_61 rfl ?_
            refine v_iadd C dX11_undo_62 ?_
            refine v_iald C 7 lR7 (eR7 _) (by decide) (by omega) dX11_undo_63 ?_
            refine v_iast C 6 lR6 eR6 (by decide) (by omega) dX11_undo_64 (fun m8 em8 => ?_)
            refine v_iinc (L1 := [(1, .int (iz (i + 1))), (0, .ref (aa 0))]) C 1 dX11_undo_65 rfl (by decide) rfl ?_
            refine v_goto (tgt := 39) C dX11_undo_68 (by decide) ?_
            refine v_sub [1, 0] rfl ?_
            exact ih39 (i + 1) m8 (by omega) (by 
                            intro j h0 h1; rw [em8, mup_r]
                            by_cases e : j = i
                            · refine (if_pos e).trans ?_; rw [e7I, e023, e]
                            · exact (if_neg e).trans (h5I j h0 (by omega))
                          ) (by intro q h; rw [em8, mup_k _ _ _ h]; exact hfI q h) (by omega)
      refine v_sub [1, 0] rfl ?_
      exact K39 _ (0) m5 (by omega) (by intro j h0 h1; omega) (by intro q _; rfl) (Nat.lt_succ_self _)
    · refine v_sub [0] rfl ?_
      exact K19    (by first | assumption | omega)

set_option maxHeartbeats 4000000 in
set_option maxRecDepth 100000 in
theorem ct_StageRatiosModel_weak {lau : Launch} {D : va_G} {cy : Nat → ClassId} {aa ad : Nat → Nat} (hI : wI (wR D cy aa ad)) (m : Mem) (fa Af Bf Cf Rr Xx : Int → Int) (w : Int) (hT : TT m fa Af Bf Cf Rr Xx) (hw : -2147483648 ≤ w ∧ w ≤ 2147483647) : MT lau (wR D cy aa ad) yX11_weak cX11_weak 4 (some .int) ({ frames := 5, cells := 0, slots := 0, locals := 110 } : Room) m [.ref (aa 0), .int (iz (w))] (Pi (fun z m' => ((m' 0 0 = 0 ∧ qWek (m 0 20) fa Rr Xx w z ∧ 0 ≤ z ∧ z ≤ 2) ∨ (m' 0 0 = 1 ∧ qWek (m 0 20) fa Rr Xx w (-1))) ∧ FK m m' ∧ m' 0 1 = m 0 1 ∧ m' 0 2 = m 0 2)) := by
  refine v_entry hI RX11 (by decide) rfl (Nat.le_of_ble_eq_true rfl) (fun E hE C X => ?_)
  subst hE
  show V E (wR D cy aa ad) 4 m 0 [(0, .ref (aa 0)), (1, .int (iz (w)))] []
  refine v_aload_n C 0 dX11_weak_0 rfl ?_
  refine v_iconst (z := 0) C dX11_weak_1 rfl ?_
  refine v_put C 0 0 (0) 0 rfl lR0 (eR0 _) rfl inX11 tyX11 tyX11_ok nmX11 (by decide) qw1140 rfl rfl rfl (Nat.le_of_ble_eq_true rfl) (by rw [mup_r]; exact (eR0 _)) dX11_weak_2 (fun m1 em1 => ?_)
  have fk2 : FK m m1 := by rw [em1]; exact FK.up 0 0 (by unfold CKj; omega)
  have hT2 := fk2.tt hT
  have e20 : m1 0 20 = m 0 20 := fk2.1 20 (Or.inr (Or.inl rfl))
  have ht01 : m 0 20 = 0 ∨ m 0 20 = 1 := hT.imp (fun a => a) (fun a => a.1)
  refine v_aload_n C 0 dX11_weak_5 rfl ?_
  refine v_get C 0 20 lR0 (eR0 _) rfl inX11 (by decide) rfl qw1160 dX11_weak_6 ?_
  refine v_if_eq (tgt := 16) C dX11_weak_9 (by decide) (by omega) (fun c2 => ?_) (fun c2 => ?_)
  · refine v_iconst (z := 0) C dX11_weak_16 rfl ?_
    refine v_istore_n (L1 := [(2, .int (iz (0))), (0, .ref (aa 0)), (1, .int (iz (w)))]) C dX11_weak_17 (by decide) rfl ?_
    refine v_iconst (z := 0) C dX11_weak_18 rfl ?_
    refine v_istore_n (L1 := [(3, .int (iz (0))), (2, .int (iz (0))), (0, .ref (aa 0)), (1, .int (iz (w)))]) C dX11_weak_19 (by decide) rfl ?_
    have K20 : ∀ (nK : Nat) (n : Int) (s : Int) (mL : Mem) (hst : FK m mL ∧ mL 0 1 = m 0 1 ∧ mL 0 2 = m 0 2 ∧ mL 0 0 = 0) (hs : 0 ≤ s ∧ s ≤ 3 ∧ 0 ≤ n ∧ n ≤ 3) (hTd : (m 0 20 = 0 ∧ s = 0) ∨ (m 0 20 = 1 ∧ DT mL (Rr 5) (Xx 0) (uX Xx) ∧ s ≤ Rr 5 ∧ n = cnP (fun c => ¬ (fun s => hoZ fa s (stX fa Rr Xx s)) c) s.toNat ∧ (w < n → w < 0))), (3 - s).toNat < nK → V E (wR D cy aa ad) 4 mL 20 [(0, .ref (aa 0)), (1, .int (iz (w))), (2, .int (iz (n))), (3, .int (iz (s)))] [] := by
      intro nK
      induction nK with
      | zero => intro n s mL hst hs hTd hn; exact absurd hn (Nat.not_lt_zero _)
      | succ nK ih20 =>
        intro n s mL hst hs hTd hn20
        have e20L : mL 0 20 = m 0 20 := hst.1.1 20 (Or.inr (Or.inl rfl))
        have es : (s + 1).toNat = s.toNat + 1 := by omega
        have es2 : ((s.toNat : Nat) : Int) = s := by omega
        refine v_aload_n C 0 dX11_weak_20 rfl ?_
        refine v_get C 0 20 lR0 (eR0 _) rfl inX11 (by decide) rfl qw1160 dX11_weak_21 ?_
        refine v_if_eq (tgt := 62) C dX11_weak_24 (by decide) (by omega) (fun c3 => ?_) (fun c3 => ?_)
        · refine v_aload_n C 0 dX11_weak_62 rfl ?_
          refine v_iconst (z := 1) C dX11_weak_63 rfl ?_
          refine v_put C 0 0 (1) 0 rfl lR0 (eR0 _) rfl inX11 tyX11 tyX11_ok nmX11 (by decide) qw1140 rfl rfl rfl (Nat.le_of_ble_eq_true rfl) (by rw [mup_r]; exact (eR0 _)) dX11_weak_64 (fun m4 em4 => ?_)
          refine v_iconst (z := 0) C dX11_weak_67 rfl ?_
          refine v_iret C X rfl dX11_weak_68 ⟨_, rfl, ?_, ?_⟩
          · refine Or.inr ⟨by rw [em4, mup_s], ?_⟩
            rcases hTd with ⟨y, -⟩ | ⟨y, -, y2, y3, y4⟩
            · exact Or.inr ⟨by omega, rfl⟩
            · first
                | (exfalso; omega)
                | (refine Or.inl ⟨y, Or.inl ⟨rfl, ?_⟩⟩
                   obtain ⟨-, hg0⟩ := hT.resolve_left (by omega)
                   have l11 := (hst.1.rt hg0).1.1
                   rw [show s = Rr 5 by omega] at y3
                   by_cases e : w < n
                   · exact Or.inl (y4 e)
                   · exact Or.inr (by omega))
          · exact ⟨hst.1.tr (by rw [em4]; exact FK.up 0 1 (by unfold CKj; omega)), by rw [em4, mup_j _ _ (by decide)]; exact hst.2.1, by rw [em4, mup_j _ _ (by decide)]; exact hst.2.2.1⟩
        · obtain ⟨hT1, hd3, hnc⟩ := hTd.resolve_left (fun y => by omega)
          obtain ⟨-, hg0⟩ := hT.resolve_left (by omega)
          have hg := hst.1.rt hg0
          obtain ⟨⟨r11, r8, r9, r10, r12⟩, r1, r2, r6, hvd, hfo⟩ := id hg
          obtain ⟨hn, hF, hup, hlw, hX⟩ := id hvd
          refine v_iload_n C 3 dX11_weak_27 rfl ?_
          refine v_aload_n C 0 dX11_weak_28 rfl ?_
          refine v_get C 0 11 lR0 (eR0 _) rfl inX11 (by decide) rfl qw1151 dX11_weak_29 ?_
          refine v_icmp_ge (tgt := 62) C dX11_weak_32 (by decide) (by omega) (by omega) (fun c5 => ?_) (fun c5 => ?_)
          · refine v_aload_n C 0 dX11_weak_62 rfl ?_
            refine v_iconst (z := 1) C dX11_weak_63 rfl ?_
            refine v_put C 0 0 (1) 0 rfl lR0 (eR0 _) rfl inX11 tyX11 tyX11_ok nmX11 (by decide) qw1140 rfl rfl rfl (Nat.le_of_ble_eq_true rfl) (by rw [mup_r]; exact (eR0 _)) dX11_weak_64 (fun m6 em6 => ?_)
            refine v_iconst (z := 0) C dX11_weak_67 rfl ?_
            refine v_iret C X rfl dX11_weak_68 ⟨_, rfl, ?_, ?_⟩
            · refine Or.inr ⟨by rw [em6, mup_s], ?_⟩
              rcases hTd with ⟨y, -⟩ | ⟨y, -, y2, y3, y4⟩
              · exact Or.inr ⟨by omega, rfl⟩
              · first
                  | (exfalso; omega)
                  | (refine Or.inl ⟨y, Or.inl ⟨rfl, ?_⟩⟩
                     obtain ⟨-, hg0⟩ := hT.resolve_left (by omega)
                     have l11 := (hst.1.rt hg0).1.1
                     rw [show s = Rr 5 by omega] at y3
                     by_cases e : w < n
                     · exact Or.inl (y4 e)
                     · exact Or.inr (by omega))
            · exact ⟨hst.1.tr (by rw [em6]; exact FK.up 0 1 (by unfold CKj; omega)), by rw [em6, mup_j _ _ (by decide)]; exact hst.2.1, by rw [em6, mup_j _ _ (by decide)]; exact hst.2.2.1⟩
          · refine v_aload_n C 0 dX11_weak_35 rfl ?_
            have K56 : ∀ (n2 : Int) (hn2 : n2 = cnP (fun c => ¬ (fun s => hoZ fa s (stX fa Rr Xx s)) c) (s + 1).toNat ∧ (w < n2 → w < 0)) (hn2r : 0 ≤ n2 ∧ n2 ≤ 3), V E (wR D cy aa ad) 4 mL 56 [(0, .ref (aa 0)), (1, .int (iz (w))), (2, .int (iz (n2))), (3, .int (iz (s)))] [] := by
              intro n2  hn2 hn2r
              refine v_iinc (L1 := [(3, .int (iz (s + 1))), (0, .ref (aa 0)), (1, .int (iz (w))), (2, .int (iz (n2)))]) C 3 dX11_weak_56 rfl (by decide) rfl ?_
              refine v_goto (tgt := 20) C dX11_weak_59 (by decide) ?_
              refine v_sub [1, 2, 3, 0] rfl ?_
              exact ih20 (n2) (s + 1) mL (by exact hst) (by omega) (by exact Or.inr ⟨hT1, hd3, by omega, hn2⟩) (by omega)
            refine v_iload_n C 3 dX11_weak_36 rfl ?_
            refine v_callV (st := []) (n := 1) (q := 0) C [.int (iz (s))] (ct_StageRatiosModel_stageHolds C.2.2.2.2.2.2.1 mL (fa) (Af) (Bf) (Cf) (Rr) (Xx) (Xx 0) (uX Xx) (s) (by exact hg) (by exact hd3) (by first | assumption | omega)) lR0 (eR0 _) rfl qw1484 qw16 qw1481 rfl rfl ⟨Nat.le_of_ble_eq_true rfl, Nat.le_of_ble_eq_true rfl⟩ (by decide +kernel) qw1483 qp61 rfl rfl (Nat.le_of_ble_eq_true rfl) dX11_weak_37 (fun r m7 hq7 => ?_)
            obtain ⟨z7, rfl, ⟨rfl, hq7, rfl⟩ | ⟨rfl, hq7, rfl⟩⟩ := hq7
            · show V E (wR D cy aa ad) 4 mL 40 [(0, .ref (aa 0)), (1, .int (iz (w))), (2, .int (iz (n))), (3, .int (iz (s)))] [.int (iz (1))]
              refine v_if_eq (tgt := 46) C dX11_weak_40 (by decide) (by omega) (fun c8 => by exact absurd c8 (by decide)) (fun c8 => ?_)
              refine v_goto (tgt := 56) C dX11_weak_43 (by decide) ?_
              refine v_sub [0, 1, 2, 3] rfl ?_
              exact K56  (n)  (by 
                                rw [es]
                                first
                                  | (rw [cnP_n (by rw [es2]; exact fun y => y hq7)]; exact hnc.2)
                                  | (rw [cnP_y (by rw [es2]; exact hq7)]; exact ⟨by omega, fun h => by have := hnc.2.2; omega⟩)
                              ) (by 
                                have hc1 := cnP_rng (fun c => ¬ (fun s => hoZ fa s (stX fa Rr Xx s)) c) s.toNat
                                have hc2 := hnc.2.1
                                omega
                              )
            · show V E (wR D cy aa ad) 4 mL 40 [(0, .ref (aa 0)), (1, .int (iz (w))), (2, .int (iz (n))), (3, .int (iz (s)))] [.int (iz (0))]
              refine v_if_eq (tgt := 46) C dX11_weak_40 (by decide) (by omega) (fun c9 => ?_) (fun c9 => by exact absurd c9 (by decide))
              refine v_iload_n C 2 dX11_weak_46 rfl ?_
              refine v_iload_n C 1 dX11_weak_47 rfl ?_
              refine v_icmp_ne (tgt := 53) C dX11_weak_48 (by decide) (by omega) (by omega) (fun c10 => ?_) (fun c10 => ?_)
              · refine v_iinc (L1 := [(2, .int (iz (n + 1))), (0, .ref (aa 0)), (1, .int (iz (w))), (3, .int (iz (s)))]) C 2 dX11_weak_53 rfl (by decide) rfl ?_
                refine v_sub [1, 2, 0, 3] rfl ?_
                exact K56  (n + 1)  (by 
                                    rw [es]
                                    first
                                      | (rw [cnP_n (by rw [es2]; exact fun y => y hq7)]; exact hnc.2)
                                      | (rw [cnP_y (by rw [es2]; exact hq7)]; exact ⟨by omega, fun h => by have := hnc.2.2; omega⟩)
                                  ) (by 
                                    have hc1 := cnP_rng (fun c => ¬ (fun s => hoZ fa s (stX fa Rr Xx s)) c) s.toNat
                                    have hc2 := hnc.2.1
                                    omega
                                  )
              · refine v_iload_n C 3 dX11_weak_51 rfl ?_
                refine v_iret C X rfl dX11_weak_52 ⟨_, rfl, ?_, ?_⟩
                · exact Or.inl ⟨hst.2.2.2, Or.inl ⟨hT1, Or.inr ⟨⟨by omega, by omega⟩, hq7, by omega⟩⟩, by omega⟩
                · exact ⟨hst.1, hst.2.1, hst.2.2.1⟩
    refine v_sub [2, 3, 1, 0] rfl ?_
    exact K20 _ (0) (0) m1 (by 
            first
              | exact ⟨fk3, by rw [NO_q13.2.1 1 (by decide), em1, mup_j _ _ (by decide)], by rw [NO_q13.2.1 2 (by decide), em1, mup_j _ _ (by decide)], by rw [NO_q13.2.1 0 (by decide), em1, mup_s]⟩
              | exact ⟨fk2, by rw [em1, mup_j _ _ (by decide)], by rw [em1, mup_j _ _ (by decide)], by rw [em1, mup_s]⟩
          ) (by omega) (by 
            first
              | exact Or.inr ⟨hT1, hd3, by omega, rfl, fun h => h⟩
              | exact Or.inl ⟨by omega, rfl⟩
          ) (Nat.lt_succ_self _)
  · obtain ⟨hT1, hg0⟩ := hT.resolve_left (by omega)
    have hg := fk2.rt hg0
    obtain ⟨⟨r11, r8, r9, r10, r12⟩, r1, r2, r6, hvd, hfo⟩ := id hg
    obtain ⟨hn, hF, hup, hlw, hX⟩ := id hvd
    refine v_aload_n C 0 dX11_weak_12 rfl ?_
    refine v_callV (st := []) (n := 0) (q := 0) C [] (ct_StageRatiosModel_laysOwn C.2.2.2.2.2.2.1 m1 (fa) (Af) (Bf) (Cf) (Rr) (Xx) (by first | assumption | omega)) lR0 (eR0 _) rfl qw1476 qw16 qw1473 rfl rfl ⟨Nat.le_of_ble_eq_true rfl, Nat.le_of_ble_eq_true rfl⟩ (by decide +kernel) qw1475 qp59 rfl rfl (Nat.le_of_ble_eq_true rfl) dX11_weak_13 (fun r m11 hq11 => ?_)
    obtain ⟨rfl, hq11⟩ := hq11
    show V E (wR D cy aa ad) 4 m11 16 [(0, .ref (aa 0)), (1, .int (iz (w)))] []
    have fk3 := fk2.tr (show FK _ m11 from ⟨fun j hj => hq11.2.1 j (by unfold CKj at hj; omega), fun q hq => hq11.2.2 q (by omega) (by omega)⟩)
    have hg3 := fk3.rt hg0
    have hd3 := hq11.1
    have hDv := hd3.2.2
    have hstr := fun (j : Int) (h0 : 0 ≤ j) (h1 : j ≤ Rr 5) => stZ_rng (s := j) hF hn.2 hDv.2.1 hDv.2.2 h0 h1
    have hUr := hX.u hF
    refine v_iconst (z := 0) C dX11_weak_16 rfl ?_
    refine v_istore_n (L1 := [(2, .int (iz (0))), (0, .ref (aa 0)), (1, .int (iz (w)))]) C dX11_weak_17 (by decide) rfl ?_
    refine v_iconst (z := 0) C dX11_weak_18 rfl ?_
    refine v_istore_n (L1 := [(3, .int (iz (0))), (2, .int (iz (0))), (0, .ref (aa 0)), (1, .int (iz (w)))]) C dX11_weak_19 (by decide) rfl ?_
    have K20 : ∀ (nK : Nat) (n : Int) (s : Int) (mL : Mem) (hst : FK m mL ∧ mL 0 1 = m 0 1 ∧ mL 0 2 = m 0 2 ∧ mL 0 0 = 0) (hs : 0 ≤ s ∧ s ≤ 3 ∧ 0 ≤ n ∧ n ≤ 3) (hTd : (m 0 20 = 0 ∧ s = 0) ∨ (m 0 20 = 1 ∧ DT mL (Rr 5) (Xx 0) (uX Xx) ∧ s ≤ Rr 5 ∧ n = cnP (fun c => ¬ (fun s => hoZ fa s (stX fa Rr Xx s)) c) s.toNat ∧ (w < n → w < 0))), (3 - s).toNat < nK → V E (wR D cy aa ad) 4 mL 20 [(0, .ref (aa 0)), (1, .int (iz (w))), (2, .int (iz (n))), (3, .int (iz (s)))] [] := by
      intro nK
      induction nK with
      | zero => intro n s mL hst hs hTd hn; exact absurd hn (Nat.not_lt_zero _)
      | succ nK ih20 =>
        intro n s mL hst hs hTd hn20
        have e20L : mL 0 20 = m 0 20 := hst.1.1 20 (Or.inr (Or.inl rfl))
        have es : (s + 1).toNat = s.toNat + 1 := by omega
        have es2 : ((s.toNat : Nat) : Int) = s := by omega
        refine v_aload_n C 0 dX11_weak_20 rfl ?_
        refine v_get C 0 20 lR0 (eR0 _) rfl inX11 (by decide) rfl qw1160 dX11_weak_21 ?_
        refine v_if_eq (tgt := 62) C dX11_weak_24 (by decide) (by omega) (fun c12 => ?_) (fun c12 => ?_)
        · refine v_aload_n C 0 dX11_weak_62 rfl ?_
          refine v_iconst (z := 1) C dX11_weak_63 rfl ?_
          refine v_put C 0 0 (1) 0 rfl lR0 (eR0 _) rfl inX11 tyX11 tyX11_ok nmX11 (by decide) qw1140 rfl rfl rfl (Nat.le_of_ble_eq_true rfl) (by rw [mup_r]; exact (eR0 _)) dX11_weak_64 (fun m13 em13 => ?_)
          refine v_iconst (z := 0) C dX11_weak_67 rfl ?_
          refine v_iret C X rfl dX11_weak_68 ⟨_, rfl, ?_, ?_⟩
          · refine Or.inr ⟨by rw [em13, mup_s], ?_⟩
            rcases hTd with ⟨y, -⟩ | ⟨y, -, y2, y3, y4⟩
            · exact Or.inr ⟨by omega, rfl⟩
            · first
                | (exfalso; omega)
                | (refine Or.inl ⟨y, Or.inl ⟨rfl, ?_⟩⟩
                   obtain ⟨-, hg0⟩ := hT.resolve_left (by omega)
                   have l11 := (hst.1.rt hg0).1.1
                   rw [show s = Rr 5 by omega] at y3
                   by_cases e : w < n
                   · exact Or.inl (y4 e)
                   · exact Or.inr (by omega))
          · exact ⟨hst.1.tr (by rw [em13]; exact FK.up 0 1 (by unfold CKj; omega)), by rw [em13, mup_j _ _ (by decide)]; exact hst.2.1, by rw [em13, mup_j _ _ (by decide)]; exact hst.2.2.1⟩
        · obtain ⟨hT1, hd3, hnc⟩ := hTd.resolve_left (fun y => by omega)
          obtain ⟨-, hg0⟩ := hT.resolve_left (by omega)
          have hg := hst.1.rt hg0
          obtain ⟨⟨r11, r8, r9, r10, r12⟩, r1, r2, r6, hvd, hfo⟩ := id hg
          obtain ⟨hn, hF, hup, hlw, hX⟩ := id hvd
          refine v_iload_n C 3 dX11_weak_27 rfl ?_
          refine v_aload_n C 0 dX11_weak_28 rfl ?_
          refine v_get C 0 11 lR0 (eR0 _) rfl inX11 (by decide) rfl qw1151 dX11_weak_29 ?_
          refine v_icmp_ge (tgt := 62) C dX11_weak_32 (by decide) (by omega) (by omega) (fun c14 => ?_) (fun c14 => ?_)
          · refine v_aload_n C 0 dX11_weak_62 rfl ?_
            refine v_iconst (z := 1) C dX11_weak_63 rfl ?_
            refine v_put C 0 0 (1) 0 rfl lR0 (eR0 _) rfl inX11 tyX11 tyX11_ok nmX11 (by decide) qw1140 rfl rfl rfl (Nat.le_of_ble_eq_true rfl) (by rw [mup_r]; exact (eR0 _)) dX11_weak_64 (fun m15 em15 => ?_)
            refine v_iconst (z := 0) C dX11_weak_67 rfl ?_
            refine v_iret C X rfl dX11_weak_68 ⟨_, rfl, ?_, ?_⟩
            · refine Or.inr ⟨by rw [em15, mup_s], ?_⟩
              rcases hTd with ⟨y, -⟩ | ⟨y, -, y2, y3, y4⟩
              · exact Or.inr ⟨by omega, rfl⟩
              · first
                  | (exfalso; omega)
                  | (refine Or.inl ⟨y, Or.inl ⟨rfl, ?_⟩⟩
                     obtain ⟨-, hg0⟩ := hT.resolve_left (by omega)
                     have l11 := (hst.1.rt hg0).1.1
                     rw [show s = Rr 5 by omega] at y3
                     by_cases e : w < n
                     · exact Or.inl (y4 e)
                     · exact Or.inr (by omega))
            · exact ⟨hst.1.tr (by rw [em15]; exact FK.up 0 1 (by unfold CKj; omega)), by rw [em15, mup_j _ _ (by decide)]; exact hst.2.1, by rw [em15, mup_j _ _ (by decide)]; exact hst.2.2.1⟩
          · refine v_aload_n C 0 dX11_weak_35 rfl ?_
            have K56 : ∀ (n2 : Int) (hn2 : n2 = cnP (fun c => ¬ (fun s => hoZ fa s (stX fa Rr Xx s)) c) (s + 1).toNat ∧ (w < n2 → w < 0)) (hn2r : 0 ≤ n2 ∧ n2 ≤ 3), V E (wR D cy aa ad) 4 mL 56 [(0, .ref (aa 0)), (1, .int (iz (w))), (2, .int (iz (n2))), (3, .int (iz (s)))] [] := by
              intro n2  hn2 hn2r
              refine v_iinc (L1 := [(3, .int (iz (s + 1))), (0, .ref (aa 0)), (1, .int (iz (w))), (2, .int (iz (n2)))]) C 3 dX11_weak_56 rfl (by decide) rfl ?_
              refine v_goto (tgt := 20) C dX11_weak_59 (by decide) ?_
              refine v_sub [1, 2, 3, 0] rfl ?_
              exact ih20 (n2) (s + 1) mL (by exact hst) (by omega) (by exact Or.inr ⟨hT1, hd3, by omega, hn2⟩) (by omega)
            refine v_iload_n C 3 dX11_weak_36 rfl ?_
            refine v_callV (st := []) (n := 1) (q := 0) C [.int (iz (s))] (ct_StageRatiosModel_stageHolds C.2.2.2.2.2.2.1 mL (fa) (Af) (Bf) (Cf) (Rr) (Xx) (Xx 0) (uX Xx) (s) (by exact hg) (by exact hd3) (by first | assumption | omega)) lR0 (eR0 _) rfl qw1484 qw16 qw1481 rfl rfl ⟨Nat.le_of_ble_eq_true rfl, Nat.le_of_ble_eq_true rfl⟩ (by decide +kernel) qw1483 qp61 rfl rfl (Nat.le_of_ble_eq_true rfl) dX11_weak_37 (fun r m16 hq16 => ?_)
            obtain ⟨z16, rfl, ⟨rfl, hq16, rfl⟩ | ⟨rfl, hq16, rfl⟩⟩ := hq16
            · show V E (wR D cy aa ad) 4 mL 40 [(0, .ref (aa 0)), (1, .int (iz (w))), (2, .int (iz (n))), (3, .int (iz (s)))] [.int (iz (1))]
              refine v_if_eq (tgt := 46) C dX11_weak_40 (by decide) (by omega) (fun c17 => by exact absurd c17 (by decide)) (fun c17 => ?_)
              refine v_goto (tgt := 56) C dX11_weak_43 (by decide) ?_
              refine v_sub [0, 1, 2, 3] rfl ?_
              exact K56  (n)  (by 
                                rw [es]
                                first
                                  | (rw [cnP_n (by rw [es2]; exact fun y => y hq16)]; exact hnc.2)
                                  | (rw [cnP_y (by rw [es2]; exact hq16)]; exact ⟨by omega, fun h => by have := hnc.2.2; omega⟩)
                              ) (by 
                                have hc1 := cnP_rng (fun c => ¬ (fun s => hoZ fa s (stX fa Rr Xx s)) c) s.toNat
                                have hc2 := hnc.2.1
                                omega
                              )
            · show V E (wR D cy aa ad) 4 mL 40 [(0, .ref (aa 0)), (1, .int (iz (w))), (2, .int (iz (n))), (3, .int (iz (s)))] [.int (iz (0))]
              refine v_if_eq (tgt := 46) C dX11_weak_40 (by decide) (by omega) (fun c18 => ?_) (fun c18 => by exact absurd c18 (by decide))
              refine v_iload_n C 2 dX11_weak_46 rfl ?_
              refine v_iload_n C 1 dX11_weak_47 rfl ?_
              refine v_icmp_ne (tgt := 53) C dX11_weak_48 (by decide) (by omega) (by omega) (fun c19 => ?_) (fun c19 => ?_)
              · refine v_iinc (L1 := [(2, .int (iz (n + 1))), (0, .ref (aa 0)), (1, .int (iz (w))), (3, .int (iz (s)))]) C 2 dX11_weak_53 rfl (by decide) rfl ?_
                refine v_sub [1, 2, 0, 3] rfl ?_
                exact K56  (n + 1)  (by 
                                    rw [es]
                                    first
                                      | (rw [cnP_n (by rw [es2]; exact fun y => y hq16)]; exact hnc.2)
                                      | (rw [cnP_y (by rw [es2]; exact hq16)]; exact ⟨by omega, fun h => by have := hnc.2.2; omega⟩)
                                  ) (by 
                                    have hc1 := cnP_rng (fun c => ¬ (fun s => hoZ fa s (stX fa Rr Xx s)) c) s.toNat
                                    have hc2 := hnc.2.1
                                    omega
                                  )
              · refine v_iload_n C 3 dX11_weak_51 rfl ?_
                refine v_iret C X rfl dX11_weak_52 ⟨_, rfl, ?_, ?_⟩
                · exact Or.inl ⟨hst.2.2.2, Or.inl ⟨hT1, Or.inr ⟨⟨by omega, by omega⟩, hq16, by omega⟩⟩, by omega⟩
                · exact ⟨hst.1, hst.2.1, hst.2.2.1⟩
    refine v_sub [2, 3, 1, 0] rfl ?_
    exact K20 _ (0) (0) m11 (by 
            first
              | exact ⟨fk3, by rw [hq11.2.1 1 (by decide), em1, mup_j _ _ (by decide)], by rw [hq11.2.1 2 (by decide), em1, mup_j _ _ (by decide)], by rw [hq11.2.1 0 (by decide), em1, mup_s]⟩
              | exact ⟨fk2, by rw [em1, mup_j _ _ (by decide)], by rw [em1, mup_j _ _ (by decide)], by rw [em1, mup_s]⟩
          ) (by omega) (by 
            first
              | exact Or.inr ⟨hT1, hd3, by omega, rfl, fun h => h⟩
              | exact Or.inl ⟨by omega, rfl⟩
          ) (Nat.lt_succ_self _)

set_option maxHeartbeats 4000000 in
set_option maxRecDepth 100000 in
theorem ct_StageRatiosModel_size {lau : Launch} {D : va_G} {cy : Nat → ClassId} {aa ad : Nat → Nat} (hI : wI (wR D cy aa ad)) (m : Mem) (w : Int) (hT : m 0 20 = 0 ∨ m 0 20 = 1) (hw : -2147483648 ≤ w ∧ w ≤ 2147483647) : MT lau (wR D cy aa ad) yX11_size cX11_size 2 (some .int) ({ frames := 0, cells := 0, slots := 0, locals := 0 } : Room) m [.ref (aa 0), .int (iz (w))] (Pi (fun z m' => (if w = 0 then m 0 25 else if w = 1 then (if m 0 20 = 1 then m 0 23 else 0) else -1) = z ∧ mup m 0 0 0 = m')) := by
  refine v_entry hI RX11 (by decide) rfl (Nat.le_of_ble_eq_true rfl) (fun E hE C X => ?_)
  subst hE
  show V E (wR D cy aa ad) 2 m 0 [(0, .ref (aa 0)), (1, .int (iz (w)))] []
  refine v_aload_n C 0 dX11_size_0 rfl ?_
  refine v_iconst (z := 0) C dX11_size_1 rfl ?_
  refine v_put C 0 0 (0) 0 rfl lR0 (eR0 _) rfl inX11 tyX11 tyX11_ok nmX11 (by decide) qw1140 rfl rfl rfl (Nat.le_of_ble_eq_true rfl) (by rw [mup_r]; exact (eR0 _)) dX11_size_2 (fun m1 em1 => ?_)
  have e25 : m1 0 25 = m 0 25 := by rw [em1, mup_j _ _ (by decide)]
  have e20 : m1 0 20 = m 0 20 := by rw [em1, mup_j _ _ (by decide)]
  have e23 : m1 0 23 = m 0 23 := by rw [em1, mup_j _ _ (by decide)]
  refine v_iload_n C 1 dX11_size_5 rfl ?_
  refine v_if_ne (tgt := 16) C dX11_size_6 (by decide) (by omega) (fun c2 => ?_) (fun c2 => ?_)
  · refine v_iload_n C 1 dX11_size_16 rfl ?_
    refine v_iconst (z := 1) C dX11_size_17 rfl ?_
    refine v_icmp_ne (tgt := 39) C dX11_size_18 (by decide) (by omega) (by omega) (fun c3 => ?_) (fun c3 => ?_)
    · refine v_iconst (z := -1) C dX11_size_39 rfl ?_
      refine v_iret C X rfl dX11_size_40 ⟨_, rfl, ?_, ?_⟩
      · first
          | (rw [if_pos (by omega)]; omega)
          | (rw [if_neg (by omega), if_pos (by omega), if_pos (by omega)]; omega)
          | (rw [if_neg (by omega), if_pos (by omega), if_neg (by omega)])
          | (rw [if_neg (by omega), if_neg (by omega)])
      · exact em1.symm
    · refine v_aload_n C 0 dX11_size_21 rfl ?_
      refine v_get C 0 20 lR0 (eR0 _) rfl inX11 (by decide) rfl qw1160 dX11_size_22 ?_
      refine v_if_eq (tgt := 35) C dX11_size_25 (by decide) (by omega) (fun c4 => ?_) (fun c4 => ?_)
      · refine v_iconst (z := 0) C dX11_size_35 rfl ?_
        refine v_goto (tgt := 40) C dX11_size_36 (by decide) ?_
        refine v_iret C X rfl dX11_size_40 ⟨_, rfl, ?_, ?_⟩
        · first
            | (rw [if_pos (by omega)]; omega)
            | (rw [if_neg (by omega), if_pos (by omega), if_pos (by omega)]; omega)
            | (rw [if_neg (by omega), if_pos (by omega), if_neg (by omega)])
            | (rw [if_neg (by omega), if_neg (by omega)])
        · exact em1.symm
      · refine v_aload_n C 0 dX11_size_28 rfl ?_
        refine v_get C 0 23 lR0 (eR0 _) rfl inX11 (by decide) rfl qw1163 dX11_size_29 ?_
        refine v_goto (tgt := 40) C dX11_size_32 (by decide) ?_
        refine v_iret C X rfl dX11_size_40 ⟨_, rfl, ?_, ?_⟩
        · first
            | (rw [if_pos (by omega)]; omega)
            | (rw [if_neg (by omega), if_pos (by omega), if_pos (by omega)]; omega)
            | (rw [if_neg (by omega), if_pos (by omega), if_neg (by omega)])
            | (rw [if_neg (by omega), if_neg (by omega)])
        · exact em1.symm
  · refine v_aload_n C 0 dX11_size_9 rfl ?_
    refine v_get C 0 25 lR0 (eR0 _) rfl inX11 (by decide) rfl qw1165 dX11_size_10 ?_
    refine v_goto (tgt := 40) C dX11_size_13 (by decide) ?_
    refine v_iret C X rfl dX11_size_40 ⟨_, rfl, ?_, ?_⟩
    · first
        | (rw [if_pos (by omega)]; omega)
        | (rw [if_neg (by omega), if_pos (by omega), if_pos (by omega)]; omega)
        | (rw [if_neg (by omega), if_pos (by omega), if_neg (by omega)])
        | (rw [if_neg (by omega), if_neg (by omega)])
    · exact em1.symm

set_option maxHeartbeats 4000000 in
set_option maxRecDepth 100000 in
theorem ct_StageRatiosModel_trouble {lau : Launch} {D : va_G} {cy : Nat → ClassId} {aa ad : Nat → Nat} (hI : wI (wR D cy aa ad)) (m : Mem)   : MT lau (wR D cy aa ad) yX11_trouble cX11_trouble 1 (some .int) ({ frames := 0, cells := 0, slots := 0, locals := 0 } : Room) m [.ref (aa 0)] (Pi (fun z m' => m 0 1 = z ∧ mup m 0 0 0 = m')) := by
  refine v_entry hI RX11 (by decide) rfl (Nat.le_of_ble_eq_true rfl) (fun E hE C X => ?_)
  subst hE
  show V E (wR D cy aa ad) 1 m 0 [(0, .ref (aa 0))] []
  refine v_aload_n C 0 dX11_trouble_0 rfl ?_
  refine v_iconst (z := 0) C dX11_trouble_1 rfl ?_
  refine v_put C 0 0 (0) 0 rfl lR0 (eR0 _) rfl inX11 tyX11 tyX11_ok nmX11 (by decide) qw1140 rfl rfl rfl (Nat.le_of_ble_eq_true rfl) (by rw [mup_r]; exact (eR0 _)) dX11_trouble_2 (fun m1 em1 => ?_)
  refine v_aload_n C 0 dX11_trouble_5 rfl ?_
  refine v_get C 0 1 lR0 (eR0 _) rfl inX11 (by decide) rfl qw1141 dX11_trouble_6 ?_
  refine v_iret C X rfl dX11_trouble_9 ⟨_, rfl, ?_, ?_⟩
  · rw [em1, mup_j _ _ (by decide)]
  · exact em1.symm

set_option maxHeartbeats 4000000 in
set_option maxRecDepth 100000 in
theorem ct_StageRatiosModel_fault {lau : Launch} {D : va_G} {cy : Nat → ClassId} {aa ad : Nat → Nat} (hI : wI (wR D cy aa ad)) (m : Mem)   : MT lau (wR D cy aa ad) yX11_fault cX11_fault 1 (some .int) ({ frames := 0, cells := 0, slots := 0, locals := 0 } : Room) m [.ref (aa 0)] (Pi (fun z m' => m 0 31 = z ∧ mup m 0 0 0 = m')) := by
  refine v_entry hI RX11 (by decide) rfl (Nat.le_of_ble_eq_true rfl) (fun E hE C X => ?_)
  subst hE
  show V E (wR D cy aa ad) 1 m 0 [(0, .ref (aa 0))] []
  refine v_aload_n C 0 dX11_fault_0 rfl ?_
  refine v_iconst (z := 0) C dX11_fault_1 rfl ?_
  refine v_put C 0 0 (0) 0 rfl lR0 (eR0 _) rfl inX11 tyX11 tyX11_ok nmX11 (by decide) qw1140 rfl rfl rfl (Nat.le_of_ble_eq_true rfl) (by rw [mup_r]; exact (eR0 _)) dX11_fault_2 (fun m1 em1 => ?_)
  refine v_aload_n C 0 dX11_fault_5 rfl ?_
  refine v_get C 0 31 lR0 (eR0 _) rfl inX11 (by decide) rfl qw1171 dX11_fault_6 ?_
  refine v_iret C X rfl dX11_fault_9 ⟨_, rfl, ?_, ?_⟩
  · rw [em1, mup_j _ _ (by decide)]
  · exact em1.symm

set_option maxHeartbeats 4000000 in
set_option maxRecDepth 100000 in
theorem ct_StageRatiosModel_where {lau : Launch} {D : va_G} {cy : Nat → ClassId} {aa ad : Nat → Nat} (hI : wI (wR D cy aa ad)) (m : Mem)   : MT lau (wR D cy aa ad) yX11_where cX11_where 1 (some .int) ({ frames := 0, cells := 0, slots := 0, locals := 0 } : Room) m [.ref (aa 0)] (Pi (fun z m' => m 0 2 = z ∧ mup m 0 0 0 = m')) := by
  refine v_entry hI RX11 (by decide) rfl (Nat.le_of_ble_eq_true rfl) (fun E hE C X => ?_)
  subst hE
  show V E (wR D cy aa ad) 1 m 0 [(0, .ref (aa 0))] []
  refine v_aload_n C 0 dX11_where_0 rfl ?_
  refine v_iconst (z := 0) C dX11_where_1 rfl ?_
  refine v_put C 0 0 (0) 0 rfl lR0 (eR0 _) rfl inX11 tyX11 tyX11_ok nmX11 (by decide) qw1140 rfl rfl rfl (Nat.le_of_ble_eq_true rfl) (by rw [mup_r]; exact (eR0 _)) dX11_where_2 (fun m1 em1 => ?_)
  refine v_aload_n C 0 dX11_where_5 rfl ?_
  refine v_get C 0 2 lR0 (eR0 _) rfl inX11 (by decide) rfl qw1142 dX11_where_6 ?_
  refine v_iret C X rfl dX11_where_9 ⟨_, rfl, ?_, ?_⟩
  · rw [em1, mup_j _ _ (by decide)]
  · exact em1.symm

set_option maxHeartbeats 4000000 in
set_option maxRecDepth 100000 in
theorem ct_StageRatiosModel_thrown {lau : Launch} {D : va_G} {cy : Nat → ClassId} {aa ad : Nat → Nat} (hI : wI (wR D cy aa ad)) (m : Mem)   : MT lau (wR D cy aa ad) yX11_thrown cX11_thrown 1 (some .int) ({ frames := 0, cells := 0, slots := 0, locals := 0 } : Room) m [.ref (aa 0)] (Pi (fun z m' => m 0 0 = z ∧ m = m')) := by
  refine v_entry hI RX11 (by decide) rfl (Nat.le_of_ble_eq_true rfl) (fun E hE C X => ?_)
  subst hE
  show V E (wR D cy aa ad) 1 m 0 [(0, .ref (aa 0))] []
  refine v_aload_n C 0 dX11_thrown_0 rfl ?_
  refine v_get C 0 0 lR0 (eR0 _) rfl inX11 (by decide) rfl qw1140 dX11_thrown_1 ?_
  refine v_iret C X rfl dX11_thrown_4 ⟨_, rfl, ?_, ?_⟩
  · rfl
  · rfl
