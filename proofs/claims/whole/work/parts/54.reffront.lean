/-- an int array of n places in the reference's world -/
def ArR (D : va_G) (cy : Nat → ClassId) (aa ad : Nat → Nat) (a n : Nat) : Prop := a < (wR D cy aa ad).2.2.2.1 ∧ n < 2147483648 ∧ ∀ x : Int → Int, wE (wR D cy aa ad) a x = eI cy n x
theorem frL_sort {p : Int → Prop} {w : Int → Int} {fs : Int → Int → Prop} {n M : Int} {bm : Int → Int} (h : BmOk p w fs n M bm) : ∀ K : Nat, (K : Int) ≤ M → ∀ (i j : Nat) (a b : Int), i < j → (frL fs bm K)[i]? = some a → (frL fs bm K)[j]? = some b → w a < w b := by
  intro K
  induction K with
  | zero => intro _ i j a b _ ha; cases ha
  | succ K ih =>
    intro hK i j a b hij ha hb
    by_cases c : 0 ≤ bm K ∧ ∀ b, (frL fs bm K).getLast? = some b → fs (bm K) b
    · rw [frL_y c] at ha hb
      have hj := (List.getElem?_eq_some_iff.mp hb).1
      rw [List.length_append] at hj
      have hj2 : j < (frL fs bm K).length + 1 := hj
      rw [List.getElem?_append_left (by omega)] at ha
      by_cases e : j < (frL fs bm K).length
      · rw [List.getElem?_append_left e] at hb
        exact ih (by omega) i j a b hij ha hb
      · rw [List.getElem?_append_right (by omega), show j - (frL fs bm K).length = 0 by omega] at hb
        cases hb
        obtain ⟨x, x0, x1, x2, x3⟩ := frL_mem (List.mem_of_getElem? ha)
        have y : w a = x := by
          rcases h x x0 (by omega) with ⟨z, -⟩ | ⟨-, -, z, -⟩
          · omega
          · rw [x2]; exact z
        have y2 : w (bm K) = K := by
          rcases h K (by omega) (by omega) with ⟨z, -⟩ | ⟨-, -, z, -⟩
          · omega
          · exact z
        omega
    · rw [frL_n c] at ha hb
      exact ih (by omega) i j a b hij ha hb
theorem cm_fs {fa : Int → Int} {n P c b : Int} : 0 < cmZ (spT fa n P (unZ c)) (spT fa n P (unZ b)) ↔ fsA fa n P c b := by
  unfold cmZ fsA
  constructor
  · intro h; split at h
    · assumption
    · split at h <;> omega
  · intro h; rw [if_pos h]; decide
theorem spT_un {fa : Int → Int} {n P : Int} {U : Int → Int} (hn : n ≤ 3) (h : ∀ j : Int, 0 ≤ j → j < 3 → 0 ≤ U j ∧ U j ≤ 16) : spT fa n P (unZ (cdZ U)) = spT fa n P U := (dv_cg hn (unZ_cd h).2).2.2.2
theorem lt_208 {x y : Int} (h0 : 0 ≤ x) (h : x ≤ 2 ^ 104) (h1 : 0 ≤ y) (h2 : y ≤ 2 ^ 104) : x * y < 32768 ^ 240 := by
  have a := Int.mul_le_mul h h2 h1 (by decide +kernel)
  have d : (2 : Int) ^ 104 * 2 ^ 104 < 32768 ^ 240 := by decide +kernel
  omega
set_option maxHeartbeats 4000000 in
set_option maxRecDepth 100000 in
theorem ct_StageRatiosModel_takes {lau : Launch} {D : va_G} {cy : Nat → ClassId} {aa ad : Nat → Nat} (hI : wI (wR D cy aa ad)) (m : Mem) (a nA : Nat) (f : Int) (ha : ArR D cy aa ad a nA) (hne : a ≠ 9) (hf0 : 0 ≤ f ∧ f + 3 ≤ nA) : MT lau (wR D cy aa ad) yX11_takes cX11_takes 4 (none) ({ frames := 0, cells := 0, slots := 0, locals := 0 } : Room) m [.ref (aa 0), .ref (aa a), .int (iz (f))] (Pv (fun m' => (∀ j : Int, 0 ≤ j → j < 3 → m' 9 j = m a (f + j)) ∧ ∀ q : Nat, q ≠ 9 → m' q = m q)) := by
  refine v_entry hI RX11 (by decide) rfl (Nat.le_of_ble_eq_true rfl) (fun E hE C X => ?_)
  subst hE
  show V E (wR D cy aa ad) 4 m 0 [(0, .ref (aa 0)), (1, .ref (aa a)), (2, .int (iz (f)))] []
  have hn31 := ha.2.1
  refine v_iconst (z := 0) C dX11_takes_0 rfl ?_
  refine v_istore_n (L1 := [(3, .int (iz (0))), (0, .ref (aa 0)), (1, .ref (aa a)), (2, .int (iz (f)))]) C dX11_takes_1 (by decide) rfl ?_
  have K2 : ∀ (nK : Nat) (i : Int) (mL : Mem) (hi : 0 ≤ i ∧ i ≤ 3) (h9 : ∀ j : Int, 0 ≤ j → j < i → mL 9 j = m a (f + j)) (hf : ∀ q : Nat, q ≠ 9 → mL q = m q), (3 - i).toNat < nK → V E (wR D cy aa ad) 4 mL 2 [(0, .ref (aa 0)), (1, .ref (aa a)), (2, .int (iz (f))), (3, .int (iz (i)))] [] := by
    intro nK
    induction nK with
    | zero => intro i mL hi h9 hf hn; exact absurd hn (Nat.not_lt_zero _)
    | succ nK ih2 =>
      intro i mL hi h9 hf hn2
      refine v_iload_n C 3 dX11_takes_2 rfl ?_
      refine v_iconst (z := 3) C dX11_takes_3 rfl ?_
      refine v_icmp_ge (tgt := 24) C dX11_takes_4 (by decide) (by omega) (by omega) (fun c1 => ?_) (fun c1 => ?_)
      · refine v_vret C X dX11_takes_24 ⟨rfl, ?_⟩
        exact ⟨fun j h0 h1 => h9 j h0 (by omega), hf⟩
      · refine v_aload_n C 0 dX11_takes_7 rfl ?_
        refine v_get C 0 33 lR0 (eR0 _) rfl inX11 (by decide) rfl qw1173 dX11_takes_8 ?_
        refine v_iload_n C 3 dX11_takes_11 rfl ?_
        refine v_aload_n C 1 dX11_takes_12 rfl ?_
        refine v_iload_n C 2 dX11_takes_13 rfl ?_
        refine v_iload_n C 3 dX11_takes_14 rfl ?_
        refine v_iadd C dX11_takes_15 ?_
        refine v_iald C a ha.1 (ha.2.2 _) (ha.2.1) (by omega) dX11_takes_16 ?_
        refine v_iast C 9 lR9 eR9 (by decide) (by omega) dX11_takes_17 (fun m2 em2 => ?_)
        refine v_iinc (L1 := [(3, .int (iz (i + 1))), (0, .ref (aa 0)), (1, .ref (aa a)), (2, .int (iz (f)))]) C 3 dX11_takes_18 rfl (by decide) rfl ?_
        refine v_goto (tgt := 2) C dX11_takes_21 (by decide) ?_
        refine v_sub [1, 2, 3, 0] rfl ?_
        exact ih2 (i + 1) m2 (by first | assumption | omega) (by 
                    intro j h0 h1; rw [em2, mup_r]
                    by_cases e : j = i
                    · refine (if_pos e).trans ?_; rw [hf a hne, e]
                    · exact (if_neg e).trans (h9 j h0 (by omega))
                  ) (by intro q h; rw [em2, mup_k _ _ _ h]; exact hf q h) (by omega)
  refine v_sub [1, 2, 3, 0] rfl ?_
  exact K2 _ (0) m (by first | assumption | omega) (by intro j h0 h1; omega) (by intro q _; rfl) (Nat.lt_succ_self _)

set_option maxHeartbeats 4000000 in
set_option maxRecDepth 100000 in
theorem ct_StageRatiosModel_puts {lau : Launch} {D : va_G} {cy : Nat → ClassId} {aa ad : Nat → Nat} (hI : wI (wR D cy aa ad)) (m : Mem) (a nA : Nat) (f : Int) (ha : ArR D cy aa ad a nA) (hne : a ≠ 9) (hf0 : 0 ≤ f ∧ f + 3 ≤ nA) : MT lau (wR D cy aa ad) yX11_puts cX11_puts 4 (none) ({ frames := 0, cells := 0, slots := 0, locals := 0 } : Room) m [.ref (aa 0), .ref (aa a), .int (iz (f))] (Pv (fun m' => (∀ j : Int, m' a j = if f ≤ j ∧ j < f + 3 then m 9 (j - f) else m a j) ∧ ∀ q : Nat, q ≠ a → m' q = m q)) := by
  refine v_entry hI RX11 (by decide) rfl (Nat.le_of_ble_eq_true rfl) (fun E hE C X => ?_)
  subst hE
  show V E (wR D cy aa ad) 4 m 0 [(0, .ref (aa 0)), (1, .ref (aa a)), (2, .int (iz (f)))] []
  have hn31 := ha.2.1
  refine v_iconst (z := 0) C dX11_puts_0 rfl ?_
  refine v_istore_n (L1 := [(3, .int (iz (0))), (0, .ref (aa 0)), (1, .ref (aa a)), (2, .int (iz (f)))]) C dX11_puts_1 (by decide) rfl ?_
  have K2 : ∀ (nK : Nat) (i : Int) (mL : Mem) (hi : 0 ≤ i ∧ i ≤ 3) (h9 : ∀ j : Int, mL a j = if f ≤ j ∧ j < f + i then m 9 (j - f) else m a j) (hf : ∀ q : Nat, q ≠ a → mL q = m q), (3 - i).toNat < nK → V E (wR D cy aa ad) 4 mL 2 [(0, .ref (aa 0)), (1, .ref (aa a)), (2, .int (iz (f))), (3, .int (iz (i)))] [] := by
    intro nK
    induction nK with
    | zero => intro i mL hi h9 hf hn; exact absurd hn (Nat.not_lt_zero _)
    | succ nK ih2 =>
      intro i mL hi h9 hf hn2
      refine v_iload_n C 3 dX11_puts_2 rfl ?_
      refine v_iconst (z := 3) C dX11_puts_3 rfl ?_
      refine v_icmp_ge (tgt := 24) C dX11_puts_4 (by decide) (by omega) (by omega) (fun c1 => ?_) (fun c1 => ?_)
      · refine v_vret C X dX11_puts_24 ⟨rfl, ?_⟩
        exact ⟨fun j => by rw [h9 j, show i = 3 by omega], hf⟩
      · refine v_aload_n C 1 dX11_puts_7 rfl ?_
        refine v_iload_n C 2 dX11_puts_8 rfl ?_
        refine v_iload_n C 3 dX11_puts_9 rfl ?_
        refine v_iadd C dX11_puts_10 ?_
        refine v_aload_n C 0 dX11_puts_11 rfl ?_
        refine v_get C 0 33 lR0 (eR0 _) rfl inX11 (by decide) rfl qw1173 dX11_puts_12 ?_
        refine v_iload_n C 3 dX11_puts_15 rfl ?_
        refine v_iald C 9 lR9 (eR9 _) (by decide) (by omega) dX11_puts_16 ?_
        refine v_iast C a ha.1 ha.2.2 (ha.2.1) (by omega) dX11_puts_17 (fun m2 em2 => ?_)
        refine v_iinc (L1 := [(3, .int (iz (i + 1))), (0, .ref (aa 0)), (1, .ref (aa a)), (2, .int (iz (f)))]) C 3 dX11_puts_18 rfl (by decide) rfl ?_
        refine v_goto (tgt := 2) C dX11_puts_21 (by decide) ?_
        refine v_sub [1, 2, 3, 0] rfl ?_
        exact ih2 (i + 1) m2 (by first | assumption | omega) (by 
                    intro j; rw [em2, mup_r]
                    by_cases e : j = f + i
                    · refine (if_pos e).trans ?_; rw [hf 9 (Ne.symm hne), if_pos (by omega)]; congr 1; omega
                    · refine (if_neg e).trans ((h9 j).trans ?_)
                      by_cases d : f ≤ j ∧ j < f + i
                      · rw [if_pos d, if_pos (by omega)]
                      · rw [if_neg d, if_neg (by omega)]
                  ) (by intro q h; rw [em2, mup_k _ _ _ h]; exact hf q h) (by omega)
  refine v_sub [1, 2, 3, 0] rfl ?_
  exact K2 _ (0) m (by first | assumption | omega) (by intro j; rw [if_neg (by omega)]) (by intro q _; rfl) (Nat.lt_succ_self _)

set_option maxHeartbeats 4000000 in
set_option maxRecDepth 100000 in
theorem ct_StageRatiosModel_comparesSpeeds {lau : Launch} {D : va_G} {cy : Nat → ClassId} {aa ad : Nat → Nat} (hI : wI (wR D cy aa ad)) (m : Mem) (fa Af Bf Cf Rr Xx : Int → Int) (a nA b nB : Nat) (f g Pp : Int) (D1 D2 : Int → Int) (hg : RT m fa Af Bf Cf Rr Xx) (ha : ArR D cy aa ad a nA) (hb : ArR D cy aa ad b nB) (hne : a ≠ 0 ∧ a ≠ 9 ∧ a ≠ 10 ∧ a ≠ 11) (hnb : b ≠ 9) (hf0 : 0 ≤ f ∧ f + 3 ≤ nA) (hg0 : 0 ≤ g ∧ g + 3 ≤ nB) (h34 : m 0 34 = Pp) (hd1 : DvOk (Rr 5) Pp D1) (hd2 : DvOk (Rr 5) Pp D2) (hr1 : ∀ j : Int, 0 ≤ j → j < 3 → m a (f + j) = D1 j) (hr2 : ∀ j : Int, 0 ≤ j → j < 3 → m b (g + j) = D2 j) : MT lau (wR D cy aa ad) yX11_comparesSpeeds cX11_comparesSpeeds 6 (some .int) ({ frames := 3, cells := 0, slots := 0, locals := 67 } : Room) m [.ref (aa 0), .ref (aa a), .int (iz (f)), .ref (aa b), .int (iz (g))] (Pi (fun z m' => cmZ (spT fa (Rr 5) Pp D1) (spT fa (Rr 5) Pp D2) = z ∧ (∀ j : Int, 0 ≤ j → j < 3 → m' 9 j = D1 j) ∧ (∀ j : Int, j ≠ 37 → j ≠ 38 → m' 0 j = m 0 j) ∧ (∀ q : Nat, q ≠ 0 → q ≠ 9 → q ≠ 10 → q ≠ 11 → m' q = m q))) := by
  refine v_entry hI RX11 (by decide) rfl (Nat.le_of_ble_eq_true rfl) (fun E hE C X => ?_)
  subst hE
  show V E (wR D cy aa ad) 6 m 0 [(0, .ref (aa 0)), (1, .ref (aa a)), (2, .int (iz (f))), (3, .ref (aa b)), (4, .int (iz (g)))] []
  obtain ⟨⟨r11, r8, r9, r10, r12⟩, r1, r2, r6, hvd, hfo⟩ := id hg
  obtain ⟨hn, hF, hup, hlw, hX⟩ := id hvd
  have hs1 := hd1.sp hF
  have hs2 := hd2.sp hF
  have hb1 := fun (c : Nat) (hc : (c : Int) ≤ Rr 5) => spL_b c (fun s h0 h1 => hs1 s h0 (by omega))
  have hb2 := fun (c : Nat) (hc : (c : Int) ≤ Rr 5) => spL_b c (fun s h0 h1 => hs2 s h0 (by omega))
  have al1 := hd1.al hF
  have al2 := hd2.al hF
  refine v_aload_n C 0 dX11_comparesSpeeds_0 rfl ?_
  refine v_aload_n C 3 dX11_comparesSpeeds_1 rfl ?_
  refine v_iload C 4 dX11_comparesSpeeds_2 rfl ?_
  refine v_callV (st := []) (n := 2) (q := 0) C [.ref (aa b), .int (iz (g))] (ct_StageRatiosModel_takes C.2.2.2.2.2.2.1 m (b) (nB) (g) ⟨hb.1, (hb.2.1), hb.2.2⟩ (by exact hnb) (by first | assumption | omega)) lR0 (eR0 _) rfl qw1650 qw16 qw1647 rfl rfl ⟨Nat.le_of_ble_eq_true rfl, Nat.le_of_ble_eq_true rfl⟩ (by decide +kernel) qw1649 qp86 rfl rfl (Nat.le_of_ble_eq_true rfl) dX11_comparesSpeeds_4 (fun r m1 hq1 => ?_)
  obtain ⟨rfl, hq1⟩ := hq1
  show V E (wR D cy aa ad) 6 m1 7 [(0, .ref (aa 0)), (1, .ref (aa a)), (2, .int (iz (f))), (3, .ref (aa b)), (4, .int (iz (g)))] []
  have hg4 : RT m1 fa Af Bf Cf Rr Xx := hg.fr (fun j _ => by rw [hq1.2 0 (by decide)]) (hq1.2 1 (by decide)) (hq1.2 2 (by decide)) (hq1.2 6 (by decide))
  refine v_aload_n C 0 dX11_comparesSpeeds_7 rfl ?_
  refine v_callV (st := []) (n := 0) (q := 0) C [] (ct_StageRatiosModel_one C.2.2.2.2.2.2.1 m1  ) lR0 (eR0 _) rfl qw1520 qw16 qw1517 rfl rfl ⟨Nat.le_of_ble_eq_true rfl, Nat.le_of_ble_eq_true rfl⟩ (by decide +kernel) qw1519 qp66 rfl rfl (Nat.le_of_ble_eq_true rfl) dX11_comparesSpeeds_8 (fun r m2 hq2 => ?_)
  obtain ⟨rfl, hq2⟩ := hq2
  show V E (wR D cy aa ad) 6 m2 11 [(0, .ref (aa 0)), (1, .ref (aa a)), (2, .int (iz (f))), (3, .ref (aa b)), (4, .int (iz (g)))] []
  refine v_iconst (z := 0) C dX11_comparesSpeeds_11 rfl ?_
  refine v_istore (L1 := [(5, .int (iz (0))), (0, .ref (aa 0)), (1, .ref (aa a)), (2, .int (iz (f))), (3, .ref (aa b)), (4, .int (iz (g)))]) C dX11_comparesSpeeds_12 (by decide) rfl ?_
  have K14 : ∀ (nK : Nat) (i : Int) (mL : Mem) (hi : 0 ≤ i ∧ i ≤ Rr 5) (h2 : BW2 mL (denL (spL fa (stZ fa (Rr 5) Pp D2) (fun s => stZ fa (Rr 5) Pp D2 s - D2 s) i.toNat)) (numL (spL fa (stZ fa (Rr 5) Pp D2) (fun s => stZ fa (Rr 5) Pp D2 s - D2 s) i.toNat))) (hf : FBm m1 mL), (Rr 5 - i).toNat < nK → V E (wR D cy aa ad) 6 mL 14 [(0, .ref (aa 0)), (1, .ref (aa a)), (2, .int (iz (f))), (3, .ref (aa b)), (4, .int (iz (g))), (5, .int (iz (i)))] [] := by
    intro nK
    induction nK with
    | zero => intro i mL hi h2 hf hn; exact absurd hn (Nat.not_lt_zero _)
    | succ nK ih14 =>
      intro i mL hi h2 hf hn14
      have h9L : ∀ j : Int, 0 ≤ j → j < 3 → mL 9 j = D2 j := fun j j0 j1 => by rw [hf.2 9 (by decide) (by decide) (by decide), hq1.1 j j0 j1]; exact hr2 j j0 j1
      have hdL : DT mL (Rr 5) Pp D2 := ⟨by rw [hf.1 34 (by decide) (by decide), hq1.2 0 (by decide)]; exact h34, h9L, hd2⟩
      have hgL := hf.rt hg4
      have l11 : mL 0 11 = Rr 5 := hgL.1.1
      have e1 : (i + 1).toNat = i.toNat + 1 := by omega
      have e2 : ((i.toNat : Nat) : Int) = i := by omega
      have b0 := hb2 i.toNat (by omega)
      refine v_iload C 5 dX11_comparesSpeeds_14 rfl ?_
      refine v_aload_n C 0 dX11_comparesSpeeds_16 rfl ?_
      refine v_get C 0 11 lR0 (eR0 _) rfl inX11 (by decide) rfl qw1151 dX11_comparesSpeeds_17 ?_
      refine v_icmp_ge (tgt := 60) C dX11_comparesSpeeds_20 (by decide) (by omega) (by omega) (fun c3 => ?_) (fun c3 => ?_)
      · refine v_aload_n C 0 dX11_comparesSpeeds_60 rfl ?_
        refine v_aload_n C 1 dX11_comparesSpeeds_61 rfl ?_
        refine v_iload_n C 2 dX11_comparesSpeeds_62 rfl ?_
        refine v_callV (st := []) (n := 2) (q := 0) C [.ref (aa a), .int (iz (f))] (ct_StageRatiosModel_takes C.2.2.2.2.2.2.1 mL (a) (nA) (f) ⟨ha.1, (ha.2.1), ha.2.2⟩ (by exact hne.2.1) (by first | assumption | omega)) lR0 (eR0 _) rfl qw1650 qw16 qw1647 rfl rfl ⟨Nat.le_of_ble_eq_true rfl, Nat.le_of_ble_eq_true rfl⟩ (by decide +kernel) qw1649 qp86 rfl rfl (Nat.le_of_ble_eq_true rfl) dX11_comparesSpeeds_63 (fun r m4 hq4 => ?_)
        obtain ⟨rfl, hq4⟩ := hq4
        show V E (wR D cy aa ad) 6 m4 66 [(0, .ref (aa 0)), (1, .ref (aa a)), (2, .int (iz (f))), (3, .ref (aa b)), (4, .int (iz (g))), (5, .int (iz (i)))] []
        have hg63 : RT m4 fa Af Bf Cf Rr Xx := hgL.fr (fun j _ => by rw [hq4.2 0 (by decide)]) (hq4.2 1 (by decide)) (hq4.2 2 (by decide)) (hq4.2 6 (by decide))
        have h963 : ∀ j : Int, 0 ≤ j → j < 3 → m4 9 j = D1 j := fun j j0 j1 => by rw [hq4.1 j j0 j1, hf.2 a hne.1 hne.2.2.1 hne.2.2.2, hq1.2 a hne.2.1]; exact hr1 j j0 j1
        refine v_iconst (z := 0) C dX11_comparesSpeeds_66 rfl ?_
        refine v_istore (L1 := [(5, .int (iz (0))), (0, .ref (aa 0)), (1, .ref (aa a)), (2, .int (iz (f))), (3, .ref (aa b)), (4, .int (iz (g)))]) C dX11_comparesSpeeds_67 (by decide) rfl ?_
        have K69 : ∀ (nK : Nat) (i2 : Int) (mM : Mem) (hi2 : 0 ≤ i2 ∧ i2 ≤ Rr 5) (h3 : BW2 mM (denL (spT fa (Rr 5) Pp D2) * numL (spL fa (stZ fa (Rr 5) Pp D1) (fun s => stZ fa (Rr 5) Pp D1 s - D1 s) i2.toNat)) (numL (spT fa (Rr 5) Pp D2) * denL (spL fa (stZ fa (Rr 5) Pp D1) (fun s => stZ fa (Rr 5) Pp D1 s - D1 s) i2.toNat))) (hfM : FBm m4 mM), (Rr 5 - i2).toNat < nK → V E (wR D cy aa ad) 6 mM 69 [(0, .ref (aa 0)), (1, .ref (aa a)), (2, .int (iz (f))), (3, .ref (aa b)), (4, .int (iz (g))), (5, .int (iz (i2)))] [] := by
          intro nK
          induction nK with
          | zero => intro i2 mM hi2 h3 hfM hn; exact absurd hn (Nat.not_lt_zero _)
          | succ nK ih69 =>
            intro i2 mM hi2 h3 hfM hn69
            have h9M : ∀ j : Int, 0 ≤ j → j < 3 → mM 9 j = D1 j := fun j j0 j1 => by rw [hfM.2 9 (by decide) (by decide) (by decide)]; exact h963 j j0 j1
            have hdM : DT mM (Rr 5) Pp D1 := ⟨by rw [hfM.1 34 (by decide) (by decide), hq4.2 0 (by decide)]; exact hdL.1, h9M, hd1⟩
            have hgM := hfM.rt hg63
            have n11 : mM 0 11 = Rr 5 := hgM.1.1
            have e3 : (i2 + 1).toNat = i2.toNat + 1 := by omega
            have e4 : ((i2.toNat : Nat) : Int) = i2 := by omega
            have b1 := hb1 i2.toNat (by omega)
            have m1 := mul_1 al2.2.2.2.1 (show 1 ≤ numL (spL fa (stZ fa (Rr 5) Pp D1) (fun s => stZ fa (Rr 5) Pp D1 s - D1 s) i2.toNat) by omega)
            have m2 := mul_1 (show 1 ≤ numL (spT fa (Rr 5) Pp D2) by omega) b1.1.1
            refine v_iload C 5 dX11_comparesSpeeds_69 rfl ?_
            refine v_aload_n C 0 dX11_comparesSpeeds_71 rfl ?_
            refine v_get C 0 11 lR0 (eR0 _) rfl inX11 (by decide) rfl qw1151 dX11_comparesSpeeds_72 ?_
            refine v_icmp_ge (tgt := 115) C dX11_comparesSpeeds_75 (by decide) (by omega) (by omega) (fun c5 => ?_) (fun c5 => ?_)
            · refine v_aload_n C 0 dX11_comparesSpeeds_115 rfl ?_
              refine v_callV (st := []) (n := 0) (q := 0) C [] (ct_StageRatiosModel_compares C.2.2.2.2.2.2.1 mM (denL (spT fa (Rr 5) Pp D2) * numL (spT fa (Rr 5) Pp D1)) (numL (spT fa (Rr 5) Pp D2) * denL (spT fa (Rr 5) Pp D1)) (by rw [show i2.toNat = (Rr 5).toNat by omega] at h3; exact h3)) lR0 (eR0 _) rfl qw1541 qw16 qw1538 rfl rfl ⟨Nat.le_of_ble_eq_true rfl, Nat.le_of_ble_eq_true rfl⟩ (by decide +kernel) qw1540 qp71 rfl rfl (Nat.le_of_ble_eq_true rfl) dX11_comparesSpeeds_116 (fun r m6 hq6 => ?_)
              obtain ⟨z6, rfl, rfl, rfl⟩ := hq6
              show V E (wR D cy aa ad) 6 mM 119 [(0, .ref (aa 0)), (1, .ref (aa a)), (2, .int (iz (f))), (3, .ref (aa b)), (4, .int (iz (g))), (5, .int (iz (i2)))] [.int (iz ((if (numL (spT fa (Rr 5) Pp D2) * denL (spT fa (Rr 5) Pp D1)) < (denL (spT fa (Rr 5) Pp D2) * numL (spT fa (Rr 5) Pp D1)) then 1 else if (denL (spT fa (Rr 5) Pp D2) * numL (spT fa (Rr 5) Pp D1)) < (numL (spT fa (Rr 5) Pp D2) * denL (spT fa (Rr 5) Pp D1)) then -1 else 0)))]
              refine v_iret C X rfl dX11_comparesSpeeds_119 ⟨_, rfl, ?_, ?_⟩
              · unfold cmZ; rw [Int.mul_comm (numL (spT fa (Rr 5) Pp D1))]
              · exact ⟨h9M, fun j a1 a2 => by rw [hfM.1 j a1 a2, hq4.2 0 (by decide), hf.1 j a1 a2, hq1.2 0 (by decide)], fun q a1 a2 a3 a4 => by rw [hfM.2 q a1 a3 a4, hq4.2 q a2, hf.2 q a1 a3 a4, hq1.2 q a2]⟩
            · have e9b : mM 9 i2 = D1 i2 := h9M i2 (by omega) (by omega)
              have hsj := hs1 i2 (by omega) (by omega)
              have hfj := hF i2 (by omega) (by omega)
              dsimp only at hsj
              refine v_aload_n C 0 dX11_comparesSpeeds_78 rfl ?_
              refine v_aload_n C 0 dX11_comparesSpeeds_79 rfl ?_
              refine v_iload C 5 dX11_comparesSpeeds_80 rfl ?_
              refine v_callV (st := [.ref (aa 0)]) (n := 1) (q := 0) C [.int (iz (i2))] (ct_StageRatiosModel_start C.2.2.2.2.2.2.1 mM (fa) (Af) (Bf) (Cf) (Rr) (Xx) (Pp) (D1) (i2) (by exact hgM) (by exact hdM) (by first | assumption | omega)) lR0 (eR0 _) rfl qw1480 qw16 qw1477 rfl rfl ⟨Nat.le_of_ble_eq_true rfl, Nat.le_of_ble_eq_true rfl⟩ (by decide +kernel) qw1479 qp60 rfl rfl (Nat.le_of_ble_eq_true rfl) dX11_comparesSpeeds_82 (fun r m7 hq7 => ?_)
              obtain ⟨z7, rfl, rfl, rfl⟩ := hq7
              show V E (wR D cy aa ad) 6 mM 85 [(0, .ref (aa 0)), (1, .ref (aa a)), (2, .int (iz (f))), (3, .ref (aa b)), (4, .int (iz (g))), (5, .int (iz (i2)))] [.int (iz (stZ fa (Rr 5) Pp D1 i2)), .ref (aa 0)]
              refine v_aload_n C 0 dX11_comparesSpeeds_85 rfl ?_
              refine v_iload C 5 dX11_comparesSpeeds_86 rfl ?_
              refine v_callV (st := [.int (iz (stZ fa (Rr 5) Pp D1 i2)), .ref (aa 0)]) (n := 1) (q := 0) C [.int (iz (i2))] (ct_StageRatiosModel_start C.2.2.2.2.2.2.1 mM (fa) (Af) (Bf) (Cf) (Rr) (Xx) (Pp) (D1) (i2) (by exact hgM) (by exact hdM) (by first | assumption | omega)) lR0 (eR0 _) rfl qw1480 qw16 qw1477 rfl rfl ⟨Nat.le_of_ble_eq_true rfl, Nat.le_of_ble_eq_true rfl⟩ (by decide +kernel) qw1479 qp60 rfl rfl (Nat.le_of_ble_eq_true rfl) dX11_comparesSpeeds_88 (fun r m8 hq8 => ?_)
              obtain ⟨z8, rfl, rfl, rfl⟩ := hq8
              show V E (wR D cy aa ad) 6 mM 91 [(0, .ref (aa 0)), (1, .ref (aa a)), (2, .int (iz (f))), (3, .ref (aa b)), (4, .int (iz (g))), (5, .int (iz (i2)))] [.int (iz (stZ fa (Rr 5) Pp D1 i2)), .int (iz (stZ fa (Rr 5) Pp D1 i2)), .ref (aa 0)]
              refine v_aload_n C 0 dX11_comparesSpeeds_91 rfl ?_
              refine v_get C 0 33 lR0 (eR0 _) rfl inX11 (by decide) rfl qw1173 dX11_comparesSpeeds_92 ?_
              refine v_iload C 5 dX11_comparesSpeeds_95 rfl ?_
              refine v_iald C 9 lR9 (eR9 _) (by decide) (by omega) dX11_comparesSpeeds_97 ?_
              refine v_isub C dX11_comparesSpeeds_98 ?_
              refine v_aload_n C 0 dX11_comparesSpeeds_99 rfl ?_
              refine v_iload C 5 dX11_comparesSpeeds_100 rfl ?_
              refine v_iconst (z := 0) C dX11_comparesSpeeds_102 rfl ?_
              refine v_callV (st := [.int (iz ((stZ fa (Rr 5) Pp D1 i2) - (mM 9 i2))), .int (iz (stZ fa (Rr 5) Pp D1 i2)), .ref (aa 0)]) (n := 2) (q := 0) C [.int (iz (i2)), .int (iz (0))] (ct_StageRatiosModel_told C.2.2.2.2.2.2.1 mM (fa) (Af) (Bf) (Cf) (Rr) (Xx) (i2) (0) (by exact hgM) (by first | assumption | omega) (by first | assumption | omega)) lR0 (eR0 _) rfl qw1440 qw16 qw1437 rfl rfl ⟨Nat.le_of_ble_eq_true rfl, Nat.le_of_ble_eq_true rfl⟩ (by decide +kernel) qw1439 qp55 rfl rfl (Nat.le_of_ble_eq_true rfl) dX11_comparesSpeeds_103 (fun r m9 hq9 => ?_)
              obtain ⟨z9, rfl, rfl, rfl⟩ := hq9
              show V E (wR D cy aa ad) 6 mM 106 [(0, .ref (aa 0)), (1, .ref (aa a)), (2, .int (iz (f))), (3, .ref (aa b)), (4, .int (iz (g))), (5, .int (iz (i2)))] [.int (iz (fa (i2 * 9 + 0))), .int (iz ((stZ fa (Rr 5) Pp D1 i2) - (mM 9 i2))), .int (iz (stZ fa (Rr 5) Pp D1 i2)), .ref (aa 0)]
              refine v_callV (st := []) (n := 3) (q := 0) C [.int (iz (stZ fa (Rr 5) Pp D1 i2)), .int (iz ((stZ fa (Rr 5) Pp D1 i2) - (mM 9 i2))), .int (iz (fa (i2 * 9 + 0)))] (ct_StageRatiosModel_times C.2.2.2.2.2.2.1 mM (stZ fa (Rr 5) Pp D1 i2) ((stZ fa (Rr 5) Pp D1 i2) - (mM 9 i2)) (fa (i2 * 9 + 0)) (denL (spT fa (Rr 5) Pp D2) * numL (spL fa (stZ fa (Rr 5) Pp D1) (fun s => stZ fa (Rr 5) Pp D1 s - D1 s) i2.toNat)) (numL (spT fa (Rr 5) Pp D2) * denL (spL fa (stZ fa (Rr 5) Pp D1) (fun s => stZ fa (Rr 5) Pp D1 s - D1 s) i2.toNat)) (by omega) (by rw [e9b]; omega) (by omega) (by exact h3) (by omega) (by omega) (by have c1 := hb1 (i2.toNat + 1) (by omega); rw [spL_num (by rw [e4]; omega), e4] at c1; rw [Int.mul_assoc]; exact lt_208 (by omega) (Int.le_trans al2.2.2.2.2 al2.2.2.1) (Int.mul_nonneg (by omega) (Int.pow_nonneg (by omega))) (Int.le_trans c1.2.1 (p104 (by omega)))) (by have c1 := hb1 (i2.toNat + 1) (by omega); rw [spL_den (by rw [e4]; omega), e4] at c1; rw [e9b, Int.mul_assoc]; exact lt_208 (by omega) al2.2.2.1 (Int.mul_nonneg (by omega) (Int.pow_nonneg (by omega))) (Int.le_trans c1.1.2 (Int.le_trans c1.2.1 (p104 (by omega)))))) lR0 (eR0 _) rfl qw1524 qw16 qw1521 rfl rfl ⟨Nat.le_of_ble_eq_true rfl, Nat.le_of_ble_eq_true rfl⟩ (by decide +kernel) qw1523 qp67 rfl rfl (Nat.le_of_ble_eq_true rfl) dX11_comparesSpeeds_106 (fun r m10 hq10 => ?_)
              obtain ⟨rfl, hq10⟩ := hq10
              show V E (wR D cy aa ad) 6 m10 109 [(0, .ref (aa 0)), (1, .ref (aa a)), (2, .int (iz (f))), (3, .ref (aa b)), (4, .int (iz (g))), (5, .int (iz (i2)))] []
              refine v_iinc (L1 := [(5, .int (iz (i2 + 1))), (0, .ref (aa 0)), (1, .ref (aa a)), (2, .int (iz (f))), (3, .ref (aa b)), (4, .int (iz (g)))]) C 5 dX11_comparesSpeeds_109 rfl (by decide) rfl ?_
              refine v_goto (tgt := 69) C dX11_comparesSpeeds_112 (by decide) ?_
              refine v_sub [1, 2, 3, 4, 5, 0] rfl ?_
              exact ih69 (i2 + 1) m10 (by omega) (by rw [e3, spL_num (by rw [e4]; omega), spL_den (by rw [e4]; omega), e4, ← Int.mul_assoc, ← Int.mul_assoc]; rw [e9b] at hq10; exact hq10.1) (by exact hfM.tr hq10.2) (by omega)
        refine v_sub [1, 2, 3, 4, 5, 0] rfl ?_
        exact K69 _ (0) m4 (by omega) (by 
                    show BW2 m4 (denL (spT fa (Rr 5) Pp D2) * 1) (numL (spT fa (Rr 5) Pp D2) * 1)
                    rw [Int.mul_one, Int.mul_one]
                    rw [show i.toNat = (Rr 5).toNat by omega] at h2
                    exact ⟨h2.1.fr (by rw [hq4.2 0 (by decide)]) (hq4.2 10 (by decide)), h2.2.fr (by rw [hq4.2 0 (by decide)]) (hq4.2 11 (by decide))⟩
                  ) (by exact ⟨fun _ _ _ => rfl, fun _ _ _ _ => rfl⟩) (Nat.lt_succ_self _)
      · have e9 : mL 9 i = D2 i := h9L i (by omega) (by omega)
        have hsi := hs2 i (by omega) (by omega)
        have hfi := hF i (by omega) (by omega)
        dsimp only at hsi
        refine v_aload_n C 0 dX11_comparesSpeeds_23 rfl ?_
        refine v_aload_n C 0 dX11_comparesSpeeds_24 rfl ?_
        refine v_iload C 5 dX11_comparesSpeeds_25 rfl ?_
        refine v_callV (st := [.ref (aa 0)]) (n := 1) (q := 0) C [.int (iz (i))] (ct_StageRatiosModel_start C.2.2.2.2.2.2.1 mL (fa) (Af) (Bf) (Cf) (Rr) (Xx) (Pp) (D2) (i) (by exact hgL) (by exact hdL) (by first | assumption | omega)) lR0 (eR0 _) rfl qw1480 qw16 qw1477 rfl rfl ⟨Nat.le_of_ble_eq_true rfl, Nat.le_of_ble_eq_true rfl⟩ (by decide +kernel) qw1479 qp60 rfl rfl (Nat.le_of_ble_eq_true rfl) dX11_comparesSpeeds_27 (fun r m11 hq11 => ?_)
        obtain ⟨z11, rfl, rfl, rfl⟩ := hq11
        show V E (wR D cy aa ad) 6 mL 30 [(0, .ref (aa 0)), (1, .ref (aa a)), (2, .int (iz (f))), (3, .ref (aa b)), (4, .int (iz (g))), (5, .int (iz (i)))] [.int (iz (stZ fa (Rr 5) Pp D2 i)), .ref (aa 0)]
        refine v_aload_n C 0 dX11_comparesSpeeds_30 rfl ?_
        refine v_get C 0 33 lR0 (eR0 _) rfl inX11 (by decide) rfl qw1173 dX11_comparesSpeeds_31 ?_
        refine v_iload C 5 dX11_comparesSpeeds_34 rfl ?_
        refine v_iald C 9 lR9 (eR9 _) (by decide) (by omega) dX11_comparesSpeeds_36 ?_
        refine v_isub C dX11_comparesSpeeds_37 ?_
        refine v_aload_n C 0 dX11_comparesSpeeds_38 rfl ?_
        refine v_iload C 5 dX11_comparesSpeeds_39 rfl ?_
        refine v_callV (st := [.int (iz ((stZ fa (Rr 5) Pp D2 i) - (mL 9 i))), .ref (aa 0)]) (n := 1) (q := 0) C [.int (iz (i))] (ct_StageRatiosModel_start C.2.2.2.2.2.2.1 mL (fa) (Af) (Bf) (Cf) (Rr) (Xx) (Pp) (D2) (i) (by exact hgL) (by exact hdL) (by first | assumption | omega)) lR0 (eR0 _) rfl qw1480 qw16 qw1477 rfl rfl ⟨Nat.le_of_ble_eq_true rfl, Nat.le_of_ble_eq_true rfl⟩ (by decide +kernel) qw1479 qp60 rfl rfl (Nat.le_of_ble_eq_true rfl) dX11_comparesSpeeds_41 (fun r m12 hq12 => ?_)
        obtain ⟨z12, rfl, rfl, rfl⟩ := hq12
        show V E (wR D cy aa ad) 6 mL 44 [(0, .ref (aa 0)), (1, .ref (aa a)), (2, .int (iz (f))), (3, .ref (aa b)), (4, .int (iz (g))), (5, .int (iz (i)))] [.int (iz (stZ fa (Rr 5) Pp D2 i)), .int (iz ((stZ fa (Rr 5) Pp D2 i) - (mL 9 i))), .ref (aa 0)]
        refine v_aload_n C 0 dX11_comparesSpeeds_44 rfl ?_
        refine v_iload C 5 dX11_comparesSpeeds_45 rfl ?_
        refine v_iconst (z := 0) C dX11_comparesSpeeds_47 rfl ?_
        refine v_callV (st := [.int (iz (stZ fa (Rr 5) Pp D2 i)), .int (iz ((stZ fa (Rr 5) Pp D2 i) - (mL 9 i))), .ref (aa 0)]) (n := 2) (q := 0) C [.int (iz (i)), .int (iz (0))] (ct_StageRatiosModel_told C.2.2.2.2.2.2.1 mL (fa) (Af) (Bf) (Cf) (Rr) (Xx) (i) (0) (by exact hgL) (by first | assumption | omega) (by first | assumption | omega)) lR0 (eR0 _) rfl qw1440 qw16 qw1437 rfl rfl ⟨Nat.le_of_ble_eq_true rfl, Nat.le_of_ble_eq_true rfl⟩ (by decide +kernel) qw1439 qp55 rfl rfl (Nat.le_of_ble_eq_true rfl) dX11_comparesSpeeds_48 (fun r m13 hq13 => ?_)
        obtain ⟨z13, rfl, rfl, rfl⟩ := hq13
        show V E (wR D cy aa ad) 6 mL 51 [(0, .ref (aa 0)), (1, .ref (aa a)), (2, .int (iz (f))), (3, .ref (aa b)), (4, .int (iz (g))), (5, .int (iz (i)))] [.int (iz (fa (i * 9 + 0))), .int (iz (stZ fa (Rr 5) Pp D2 i)), .int (iz ((stZ fa (Rr 5) Pp D2 i) - (mL 9 i))), .ref (aa 0)]
        refine v_callV (st := []) (n := 3) (q := 0) C [.int (iz ((stZ fa (Rr 5) Pp D2 i) - (mL 9 i))), .int (iz (stZ fa (Rr 5) Pp D2 i)), .int (iz (fa (i * 9 + 0)))] (ct_StageRatiosModel_times C.2.2.2.2.2.2.1 mL ((stZ fa (Rr 5) Pp D2 i) - (mL 9 i)) (stZ fa (Rr 5) Pp D2 i) (fa (i * 9 + 0)) (denL (spL fa (stZ fa (Rr 5) Pp D2) (fun s => stZ fa (Rr 5) Pp D2 s - D2 s) i.toNat)) (numL (spL fa (stZ fa (Rr 5) Pp D2) (fun s => stZ fa (Rr 5) Pp D2 s - D2 s) i.toNat)) (by rw [e9]; omega) (by omega) (by omega) (by exact h2) (by omega) (by omega) (by have b1 := hb2 (i.toNat + 1) (by omega); rw [spL_den (by rw [e2]; omega), e2] at b1; rw [e9]; exact lt_240 (le_2200 (Int.le_trans b1.1.2 (Int.le_trans b1.2.1 (p104 (by omega)))))) (by have b1 := hb2 (i.toNat + 1) (by omega); rw [spL_num (by rw [e2]; omega), e2] at b1; exact lt_240 (le_2200 (Int.le_trans b1.2.1 (p104 (by omega)))))) lR0 (eR0 _) rfl qw1524 qw16 qw1521 rfl rfl ⟨Nat.le_of_ble_eq_true rfl, Nat.le_of_ble_eq_true rfl⟩ (by decide +kernel) qw1523 qp67 rfl rfl (Nat.le_of_ble_eq_true rfl) dX11_comparesSpeeds_51 (fun r m14 hq14 => ?_)
        obtain ⟨rfl, hq14⟩ := hq14
        show V E (wR D cy aa ad) 6 m14 54 [(0, .ref (aa 0)), (1, .ref (aa a)), (2, .int (iz (f))), (3, .ref (aa b)), (4, .int (iz (g))), (5, .int (iz (i)))] []
        refine v_iinc (L1 := [(5, .int (iz (i + 1))), (0, .ref (aa 0)), (1, .ref (aa a)), (2, .int (iz (f))), (3, .ref (aa b)), (4, .int (iz (g)))]) C 5 dX11_comparesSpeeds_54 rfl (by decide) rfl ?_
        refine v_goto (tgt := 14) C dX11_comparesSpeeds_57 (by decide) ?_
        refine v_sub [1, 2, 3, 4, 5, 0] rfl ?_
        exact ih14 (i + 1) m14 (by omega) (by rw [e1, spL_num (by rw [e2]; omega), spL_den (by rw [e2]; omega), e2]; rw [e9] at hq14; exact hq14.1) (by exact hf.tr hq14.2) (by omega)
  refine v_sub [1, 2, 3, 4, 5, 0] rfl ?_
  exact K14 _ (0) m2 (by omega) (by exact hq2.1) (by exact hq2.2) (Nat.lt_succ_self _)

set_option maxHeartbeats 4000000 in
set_option maxRecDepth 100000 in
theorem ct_StageRatiosModel_laysFront {lau : Launch} {D : va_G} {cy : Nat → ClassId} {aa ad : Nat → Nat} (hI : wI (wR D cy aa ad)) (m : Mem) (fa Af Bf Cf Rr Xx : Int → Int) (hg : RT m fa Af Bf Cf Rr Xx) : MT lau (wR D cy aa ad) yX11_laysFront cX11_laysFront 3 (none) ({ frames := 6, cells := 0, slots := 0, locals := 131 } : Room) m [.ref (aa 0)] (Pv (fun m' => (∃ (bm : Int → Int) (l : List Int), BmOk (fun c => inB (loX Xx) (hiX Xx) c ∧ hoA fa (Rr 5) (Xx 0) (unZ c)) (weA fa (Rr 5) (Xx 0)) (fsA fa (Rr 5) (Xx 0)) 4913 512 bm ∧ l = frL (fsA fa (Rr 5) (Xx 0)) bm 512 ∧ m' 0 51 = l.length ∧ m' 0 34 = Xx 0 ∧ ∀ (i : Nat) (q : Int), l[i]? = some q → m' 17 i = (weA fa (Rr 5) (Xx 0)) q ∧ ∀ j : Int, 0 ≤ j → j < 3 → m' 16 (3 * (weA fa (Rr 5) (Xx 0)) q + j) = unZ q j) ∧ (∀ j : Int, j ≠ 34 → j ≠ 37 → j ≠ 38 → j ≠ 51 → m' 0 j = m 0 j) ∧ (∀ q : Nat, q ≠ 0 → q ≠ 9 → q ≠ 10 → q ≠ 11 → q ≠ 13 → q ≠ 14 → q ≠ 16 → q ≠ 17 → q ≠ 18 → q ≠ 19 → m' q = m q))) := by
  refine v_entry hI RX11 (by decide) rfl (Nat.le_of_ble_eq_true rfl) (fun E hE C X => ?_)
  subst hE
  show V E (wR D cy aa ad) 3 m 0 [(0, .ref (aa 0))] []
  obtain ⟨⟨r11, r8, r9, r10, r12⟩, r1, r2, r6, hvd, hfo⟩ := id hg
  obtain ⟨hn, hF, hup, hlw, hX⟩ := id hvd
  have hord := fsA_ord (P := Xx 0) hF hn hX.1
  refine v_iconst (z := 0) C dX11_laysFront_0 rfl ?_
  refine v_istore_n (L1 := [(1, .int (iz (0))), (0, .ref (aa 0))]) C dX11_laysFront_1 (by decide) rfl ?_
  have K2 : ∀ (nK : Nat) (i : Int) (mA : Mem) (hi : 0 ≤ i ∧ i ≤ 512) (hA : ∀ j : Int, 0 ≤ j → j < i → mA 19 j = 0) (hfA : ∀ q : Nat, q ≠ 19 → mA q = m q), (512 - i).toNat < nK → V E (wR D cy aa ad) 3 mA 2 [(0, .ref (aa 0)), (1, .int (iz (i)))] [] := by
    intro nK
    induction nK with
    | zero => intro i mA hi hA hfA hn; exact absurd hn (Nat.not_lt_zero _)
    | succ nK ih2 =>
      intro i mA hi hA hfA hn2
      refine v_iload_n C 1 dX11_laysFront_2 rfl ?_
      refine v_sipush (z := 512) C dX11_laysFront_3 (by decide) ?_
      refine v_icmp_ge (tgt := 22) C dX11_laysFront_6 (by decide) (by omega) (by omega) (fun c1 => ?_) (fun c1 => ?_)
      · refine v_aload_n C 0 dX11_laysFront_22 rfl ?_
        refine v_callV (st := []) (n := 0) (q := 0) C [] (ct_StageRatiosModel_laysBox C.2.2.2.2.2.2.1 mA (fa) (Af) (Bf) (Cf) (Rr) (Xx) (by exact hg.fr (fun j _ => by rw [hfA 0 (by decide)]) (hfA 1 (by decide)) (hfA 2 (by decide)) (hfA 6 (by decide)))) lR0 (eR0 _) rfl qw1590 qw16 qw1587 rfl rfl ⟨Nat.le_of_ble_eq_true rfl, Nat.le_of_ble_eq_true rfl⟩ (by decide +kernel) qw1589 qp78 rfl rfl (Nat.le_of_ble_eq_true rfl) dX11_laysFront_23 (fun r m2 hq2 => ?_)
        obtain ⟨rfl, hq2⟩ := hq2
        show V E (wR D cy aa ad) 3 m2 26 [(0, .ref (aa 0)), (1, .int (iz (i)))] []
        have hfb := first_box (lo := loX Xx) (hi := hiX Xx) (fun j j0 j1 => (hq2.1 j j0 j1).2.2)
        refine v_iconst (z := 1) C dX11_laysFront_26 rfl ?_
        refine v_istore_n (L1 := [(1, .int (iz (1))), (0, .ref (aa 0))]) C dX11_laysFront_27 (by decide) rfl ?_
        have K28 : ∀ (nK : Nat) (b : Int) (i : Int) (bm : Int → Int) (mL : Mem) (hst : SeC mL (loX Xx) (hiX Xx) b i) (hbm : BmOk (fun c => inB (loX Xx) (hiX Xx) c ∧ hoA fa (Rr 5) (Xx 0) (unZ c)) (weA fa (Rr 5) (Xx 0)) (fsA fa (Rr 5) (Xx 0)) i 512 bm) (hrw : (∀ x : Int, 0 ≤ x → x < 512 → (bm x = -1 ∧ mL 19 x = 0) ∨ (0 ≤ bm x ∧ mL 19 x = 1 ∧ ∀ j : Int, 0 ≤ j → j < 3 → mL 16 (3 * x + j) = unZ (bm x) j))) (h34L : mL 0 34 = Xx 0) (hbxL : BxOk mL (loX Xx) (hiX Xx)) (h0L : (∀ j : Int, j ≠ 34 → j ≠ 37 → j ≠ 38 → mL 0 j = m 0 j)) (hfL : (∀ q : Nat, q ≠ 0 → q ≠ 9 → q ≠ 10 → q ≠ 11 → q ≠ 13 → q ≠ 14 → q ≠ 16 → q ≠ 18 → q ≠ 19 → mL q = m q)), (4913 - i).toNat < nK → V E (wR D cy aa ad) 3 mL 28 [(0, .ref (aa 0)), (1, .int (iz (b)))] [] := by
          intro nK
          induction nK with
          | zero => intro b i bm mL hst hbm hrw h34L hbxL h0L hfL hn; exact absurd hn (Nat.not_lt_zero _)
          | succ nK ih28 =>
            intro b i bm mL hst hbm hrw h34L hbxL h0L hfL hn28
            obtain ⟨hb01, hi0, hi1⟩ := hst.b
            have fkL : FK m mL := ⟨fun j hj => h0L j (by unfold CKj at hj; omega) (by unfold CKj at hj; omega) (by unfold CKj at hj; omega), fun q hq => hfL q (by omega) (by omega) (by omega) (by omega) (by omega) (by omega) (by omega) (by omega) (by omega)⟩
            have hgL := fkL.rt hg
            refine v_iload_n C 1 dX11_laysFront_28 rfl ?_
            refine v_if_eq (tgt := 108) C dX11_laysFront_29 (by decide) (by omega) (fun c3 => ?_) (fun c3 => ?_)
            · refine v_aload_n C 0 dX11_laysFront_108 rfl ?_
              refine v_iconst (z := 0) C dX11_laysFront_109 rfl ?_
              refine v_put C 0 51 (0) 51 rfl lR0 (eR0 _) rfl inX11 tyX11 tyX11_ok nmX11 (by decide) qw1191 rfl rfl rfl (Nat.le_of_ble_eq_true rfl) (by rw [mup_r]; exact (eR0 _)) dX11_laysFront_110 (fun m4 em4 => ?_)
              refine v_iconst (z := 0) C dX11_laysFront_113 rfl ?_
              refine v_istore_n (L1 := [(2, .int (iz (0))), (0, .ref (aa 0)), (1, .int (iz (b)))]) C dX11_laysFront_114 (by decide) rfl ?_
              have K115 : ∀ (nK : Nat) (x : Int) (mD : Mem) (hx : 0 ≤ x ∧ x ≤ 512) (h51 : mD 0 51 = (frL (fsA fa (Rr 5) (Xx 0)) bm x.toNat).length) (h17 : ∀ (j : Nat) (q : Int), (frL (fsA fa (Rr 5) (Xx 0)) bm x.toNat)[j]? = some q → mD 17 j = weA fa (Rr 5) (Xx 0) q) (h0D : ∀ j : Int, j ≠ 37 → j ≠ 38 → j ≠ 51 → mD 0 j = mL 0 j) (hfD : ∀ q : Nat, q ≠ 0 → q ≠ 9 → q ≠ 10 → q ≠ 11 → q ≠ 17 → mD q = mL q), (512 - x).toNat < nK → V E (wR D cy aa ad) 3 mD 115 [(0, .ref (aa 0)), (2, .int (iz (x)))] [] := by
                intro nK
                induction nK with
                | zero => intro x mD hx h51 h17 h0D hfD hn; exact absurd hn (Nat.not_lt_zero _)
                | succ nK ih115 =>
                  intro x mD hx h51 h17 h0D hfD hn115
                  have fkD : FK m mD := fkL.tr (show FK mL mD from ⟨fun j hj => h0D j (by unfold CKj at hj; omega) (by unfold CKj at hj; omega) (by unfold CKj at hj; omega), fun q hq => hfD q (by omega) (by omega) (by omega) (by omega) (by omega)⟩)
                  have hgD := fkD.rt hg
                  obtain ⟨l, hl⟩ : ∃ l, l = frL (fsA fa (Rr 5) (Xx 0)) bm x.toNat := ⟨_, rfl⟩
                  have hll := frL_len (fsA fa (Rr 5) (Xx 0)) bm x.toNat
                  rw [← hl] at h51 h17 hll
                  have exN : ((x.toNat : Nat) : Int) = x := by omega
                  have exS : (x + 1).toNat = x.toNat + 1 := by omega
                  have hnx : (¬ (0 ≤ bm x ∧ ∀ b, l.getLast? = some b → (fsA fa (Rr 5) (Xx 0)) (bm x) b) ∧ frL (fsA fa (Rr 5) (Xx 0)) bm (x + 1).toNat = l) ∨ ((0 ≤ bm x ∧ ∀ b, l.getLast? = some b → (fsA fa (Rr 5) (Xx 0)) (bm x) b) ∧ frL (fsA fa (Rr 5) (Xx 0)) bm (x + 1).toNat = l ++ [bm x]) := by
                    by_cases z : 0 ≤ bm x ∧ ∀ b, l.getLast? = some b → (fsA fa (Rr 5) (Xx 0)) (bm x) b
                    · exact Or.inr ⟨z, by rw [exS, frL_y (by rw [exN, ← hl]; exact z), ← hl, exN]⟩
                    · exact Or.inl ⟨z, by rw [exS, frL_n (by rw [exN, ← hl]; exact z), ← hl]⟩
                  refine v_iload_n C 1 dX11_laysFront_115 rfl ?_
                  refine v_sipush (z := 512) C dX11_laysFront_116 (by decide) ?_
                  refine v_icmp_ge (tgt := 198) C dX11_laysFront_119 (by decide) (by omega) (by omega) (fun c5 => ?_) (fun c5 => ?_)
                  · refine v_vret C X dX11_laysFront_198 ⟨rfl, ?_⟩
                    have hbf : BmOk (fun c => inB (loX Xx) (hiX Xx) c ∧ hoA fa (Rr 5) (Xx 0) (unZ c)) (weA fa (Rr 5) (Xx 0)) (fsA fa (Rr 5) (Xx 0)) 4913 512 bm := by rw [← hst.end (by omega)]; exact hbm
                    refine ⟨⟨bm, l, hbf, by rw [hl, show x.toNat = 512 by omega], h51, by rw [h0D 34 (by decide) (by decide) (by decide)]; exact h34L, fun j q hj => ⟨h17 j q hj, fun s s0 s1 => ?_⟩⟩, fun j a1 a2 a3 a4 => by rw [h0D j a2 a3 a4]; exact h0L j a1 a2 a3, fun q a1 a2 a3 a4 a5 a6 a7 a8 a9 a10 => by rw [hfD q a1 a2 a3 a4 a8]; exact hfL q a1 a2 a3 a4 a5 a6 a7 a9 a10⟩
                    obtain ⟨x3, x30, x31, x32, x33⟩ := frL_mem (q := q) (M := x.toNat) (bm := bm) (fs := (fsA fa (Rr 5) (Xx 0))) (by rw [← hl]; exact List.mem_of_getElem? hj)
                    rw [hfD 16 (by decide) (by decide) (by decide) (by decide) (by decide)]
                    have hwq : weA fa (Rr 5) (Xx 0) q = x3 := by
                      rcases hbf x3 x30 (by omega) with ⟨y, -⟩ | ⟨-, -, y2, -⟩
                      · omega
                      · rw [x32]; exact y2
                    rw [hwq]
                    rcases hrw x3 x30 (by omega) with y | y
                    · omega
                    · rw [x32]; exact y.2.2 s s0 s1
                  · have K192 : ∀  (mE : Mem) (h51E : mE 0 51 = (frL (fsA fa (Rr 5) (Xx 0)) bm (x + 1).toNat).length) (h17E : ∀ (j : Nat) (q : Int), (frL (fsA fa (Rr 5) (Xx 0)) bm (x + 1).toNat)[j]? = some q → mE 17 j = weA fa (Rr 5) (Xx 0) q) (h0E : ∀ j : Int, j ≠ 37 → j ≠ 38 → j ≠ 51 → mE 0 j = mD 0 j) (hfE : ∀ q : Nat, q ≠ 0 → q ≠ 9 → q ≠ 10 → q ≠ 11 → q ≠ 17 → mE q = mD q), V E (wR D cy aa ad) 3 mE 192 [(0, .ref (aa 0)), (2, .int (iz (x)))] [] := by
                      intro  mE h51E h17E h0E hfE
                      refine v_iinc (L1 := [(2, .int (iz (x + 1))), (0, .ref (aa 0))]) C 1 dX11_laysFront_192 rfl (by decide) rfl ?_
                      refine v_goto (tgt := 115) C dX11_laysFront_195 (by decide) ?_
                      refine v_sub [1, 0] rfl ?_
                      exact ih115 (x + 1) mE (by omega) (by exact h51E) (by exact h17E) (by intro j a1 a2 a3; rw [h0E j a1 a2 a3]; exact h0D j a1 a2 a3) (by intro q a1 a2 a3 a4 a5; rw [hfE q a1 a2 a3 a4 a5]; exact hfD q a1 a2 a3 a4 a5) (by omega)
                    have hbf : BmOk (fun c => inB (loX Xx) (hiX Xx) c ∧ hoA fa (Rr 5) (Xx 0) (unZ c)) (weA fa (Rr 5) (Xx 0)) (fsA fa (Rr 5) (Xx 0)) 4913 512 bm := by rw [← hst.end (by omega)]; exact hbm
                    have hrx := hrw x (by omega) (by omega)
                    have e19D : mD 19 x = mL 19 x := by rw [hfD 19 (by decide) (by decide) (by decide) (by decide) (by decide)]
                    have hbx9 := hbf x (by omega) (by omega)
                    have hz9 : mD 19 x = 0 ∧ bm x = -1 ∨ mD 19 x = 1 ∧ 0 ≤ bm x := by
                      rw [e19D]; rcases hrx with y | y
                      · exact Or.inl ⟨y.2, y.1⟩
                      · exact Or.inr ⟨y.2.1, y.1⟩
                    refine v_aload_n C 0 dX11_laysFront_122 rfl ?_
                    refine v_get C 0 50 lR0 (eR0 _) rfl inX11 (by decide) rfl qw1190 dX11_laysFront_123 ?_
                    refine v_iload_n C 1 dX11_laysFront_126 rfl ?_
                    refine v_zald C 19 lR19 (eR19 _) (by decide) (by omega) dX11_laysFront_127 ?_
                    refine v_if_eq (tgt := 192) C dX11_laysFront_128 (by decide) (by omega) (fun c6 => ?_) (fun c6 => ?_)
                    · refine v_sub [0, 1] rfl ?_
                      exact K192   mD (by 
                                                first
                                                  | (rw [NO_em189, mup_s, NO_em181, mup_k _ _ _ (by decide), h51F, hfr2, List.length_append]; show (l.length : Int) + 1 = ((l.length + 1 : Nat) : Int); omega)
                                                  | (rcases hnx with ⟨y1, y2⟩ | ⟨y1, y2⟩
                                                     · rw [y2]; first | exact h51 | (rw [NO_q163.2.1 51 (by decide) (by decide)]; exact h51)
                                                     · exfalso
                                                       first
                                                         | omega
                                                         | (have z := cm_fs.mpr (y1.2 _ hlast); omega))
                                              ) (by 
                                                first
                                                  | (rw [NO_em189, mup_k _ _ _ (by decide), NO_em181, mup_r, hfr2, h51F]
                                                     intro j q hj
                                                     by_cases e : j < l.length
                                                     · rw [List.getElem?_append_left e] at hj; exact (if_neg (by omega)).trans (h17F j q hj)
                                                     · have ej : j = l.length := by have := (List.getElem?_eq_some_iff.mp hj).1; rw [List.length_append] at this; have : j < l.length + 1 := this; omega
                                                       subst ej
                                                       rw [List.getElem?_append_right (by omega), Nat.sub_self] at hj
                                                       cases hj
                                                       exact (if_pos rfl).trans hwx.symm)
                                                  | (rcases hnx with ⟨y1, y2⟩ | ⟨y1, y2⟩
                                                     · rw [y2]; first | exact h17 | (rw [NO_q163.2.2 17 (by decide) (by decide) (by decide) (by decide)]; exact h17)
                                                     · exfalso
                                                       first
                                                         | omega
                                                         | (have z := cm_fs.mpr (y1.2 _ hlast); omega))
                                              ) (by 
                                                first
                                                  | exact fun _ _ _ _ => rfl
                                                  | (intro j a1 a2 a3; exact NO_q163.2.1 j a1 a2)
                                                  | (intro j a1 a2 a3; rw [NO_em189, mup_j _ _ a3, NO_em181, mup_k _ _ _ (by decide)]; exact h0F j a1 a2)
                                              ) (by 
                                                first
                                                  | exact fun _ _ _ _ _ _ => rfl
                                                  | (intro q a1 a2 a3 a4 a5; exact NO_q163.2.2 q a1 a2 a3 a4)
                                                  | (intro q a1 a2 a3 a4 a5; rw [NO_em189, mup_k _ _ _ a1, NO_em181, mup_k _ _ _ a5]; exact hfF q a1 a2 a3 a4)
                                              )
                    · have hbxx : (0 ≤ bm x ∧ bm x < 4913) ∧ weA fa (Rr 5) (Xx 0) (bm x) = x := by
                        rcases hbx9 with ⟨y, -⟩ | ⟨y, -, y2, -⟩
                        · omega
                        · exact ⟨y, y2⟩
                      have hwx : weA fa (Rr 5) (Xx 0) (bm x) = x := hbxx.2
                      refine v_aload_n C 0 dX11_laysFront_131 rfl ?_
                      have K172 : ∀  (mF : Mem) (hfr2 : frL (fsA fa (Rr 5) (Xx 0)) bm (x + 1).toNat = l ++ [bm x]) (h51F : mF 0 51 = l.length) (h17F : ∀ (j : Nat) (q : Int), l[j]? = some q → mF 17 j = weA fa (Rr 5) (Xx 0) q) (h0F : ∀ j : Int, j ≠ 37 → j ≠ 38 → mF 0 j = mD 0 j) (hfF : ∀ q : Nat, q ≠ 0 → q ≠ 9 → q ≠ 10 → q ≠ 11 → mF q = mD q), V E (wR D cy aa ad) 3 mF 172 [(0, .ref (aa 0)), (2, .int (iz (x)))] [] := by
                        intro  mF hfr2 h51F h17F h0F hfF
                        refine v_aload_n C 0 dX11_laysFront_172 rfl ?_
                        refine v_get C 0 48 lR0 (eR0 _) rfl inX11 (by decide) rfl qw1188 dX11_laysFront_173 ?_
                        refine v_aload_n C 0 dX11_laysFront_176 rfl ?_
                        refine v_get C 0 51 lR0 (eR0 _) rfl inX11 (by decide) rfl qw1191 dX11_laysFront_177 ?_
                        refine v_iload_n C 1 dX11_laysFront_180 rfl ?_
                        refine v_iast C 17 lR17 eR17 (by decide) (by omega) dX11_laysFront_181 (fun m7 em7 => ?_)
                        refine v_aload_n C 0 dX11_laysFront_182 rfl ?_
                        refine v_dup C dX11_laysFront_183 rfl ?_
                        refine v_get C 0 51 lR0 (eR0 _) rfl inX11 (by decide) rfl qw1191 dX11_laysFront_184 ?_
                        refine v_iconst (z := 1) C dX11_laysFront_187 rfl ?_
                        refine v_iadd C dX11_laysFront_188 ?_
                        refine v_put C 0 51 ((m7 0 51) + 1) 51 rfl lR0 (eR0 _) rfl inX11 tyX11 tyX11_ok nmX11 (by decide) qw1191 rfl rfl rfl (Nat.le_of_ble_eq_true rfl) (by rw [mup_r]; exact (eR0 _)) dX11_laysFront_189 (fun m8 em8 => ?_)
                        refine v_sub [0, 1] rfl ?_
                        exact K192   m8 (by 
                                                    first
                                                      | (rw [em8, mup_s, em7, mup_k _ _ _ (by decide), h51F, hfr2, List.length_append]; show (l.length : Int) + 1 = ((l.length + 1 : Nat) : Int); omega)
                                                      | (rcases hnx with ⟨y1, y2⟩ | ⟨y1, y2⟩
                                                         · rw [y2]; first | exact h51 | (rw [NO_q163.2.1 51 (by decide) (by decide)]; exact h51)
                                                         · exfalso
                                                           first
                                                             | omega
                                                             | (have z := cm_fs.mpr (y1.2 _ hlast); omega))
                                                  ) (by 
                                                    first
                                                      | (rw [em8, mup_k _ _ _ (by decide), em7, mup_r, hfr2, h51F]
                                                         intro j q hj
                                                         by_cases e : j < l.length
                                                         · rw [List.getElem?_append_left e] at hj; exact (if_neg (by omega)).trans (h17F j q hj)
                                                         · have ej : j = l.length := by have := (List.getElem?_eq_some_iff.mp hj).1; rw [List.length_append] at this; have : j < l.length + 1 := this; omega
                                                           subst ej
                                                           rw [List.getElem?_append_right (by omega), Nat.sub_self] at hj
                                                           cases hj
                                                           exact (if_pos rfl).trans hwx.symm)
                                                      | (rcases hnx with ⟨y1, y2⟩ | ⟨y1, y2⟩
                                                         · rw [y2]; first | exact h17 | (rw [NO_q163.2.2 17 (by decide) (by decide) (by decide) (by decide)]; exact h17)
                                                         · exfalso
                                                           first
                                                             | omega
                                                             | (have z := cm_fs.mpr (y1.2 _ hlast); omega))
                                                  ) (by 
                                                    first
                                                      | exact fun _ _ _ _ => rfl
                                                      | (intro j a1 a2 a3; exact NO_q163.2.1 j a1 a2)
                                                      | (intro j a1 a2 a3; rw [em8, mup_j _ _ a3, em7, mup_k _ _ _ (by decide)]; exact h0F j a1 a2)
                                                  ) (by 
                                                    first
                                                      | exact fun _ _ _ _ _ _ => rfl
                                                      | (intro q a1 a2 a3 a4 a5; exact NO_q163.2.2 q a1 a2 a3 a4)
                                                      | (intro q a1 a2 a3 a4 a5; rw [em8, mup_k _ _ _ a1, em7, mup_k _ _ _ a5]; exact hfF q a1 a2 a3 a4)
                                                  )
                      refine v_get C 0 51 lR0 (eR0 _) rfl inX11 (by decide) rfl qw1191 dX11_laysFront_132 ?_
                      refine v_if_le (tgt := 172) C dX11_laysFront_135 (by decide) (by omega) (fun c9 => ?_) (fun c9 => ?_)
                      · refine v_sub [0, 1] rfl ?_
                        exact K172   mD (by 
                                                    rcases hnx with ⟨y1, y2⟩ | ⟨y1, y2⟩
                                                    · exfalso
                                                      first
                                                        | exact y1 ⟨by omega, fun b hb => by rw [hlast] at hb; cases hb; exact cm_fs.mp (by omega)⟩
                                                        | (have e0 : l = [] := List.length_eq_zero_iff.mp (by omega)
                                                           exact y1 ⟨by omega, fun b hb => by rw [e0] at hb; cases hb⟩)
                                                    · exact y2
                                                  ) (by first | (rw [NO_q163.2.1 51 (by decide) (by decide)]; exact h51) | exact h51) (by first | (rw [NO_q163.2.2 17 (by decide) (by decide) (by decide) (by decide)]; exact h17) | exact h17) (by first | exact NO_q163.2.1 | exact fun _ _ _ => rfl) (by first | exact NO_q163.2.2 | exact fun _ _ _ _ _ => rfl)
                      · obtain ⟨q0, hq0⟩ : ∃ q, l[l.length - 1]? = some q := ⟨_, List.getElem?_eq_getElem (by omega)⟩
                        have eq0 : mD 17 (mD 0 51 - 1) = weA fa (Rr 5) (Xx 0) q0 := by rw [show mD 0 51 - 1 = ((l.length - 1 : Nat) : Int) by omega]; exact h17 _ q0 hq0
                        have hlast : l.getLast? = some q0 := by rw [← hq0]; exact List.getLast?_eq_getElem? ..
                        obtain ⟨x3, x30, x31, x32, x33⟩ := frL_mem (q := q0) (M := x.toNat) (bm := bm) (fs := (fsA fa (Rr 5) (Xx 0))) (by rw [← hl]; exact List.mem_of_getElem? hq0)
                        have hq0r : (0 ≤ q0 ∧ q0 < 4913) ∧ weA fa (Rr 5) (Xx 0) q0 = x3 := by
                          rcases hbf x3 x30 (by omega) with ⟨y, -⟩ | ⟨y, -, y2, -⟩
                          · omega
                          · rw [x32]; exact ⟨y, y2⟩
                        refine v_aload_n C 0 dX11_laysFront_138 rfl ?_
                        refine v_aload_n C 0 dX11_laysFront_139 rfl ?_
                        refine v_get C 0 47 lR0 (eR0 _) rfl inX11 (by decide) rfl qw1187 dX11_laysFront_140 ?_
                        refine v_iconst (z := 3) C dX11_laysFront_143 rfl ?_
                        refine v_iload_n C 1 dX11_laysFront_144 rfl ?_
                        refine v_imul C dX11_laysFront_145 ?_
                        refine v_aload_n C 0 dX11_laysFront_146 rfl ?_
                        refine v_get C 0 47 lR0 (eR0 _) rfl inX11 (by decide) rfl qw1187 dX11_laysFront_147 ?_
                        refine v_iconst (z := 3) C dX11_laysFront_150 rfl ?_
                        refine v_aload_n C 0 dX11_laysFront_151 rfl ?_
                        refine v_get C 0 48 lR0 (eR0 _) rfl inX11 (by decide) rfl qw1188 dX11_laysFront_152 ?_
                        refine v_aload_n C 0 dX11_laysFront_155 rfl ?_
                        refine v_get C 0 51 lR0 (eR0 _) rfl inX11 (by decide) rfl qw1191 dX11_laysFront_156 ?_
                        refine v_iconst (z := 1) C dX11_laysFront_159 rfl ?_
                        refine v_isub C dX11_laysFront_160 ?_
                        refine v_iald C 17 lR17 (eR17 _) (by decide) (by omega) dX11_laysFront_161 ?_
                        refine v_imul C dX11_laysFront_162 ?_
                        refine v_callV (st := []) (n := 4) (q := 0) C [.ref (aa 16), .int (iz (3 * x)), .ref (aa 16), .int (iz (3 * (mD 17 ((mD 0 51) - 1))))] (ct_StageRatiosModel_comparesSpeeds C.2.2.2.2.2.2.1 mD (fa) (Af) (Bf) (Cf) (Rr) (Xx) (16) (1536) (16) (1536) (3 * x) (3 * (mD 17 ((mD 0 51) - 1))) (Xx 0) (unZ (bm x)) (unZ q0) (by exact hgD) ⟨lR16, by decide, eR16⟩ ⟨lR16, by decide, eR16⟩ (by decide) (by decide) (by omega) (by rw [eq0, hq0r.2]; omega) (by rw [h0D 34 (by decide) (by decide) (by decide)]; exact h34L) (by exact un_dv hn hX.1 hbxx.1.1 hbxx.1.2) (by exact un_dv hn hX.1 hq0r.1.1 hq0r.1.2) (by 
                                                      intro j j0 j1; rw [hfD 16 (by decide) (by decide) (by decide) (by decide) (by decide)]; rcases hrx with y | y
                                                      · omega
                                                      · exact y.2.2 j j0 j1
                                                  ) (by 
                                                      intro j j0 j1; rw [eq0, hq0r.2, hfD 16 (by decide) (by decide) (by decide) (by decide) (by decide)]; rcases hrw x3 x30 (by omega) with y | y
                                                      · omega
                                                      · rw [x32]; exact y.2.2 j j0 j1
                                                  )) lR0 (eR0 _) rfl qw1646 qw16 qw1643 rfl rfl ⟨Nat.le_of_ble_eq_true rfl, Nat.le_of_ble_eq_true rfl⟩ (by decide +kernel) qw1645 qp85 rfl rfl (Nat.le_of_ble_eq_true rfl) dX11_laysFront_163 (fun r m10 hq10 => ?_)
                        obtain ⟨z10, rfl, rfl, hq10⟩ := hq10
                        show V E (wR D cy aa ad) 3 m10 166 [(0, .ref (aa 0)), (2, .int (iz (x)))] [.int (iz (cmZ (spT fa (Rr 5) (Xx 0) (unZ (bm x))) (spT fa (Rr 5) (Xx 0) (unZ q0))))]
                        have hcr := cmZ_rng (spT fa (Rr 5) (Xx 0) (unZ (bm x))) (spT fa (Rr 5) (Xx 0) (unZ q0))
                        refine v_if_gt (tgt := 172) C dX11_laysFront_166 (by decide) (by omega) (fun c11 => ?_) (fun c11 => ?_)
                        · refine v_sub [0, 1] rfl ?_
                          exact K172   m10 (by 
                                                        rcases hnx with ⟨y1, y2⟩ | ⟨y1, y2⟩
                                                        · exfalso
                                                          first
                                                            | exact y1 ⟨by omega, fun b hb => by rw [hlast] at hb; cases hb; exact cm_fs.mp (by omega)⟩
                                                            | (have e0 : l = [] := List.length_eq_zero_iff.mp (by omega)
                                                               exact y1 ⟨by omega, fun b hb => by rw [e0] at hb; cases hb⟩)
                                                        · exact y2
                                                      ) (by first | (rw [hq10.2.1 51 (by decide) (by decide)]; exact h51) | exact h51) (by first | (rw [hq10.2.2 17 (by decide) (by decide) (by decide) (by decide)]; exact h17) | exact h17) (by first | exact hq10.2.1 | exact fun _ _ _ => rfl) (by first | exact hq10.2.2 | exact fun _ _ _ _ _ => rfl)
                        · refine v_goto (tgt := 192) C dX11_laysFront_169 (by decide) ?_
                          refine v_sub [0, 1] rfl ?_
                          exact K192   m10 (by 
                                                        first
                                                          | (rw [NO_em189, mup_s, NO_em181, mup_k _ _ _ (by decide), h51F, hfr2, List.length_append]; show (l.length : Int) + 1 = ((l.length + 1 : Nat) : Int); omega)
                                                          | (rcases hnx with ⟨y1, y2⟩ | ⟨y1, y2⟩
                                                             · rw [y2]; first | exact h51 | (rw [hq10.2.1 51 (by decide) (by decide)]; exact h51)
                                                             · exfalso
                                                               first
                                                                 | omega
                                                                 | (have z := cm_fs.mpr (y1.2 _ hlast); omega))
                                                      ) (by 
                                                        first
                                                          | (rw [NO_em189, mup_k _ _ _ (by decide), NO_em181, mup_r, hfr2, h51F]
                                                             intro j q hj
                                                             by_cases e : j < l.length
                                                             · rw [List.getElem?_append_left e] at hj; exact (if_neg (by omega)).trans (h17F j q hj)
                                                             · have ej : j = l.length := by have := (List.getElem?_eq_some_iff.mp hj).1; rw [List.length_append] at this; have : j < l.length + 1 := this; omega
                                                               subst ej
                                                               rw [List.getElem?_append_right (by omega), Nat.sub_self] at hj
                                                               cases hj
                                                               exact (if_pos rfl).trans hwx.symm)
                                                          | (rcases hnx with ⟨y1, y2⟩ | ⟨y1, y2⟩
                                                             · rw [y2]; first | exact h17 | (rw [hq10.2.2 17 (by decide) (by decide) (by decide) (by decide)]; exact h17)
                                                             · exfalso
                                                               first
                                                                 | omega
                                                                 | (have z := cm_fs.mpr (y1.2 _ hlast); omega))
                                                      ) (by 
                                                        first
                                                          | exact fun _ _ _ _ => rfl
                                                          | (intro j a1 a2 a3; exact hq10.2.1 j a1 a2)
                                                          | (intro j a1 a2 a3; rw [NO_em189, mup_j _ _ a3, NO_em181, mup_k _ _ _ (by decide)]; exact h0F j a1 a2)
                                                      ) (by 
                                                        first
                                                          | exact fun _ _ _ _ _ _ => rfl
                                                          | (intro q a1 a2 a3 a4 a5; exact hq10.2.2 q a1 a2 a3 a4)
                                                          | (intro q a1 a2 a3 a4 a5; rw [NO_em189, mup_k _ _ _ a1, NO_em181, mup_k _ _ _ a5]; exact hfF q a1 a2 a3 a4)
                                                      )
              refine v_sub [1, 0] rfl ?_
              exact K115 _ (0) m4 (by omega) (by rw [em4, mup_s]; rfl) (by intro j q h; cases h) (by intro j a1 a2 a3; rw [em4, mup_j _ _ a3]) (by intro q a1 _ _ _ _; rw [em4, mup_k _ _ _ a1]) (Nat.lt_succ_self _)
            · have hatL := hst.at (by omega)
              have hdL := hatL.dt hn hX.1 h34L
              have hwr := we_rng hF hn hX.1 hatL.1.1 hatL.1.2
              refine v_aload_n C 0 dX11_laysFront_32 rfl ?_
              refine v_iconst (z := 0) C dX11_laysFront_33 rfl ?_
              refine v_callV (st := []) (n := 1) (q := 0) C [.int (iz (0))] (ct_StageRatiosModel_start C.2.2.2.2.2.2.1 mL (fa) (Af) (Bf) (Cf) (Rr) (Xx) (Xx 0) (unZ i) (0) (by exact hgL) (by exact hdL) (by first | assumption | omega)) lR0 (eR0 _) rfl qw1480 qw16 qw1477 rfl rfl ⟨Nat.le_of_ble_eq_true rfl, Nat.le_of_ble_eq_true rfl⟩ (by decide +kernel) qw1479 qp60 rfl rfl (Nat.le_of_ble_eq_true rfl) dX11_laysFront_34 (fun r m12 hq12 => ?_)
              obtain ⟨z12, rfl, rfl, rfl⟩ := hq12
              show V E (wR D cy aa ad) 3 mL 37 [(0, .ref (aa 0)), (1, .int (iz (b)))] [.int (iz (stZ fa (Rr 5) (Xx 0) (unZ i) 0))]
              refine v_st (st1 := [.int (iz (weA fa (Rr 5) (Xx 0) i))]) (by rfl) ?_
              refine v_istore_n (L1 := [(2, .int (iz (weA fa (Rr 5) (Xx 0) i))), (0, .ref (aa 0)), (1, .int (iz (b)))]) C dX11_laysFront_37 (by decide) rfl ?_
              have K100 : ∀ (bn : Int → Int) (mK : Mem) (hbn : BmOk (fun c => inB (loX Xx) (hiX Xx) c ∧ hoA fa (Rr 5) (Xx 0) (unZ c)) (weA fa (Rr 5) (Xx 0)) (fsA fa (Rr 5) (Xx 0)) (i + 1) 512 bn) (hrn : (∀ x : Int, 0 ≤ x → x < 512 → (bn x = -1 ∧ mK 19 x = 0) ∨ (0 ≤ bn x ∧ mK 19 x = 1 ∧ ∀ j : Int, 0 ≤ j → j < 3 → mK 16 (3 * x + j) = unZ (bn x) j))) (h9K : ∀ j : Int, 0 ≤ j → j < 3 → mK 9 j = unZ i j) (h0K : ∀ j : Int, j ≠ 37 → j ≠ 38 → mK 0 j = mL 0 j) (hfK : ∀ q : Nat, q ≠ 0 → q ≠ 9 → q ≠ 10 → q ≠ 11 → q ≠ 16 → q ≠ 18 → q ≠ 19 → mK q = mL q), V E (wR D cy aa ad) 3 mK 100 [(0, .ref (aa 0))] [] := by
                intro bn mK hbn hrn h9K h0K hfK
                refine v_aload_n C 0 dX11_laysFront_100 rfl ?_
                refine v_callV (st := []) (n := 0) (q := 0) C [] (ct_StageRatiosModel_goesOn C.2.2.2.2.2.2.1 mK (loX Xx) (hiX Xx) (i) (by exact hbxL.fr (hfK 13 (by decide) (by decide) (by decide) (by decide) (by decide) (by decide) (by decide)) (hfK 14 (by decide) (by decide) (by decide) (by decide) (by decide) (by decide) (by decide))) (by exact ⟨hatL.1, hatL.2.1, h9K⟩)) lR0 (eR0 _) rfl qw1598 qw16 qw1595 rfl rfl ⟨Nat.le_of_ble_eq_true rfl, Nat.le_of_ble_eq_true rfl⟩ (by decide +kernel) qw1597 qp80 rfl rfl (Nat.le_of_ble_eq_true rfl) dX11_laysFront_101 (fun r m13 hq13 => ?_)
                obtain ⟨z13, rfl, hq13, hm13⟩ := hq13
                show V E (wR D cy aa ad) 3 m13 104 [(0, .ref (aa 0))] [.int (iz (z13))]
                obtain ⟨n2x, hn2a, hst2, hsk2⟩ := hq13
                have hb2 := hst2.b
                refine v_istore_n (L1 := [(1, .int (iz (z13))), (0, .ref (aa 0))]) C dX11_laysFront_104 (by decide) rfl ?_
                refine v_goto (tgt := 28) C dX11_laysFront_105 (by decide) ?_
                refine v_sub [1, 0] rfl ?_
                exact ih28 (z13) (n2x) (bn) m13 (by exact hst2) (by exact hbn.to (by omega) (fun c c0 c1 h => hsk2 c (by omega) c1 h.1)) (by intro x x0 x1; rw [hm13 19 (by decide), hm13 16 (by decide)]; exact hrn x x0 x1) (by rw [hm13 0 (by decide), h0K 34 (by decide) (by decide)]; exact h34L) (by exact hbxL.fr (by rw [hm13 13 (by decide)]; exact hfK 13 (by decide) (by decide) (by decide) (by decide) (by decide) (by decide) (by decide)) (by rw [hm13 14 (by decide)]; exact hfK 14 (by decide) (by decide) (by decide) (by decide) (by decide) (by decide) (by decide))) (by intro j a1 a2 a3; rw [hm13 0 (by decide), h0K j a2 a3]; exact h0L j a1 a2 a3) (by intro q a1 a2 a3 a4 a5 a6 a7 a8 a9; rw [hm13 q a2, hfK q a1 a2 a3 a4 a7 a8 a9]; exact hfL q a1 a2 a3 a4 a5 a6 a7 a8 a9) (by omega)
              refine v_aload_n C 1 dX11_laysFront_38 rfl ?_
              refine v_callV (st := []) (n := 0) (q := 0) C [] (ct_StageRatiosModel_allHold C.2.2.2.2.2.2.1 mL (fa) (Af) (Bf) (Cf) (Rr) (Xx) (Xx 0) (unZ i) (by exact hgL) (by exact hdL)) lR0 (eR0 _) rfl qw1557 qw16 qw1554 rfl rfl ⟨Nat.le_of_ble_eq_true rfl, Nat.le_of_ble_eq_true rfl⟩ (by decide +kernel) qw1556 qp73 rfl rfl (Nat.le_of_ble_eq_true rfl) dX11_laysFront_39 (fun r m14 hq14 => ?_)
              obtain ⟨z14, rfl, ⟨rfl, hq14, rfl⟩ | ⟨rfl, hq14, rfl⟩⟩ := hq14
              · show V E (wR D cy aa ad) 3 mL 42 [(2, .int (iz (weA fa (Rr 5) (Xx 0) i))), (0, .ref (aa 0)), (1, .int (iz (b)))] [.int (iz (1))]
                have hcti : (fun c => inB (loX Xx) (hiX Xx) c ∧ hoA fa (Rr 5) (Xx 0) (unZ c)) i := ⟨hatL.2.1, hq14⟩
                refine v_if_eq (tgt := 100) C dX11_laysFront_42 (by decide) (by omega) (fun c15 => by exact absurd c15 (by decide)) (fun c15 => ?_)
                refine v_aload_n C 1 dX11_laysFront_45 rfl ?_
                refine v_aload_n C 1 dX11_laysFront_46 rfl ?_
                refine v_get C 0 49 lR0 (eR0 _) rfl inX11 (by decide) rfl qw1189 dX11_laysFront_47 ?_
                refine v_iconst (z := 0) C dX11_laysFront_50 rfl ?_
                refine v_callV (st := []) (n := 2) (q := 0) C [.ref (aa 18), .int (iz (0))] (ct_StageRatiosModel_puts C.2.2.2.2.2.2.1 mL (18) (3) (0) ⟨lR18, by decide, eR18⟩ (by first | assumption | omega) (by first | assumption | omega)) lR0 (eR0 _) rfl qw1642 qw16 qw1639 rfl rfl ⟨Nat.le_of_ble_eq_true rfl, Nat.le_of_ble_eq_true rfl⟩ (by decide +kernel) qw1641 qp84 rfl rfl (Nat.le_of_ble_eq_true rfl) dX11_laysFront_51 (fun r m16 hq16 => ?_)
                obtain ⟨rfl, hq16⟩ := hq16
                show V E (wR D cy aa ad) 3 m16 54 [(2, .int (iz (weA fa (Rr 5) (Xx 0) i))), (0, .ref (aa 0)), (1, .int (iz (b)))] []
                have hf51 : ∀ q : Nat, q ≠ 18 → m16 q = mL q := hq16.2
                have h051 : ∀ j : Int, m16 0 j = mL 0 j := fun j => by rw [hf51 0 (by decide)]
                have h951 : ∀ j : Int, 0 ≤ j → j < 3 → m16 9 j = unZ i j := by rw [hf51 9 (by decide)]; exact hatL.2.2
                have hr18 : ∀ j : Int, 0 ≤ j → j < 3 → m16 18 (0 + j) = unZ i j := fun j j0 j1 => by rw [hq16.1, if_pos (by omega), show 0 + j - 0 = j by omega]; exact hatL.2.2 j j0 j1
                have hrwi := hrw (weA fa (Rr 5) (Xx 0) i) (by omega) (by omega)
                have e1951 : m16 19 (weA fa (Rr 5) (Xx 0) i) = mL 19 (weA fa (Rr 5) (Xx 0) i) := by rw [hf51 19 (by decide)]
                have hg51 : RT m16 fa Af Bf Cf Rr Xx := hgL.fr (fun j _ => h051 j) (hf51 1 (by decide)) (hf51 2 (by decide)) (hf51 6 (by decide))
                have hbmr : bm (weA fa (Rr 5) (Xx 0) i) = -1 ∨ (0 ≤ bm (weA fa (Rr 5) (Xx 0) i) ∧ bm (weA fa (Rr 5) (Xx 0) i) < 4913) := by
                  rcases hbm _ (show 0 ≤ weA fa (Rr 5) (Xx 0) i by omega) (by omega) with ⟨y, -⟩ | ⟨y, -⟩
                  · exact Or.inl y
                  · exact Or.inr ⟨y.1, by omega⟩
                refine v_aload_n C 1 dX11_laysFront_54 rfl ?_
                refine v_get C 0 50 lR0 (eR0 _) rfl inX11 (by decide) rfl qw1190 dX11_laysFront_55 ?_
                refine v_iload_n C 0 dX11_laysFront_58 rfl ?_
                refine v_zald C 19 lR19 (eR19 _) (by decide) (by omega) dX11_laysFront_59 ?_
                have K82 : ∀  (mN : Mem) (hbt : bm (weA fa (Rr 5) (Xx 0) i) < 0 ∨ fsA fa (Rr 5) (Xx 0) i (bm (weA fa (Rr 5) (Xx 0) i))) (h9N : ∀ j : Int, 0 ≤ j → j < 3 → mN 9 j = unZ i j) (h0N : ∀ j : Int, j ≠ 37 → j ≠ 38 → mN 0 j = mL 0 j) (hfN : ∀ q : Nat, q ≠ 0 → q ≠ 9 → q ≠ 10 → q ≠ 11 → q ≠ 18 → mN q = mL q), V E (wR D cy aa ad) 3 mN 82 [(0, .ref (aa 0)), (1, .int (iz (b))), (2, .int (iz (weA fa (Rr 5) (Xx 0) i)))] [] := by
                  intro  mN hbt h9N h0N hfN
                  refine v_aload_n C 0 dX11_laysFront_82 rfl ?_
                  refine v_aload_n C 0 dX11_laysFront_83 rfl ?_
                  refine v_get C 0 47 lR0 (eR0 _) rfl inX11 (by decide) rfl qw1187 dX11_laysFront_84 ?_
                  refine v_iconst (z := 3) C dX11_laysFront_87 rfl ?_
                  refine v_iload_n C 2 dX11_laysFront_88 rfl ?_
                  refine v_imul C dX11_laysFront_89 ?_
                  refine v_callV (st := []) (n := 2) (q := 0) C [.ref (aa 16), .int (iz (3 * (weA fa (Rr 5) (Xx 0) i)))] (ct_StageRatiosModel_puts C.2.2.2.2.2.2.1 mN (16) (1536) (3 * (weA fa (Rr 5) (Xx 0) i)) ⟨lR16, by decide, eR16⟩ (by decide) (by omega)) lR0 (eR0 _) rfl qw1642 qw16 qw1639 rfl rfl ⟨Nat.le_of_ble_eq_true rfl, Nat.le_of_ble_eq_true rfl⟩ (by decide +kernel) qw1641 qp84 rfl rfl (Nat.le_of_ble_eq_true rfl) dX11_laysFront_90 (fun r m17 hq17 => ?_)
                  obtain ⟨rfl, hq17⟩ := hq17
                  show V E (wR D cy aa ad) 3 m17 93 [(0, .ref (aa 0)), (1, .int (iz (b))), (2, .int (iz (weA fa (Rr 5) (Xx 0) i)))] []
                  have K93 : ∀ (bo : Int → Int) (mP : Mem) (hbo : BmOk (fun c => inB (loX Xx) (hiX Xx) c ∧ hoA fa (Rr 5) (Xx 0) (unZ c)) (weA fa (Rr 5) (Xx 0)) (fsA fa (Rr 5) (Xx 0)) (i + 1) 512 bo) (hro9 : ∀ x : Int, 0 ≤ x → x < 512 → (bo x = -1 ∧ x ≠ weA fa (Rr 5) (Xx 0) i ∧ mP 19 x = 0) ∨ (0 ≤ bo x ∧ (x = weA fa (Rr 5) (Xx 0) i ∨ mP 19 x = 1) ∧ ∀ j : Int, 0 ≤ j → j < 3 → mP 16 (3 * x + j) = unZ (bo x) j)) (h9P : ∀ j : Int, 0 ≤ j → j < 3 → mP 9 j = unZ i j) (h0P : ∀ j : Int, j ≠ 37 → j ≠ 38 → mP 0 j = mL 0 j) (hfP : ∀ q : Nat, q ≠ 0 → q ≠ 9 → q ≠ 10 → q ≠ 11 → q ≠ 16 → q ≠ 18 → q ≠ 19 → mP q = mL q), V E (wR D cy aa ad) 3 mP 93 [(0, .ref (aa 0)), (1, .int (iz (b))), (2, .int (iz (weA fa (Rr 5) (Xx 0) i)))] [] := by
                    intro bo mP hbo hro9 h9P h0P hfP
                    refine v_aload_n C 0 dX11_laysFront_93 rfl ?_
                    refine v_get C 0 50 lR0 (eR0 _) rfl inX11 (by decide) rfl qw1190 dX11_laysFront_94 ?_
                    refine v_iload_n C 2 dX11_laysFront_97 rfl ?_
                    refine v_iconst (z := 1) C dX11_laysFront_98 rfl ?_
                    refine v_zast C 19 lR19 eR19 (by decide) (by omega) (by decide) dX11_laysFront_99 (fun m18 em18 => ?_)
                    refine v_sub [0] rfl ?_
                    exact K100  (bo) m18 (by 
                                            first
                                              | exact hbm.skip (fun y => hq14 y.2)
                                              | exact hbo
                                          ) (by 
                                            first
                                              | exact hrw
                                              | (intro x x0 x1
                                                 have y := hro9 x x0 x1
                                                 rw [em18, mup_k _ _ _ (show (16 : Nat) ≠ 19 by decide), mup_r]
                                                 rcases y with ⟨y1, y2, y3⟩ | ⟨y1, y2, y3⟩
                                                 · exact Or.inl ⟨y1, (if_neg y2).trans y3⟩
                                                 · refine Or.inr ⟨y1, ?_, y3⟩
                                                   by_cases e : x = weA fa (Rr 5) (Xx 0) i
                                                   · exact if_pos e
                                                   · exact (if_neg e).trans (y2.resolve_left e))
                                          ) (by first | exact hatL.2.2 | (rw [em18, mup_k _ _ _ (by decide)]; exact h9P)) (by first | exact fun _ _ _ => rfl | (intro j a1 a2; rw [em18, mup_k _ _ _ (by decide)]; exact h0P j a1 a2)) (by first | exact fun _ _ _ _ _ _ _ _ => rfl | (intro q a1 a2 a3 a4 a5 a6 a7; rw [em18, mup_k _ _ _ a7]; exact hfP q a1 a2 a3 a4 a5 a6 a7))
                  refine v_sub [0, 1, 2] rfl ?_
                  exact K93 ((fun x => if x = weA fa (Rr 5) (Xx 0) i then i else bm x)) m17 (by 
                                        first
                                          | exact hbm.keep (by omega) (fun y => by have := cm_fs.mpr y; omega)
                                          | exact hbm.new hord hcti hi0 hatL.1.2 hbt (if_pos rfl) (fun x h => if_neg h)
                                      ) (by 
                                        intro x x0 x1
                                        have y := hrw x x0 x1
                                        by_cases e : x = weA fa (Rr 5) (Xx 0) i
                                        · first
                                            | (refine Or.inr ⟨?_, Or.inl e, fun j j0 j1 => ?_⟩
                                               · show 0 ≤ (if x = weA fa (Rr 5) (Xx 0) i then i else bm x); rw [if_pos e]; exact hi0
                                               · show _ = unZ (if x = weA fa (Rr 5) (Xx 0) i then i else bm x) j
                                                 rw [if_pos e, hq17.1, if_pos (by omega), show 3 * x + j - 3 * weA fa (Rr 5) (Xx 0) i = j by omega]; exact h9N j j0 j1)
                                            | (rcases y with y | y
                                               · rw [e] at y; omega
                                               · exact Or.inr ⟨y.1, Or.inl e, fun j j0 j1 => by rw [NO_q76.2.2 16 (by decide) (by decide) (by decide) (by decide), hf51 16 (by decide)]; exact y.2.2 j j0 j1⟩)
                                        · first
                                            | (have e19 : m17 19 x = mL 19 x := by rw [hq17.2 19 (by decide), hfN 19 (by decide) (by decide) (by decide) (by decide) (by decide)]
                                               rcases y with y | y
                                               · exact Or.inl ⟨(if_neg e).trans y.1, e, by rw [e19]; exact y.2⟩
                                               · refine Or.inr ⟨?_, Or.inr (by rw [e19]; exact y.2.1), fun j j0 j1 => ?_⟩
                                                 · show 0 ≤ (if x = weA fa (Rr 5) (Xx 0) i then i else bm x); rw [if_neg e]; exact y.1
                                                 · show _ = unZ (if x = weA fa (Rr 5) (Xx 0) i then i else bm x) j
                                                   rw [if_neg e, hq17.1, if_neg (by omega), hfN 16 (by decide) (by decide) (by decide) (by decide) (by decide)]; exact y.2.2 j j0 j1)
                                            | (have e19 : NO_m76 19 x = mL 19 x := by rw [NO_q76.2.2 19 (by decide) (by decide) (by decide) (by decide), hf51 19 (by decide)]
                                               rcases y with y | y
                                               · exact Or.inl ⟨y.1, e, by rw [e19]; exact y.2⟩
                                               · exact Or.inr ⟨y.1, Or.inr (by rw [e19]; exact y.2.1), fun j j0 j1 => by rw [NO_q76.2.2 16 (by decide) (by decide) (by decide) (by decide), hf51 16 (by decide)]; exact y.2.2 j j0 j1⟩)
                                      ) (by first | (intro j j0 j1; rw [hq17.2 9 (by decide)]; exact h9N j j0 j1) | exact NO_q76.1) (by first | (intro j a1 a2; rw [hq17.2 0 (by decide)]; exact h0N j a1 a2) | (intro j a1 a2; rw [NO_q76.2.1 j a1 a2]; exact h051 j)) (by first | (intro q a1 a2 a3 a4 a5 a6 a7; rw [hq17.2 q a5]; exact hfN q a1 a2 a3 a4 a6) | (intro q a1 a2 a3 a4 a5 a6 a7; rw [NO_q76.2.2 q a1 a2 a3 a4]; exact hf51 q a6))
                have K93 : ∀ (bo : Int → Int) (mP : Mem) (hbo : BmOk (fun c => inB (loX Xx) (hiX Xx) c ∧ hoA fa (Rr 5) (Xx 0) (unZ c)) (weA fa (Rr 5) (Xx 0)) (fsA fa (Rr 5) (Xx 0)) (i + 1) 512 bo) (hro9 : ∀ x : Int, 0 ≤ x → x < 512 → (bo x = -1 ∧ x ≠ weA fa (Rr 5) (Xx 0) i ∧ mP 19 x = 0) ∨ (0 ≤ bo x ∧ (x = weA fa (Rr 5) (Xx 0) i ∨ mP 19 x = 1) ∧ ∀ j : Int, 0 ≤ j → j < 3 → mP 16 (3 * x + j) = unZ (bo x) j)) (h9P : ∀ j : Int, 0 ≤ j → j < 3 → mP 9 j = unZ i j) (h0P : ∀ j : Int, j ≠ 37 → j ≠ 38 → mP 0 j = mL 0 j) (hfP : ∀ q : Nat, q ≠ 0 → q ≠ 9 → q ≠ 10 → q ≠ 11 → q ≠ 16 → q ≠ 18 → q ≠ 19 → mP q = mL q), V E (wR D cy aa ad) 3 mP 93 [(0, .ref (aa 0)), (1, .int (iz (b))), (2, .int (iz (weA fa (Rr 5) (Xx 0) i)))] [] := by
                  intro bo mP hbo hro9 h9P h0P hfP
                  refine v_aload_n C 0 dX11_laysFront_93 rfl ?_
                  refine v_get C 0 50 lR0 (eR0 _) rfl inX11 (by decide) rfl qw1190 dX11_laysFront_94 ?_
                  refine v_iload_n C 2 dX11_laysFront_97 rfl ?_
                  refine v_iconst (z := 1) C dX11_laysFront_98 rfl ?_
                  refine v_zast C 19 lR19 eR19 (by decide) (by omega) (by decide) dX11_laysFront_99 (fun m19 em19 => ?_)
                  refine v_sub [0] rfl ?_
                  exact K100  (bo) m19 (by 
                                        first
                                          | exact hbm.skip (fun y => hq14 y.2)
                                          | exact hbo
                                      ) (by 
                                        first
                                          | exact hrw
                                          | (intro x x0 x1
                                             have y := hro9 x x0 x1
                                             rw [em19, mup_k _ _ _ (show (16 : Nat) ≠ 19 by decide), mup_r]
                                             rcases y with ⟨y1, y2, y3⟩ | ⟨y1, y2, y3⟩
                                             · exact Or.inl ⟨y1, (if_neg y2).trans y3⟩
                                             · refine Or.inr ⟨y1, ?_, y3⟩
                                               by_cases e : x = weA fa (Rr 5) (Xx 0) i
                                               · exact if_pos e
                                               · exact (if_neg e).trans (y2.resolve_left e))
                                      ) (by first | exact hatL.2.2 | (rw [em19, mup_k _ _ _ (by decide)]; exact h9P)) (by first | exact fun _ _ _ => rfl | (intro j a1 a2; rw [em19, mup_k _ _ _ (by decide)]; exact h0P j a1 a2)) (by first | exact fun _ _ _ _ _ _ _ _ => rfl | (intro q a1 a2 a3 a4 a5 a6 a7; rw [em19, mup_k _ _ _ a7]; exact hfP q a1 a2 a3 a4 a5 a6 a7))
                have hz19 : m16 19 (weA fa (Rr 5) (Xx 0) i) = 0 ∧ bm (weA fa (Rr 5) (Xx 0) i) = -1 ∨ m16 19 (weA fa (Rr 5) (Xx 0) i) = 1 ∧ 0 ≤ bm (weA fa (Rr 5) (Xx 0) i) := by
                  rw [e1951]; rcases hrwi with y | y
                  · exact Or.inl ⟨y.2, y.1⟩
                  · exact Or.inr ⟨y.2.1, y.1⟩
                refine v_if_eq (tgt := 82) C dX11_laysFront_60 (by decide) (by omega) (fun c20 => ?_) (fun c20 => ?_)
                · refine v_sub [1, 2, 0] rfl ?_
                  exact K82   m16 (by first | exact Or.inr (cm_fs.mp (by omega)) | exact Or.inl (by omega)) (by first | exact NO_q76.1 | exact h951) (by first | (intro j a1 a2; rw [NO_q76.2.1 j a1 a2]; exact h051 j) | (intro j a1 a2; exact h051 j)) (by first | (intro q a1 a2 a3 a4 a5; rw [NO_q76.2.2 q a1 a2 a3 a4]; exact hf51 q a5) | (intro q a1 a2 a3 a4 a5; exact hf51 q a5))
                · refine v_aload_n C 1 dX11_laysFront_63 rfl ?_
                  refine v_aload_n C 1 dX11_laysFront_64 rfl ?_
                  refine v_get C 0 49 lR0 (eR0 _) rfl inX11 (by decide) rfl qw1189 dX11_laysFront_65 ?_
                  refine v_iconst (z := 0) C dX11_laysFront_68 rfl ?_
                  refine v_aload_n C 1 dX11_laysFront_69 rfl ?_
                  refine v_get C 0 47 lR0 (eR0 _) rfl inX11 (by decide) rfl qw1187 dX11_laysFront_70 ?_
                  refine v_iconst (z := 3) C dX11_laysFront_73 rfl ?_
                  refine v_iload_n C 0 dX11_laysFront_74 rfl ?_
                  refine v_imul C dX11_laysFront_75 ?_
                  refine v_callV (st := []) (n := 4) (q := 0) C [.ref (aa 18), .int (iz (0)), .ref (aa 16), .int (iz (3 * (weA fa (Rr 5) (Xx 0) i)))] (ct_StageRatiosModel_comparesSpeeds C.2.2.2.2.2.2.1 m16 (fa) (Af) (Bf) (Cf) (Rr) (Xx) (18) (3) (16) (1536) (0) (3 * (weA fa (Rr 5) (Xx 0) i)) (Xx 0) (unZ i) (unZ (bm (weA fa (Rr 5) (Xx 0) i))) (by exact hg51) ⟨lR18, by decide, eR18⟩ ⟨lR16, by decide, eR16⟩ (by decide) (by decide) (by decide) (by omega) (by rw [h051]; exact h34L) (by exact hdL.2.2) (by exact un_dv hn hX.1 (by omega) (by omega)) (by exact hr18) (by 
                                          intro j j0 j1; rw [hf51 16 (by decide)]; rcases hrwi with y | y
                                          · omega
                                          · exact y.2.2 j j0 j1
                                      )) lR0 (eR0 _) rfl qw1646 qw16 qw1643 rfl rfl ⟨Nat.le_of_ble_eq_true rfl, Nat.le_of_ble_eq_true rfl⟩ (by decide +kernel) qw1645 qp85 rfl rfl (Nat.le_of_ble_eq_true rfl) dX11_laysFront_76 (fun r m21 hq21 => ?_)
                  obtain ⟨z21, rfl, rfl, hq21⟩ := hq21
                  show V E (wR D cy aa ad) 3 m21 79 [(2, .int (iz (weA fa (Rr 5) (Xx 0) i))), (0, .ref (aa 0)), (1, .int (iz (b)))] [.int (iz (cmZ (spT fa (Rr 5) (Xx 0) (unZ i)) (spT fa (Rr 5) (Xx 0) (unZ (bm (weA fa (Rr 5) (Xx 0) i))))))]
                  have hcr := cmZ_rng (spT fa (Rr 5) (Xx 0) (unZ i)) (spT fa (Rr 5) (Xx 0) (unZ (bm (weA fa (Rr 5) (Xx 0) i))))
                  refine v_if_le (tgt := 93) C dX11_laysFront_79 (by decide) (by omega) (fun c22 => ?_) (fun c22 => ?_)
                  · refine v_sub [1, 2, 0] rfl ?_
                    exact K93  (bm) m21 (by 
                                            first
                                              | exact hbm.keep (by omega) (fun y => by have := cm_fs.mpr y; omega)
                                              | exact hbm.new hord hcti hi0 hatL.1.2 hbt (if_pos rfl) (fun x h => if_neg h)
                                          ) (by 
                                            intro x x0 x1
                                            have y := hrw x x0 x1
                                            by_cases e : x = weA fa (Rr 5) (Xx 0) i
                                            · first
                                                | (refine Or.inr ⟨?_, Or.inl e, fun j j0 j1 => ?_⟩
                                                   · show 0 ≤ (if x = weA fa (Rr 5) (Xx 0) i then i else bm x); rw [if_pos e]; exact hi0
                                                   · show _ = unZ (if x = weA fa (Rr 5) (Xx 0) i then i else bm x) j
                                                     rw [if_pos e, NO_q90.1, if_pos (by omega), show 3 * x + j - 3 * weA fa (Rr 5) (Xx 0) i = j by omega]; exact h9N j j0 j1)
                                                | (rcases y with y | y
                                                   · rw [e] at y; omega
                                                   · exact Or.inr ⟨y.1, Or.inl e, fun j j0 j1 => by rw [hq21.2.2 16 (by decide) (by decide) (by decide) (by decide), hf51 16 (by decide)]; exact y.2.2 j j0 j1⟩)
                                            · first
                                                | (have e19 : NO_m90 19 x = mL 19 x := by rw [NO_q90.2 19 (by decide), hfN 19 (by decide) (by decide) (by decide) (by decide) (by decide)]
                                                   rcases y with y | y
                                                   · exact Or.inl ⟨(if_neg e).trans y.1, e, by rw [e19]; exact y.2⟩
                                                   · refine Or.inr ⟨?_, Or.inr (by rw [e19]; exact y.2.1), fun j j0 j1 => ?_⟩
                                                     · show 0 ≤ (if x = weA fa (Rr 5) (Xx 0) i then i else bm x); rw [if_neg e]; exact y.1
                                                     · show _ = unZ (if x = weA fa (Rr 5) (Xx 0) i then i else bm x) j
                                                       rw [if_neg e, NO_q90.1, if_neg (by omega), hfN 16 (by decide) (by decide) (by decide) (by decide) (by decide)]; exact y.2.2 j j0 j1)
                                                | (have e19 : m21 19 x = mL 19 x := by rw [hq21.2.2 19 (by decide) (by decide) (by decide) (by decide), hf51 19 (by decide)]
                                                   rcases y with y | y
                                                   · exact Or.inl ⟨y.1, e, by rw [e19]; exact y.2⟩
                                                   · exact Or.inr ⟨y.1, Or.inr (by rw [e19]; exact y.2.1), fun j j0 j1 => by rw [hq21.2.2 16 (by decide) (by decide) (by decide) (by decide), hf51 16 (by decide)]; exact y.2.2 j j0 j1⟩)
                                          ) (by first | (intro j j0 j1; rw [NO_q90.2 9 (by decide)]; exact h9N j j0 j1) | exact hq21.1) (by first | (intro j a1 a2; rw [NO_q90.2 0 (by decide)]; exact h0N j a1 a2) | (intro j a1 a2; rw [hq21.2.1 j a1 a2]; exact h051 j)) (by first | (intro q a1 a2 a3 a4 a5 a6 a7; rw [NO_q90.2 q a5]; exact hfN q a1 a2 a3 a4 a6) | (intro q a1 a2 a3 a4 a5 a6 a7; rw [hq21.2.2 q a1 a2 a3 a4]; exact hf51 q a6))
                  · refine v_sub [1, 2, 0] rfl ?_
                    exact K82   m21 (by first | exact Or.inr (cm_fs.mp (by omega)) | exact Or.inl (by omega)) (by first | exact hq21.1 | exact h951) (by first | (intro j a1 a2; rw [hq21.2.1 j a1 a2]; exact h051 j) | (intro j a1 a2; exact h051 j)) (by first | (intro q a1 a2 a3 a4 a5; rw [hq21.2.2 q a1 a2 a3 a4]; exact hf51 q a5) | (intro q a1 a2 a3 a4 a5; exact hf51 q a5))
              · show V E (wR D cy aa ad) 3 mL 42 [(2, .int (iz (weA fa (Rr 5) (Xx 0) i))), (0, .ref (aa 0)), (1, .int (iz (b)))] [.int (iz (0))]
                refine v_if_eq (tgt := 100) C dX11_laysFront_42 (by decide) (by omega) (fun c23 => ?_) (fun c23 => by exact absurd c23 (by decide))
                refine v_sub [1] rfl ?_
                exact K100  (bm) mL (by 
                                    first
                                      | exact hbm.skip (fun y => hq14 y.2)
                                      | exact hbo
                                  ) (by 
                                    first
                                      | exact hrw
                                      | (intro x x0 x1
                                         have y := hro9 x x0 x1
                                         rw [NO_em99, mup_k _ _ _ (show (16 : Nat) ≠ 19 by decide), mup_r]
                                         rcases y with ⟨y1, y2, y3⟩ | ⟨y1, y2, y3⟩
                                         · exact Or.inl ⟨y1, (if_neg y2).trans y3⟩
                                         · refine Or.inr ⟨y1, ?_, y3⟩
                                           by_cases e : x = weA fa (Rr 5) (Xx 0) i
                                           · exact if_pos e
                                           · exact (if_neg e).trans (y2.resolve_left e))
                                  ) (by first | exact hatL.2.2 | (rw [NO_em99, mup_k _ _ _ (by decide)]; exact h9P)) (by first | exact fun _ _ _ => rfl | (intro j a1 a2; rw [NO_em99, mup_k _ _ _ (by decide)]; exact h0P j a1 a2)) (by first | exact fun _ _ _ _ _ _ _ _ => rfl | (intro q a1 a2 a3 a4 a5 a6 a7; rw [NO_em99, mup_k _ _ _ a7]; exact hfP q a1 a2 a3 a4 a5 a6 a7))
        refine v_sub [1, 0] rfl ?_
        exact K28 _ (1) (cdZ (loX Xx)) ((fun _ => -1)) m2 (by exact Or.inl ⟨rfl, hq2.2.1⟩) (by intro x x0 x1; exact Or.inl ⟨rfl, fun c c0 c1 h => absurd h.1 (hfb.2 c c0 c1)⟩) (by intro x x0 x1; exact Or.inl ⟨rfl, by rw [hq2.2.2.2.2 19 (by decide) (by decide) (by decide) (by decide)]; exact hA x x0 (by omega)⟩) (by exact hq2.2.2.1) (by exact hq2.1) (by intro j a1 a2 a3; rw [hq2.2.2.2.1 j a1, hfA 0 (by decide)]) (by intro q a1 a2 a3 a4 a5 a6 a7 a8 a9; rw [hq2.2.2.2.2 q a1 a2 a5 a6]; exact hfA q a9) (Nat.lt_succ_self _)
      · refine v_aload_n C 0 dX11_laysFront_9 rfl ?_
        refine v_get C 0 50 lR0 (eR0 _) rfl inX11 (by decide) rfl qw1190 dX11_laysFront_10 ?_
        refine v_iload_n C 1 dX11_laysFront_13 rfl ?_
        refine v_iconst (z := 0) C dX11_laysFront_14 rfl ?_
        refine v_zast C 19 lR19 eR19 (by decide) (by omega) (by decide) dX11_laysFront_15 (fun m24 em24 => ?_)
        refine v_iinc (L1 := [(1, .int (iz (i + 1))), (0, .ref (aa 0))]) C 1 dX11_laysFront_16 rfl (by decide) rfl ?_
        refine v_goto (tgt := 2) C dX11_laysFront_19 (by decide) ?_
        refine v_sub [1, 0] rfl ?_
        exact ih2 (i + 1) m24 (by first | assumption | omega) (by 
                    intro j h0 h1; rw [em24, mup_r]
                    by_cases e : j = i
                    · exact if_pos e
                    · exact (if_neg e).trans (hA j h0 (by omega))
                  ) (by intro q h; rw [em24, mup_k _ _ _ h]; exact hfA q h) (by omega)
  refine v_sub [1, 0] rfl ?_
  exact K2 _ (0) m (by first | assumption | omega) (by intro j h0 h1; omega) (by intro q _; rfl) (Nat.lt_succ_self _)
