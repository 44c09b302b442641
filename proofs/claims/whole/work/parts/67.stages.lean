/-! the class's reader: lines of stages and fails, the whole text -/
theorem oStage_eq {b : Int → Int} {n p s : Int} {σ : Sg} (h7 : σ.h 7 = 1) (hs : s = σ.h 5) (h3 : s < 3) : oStage b n σ p = bnd (tNew b n σ.nm s (nxZ b n p)) fun q => bnd (tKind b n q) fun x => bnd (stF b n s 8 1 (ups σ.fa (s * 9 + 0) x.1) x.2) fun y => .inr ((ups σ.h 5 (s + 1), y.1, ups σ.nm s (wlZ b n (nxZ b n p)), σ.2.2.2), y.2) := by
  subst hs
  unfold oStage
  rw [if_neg (show ¬ (σ.h 7 ≠ 1) from fun y => y h7), if_neg (show ¬ ¬ σ.h 5 < 3 from fun y => y h3)]
  by_cases c : isNm b n (nxZ b n p)
  · unfold tNew; rw [if_pos c, if_pos c]
    by_cases d : naZ σ.nm (wlZ b n (nxZ b n p)) (σ.h 5) ≠ -1
    · rw [if_pos d, if_pos d]; rfl
    · rw [if_neg d, if_neg d]
      show _ = bnd (tKind b n (nxZ b n (nxZ b n p))) _
      unfold tKind
      by_cases g : kdZ b n (nxZ b n (nxZ b n p)) = 1 ∧ grZ (wlZ b n (nxZ b n (nxZ b n p))) ≠ 0
      · rw [if_pos g, if_pos g]; rfl
      · rw [if_neg g, if_neg g]; rfl
  · unfold tNew; rw [if_neg c, if_neg c]; rfl
theorem stF_go {b : Int → Int} {n s w p : Int} {f : Int → Int} (h : w ≤ 8) : stF b n s (9 - w).toNat w f p = bnd (tPart b n (wdS w) (loS w) (if w = 8 then f (s * 9 + 4) - 1 else hiS w) p) fun x => stF b n s (9 - (w + 1)).toNat (w + 1) (ups f (s * 9 + w) x.1) x.2 := by
  rw [show (9 - w).toNat = (9 - (w + 1)).toNat + 1 by omega]; rfl
theorem tNew_i {b : Int → Int} {n s p q : Int} {nm : Int → List Int} (h : tNew b n nm s p = .inr q) (hp : p ≤ n) : q = nxZ b n p ∧ p < q ∧ q ≤ n ∧ isNm b n p := by
  unfold tNew at h
  split at h
  · rename_i c
    split at h
    · cases h
    · cases h
      have t := tk_rngP (b := b) hp
      have := t.2.2.2.2 (by have := c.1; omega)
      exact ⟨rfl, by omega, t.2.2.2.1, c⟩
  · cases h
theorem tKind_i {b : Int → Int} {n p : Int} {x : Int × Int} (h : tKind b n p = .inr x) (hp : p ≤ n) : p < x.2 ∧ x.2 ≤ n ∧ (2 ≤ x.1 ∧ x.1 ≤ 4) := by
  unfold tKind at h
  split at h
  · rename_i c
    cases h
    have t := tk_rngP (b := b) hp
    have := t.2.2.2.2 (by omega)
    exact ⟨by show p < nxZ b n p; omega, t.2.2.2.1, grZ_rng c.2⟩
  · cases h
theorem laF_cg {A B A' B' : Int → Int} {s : Int} : ∀ n : Nat, (∀ i : Int, 0 ≤ i → i < n → A i = A' i ∧ B i = B' i) → laF A B s n = laF A' B' s n := by
  intro n
  induction n with
  | zero => intro _; rfl
  | succ n ih =>
    intro h
    have a := h n (by omega) (by omega)
    show (if A n = s then B n else laF A B s n) = if A' n = s then B' n else laF A' B' s n
    rw [a.1, a.2, ih fun i h0 h1 => h i h0 (by omega)]
theorem oFail_eq {b : Int → Int} {n p s N : Int} {σ : Sg} (h7 : σ.h 7 = 1) (h6 : σ.h 6 < 6) (hN : N = σ.h 5) (hc : isNm b n (nxZ b n p)) (hs : s = naZ σ.nm (wlZ b n (nxZ b n p)) N) (h0 : 0 ≤ s) : oFail b n σ p = bnd (tWhole b n (laF σ.ft σ.fk s (σ.h 6).toNat + 1) 99 (nxZ b n (nxZ b n p))) fun x => bnd (tWhole b n 1 9 x.2) fun y => .inr ((ups σ.h 6 (σ.h 6 + 1), σ.fa, σ.nm, ups σ.ft (σ.h 6) s, ups σ.fk (σ.h 6) x.1, ups σ.fc (σ.h 6) y.1), y.2) := by
  subst hN
  subst hs
  exact (if_neg (fun y => y h7)).trans <| (if_neg (fun y => y h6)).trans <| (if_pos hc).trans (if_neg (by omega))
def sg0 : Sg := (fun _ => 0, fun _ => 0, fun _ => [], fun _ => 0, fun _ => 0, fun _ => 0)
theorem sg0_ok : SgOk sg0 := ⟨Or.inl rfl, fun _ => ⟨rfl, rfl⟩, ⟨by decide, by decide⟩, ⟨by decide, by decide⟩, fun y => absurd (show (0 : Int) = 1 from y) (by decide), fun s h0 h1 => by have : s < 0 := h1; omega, fun s h0 h1 => by have : s < 0 := h1; omega, fun i h0 h1 => by have : i < 0 := h1; omega⟩
theorem oAll_go {b : Int → Int} {n p l : Int} {σ : Sg} (h : l ≤ 700) : oAll b n (701 - l).toNat σ p = bnd (oLine b n σ p) fun x => if kdZ b n x.2 = 0 then (if 0 < Sg.h x.1 5 then .inr x.1 else .inl (6, skZ b n x.2)) else if kdZ b n x.2 ≠ 3 then .inl (1, skZ b n x.2) else oAll b n (701 - (l + 1)).toNat x.1 (nxZ b n x.2) := by
  rw [show (701 - l).toNat = (701 - (l + 1)).toNat + 1 by omega]; rfl
set_option maxHeartbeats 4000000 in
set_option maxRecDepth 100000 in
theorem ct_Reader_readStage {lau : Launch} {D : va_G} {cy : Nat → ClassId} {aa ad : Nat → Nat} (hI : wI (wC D cy aa ad)) (m : Mem) (b : Int → Int) (n p : Int) (k kf ks kt kc : Nat) (σ : Sg) (hb : BtOk b) (hn : 0 ≤ n ∧ n ≤ 700) (hT : TkC m b n p) (hp : 0 ≤ p ∧ p ≤ n) (hrd : RdOk m) (hk : RocketAt k kf ks kt kc) (hσ : SgOk σ) (hD : DrC m k kf ks kt kc σ) (h7 : σ.h 7 = 1) (h5 : σ.h 5 < 3) : MT lau (wC D cy aa ad) yX5_readStage cX5_readStage 5 (some .boolean) ({ frames := 6, cells := 0, slots := 0, locals := 129 } : Room) m [.ref (aa 3), .ref (aa k)] (Pi (fun z m' => (1 = z ∧ (IsR (oStage b n σ p)) ∧ RsM (oStage b n σ p) m m' (fun x => TkC m' b n x.2 ∧ DrC m' k kf ks kt kc x.1) ∧ FRd m m' k kf ks kt kc) ∨ (0 = z ∧ ¬ (IsR (oStage b n σ p)) ∧ RsM (oStage b n σ p) m m' (fun x => TkC m' b n x.2 ∧ DrC m' k kf ks kt kc x.1) ∧ FRd m m' k kf ks kt kc))) := by
  refine v_entry hI RX5 (by decide) rfl (Nat.le_of_ble_eq_true rfl) (fun E hE C X => ?_)
  subst hE
  show V E (wC D cy aa ad) 5 m 0 [(0, .ref (aa 3)), (1, .ref (aa k))] []
  obtain ⟨t2, t5, tk, ts, tx, tw, tn⟩ := id hT
  have tr := tk_rngP (b := b) hp.2
  obtain ⟨d1, d2, d3, d4, d5, d6, d7⟩ := id hD
  obtain ⟨s1, s2, s3, s4, s5, s6, s7, s8⟩ := id hσ
  have hkk : 73 ≤ k ∧ kf = k + 1 ∧ ks = k + 2 ∧ kt = k + 3 ∧ kc = k + 4 := by unfold RocketAt at hk; omega
  have hkk2 : 73 ≤ kf ∧ 73 ≤ ks ∧ 73 ≤ kt ∧ 73 ≤ kc ∧ k ≠ kf ∧ kf ≠ k ∧ kf ≠ ks ∧ kf ≠ kt ∧ kf ≠ kc := by omega
  have hs3 : 0 ≤ m k 5 ∧ m k 5 ≤ 2 := by omega
  refine v_aload_n C 1 dX5_readStage_0 rfl ?_
  refine v_get C k 5 (RocketAt.l0 hk) (RocketAt.e0 hk _) rfl inX6 (by decide) rfl qw386 dX5_readStage_1 ?_
  refine v_istore_n (L1 := [(2, .int (iz (m k 5))), (0, .ref (aa 3)), (1, .ref (aa k))]) C dX5_readStage_4 (by decide) rfl ?_
  refine v_aload_n C 1 dX5_readStage_5 rfl ?_
  refine v_get C 3 0 lC3 (eC3 _) rfl inX5 (by decide) rfl qw130 dX5_readStage_6 ?_
  refine v_callV (st := []) (n := 0) (q := 1) C [] (ct_Tape_step C.2.2.2.2.2.2.1 m (b) (n) (nxZ b n p) (by exact hb) (by exact hn) (by exact t2) (by exact t5) (by exact tx) (by omega)) lC1 (eC1 _) rfl qw518 qw2 qw540 rfl rfl ⟨Nat.le_of_ble_eq_true rfl, Nat.le_of_ble_eq_true rfl⟩ (by decide +kernel) qw516 qw517 rfl rfl (Nat.le_of_ble_eq_true rfl) dX5_readStage_9 (fun r m1 hq1 => ?_)
  obtain ⟨rfl, hq1⟩ := hq1
  show V E (wC D cy aa ad) 5 m1 12 [(2, .int (iz (m k 5))), (0, .ref (aa 3)), (1, .ref (aa k))] []
  have hp1 : 0 ≤ nxZ b n p ∧ nxZ b n p ≤ n := by omega
  have f9 : FRd m m1 k kf ks kt kc := ⟨hq1.2.1, fun j _ _ => by rw [hq1.2.2 3 (by decide)], fun q h1 _ _ _ _ _ _ _ => hq1.2.2 q h1⟩
  have rd9 := hrd.fr f9.2.1
  have g9 := hq1.2.2
  refine v_aload_n C 1 dX5_readStage_12 rfl ?_
  refine v_iload_n C 0 dX5_readStage_13 rfl ?_
  refine v_callV (st := []) (n := 1) (q := 3) C [.int (iz (m k 5))] (ct_Reader_takeNewName C.2.2.2.2.2.2.1 m1 (b) (n) (nxZ b n p) (σ.nm) (m k 5) (by exact hb) (by exact hn) (by exact hq1.1) (by exact hp1) (by exact rd9) (by exact hs3) (by intro j a c; rw [g9 4 (by decide)]; exact d6 j a (by omega)) (by intro j a c; exact s7 j a (by omega))) lC3 (eC3 _) rfl qw565 qw3 qw562 rfl rfl ⟨Nat.le_of_ble_eq_true rfl, Nat.le_of_ble_eq_true rfl⟩ (by decide +kernel) qw564 qp9 rfl rfl (Nat.le_of_ble_eq_true rfl) dX5_readStage_14 (fun r m2 hq2 => ?_)
  obtain ⟨z2, rfl, ⟨rfl, hq2, hm2⟩ | ⟨rfl, hq2, hm2⟩⟩ := hq2
  · show V E (wC D cy aa ad) 5 m2 17 [(2, .int (iz (m k 5))), (0, .ref (aa 3)), (1, .ref (aa k))] [.int (iz (1))]
    obtain ⟨p2, hN⟩ := hq2
    have hN1 := hm2.1.r hN
    have hN2 := tNew_i hN hp1.2
    have f14 : FRd m m2 k kf ks kt kc := f9.tr ⟨hm2.2.1, hm2.2.2.2.1, fun q a b c _ _ _ _ _ => hm2.2.2.2.2.2 q a b c⟩
    have rd14 := hrd.fr f14.2.1
    have g14 : ∀ q, q ≠ 1 → q ≠ 3 → q ≠ 4 → m2 q = m q := fun q a b c => by rw [hm2.2.2.2.2.2 q a b c, g9 q a]
    have g14n : m2 4 (m k 5) = enZ 27 96 (wlZ b n (nxZ b n p)) := hN1.1.2
    have g14o : ∀ j : Int, j ≠ m k 5 → m2 4 j = m 4 j := fun j h => by rw [hm2.2.2.2.2.1 j h, g9 4 (by decide)]
    have b14 : m2 3 8 = m 3 8 := by rw [hm2.2.2.1, g9 3 (by decide)]
    have n14 : m2 3 10 = m 3 10 := by rw [hN1.2, g9 3 (by decide)]
    refine v_if_eq (tgt := 29) C dX5_readStage_17 (by decide) (by omega) (fun c3 => by exact absurd c3 (by decide)) (fun c3 => ?_)
    refine v_aload_n C 1 dX5_readStage_20 rfl ?_
    refine v_aload_n C 2 dX5_readStage_21 rfl ?_
    refine v_iload_n C 0 dX5_readStage_22 rfl ?_
    refine v_callV (st := []) (n := 2) (q := 3) C [.ref (aa k), .int (iz (m k 5))] (ct_Reader_takeKind C.2.2.2.2.2.2.1 m2 (b) (n) (p2) (k) (kf) (ks) (kt) (kc) (m k 5) (by exact hb) (by exact hn) (by exact hN1.1.1) (by omega) (by exact rd14) hk (by exact hs3)) lC3 (eC3 _) rfl qw577 qw3 qw574 rfl rfl ⟨Nat.le_of_ble_eq_true rfl, Nat.le_of_ble_eq_true rfl⟩ (by decide +kernel) qw576 qp12 rfl rfl (Nat.le_of_ble_eq_true rfl) dX5_readStage_23 (fun r m4 hq4 => ?_)
    obtain ⟨z4, rfl, ⟨rfl, hq4, hm4⟩ | ⟨rfl, hq4, hm4⟩⟩ := hq4
    · show V E (wC D cy aa ad) 5 m4 26 [(2, .int (iz (m k 5))), (0, .ref (aa 3)), (1, .ref (aa k))] [.int (iz (1))]
      obtain ⟨x0, hK⟩ := hq4
      have hK1 := hm4.1.r hK
      have hK2 := tKind_i hK (by omega)
      have f23 : FRd m m4 k kf ks kt kc := f14.tr ⟨hm4.2.1, hm4.2.2.2.1, fun q a b _ _ d _ _ _ => hm4.2.2.2.2.2 q a b d⟩
      have g23 : ∀ q, q ≠ 1 → q ≠ 3 → q ≠ 4 → q ≠ kf → m4 q = m q := fun q a b c d => by rw [hm4.2.2.2.2.2 q a b d, g14 q a b c]
      refine v_if_ne (tgt := 31) C dX5_readStage_26 (by decide) (by omega) (fun c5 => ?_) (fun c5 => by exact absurd c5 (by decide))
      refine v_iconst (z := 1) C dX5_readStage_31 rfl ?_
      refine v_istore_n (L1 := [(3, .int (iz (1))), (2, .int (iz (m k 5))), (0, .ref (aa 3)), (1, .ref (aa k))]) C dX5_readStage_32 (by decide) rfl ?_
      have K33 : ∀ (nK : Nat) (w : Int) (f : Int → Int) (pL : Int) (mL : Mem) (hw : 1 ≤ w ∧ w ≤ 9) (hTL : TkC mL b n pL) (hpL : 0 ≤ pL ∧ pL ≤ n) (hst : stF b n (m k 5) 8 1 (ups σ.fa (m k 5 * 9 + 0) x0.1) x0.2 = stF b n (m k 5) (9 - w).toNat w f pL) (hf : ∀ j : Int, 0 ≤ j → j < m k 5 * 9 + w → mL kf j = f j) (hf4 : 4 < w → 1 ≤ f (m k 5 * 9 + 4) ∧ f (m k 5 * 9 + 4) ≤ 9) (hfr : FRd m mL k kf ks kt kc) (hg : ∀ q, q ≠ 1 → q ≠ 3 → q ≠ 4 → q ≠ kf → mL q = m q) (h4 : mL 4 = m2 4) (h8 : mL 3 8 = m 3 8) (h10 : mL 3 10 = m 3 10), (9 - w).toNat < nK → V E (wC D cy aa ad) 5 mL 33 [(0, .ref (aa 3)), (1, .ref (aa k)), (2, .int (iz (m k 5))), (3, .int (iz (w)))] [] := by
        intro nK
        induction nK with
        | zero => intro w f pL mL hw hTL hpL hst hf hf4 hfr hg h4 h8 h10 hn; exact absurd hn (Nat.not_lt_zero _)
        | succ nK ih33 =>
          intro w f pL mL hw hTL hpL hst hf hf4 hfr hg h4 h8 h10 hn33
          refine v_iload_n C 3 dX5_readStage_33 rfl ?_
          refine v_bipush (z := 8) C dX5_readStage_34 (by decide) ?_
          refine v_icmp_gt (tgt := 104) C dX5_readStage_36 (by decide) (by omega) (by omega) (fun c6 => ?_) (fun c6 => ?_)
          · have hE : oStage b n σ p = .inr ((ups σ.h 5 (m k 5 + 1), f, ups σ.nm (m k 5) (wlZ b n (nxZ b n p)), σ.2.2.2), pL) := (oStage_eq h7 d2 (by omega)).trans <| (bnd_r hN _).trans <| (bnd_r hK _).trans <| bnd_r (hst.trans (by rw [show (9 - w).toNat = 0 by omega]; rfl)) _
            refine v_aload_n C 1 dX5_readStage_104 rfl ?_
            refine v_dup C dX5_readStage_105 rfl ?_
            refine v_get C k 5 (RocketAt.l0 hk) (RocketAt.e0 hk _) rfl inX6 (by decide) rfl qw386 dX5_readStage_106 ?_
            refine v_iconst (z := 1) C dX5_readStage_109 rfl ?_
            refine v_iadd C dX5_readStage_110 ?_
            refine v_put C k 5 ((mL k 5) + 1) 5 rfl (RocketAt.l0 hk) (RocketAt.e0 hk _) rfl inX6 tyX6 tyX6_ok nmX6 (by decide) qw386 rfl rfl rfl (Nat.le_of_ble_eq_true rfl) (by rw [mup_r]; exact (RocketAt.e0 hk _)) dX5_readStage_111 (fun m7 em7 => ?_)
            refine v_iconst (z := 1) C dX5_readStage_114 rfl ?_
            refine v_iret C X (by decide) dX5_readStage_115 ⟨_, rfl, Or.inl ⟨rfl, ?_, ?_⟩⟩
            · exact ⟨_, hE⟩
            · have e5 : mL k 5 = m k 5 := by rw [hg k (by omega) (by omega) (by omega) (by omega)]
              have z : ∀ q, q ≠ k → m7 q = mL q := fun q h => by rw [em7, mup_k _ _ _ h]
              have zk : ∀ j : Int, j ≠ 5 → m7 k j = m k j := fun j h => by rw [em7, mup_j _ _ h, hg k (by omega) (by omega) (by omega) (by omega)]
              refine ⟨RsM.or hE ⟨⟨hTL.fr (z 1 (by omega)) (z 2 (by omega)), ?_⟩, by rw [z 3 (by omega)]; exact h10⟩, hfr.tr ⟨by rw [z 1 (by omega)], fun j _ _ => by rw [z 3 (by omega)], fun q _ _ _ d _ _ _ _ => z q d⟩⟩
              refine ⟨by rw [z 3 (by omega), h8]; exact d1, by rw [em7, mup_s, e5]; rfl, (zk 6 (by decide)).trans d3, fun y => ⟨(zk 0 (by decide)).trans (d4 y).1, (zk 1 (by decide)).trans (d4 y).2.1, (zk 2 (by decide)).trans (d4 y).2.2.1, (zk 3 (by decide)).trans (d4 y).2.2.2.1, (zk 4 (by decide)).trans (d4 y).2.2.2.2⟩, fun j a c => ?_, fun j a c => ?_, fun i a c => ?_⟩
              · have c2 : j < (m k 5 + 1) * 9 := c
                rw [z kf (by omega)]; exact hf j a (by omega)
              · have c2 : j < m k 5 + 1 := c
                rw [z 4 (by omega), h4]
                show _ = enZ 27 96 (ups σ.nm (m k 5) (wlZ b n (nxZ b n p)) j)
                by_cases e : j = m k 5
                · rw [e, ups_s]; exact g14n
                · rw [ups_n _ _ e, g14o j e]; exact d6 j a (by omega)
              · rw [z ks (by omega), z kt (by omega), z kc (by omega), hg ks (by omega) (by omega) (by omega) (by omega), hg kt (by omega) (by omega) (by omega) (by omega), hg kc (by omega) (by omega) (by omega) (by omega)]; exact d7 i a c
          · have K60 : ∀ (hi : Int) (hhi : hi = if w = 8 then f (m k 5 * 9 + 4) - 1 else hiS w), V E (wC D cy aa ad) 5 mL 60 [(0, .ref (aa 3)), (1, .ref (aa k)), (2, .int (iz (m k 5))), (3, .int (iz (w)))] [.int (iz (hi))] := by
              intro hi  hhi
              refine v_istore (L1 := [(4, .int (iz (hi))), (0, .ref (aa 3)), (1, .ref (aa k)), (2, .int (iz (m k 5))), (3, .int (iz (w)))]) C dX5_readStage_60 (by decide) rfl ?_
              refine v_aload_n C 1 dX5_readStage_62 rfl ?_
              refine v_iload_n C 4 dX5_readStage_63 rfl ?_
              refine v_callS (st := [.ref (aa 3)]) (n := 1) C [.int (iz (w))] (ct_Rocket_wordOf C.2.2.2.2.2.2.1 mL (w) (by omega)) qw596 qw15 qw594 rfl rfl ⟨Nat.le_of_ble_eq_true rfl, Nat.le_of_ble_eq_true rfl⟩ (by decide +kernel) qw595 rfl rfl (Nat.le_of_ble_eq_true rfl) dX5_readStage_64 (fun r m8 hq8 => ?_)
              obtain ⟨z8, rfl, rfl, rfl⟩ := hq8
              show V E (wC D cy aa ad) 5 mL 67 [(4, .int (iz (hi))), (0, .ref (aa 3)), (1, .ref (aa k)), (2, .int (iz (m k 5))), (3, .int (iz (w)))] [.ref (ad (2 * wiS w)), .ref (aa 3)]
              obtain ⟨ix, ttx, hqs⟩ := wiS_q (w := w) (by omega)
              refine v_callV (st := []) (n := 1) (q := 3) C [.ref (ad (2 * wiS w))] (ct_Reader_takeWord C.2.2.2.2.2.2.1 mL _ _ (pL) (wiS w) ("StageRatios$Rocket") (ix) (ttx) (wdS w) (by exact hb) (by exact hn) (by exact hTL) (by exact hpL) hqs) lC3 (eC3 _) rfl qw545 qw3 qw542 rfl rfl ⟨Nat.le_of_ble_eq_true rfl, Nat.le_of_ble_eq_true rfl⟩ (by decide +kernel) qw544 qp5 rfl rfl (Nat.le_of_ble_eq_true rfl) dX5_readStage_67 (fun r m9 hq9 => ?_)
              obtain ⟨z9, rfl, ⟨rfl, hq9, hm9⟩ | ⟨rfl, hq9, hm9⟩⟩ := hq9
              · show V E (wC D cy aa ad) 5 m9 70 [(4, .int (iz (hi))), (0, .ref (aa 3)), (1, .ref (aa k)), (2, .int (iz (m k 5))), (3, .int (iz (w)))] [.int (iz (1))]
                obtain ⟨u, hW⟩ := hq9
                have hW1 := hm9.1.r hW
                have hW2 := tWord_i hW hpL.2
                refine v_if_eq (tgt := 86) C dX5_readStage_70 (by decide) (by omega) (fun c10 => by exact absurd c10 (by decide)) (fun c10 => ?_)
                refine v_aload_n C 1 dX5_readStage_73 rfl ?_
                refine v_iload_n C 4 dX5_readStage_74 rfl ?_
                refine v_callS (st := [.ref (aa 3)]) (n := 1) C [.int (iz (w))] (ct_Rocket_lowBoundOf C.2.2.2.2.2.2.1 m9 (w) (by omega)) qw607 qw15 qw605 rfl rfl ⟨Nat.le_of_ble_eq_true rfl, Nat.le_of_ble_eq_true rfl⟩ (by decide +kernel) qw606 rfl rfl (Nat.le_of_ble_eq_true rfl) dX5_readStage_75 (fun r m11 hq11 => ?_)
                obtain ⟨z11, rfl, rfl, rfl⟩ := hq11
                show V E (wC D cy aa ad) 5 m9 78 [(4, .int (iz (hi))), (0, .ref (aa 3)), (1, .ref (aa k)), (2, .int (iz (m k 5))), (3, .int (iz (w)))] [.int (iz (loS w)), .ref (aa 3)]
                refine v_iload C 0 dX5_readStage_78 rfl ?_
                have hlw : 0 ≤ loS w ∧ loS w ≤ 1 := by unfold loS; split <;> omega
                have hhw : 0 ≤ hi ∧ hi ≤ 999 := by
                  rw [hhi]
                  split
                  · have := hf4 (by omega); omega
                  · unfold hiS
                    repeat' (first | omega | split)
                refine v_callV (st := []) (n := 2) (q := 3) C [.int (iz (loS w)), .int (iz (hi))] (ct_Reader_takeWhole C.2.2.2.2.2.2.1 m9 _ _ (u) (loS w) (hi) (by exact hb) (by exact hn) (by exact hW1.1) (by omega) (by omega) (by omega)) lC3 (eC3 _) rfl qw549 qw3 qw546 rfl rfl ⟨Nat.le_of_ble_eq_true rfl, Nat.le_of_ble_eq_true rfl⟩ (by decide +kernel) qw548 qp6 rfl rfl (Nat.le_of_ble_eq_true rfl) dX5_readStage_80 (fun r m12 hq12 => ?_)
                obtain ⟨z12, rfl, ⟨rfl, hq12, hm12⟩ | ⟨rfl, hq12, hm12⟩⟩ := hq12
                · show V E (wC D cy aa ad) 5 m12 83 [(4, .int (iz (hi))), (0, .ref (aa 3)), (1, .ref (aa k)), (2, .int (iz (m k 5))), (3, .int (iz (w)))] [.int (iz (1))]
                  obtain ⟨x, hV⟩ := hq12
                  have hV1 := hm12.1.r hV
                  have hV2 := tWhole_i hV hW2.2.1
                  have fV := (hfr.tr (hm9.2.rd k kf ks kt kc)).tr (hm12.2.rd k kf ks kt kc)
                  have gV : ∀ q, q ≠ 1 → q ≠ 3 → m12 q = mL q := fun q a b => by rw [hm12.2.2.2.2 q a b, hm9.2.2.2.2 q a b]
                  refine v_if_ne (tgt := 88) C dX5_readStage_83 (by decide) (by omega) (fun c13 => ?_) (fun c13 => by exact absurd c13 (by decide))
                  refine v_aload_n C 2 dX5_readStage_88 rfl ?_
                  refine v_iload_n C 3 dX5_readStage_89 rfl ?_
                  refine v_iload_n C 4 dX5_readStage_90 rfl ?_
                  refine v_aload_n C 1 dX5_readStage_91 rfl ?_
                  refine v_get C 3 9 lC3 (eC3 _) rfl inX5 (by decide) rfl qw139 dX5_readStage_92 ?_
                  refine v_callV (st := []) (n := 3) (q := k) C [.int (iz (m k 5)), .int (iz (w)), .int (iz (m12 3 9))] (ct_Rocket_setFact C.2.2.2.2.2.2.1 m12 (k) (kf) (ks) (kt) (kc) (m k 5) (w) (m12 3 9) hk (by exact hs3) (by omega)) (RocketAt.l0 hk) (RocketAt.e0 hk _) rfl qw585 qw15 qw582 rfl rfl ⟨Nat.le_of_ble_eq_true rfl, Nat.le_of_ble_eq_true rfl⟩ (by decide +kernel) qw583 qw584 rfl rfl (Nat.le_of_ble_eq_true rfl) dX5_readStage_95 (fun r m14 hq14 => ?_)
                  obtain ⟨rfl, hq14⟩ := hq14
                  show V E (wC D cy aa ad) 5 m14 98 [(4, .int (iz (hi))), (0, .ref (aa 3)), (1, .ref (aa k)), (2, .int (iz (m k 5))), (3, .int (iz (w)))] []
                  refine v_iinc (L1 := [(3, .int (iz (w + 1))), (4, .int (iz (hi))), (0, .ref (aa 3)), (1, .ref (aa k)), (2, .int (iz (m k 5)))]) C 4 dX5_readStage_98 rfl (by decide) rfl ?_
                  refine v_goto (tgt := 33) C dX5_readStage_101 (by decide) ?_
                  refine v_sub [2, 3, 4, 0] rfl ?_
                  exact ih33 (w + 1) (ups f (m k 5 * 9 + w) x.1) (x.2) m14 (by omega) (by rw [← hq14]; exact hV1.1.1.fr (mup_k _ _ _ (by omega)) (mup_k _ _ _ (by omega))) (by omega) (by exact hst.trans <| (stF_go (by omega)).trans <| bnd_r ((bnd_r hW _).trans (by rw [← hhi]; exact hV)) _) (by 
                                        intro j a c; rw [← hq14]
                                        by_cases e : j = m k 5 * 9 + w
                                        · rw [e, ups_s, mup_s]; exact hV1.1.2
                                        · rw [ups_n _ _ e, mup_j _ _ e, gV kf (by omega) (by omega)]; exact hf j a (by omega)
                                      ) (by 
                                        intro y
                                        by_cases e : w = 4
                                        · subst e; rw [ups_s]; have := hV2.1; rw [hhi] at this; exact this
                                        · rw [ups_n _ _ (by omega)]; exact hf4 (by omega)
                                      ) (by rw [← hq14]; exact fV.tr ⟨by rw [mup_k _ _ _ (by omega)], fun j _ _ => by rw [mup_k _ _ _ (by omega)], fun q _ _ _ _ d _ _ _ => by rw [mup_k _ _ _ d]⟩) (by intro q a b c d; rw [← hq14, mup_k _ _ _ d, gV q a b]; exact hg q a b c d) (by rw [← hq14, mup_k _ _ _ (by omega), gV 4 (by decide) (by decide)]; exact h4) (by rw [← hq14, mup_k _ _ _ (by omega), hm12.2.2.1, hm9.2.2.1]; exact h8) (by rw [← hq14, mup_k _ _ _ (by omega), hV1.2, hW1.2]; exact h10) (by omega)
                · show V E (wC D cy aa ad) 5 m12 83 [(4, .int (iz (hi))), (0, .ref (aa 3)), (1, .ref (aa k)), (2, .int (iz (m k 5))), (3, .int (iz (w)))] [.int (iz (0))]
                  obtain ⟨e, he⟩ := IsR.n hq12
                  have hst2 : stF b n (m k 5) 8 1 (ups σ.fa (m k 5 * 9 + 0) x0.1) x0.2 = .inl e := hst.trans <| (stF_go (by omega)).trans <| bnd_l ((bnd_r hW _).trans (by rw [← hhi]; exact he)) _
                  have hE : oStage b n σ p = .inl e := (oStage_eq h7 d2 (by omega)).trans <| (bnd_r hN _).trans <| (bnd_r hK _).trans <| bnd_l hst2 _
                  have hM := hm12.1.l he
                  have hF := (hfr.tr (hm9.2.rd k kf ks kt kc)).tr (hm12.2.rd k kf ks kt kc)
                  refine v_if_ne (tgt := 88) C dX5_readStage_83 (by decide) (by omega) (fun c15 => by exact absurd c15 (by decide)) (fun c15 => ?_)
                  refine v_iconst (z := 0) C dX5_readStage_86 rfl ?_
                  refine v_iret C X (by decide) dX5_readStage_87 ⟨_, rfl, Or.inr ⟨rfl, ?_, ?_⟩⟩
                  · exact IsR.no hE
                  · exact ⟨RsM.ol hE hM, hF⟩
              · show V E (wC D cy aa ad) 5 m9 70 [(4, .int (iz (hi))), (0, .ref (aa 3)), (1, .ref (aa k)), (2, .int (iz (m k 5))), (3, .int (iz (w)))] [.int (iz (0))]
                obtain ⟨e, he⟩ := IsR.n hq9
                have hst2 : stF b n (m k 5) 8 1 (ups σ.fa (m k 5 * 9 + 0) x0.1) x0.2 = .inl e := hst.trans <| (stF_go (by omega)).trans <| bnd_l (bnd_l he _) _
                have hE : oStage b n σ p = .inl e := (oStage_eq h7 d2 (by omega)).trans <| (bnd_r hN _).trans <| (bnd_r hK _).trans <| bnd_l hst2 _
                have hM := hm9.1.l he
                have hF := hfr.tr (hm9.2.rd k kf ks kt kc)
                refine v_if_eq (tgt := 86) C dX5_readStage_70 (by decide) (by omega) (fun c16 => ?_) (fun c16 => by exact absurd c16 (by decide))
                refine v_iconst (z := 0) C dX5_readStage_86 rfl ?_
                refine v_iret C X (by decide) dX5_readStage_87 ⟨_, rfl, Or.inr ⟨rfl, ?_, ?_⟩⟩
                · exact IsR.no hE
                · exact ⟨RsM.ol hE hM, hF⟩
            refine v_iload_n C 3 dX5_readStage_39 rfl ?_
            refine v_bipush (z := 8) C dX5_readStage_40 (by decide) ?_
            refine v_icmp_ne (tgt := 56) C dX5_readStage_42 (by decide) (by omega) (by omega) (fun c17 => ?_) (fun c17 => ?_)
            · refine v_iload_n C 3 dX5_readStage_56 rfl ?_
              refine v_callS (st := []) (n := 1) C [.int (iz (w))] (ct_Rocket_highBoundOf C.2.2.2.2.2.2.1 mL (w) (by omega)) qw593 qw15 qw591 rfl rfl ⟨Nat.le_of_ble_eq_true rfl, Nat.le_of_ble_eq_true rfl⟩ (by decide +kernel) qw592 rfl rfl (Nat.le_of_ble_eq_true rfl) dX5_readStage_57 (fun r m18 hq18 => ?_)
              obtain ⟨z18, rfl, rfl, rfl⟩ := hq18
              show V E (wC D cy aa ad) 5 mL 60 [(0, .ref (aa 3)), (1, .ref (aa k)), (2, .int (iz (m k 5))), (3, .int (iz (w)))] [.int (iz (hiS w))]
              refine v_sub [0, 1, 2, 3] rfl ?_
              exact K60  (hiS w)  (by 
                                first
                                  | (rw [if_pos (by omega)])
                                  | (rw [if_neg (by omega)])
                              )
            · refine v_aload_n C 1 dX5_readStage_45 rfl ?_
              refine v_iload_n C 2 dX5_readStage_46 rfl ?_
              refine v_iconst (z := 4) C dX5_readStage_47 rfl ?_
              refine v_callV (st := []) (n := 2) (q := k) C [.int (iz (m k 5)), .int (iz (4))] (ct_Rocket_fact C.2.2.2.2.2.2.1 mL (k) (kf) (ks) (kt) (kc) (m k 5) (4) hk (by exact hs3) (by omega)) (RocketAt.l0 hk) (RocketAt.e0 hk _) rfl qw590 qw15 qw587 rfl rfl ⟨Nat.le_of_ble_eq_true rfl, Nat.le_of_ble_eq_true rfl⟩ (by decide +kernel) qw588 qw589 rfl rfl (Nat.le_of_ble_eq_true rfl) dX5_readStage_48 (fun r m19 hq19 => ?_)
              obtain ⟨z19, rfl, rfl, rfl⟩ := hq19
              show V E (wC D cy aa ad) 5 mL 51 [(0, .ref (aa 3)), (1, .ref (aa k)), (2, .int (iz (m k 5))), (3, .int (iz (w)))] [.int (iz (mL kf ((m k 5) * 9 + 4)))]
              refine v_st (st1 := [.int (iz (f (m k 5 * 9 + 4)))]) (by rw [hf (m k 5 * 9 + 4) (by omega) (by omega)]) ?_
              refine v_iconst (z := 1) C dX5_readStage_51 rfl ?_
              refine v_isub C dX5_readStage_52 ?_
              refine v_goto (tgt := 60) C dX5_readStage_53 (by decide) ?_
              refine v_sub [0, 1, 2, 3] rfl ?_
              exact K60  ((f (m k 5 * 9 + 4)) - 1)  (by 
                                first
                                  | (rw [if_pos (by omega)])
                                  | (rw [if_neg (by omega)])
                              )
      refine v_sub [2, 3, 1, 0] rfl ?_
      exact K33 _ (1) (ups σ.fa (m k 5 * 9 + 0) x0.1) (x0.2) m4 (by first | assumption | omega) (by exact hK1.1.1) (by omega) (by rfl) (by 
                intro j a c
                by_cases e : j = m k 5 * 9 + 0
                · rw [e, ups_s]; exact hK1.1.2
                · rw [ups_n _ _ e, hm4.2.2.2.2.1 j e, g14 kf (by omega) (by omega) (by omega)]; exact d5 j a (by omega)
              ) (by intro y; omega) (by exact f23) (by exact g23) (by exact hm4.2.2.2.2.2 4 (by decide) (by decide) (by omega)) (by rw [hm4.2.2.1]; exact b14) (by rw [hK1.2]; exact n14) (Nat.lt_succ_self _)
    · show V E (wC D cy aa ad) 5 m4 26 [(2, .int (iz (m k 5))), (0, .ref (aa 3)), (1, .ref (aa k))] [.int (iz (0))]
      obtain ⟨e, he⟩ := IsR.n hq4
      have hE : oStage b n σ p = .inl e := (oStage_eq h7 d2 (by omega)).trans <| (bnd_r hN _).trans <| bnd_l he _
      have hM := hm4.1.l he
      have hF : FRd m m4 k kf ks kt kc := f14.tr ⟨hm4.2.1, hm4.2.2.2.1, fun q a b _ _ d _ _ _ => hm4.2.2.2.2.2 q a b d⟩
      refine v_if_ne (tgt := 31) C dX5_readStage_26 (by decide) (by omega) (fun c20 => by exact absurd c20 (by decide)) (fun c20 => ?_)
      refine v_iconst (z := 0) C dX5_readStage_29 rfl ?_
      refine v_iret C X (by decide) dX5_readStage_30 ⟨_, rfl, Or.inr ⟨rfl, ?_, ?_⟩⟩
      · exact IsR.no hE
      · exact ⟨RsM.ol hE hM, hF⟩
  · show V E (wC D cy aa ad) 5 m2 17 [(2, .int (iz (m k 5))), (0, .ref (aa 3)), (1, .ref (aa k))] [.int (iz (0))]
    obtain ⟨e, he⟩ := IsR.n hq2
    have hE : oStage b n σ p = .inl e := (oStage_eq h7 d2 (by omega)).trans <| bnd_l he _
    have hM := hm2.1.l he
    have hF : FRd m m2 k kf ks kt kc := f9.tr ⟨hm2.2.1, hm2.2.2.2.1, fun q a b c _ _ _ _ _ => hm2.2.2.2.2.2 q a b c⟩
    refine v_if_eq (tgt := 29) C dX5_readStage_17 (by decide) (by omega) (fun c21 => ?_) (fun c21 => by exact absurd c21 (by decide))
    refine v_iconst (z := 0) C dX5_readStage_29 rfl ?_
    refine v_iret C X (by decide) dX5_readStage_30 ⟨_, rfl, Or.inr ⟨rfl, ?_, ?_⟩⟩
    · exact IsR.no hE
    · exact ⟨RsM.ol hE hM, hF⟩
