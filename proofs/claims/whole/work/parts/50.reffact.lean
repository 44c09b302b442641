set_option maxHeartbeats 4000000 in
set_option maxRecDepth 100000 in
theorem ct_StageRatiosModel_noFactors {lau : Launch} {D : va_G} {cy : Nat → ClassId} {aa ad : Nat → Nat} (hI : wI (wR D cy aa ad)) (m : Mem)   : MT lau (wR D cy aa ad) yX11_noFactors cX11_noFactors 2 (none) ({ frames := 0, cells := 0, slots := 0, locals := 0 } : Room) m [.ref (aa 0)] (Pv (fun m' => EX m' [] ∧ ∀ q : Nat, q ≠ 12 → m' q = m q)) := by
  refine v_entry hI RX11 (by decide) rfl (Nat.le_of_ble_eq_true rfl) (fun E hE C X => ?_)
  subst hE
  show V E (wR D cy aa ad) 2 m 0 [(0, .ref (aa 0))] []
  refine v_iconst (z := 0) C dX11_noFactors_0 rfl ?_
  refine v_istore_n (L1 := [(1, .int (iz (0))), (0, .ref (aa 0))]) C dX11_noFactors_1 (by decide) rfl ?_
  have K2 : ∀ (nK : Nat) (i : Int) (mL : Mem) (hi : 0 ≤ i ∧ i ≤ 400) (h0 : ∀ j : Int, 0 ≤ j → j < i → mL 12 j = 0) (hf : ∀ q : Nat, q ≠ 12 → mL q = m q), (400 - i).toNat < nK → V E (wR D cy aa ad) 2 mL 2 [(0, .ref (aa 0)), (1, .int (iz (i)))] [] := by
    intro nK
    induction nK with
    | zero => intro i mL hi h0 hf hn; exact absurd hn (Nat.not_lt_zero _)
    | succ nK ih2 =>
      intro i mL hi h0 hf hn2
      refine v_iload_n C 1 dX11_noFactors_2 rfl ?_
      refine v_sipush (z := 400) C dX11_noFactors_3 (by decide) ?_
      refine v_icmp_ge (tgt := 22) C dX11_noFactors_6 (by decide) (by omega) (by omega) (fun c1 => ?_) (fun c1 => ?_)
      · refine v_vret C X dX11_noFactors_22 ⟨rfl, ?_⟩
        exact ⟨fun k hk => h0 _ (by omega) (by omega), hf⟩
      · refine v_aload_n C 0 dX11_noFactors_9 rfl ?_
        refine v_get C 0 39 lR0 (eR0 _) rfl inX11 (by decide) rfl qw1179 dX11_noFactors_10 ?_
        refine v_iload_n C 1 dX11_noFactors_13 rfl ?_
        refine v_iconst (z := 0) C dX11_noFactors_14 rfl ?_
        refine v_iast C 12 lR12 eR12 (by decide) (by omega) dX11_noFactors_15 (fun m2 em2 => ?_)
        refine v_iinc (L1 := [(1, .int (iz (i + 1))), (0, .ref (aa 0))]) C 1 dX11_noFactors_16 rfl (by decide) rfl ?_
        refine v_goto (tgt := 2) C dX11_noFactors_19 (by decide) ?_
        refine v_sub [1, 0] rfl ?_
        exact ih2 (i + 1) m2 (by first | assumption | omega) (by 
                    intro j j0 j1; rw [em2, mup_r]
                    by_cases e : j = i
                    · exact if_pos e
                    · exact (if_neg e).trans (h0 j j0 (by omega))
                  ) (by intro q h; rw [em2, mup_k _ _ _ h]; exact hf q h) (by omega)
  refine v_sub [1, 0] rfl ?_
  exact K2 _ (0) m (by first | assumption | omega) (by intro j h0 h1; omega) (by intro q _; rfl) (Nat.lt_succ_self _)

set_option maxHeartbeats 4000000 in
set_option maxRecDepth 100000 in
theorem ct_StageRatiosModel_factors {lau : Launch} {D : va_G} {cy : Nat → ClassId} {aa ad : Nat → Nat} (hI : wI (wR D cy aa ad)) (m : Mem) (n g : Int) (l : List (Int × Int)) (hn : 1 ≤ n ∧ n ≤ 400) (hE : EX m l) : MT lau (wR D cy aa ad) yX11_factors cX11_factors 5 (none) ({ frames := 0, cells := 0, slots := 0, locals := 0 } : Room) m [.ref (aa 0), .int (iz (n)), .int (iz (g))] (Pv (fun m' => EX m' (l ++ [(n, g)]) ∧ ∀ q : Nat, q ≠ 12 → m' q = m q)) := by
  refine v_entry hI RX11 (by decide) rfl (Nat.le_of_ble_eq_true rfl) (fun E hE C X => ?_)
  subst hE
  show V E (wR D cy aa ad) 5 m 0 [(0, .ref (aa 0)), (1, .int (iz (n))), (2, .int (iz (g)))] []
  refine v_iload_n C 1 dX11_factors_0 rfl ?_
  refine v_istore_n (L1 := [(3, .int (iz (n))), (0, .ref (aa 0)), (1, .int (iz (n))), (2, .int (iz (g)))]) C dX11_factors_1 (by decide) rfl ?_
  refine v_iconst (z := 2) C dX11_factors_2 rfl ?_
  refine v_istore (L1 := [(4, .int (iz (2))), (3, .int (iz (n))), (0, .ref (aa 0)), (1, .int (iz (n))), (2, .int (iz (g)))]) C dX11_factors_3 (by decide) rfl ?_
  have K5 : ∀ (nK : Nat) (x : Int) (p : Int) (k : Nat) (mL : Mem) (hp : p = (k : Int) + 2 ∧ k ≤ 398) (hx : x = rsA n k) (hlo : ∀ j : Nat, j < k → mL 12 ((j : Int) + 2) = exL j l + g * evA n j) (hhi : ∀ j : Nat, k ≤ j → j < 398 → mL 12 ((j : Int) + 2) = exL j l) (hf : ∀ q : Nat, q ≠ 12 → mL q = m q), 398 - k < nK → V E (wR D cy aa ad) 5 mL 5 [(0, .ref (aa 0)), (1, .int (iz (n))), (2, .int (iz (g))), (3, .int (iz (x))), (4, .int (iz (p)))] [] := by
    intro nK
    induction nK with
    | zero => intro x p k mL hp hx hlo hhi hf hn; exact absurd hn (Nat.not_lt_zero _)
    | succ nK ih5 =>
      intro x p k mL hp hx hlo hhi hf hn5
      have hxr := rsA_rng hn.1 k
      refine v_iload_n C 3 dX11_factors_5 rfl ?_
      refine v_iconst (z := 1) C dX11_factors_6 rfl ?_
      refine v_icmp_le (tgt := 42) C dX11_factors_7 (by decide) (by omega) (by omega) (fun c1 => ?_) (fun c1 => ?_)
      · refine v_vret C X dX11_factors_42 ⟨rfl, ?_⟩
        refine ⟨fun j hj => ?_, hf⟩
        rw [exL_app, show exL j [(n, g)] = 0 + g * evA n j from rfl]
        by_cases e : j < k
        · rw [hlo j e]; omega
        · have z := (ev_0s (n := n) (k := k) (by omega) (j - k)).1
          rw [show k + (j - k) = j by omega] at z
          rw [hhi j (by omega) hj, z]; omega
      · have hg2 := rsA_ge hn.1 hn.2 (show 1 < rsA n k by omega)
        have K10 : ∀ (nK : Nat) (y : Int) (f : Nat) (mI : Mem) (hy : (1 ≤ y ∧ y ≤ x) ∧ y ≤ f ∧ rmv p f y = rmv p 400 (rsA n k) ∧ mI 12 p + g * cntv p f y = exL k l + g * cntv p 400 (rsA n k)) (hoth : ∀ j : Int, j ≠ p → mI 12 j = mL 12 j) (hf2 : ∀ q : Nat, q ≠ 12 → mI q = m q), y.toNat < nK → V E (wR D cy aa ad) 5 mI 10 [(0, .ref (aa 0)), (1, .int (iz (n))), (2, .int (iz (g))), (3, .int (iz (y))), (4, .int (iz (p)))] [] := by
          intro nK
          induction nK with
          | zero => intro y f mI hy hoth hf2 hn; exact absurd hn (Nat.not_lt_zero _)
          | succ nK ih10 =>
            intro y f mI hy hoth hf2 hn10
            have hgp := rsA_ge hn.1 hn.2 (show 1 < rsA n k by omega)
            refine v_iload_n C 3 dX11_factors_10 rfl ?_
            refine v_iload C 4 dX11_factors_11 rfl ?_
            have hm0r : 0 ≤ y % p ∧ y % p < p := ⟨Int.emod_nonneg _ (by omega), Int.emod_lt_of_pos _ (by omega)⟩
            refine v_irem C (by omega) (by omega) dX11_factors_13 ?_
            refine v_if_ne (tgt := 36) C dX11_factors_14 (by decide) (by omega) (fun c2 => ?_) (fun c2 => ?_)
            · refine v_iinc (L1 := [(4, .int (iz (p + 1))), (0, .ref (aa 0)), (1, .int (iz (n))), (2, .int (iz (g))), (3, .int (iz (y)))]) C 4 dX11_factors_36 rfl (by decide) rfl ?_
              refine v_goto (tgt := 5) C dX11_factors_39 (by decide) ?_
              have ey : ¬ (1 < y ∧ 1 < p ∧ y % p = 0) := by omega
              have eyx : rmv p f y = y ∧ cntv p f y = 0 := by
                cases f with
                | zero => exact ⟨rfl, rfl⟩
                | succ f => exact ⟨if_neg ey, if_neg ey⟩
              refine v_sub [1, 2, 3, 4, 0] rfl ?_
              exact ih5 (y) (p + 1) ((k + 1)) mI (by omega) (by rw [← eyx.1, hy.2.2.1, hp.1]; rfl) (by 
                                intro j h
                                by_cases e : j = k
                                · subst e
                                  have z := hy.2.2.2
                                  rw [eyx.2, Int.mul_zero, Int.add_zero] at z
                                  rw [← hp.1, z, hp.1]; rfl
                                · rw [hoth _ (by omega)]; exact hlo j (by omega)
                              ) (by intro j h1 h2; rw [hoth _ (by omega)]; exact hhi j (by omega) h2) (by exact hf2) (by omega)
            · refine v_aload_n C 0 dX11_factors_17 rfl ?_
              refine v_get C 0 39 lR0 (eR0 _) rfl inX11 (by decide) rfl qw1179 dX11_factors_18 ?_
              refine v_iload C 4 dX11_factors_21 rfl ?_
              refine v_dup2 C dX11_factors_23 rfl rfl ?_
              refine v_iald C 12 lR12 (eR12 _) (by decide) (by omega) dX11_factors_24 ?_
              refine v_iload_n C 2 dX11_factors_25 rfl ?_
              refine v_iadd C dX11_factors_26 ?_
              refine v_iast C 12 lR12 eR12 (by decide) (by omega) dX11_factors_27 (fun m3 em3 => ?_)
              refine v_iload_n C 3 dX11_factors_28 rfl ?_
              refine v_iload C 4 dX11_factors_29 rfl ?_
              refine v_idiv C (by omega) (by omega) dX11_factors_31 ?_
              refine v_istore_n (L1 := [(3, .int (iz (y / p))), (0, .ref (aa 0)), (1, .int (iz (n))), (2, .int (iz (g))), (4, .int (iz (p)))]) C dX11_factors_32 (by decide) rfl ?_
              refine v_goto (tgt := 10) C dX11_factors_33 (by decide) ?_
              have hm0 : y % p = 0 := by omega
              have hy1 : 1 < y := by
                apply Classical.byContradiction; intro c
                have e1 : y = 1 := by omega
                rw [e1, Int.emod_eq_of_lt (by decide) (by omega)] at hm0; omega
              have hdl := div_lt (r := y) (p := p) hy1 (by omega)
              have hd1 := div_1 (r := y) (p := p) hy1 (by omega) hm0
              obtain ⟨f, rfl⟩ : ∃ g2, f = g2 + 1 := ⟨f - 1, by omega⟩
              have e1 : 1 < y ∧ 1 < p ∧ y % p = 0 := ⟨hy1, by omega, hm0⟩
              have e3 : rmv p (f + 1) y = rmv p f (y / p) := if_pos e1
              have e4 : cntv p (f + 1) y = 1 + cntv p f (y / p) := if_pos e1
              refine v_sub [1, 2, 3, 0, 4] rfl ?_
              exact ih10 (y / p) (f) m3 (by 
                                refine ⟨⟨by omega, by omega⟩, by omega, by rw [← e3]; exact hy.2.2.1, ?_⟩
                                have z := hy.2.2.2
                                rw [e4, Int.mul_add, Int.mul_one] at z
                                rw [em3, mup_s]; omega
                              ) (by intro j h; rw [em3, mup_j _ _ h]; exact hoth j h) (by intro q h; rw [em3, mup_k _ _ _ h]; exact hf2 q h) (by omega)
        refine v_sub [0, 1, 2, 3, 4] rfl ?_
        exact K10 _ (x) (400) mL (by rw [hx]; exact ⟨⟨by omega, by omega⟩, by omega, rfl, by rw [hp.1, hhi k (by omega) (by omega)]⟩) (by intro j _; rfl) (by exact hf) (Nat.lt_succ_self _)
  refine v_sub [2, 3, 4, 1, 0] rfl ?_
  exact K5 _ (n) (2) (0) m (by omega) (by rfl) (by intro j h; omega) (by intro j _ h; exact hE j h) (by intro q _; rfl) (Nat.lt_succ_self _)

set_option maxHeartbeats 4000000 in
set_option maxRecDepth 100000 in
theorem ct_StageRatiosModel_ratio {lau : Launch} {D : va_G} {cy : Nat → ClassId} {aa ad : Nat → Nat} (hI : wI (wR D cy aa ad)) (m : Mem) (a b g : Int) (l : List (Int × Int)) (ha : 1 ≤ a ∧ a ≤ 400) (hb : 1 ≤ b ∧ b ≤ 400) (hE : EX m l) : MT lau (wR D cy aa ad) yX11_ratio cX11_ratio 4 (none) ({ frames := 1, cells := 0, slots := 0, locals := 24 } : Room) m [.ref (aa 0), .int (iz (a)), .int (iz (b)), .int (iz (g))] (Pv (fun m' => EX m' (l ++ [(a, g), (b, -g)]) ∧ ∀ q : Nat, q ≠ 12 → m' q = m q)) := by
  refine v_entry hI RX11 (by decide) rfl (Nat.le_of_ble_eq_true rfl) (fun E hE C X => ?_)
  subst hE
  show V E (wR D cy aa ad) 4 m 0 [(0, .ref (aa 0)), (1, .int (iz (a))), (2, .int (iz (b))), (3, .int (iz (g)))] []
  refine v_aload_n C 0 dX11_ratio_0 rfl ?_
  refine v_iload_n C 1 dX11_ratio_1 rfl ?_
  refine v_iload_n C 3 dX11_ratio_2 rfl ?_
  refine v_callV (st := []) (n := 2) (q := 0) C [.int (iz (a)), .int (iz (g))] (ct_StageRatiosModel_factors C.2.2.2.2.2.2.1 m (a) (g) (l) (by first | assumption | omega) (by first | assumption | omega)) lR0 (eR0 _) rfl qw1573 qw16 qw1570 rfl rfl ⟨Nat.le_of_ble_eq_true rfl, Nat.le_of_ble_eq_true rfl⟩ (by decide +kernel) qw1572 qp76 rfl rfl (Nat.le_of_ble_eq_true rfl) dX11_ratio_3 (fun r m1 hq1 => ?_)
  obtain ⟨rfl, hq1⟩ := hq1
  show V E (wR D cy aa ad) 4 m1 6 [(0, .ref (aa 0)), (1, .int (iz (a))), (2, .int (iz (b))), (3, .int (iz (g)))] []
  refine v_aload_n C 0 dX11_ratio_6 rfl ?_
  refine v_iload_n C 2 dX11_ratio_7 rfl ?_
  refine v_iload_n C 3 dX11_ratio_8 rfl ?_
  refine v_ineg C dX11_ratio_9 ?_
  refine v_callV (st := []) (n := 2) (q := 0) C [.int (iz (b)), .int (iz (-g))] (ct_StageRatiosModel_factors C.2.2.2.2.2.2.1 m1 (b) (-g) (l ++ [(a, g)]) (by first | assumption | omega) (by exact hq1.1)) lR0 (eR0 _) rfl qw1573 qw16 qw1570 rfl rfl ⟨Nat.le_of_ble_eq_true rfl, Nat.le_of_ble_eq_true rfl⟩ (by decide +kernel) qw1572 qp76 rfl rfl (Nat.le_of_ble_eq_true rfl) dX11_ratio_10 (fun r m2 hq2 => ?_)
  obtain ⟨rfl, hq2⟩ := hq2
  show V E (wR D cy aa ad) 4 m2 13 [(0, .ref (aa 0)), (1, .int (iz (a))), (2, .int (iz (b))), (3, .int (iz (g)))] []
  refine v_vret C X dX11_ratio_13 ⟨rfl, ?_⟩
  refine ⟨?_, fun q h => by rw [hq2.2 q h, hq1.2 q h]⟩
  have z := hq2.1
  rw [List.append_assoc] at z
  exact z

set_option maxHeartbeats 4000000 in
set_option maxRecDepth 100000 in
theorem ct_StageRatiosModel_lowest {lau : Launch} {D : va_G} {cy : Nat → ClassId} {aa ad : Nat → Nat} (hI : wI (wR D cy aa ad)) (m : Mem) (l : List (Int × Int)) (up : Int) (hE : EX m l) (hup : up = 0 ∨ up = 1) (hr : ∀ k : Nat, -1000000 ≤ exL k l ∧ exL k l ≤ 1000000) : MT lau (wR D cy aa ad) yX11_lowest cX11_lowest 7 (some .int) ({ frames := 0, cells := 0, slots := 0, locals := 0 } : Room) m [.ref (aa 0), .int (iz (up))] (Pi (fun z m' => lowA (fun j0 => if up = 1 then exL j0 l else -exL j0 l) 398 = z ∧ m = m')) := by
  refine v_entry hI RX11 (by decide) rfl (Nat.le_of_ble_eq_true rfl) (fun E hE C X => ?_)
  subst hE
  show V E (wR D cy aa ad) 7 m 0 [(0, .ref (aa 0)), (1, .int (iz (up)))] []
  refine v_lconst (z := 1) C dX11_lowest_0 rfl ?_
  refine v_lstore_n (L1 := [(2, .long (lz (1))), (0, .ref (aa 0)), (1, .int (iz (up)))]) C dX11_lowest_1 (by decide) rfl ?_
  refine v_iconst (z := 2) C dX11_lowest_2 rfl ?_
  refine v_istore (L1 := [(4, .int (iz (2))), (2, .long (lz (1))), (0, .ref (aa 0)), (1, .int (iz (up)))]) C dX11_lowest_3 (by decide) rfl ?_
  have K5 : ∀ (nK : Nat) (v : Int) (p : Int) (k : Nat) (hp : p = (k : Int) + 2 ∧ k ≤ 398) (hv : v = lowA (fun j0 => if up = 1 then exL j0 l else -exL j0 l) k), 398 - k < nK → V E (wR D cy aa ad) 7 m 5 [(0, .ref (aa 0)), (1, .int (iz (up))), (2, .long (lz (v))), (4, .int (iz (p)))] [] := by
    intro nK
    induction nK with
    | zero => intro v p k  hp hv hn; exact absurd hn (Nat.not_lt_zero _)
    | succ nK ih5 =>
      intro v p k  hp hv hn5
      have hvr := lowA_rng (fun j0 => if up = 1 then exL j0 l else -exL j0 l) k
      refine v_iload C 3 dX11_lowest_5 rfl ?_
      refine v_sipush (z := 400) C dX11_lowest_7 (by decide) ?_
      refine v_icmp_ge (tgt := 69) C dX11_lowest_10 (by decide) (by omega) (by omega) (fun c1 => ?_) (fun c1 => ?_)
      · refine v_lload_n C 2 dX11_lowest_69 rfl ?_
        refine v_l2i C dX11_lowest_70 ?_
        refine v_iret C X rfl dX11_lowest_71 ⟨_, rfl, ?_, ?_⟩
        · rw [hv, show k = 398 by omega]
        · rfl
      · have K35 : ∀ (mn : Int) (hmn : mn = if up = 1 then exL k l else -exL k l), V E (wR D cy aa ad) 7 m 35 [(0, .ref (aa 0)), (1, .int (iz (up))), (2, .long (lz (v))), (4, .int (iz (p)))] [.int (iz (mn))] := by
          intro mn  hmn
          have hek := hr k
          have hmr : -1000000 ≤ mn ∧ mn ≤ 1000000 := by rw [hmn]; split <;> omega
          have hmul0 : ∀ u : Int, 0 ≤ u → 0 ≤ u * p := fun u h => Int.mul_nonneg h (by omega)
          have hmul1 : ∀ u : Int, 0 ≤ u → u * p ≤ u * 400 := fun u h => Int.mul_le_mul_of_nonneg_left (by omega) h
          refine v_istore (L1 := [(5, .int (iz (mn))), (0, .ref (aa 0)), (1, .int (iz (up))), (2, .long (lz (v))), (4, .int (iz (p)))]) C dX11_lowest_35 (by decide) rfl ?_
          refine v_iconst (z := 0) C dX11_lowest_37 rfl ?_
          refine v_istore (L1 := [(6, .int (iz (0))), (5, .int (iz (mn))), (0, .ref (aa 0)), (1, .int (iz (up))), (2, .long (lz (v))), (4, .int (iz (p)))]) C dX11_lowest_38 (by decide) rfl ?_
          have K40 : ∀ (nK : Nat) (c : Int) (u : Int) (hc : 0 ≤ c ∧ (c ≤ 0 ∨ c ≤ mn)) (hu : u = pwM v ((k : Int) + 2) c.toNat), (mn - c).toNat < nK → V E (wR D cy aa ad) 7 m 40 [(0, .ref (aa 0)), (1, .int (iz (up))), (2, .long (lz (u))), (4, .int (iz (p))), (5, .int (iz (mn))), (6, .int (iz (c)))] [] := by
            intro nK
            induction nK with
            | zero => intro c u  hc hu hn; exact absurd hn (Nat.not_lt_zero _)
            | succ nK ih40 =>
              intro c u  hc hu hn40
              have hur := pwM_rng (v := v) (p := (k : Int) + 2) (by omega) c.toNat
              refine v_iload C 5 dX11_lowest_40 rfl ?_
              refine v_iload C 4 dX11_lowest_42 rfl ?_
              refine v_icmp_ge (tgt := 63) C dX11_lowest_44 (by decide) (by omega) (by omega) (fun c2 => ?_) (fun c2 => ?_)
              · refine v_iinc (L1 := [(4, .int (iz (p + 1))), (0, .ref (aa 0)), (1, .int (iz (up))), (2, .long (lz (u))), (5, .int (iz (mn))), (6, .int (iz (c)))]) C 3 dX11_lowest_63 rfl (by decide) rfl ?_
                refine v_goto (tgt := 5) C dX11_lowest_66 (by decide) ?_
                refine v_sub [1, 2, 3, 0] rfl ?_
                exact ih5 (u) (p + 1) ((k + 1))  (by omega) (by rw [hu, show lowA (fun j0 => if up = 1 then exL j0 l else -exL j0 l) (k + 1) = pwM (lowA (fun j0 => if up = 1 then exL j0 l else -exL j0 l) k) ((k : Int) + 2) (if up = 1 then exL k l else -exL k l).toNat from rfl, ← hv, ← hmn]; congr 1; omega) (by omega)
              · refine v_lload_n C 2 dX11_lowest_47 rfl ?_
                refine v_iload C 3 dX11_lowest_48 rfl ?_
                refine v_i2l C (by omega) dX11_lowest_50 ?_
                refine v_lmul C dX11_lowest_51 ?_
                refine v_ldc2 (z := 1000003) C qw1578 dX11_lowest_52 rfl ?_
                have hm0 := hmul0 u (by omega)
                have hm1 := hmul1 u (by omega)
                refine v_lrem C (by omega) (by omega) dX11_lowest_55 ?_
                refine v_lstore_n (L1 := [(2, .long (lz ((u * p) % 1000003))), (0, .ref (aa 0)), (1, .int (iz (up))), (4, .int (iz (p))), (5, .int (iz (mn))), (6, .int (iz (c)))]) C dX11_lowest_56 (by decide) rfl ?_
                refine v_iinc (L1 := [(6, .int (iz (c + 1))), (2, .long (lz ((u * p) % 1000003))), (0, .ref (aa 0)), (1, .int (iz (up))), (4, .int (iz (p))), (5, .int (iz (mn)))]) C 5 dX11_lowest_57 rfl (by decide) rfl ?_
                refine v_goto (tgt := 40) C dX11_lowest_60 (by decide) ?_
                refine v_sub [2, 3, 1, 4, 5, 0] rfl ?_
                exact ih40 (c + 1) ((u * p) % 1000003)  (by omega) (by rw [show (c + 1).toNat = c.toNat + 1 by omega]; show _ = pwM v ((k : Int) + 2) c.toNat * _ % _; rw [hu, hp.1]) (by omega)
          refine v_sub [2, 3, 4, 5, 1, 0] rfl ?_
          exact K40 _ (0) (v)  (by omega) (by rfl) (Nat.lt_succ_self _)
        refine v_iload_n C 1 dX11_lowest_13 rfl ?_
        refine v_if_eq (tgt := 27) C dX11_lowest_14 (by decide) (by omega) (fun c3 => ?_) (fun c3 => ?_)
        · refine v_aload_n C 0 dX11_lowest_27 rfl ?_
          refine v_get C 0 39 lR0 (eR0 _) rfl inX11 (by decide) rfl qw1179 dX11_lowest_28 ?_
          refine v_iload C 3 dX11_lowest_31 rfl ?_
          refine v_iald C 12 lR12 (eR12 _) (by decide) (by omega) dX11_lowest_33 ?_
          refine v_ineg C dX11_lowest_34 ?_
          refine v_sub [0, 1, 2, 3] rfl ?_
          exact K35  (-(m 12 p))  (by first | (rw [if_pos (by omega), hp.1, hE k (by omega)]) | (rw [if_neg (by omega), hp.1, hE k (by omega)]))
        · refine v_aload_n C 0 dX11_lowest_17 rfl ?_
          refine v_get C 0 39 lR0 (eR0 _) rfl inX11 (by decide) rfl qw1179 dX11_lowest_18 ?_
          refine v_iload C 3 dX11_lowest_21 rfl ?_
          refine v_iald C 12 lR12 (eR12 _) (by decide) (by omega) dX11_lowest_23 ?_
          refine v_goto (tgt := 35) C dX11_lowest_24 (by decide) ?_
          refine v_sub [0, 1, 2, 3] rfl ?_
          exact K35  (m 12 p)  (by first | (rw [if_pos (by omega), hp.1, hE k (by omega)]) | (rw [if_neg (by omega), hp.1, hE k (by omega)]))
  refine v_sub [2, 3, 1, 0] rfl ?_
  exact K5 _ (1) (2) (0)  (by omega) (by rfl) (Nat.lt_succ_self _)
