section VX
variable {E : Amb} {w : Wd} {cc : ByteArray} {own : String} {nL : Nat} {R0 : Room} {m : Mem} {pc : Nat} {L : List (Nat × Value)} {st : List Value}
theorem v_ldcw (C : Cx E w cc own nL R0) {index : Nat} {v : Int32} {z : Int} (hw : Cond.constant own index v ∈ lw_gd) (hdg : decode cc pc = .ok (.ldc_w index, 3)) (hz : v = iz z) (k : V E w nL m (pc + 3) L (.int (iz z) :: st)) : V E w nL m pc L (st) := fun H locs d0 ls hd hP hS hl => by
  have k := k H locs d0 ls hd hP hS hl
  exact lv_ldcw (v := iz z) C.1 C.2.1 C.2.2.2.1 (dr_words C.2.2.2.2.1 _ _ (hz ▸ hw)) hdg k
end VX
def BW2 (m : Mem) (N Q : Int) : Prop := BwIs m 37 10 N ∧ BwIs m 38 11 Q
def FBm (m m' : Mem) : Prop := (∀ j : Int, j ≠ 37 → j ≠ 38 → m' 0 j = m 0 j) ∧ ∀ q : Nat, q ≠ 0 → q ≠ 10 → q ≠ 11 → m' q = m q
theorem FBm.tr {m m1 m2 : Mem} (h : FBm m m1) (k : FBm m1 m2) : FBm m m2 := ⟨fun j h1 h2 => by rw [k.1 j h1 h2, h.1 j h1 h2], fun q h1 h2 h3 => by rw [k.2 q h1 h2 h3, h.2 q h1 h2 h3]⟩
theorem FBm.rt {m m1 : Mem} {fa A B Cn R X : Int → Int} (h : FBm m m1) (g : RT m fa A B Cn R X) : RT m1 fa A B Cn R X := g.fr (fun j hj => h.1 j (by unfold CKj at hj; omega) (by unfold CKj at hj; omega)) (h.2 1 (by decide) (by decide) (by decide)) (h.2 2 (by decide) (by decide) (by decide)) (h.2 6 (by decide) (by decide) (by decide))
theorem FBm.dt {m m1 : Mem} {n P : Int} {D : Int → Int} (h : FBm m m1) (g : DT m n P D) : DT m1 n P D := g.fr (h.1 34 (by decide) (by decide)) (h.2 9 (by decide) (by decide) (by decide))
theorem w240 {N L : Int} {k : Nat} (h0 : 0 ≤ N) (h : N ≤ 2 ^ 2200) (hL : 1 ≤ L) (hL2 : L ≤ 99) (hk : k ≤ 41) : N * L ^ k < 32768 ^ 240 := by
  have a := pw_up (x := L) (y := 128) (by omega) (by omega) k
  have a2 := pw_le (x := 128) (by omega) hk
  have b := pw_pos hL k
  have c := Int.mul_le_mul h (Int.le_trans a a2) (by omega) (by decide +kernel)
  have d : (2 : Int) ^ 2200 * 128 ^ 41 < 32768 ^ 240 := by decide +kernel
  omega
theorem le_2200 {x : Int} (h : x ≤ 2 ^ 104) : x ≤ 2 ^ 2200 := by
  have : (2 : Int) ^ 104 ≤ 2 ^ 2200 := by decide +kernel
  omega
theorem lt_240 {x : Int} (h : x ≤ 2 ^ 2200) : x < 32768 ^ 240 := by
  have : (2 : Int) ^ 2200 < 32768 ^ 240 := by decide +kernel
  omega
theorem pw_lt {x a B : Int} {k n : Nat} (hx : 0 ≤ x) (ha : 1 ≤ a) (hk : k ≤ n) (h : x * a ^ n < B) : x * a ^ k < B := Int.lt_of_le_of_lt (Int.mul_le_mul_of_nonneg_left (pw_le ha hk) hx) h
set_option maxHeartbeats 4000000 in
set_option maxRecDepth 100000 in
theorem ct_StageRatiosModel_one {lau : Launch} {D : va_G} {cy : Nat → ClassId} {aa ad : Nat → Nat} (hI : wI (wR D cy aa ad)) (m : Mem)   : MT lau (wR D cy aa ad) yX11_one cX11_one 1 (none) ({ frames := 0, cells := 0, slots := 0, locals := 0 } : Room) m [.ref (aa 0)] (Pv (fun m' => BW2 m' 1 1 ∧ FBm m m')) := by
  refine v_entry hI RX11 (by decide) rfl (Nat.le_of_ble_eq_true rfl) (fun E hE C X => ?_)
  subst hE
  show V E (wR D cy aa ad) 1 m 0 [(0, .ref (aa 0))] []
  refine v_aload_n C 0 dX11_one_0 rfl ?_
  refine v_get C 0 35 lR0 (eR0 _) rfl inX11 (by decide) rfl qw1175 dX11_one_1 ?_
  refine v_iconst (z := 0) C dX11_one_4 rfl ?_
  refine v_iconst (z := 1) C dX11_one_5 rfl ?_
  refine v_iast C 10 lR10 eR10 (by decide) (by omega) dX11_one_6 (fun m1 em1 => ?_)
  refine v_aload_n C 0 dX11_one_7 rfl ?_
  refine v_get C 0 36 lR0 (eR0 _) rfl inX11 (by decide) rfl qw1176 dX11_one_8 ?_
  refine v_iconst (z := 0) C dX11_one_11 rfl ?_
  refine v_iconst (z := 1) C dX11_one_12 rfl ?_
  refine v_iast C 11 lR11 eR11 (by decide) (by omega) dX11_one_13 (fun m2 em2 => ?_)
  refine v_aload_n C 0 dX11_one_14 rfl ?_
  refine v_iconst (z := 1) C dX11_one_15 rfl ?_
  refine v_put C 0 37 (1) 37 rfl lR0 (eR0 _) rfl inX11 tyX11 tyX11_ok nmX11 (by decide) qw1177 rfl rfl rfl (Nat.le_of_ble_eq_true rfl) (by rw [mup_r]; exact (eR0 _)) dX11_one_16 (fun m3 em3 => ?_)
  refine v_aload_n C 0 dX11_one_19 rfl ?_
  refine v_iconst (z := 1) C dX11_one_20 rfl ?_
  refine v_put C 0 38 (1) 38 rfl lR0 (eR0 _) rfl inX11 tyX11 tyX11_ok nmX11 (by decide) qw1178 rfl rfl rfl (Nat.le_of_ble_eq_true rfl) (by rw [mup_r]; exact (eR0 _)) dX11_one_21 (fun m4 em4 => ?_)
  refine v_vret C X dX11_one_24 ⟨rfl, ?_⟩
  have e10 : m4 10 = fun j => if j = 0 then 1 else m 10 j := by rw [em4, mup_k _ _ _ (by decide), em3, mup_k _ _ _ (by decide), em2, mup_k _ _ _ (by decide), em1, mup_r]
  have e11 : m4 11 = fun j => if j = 0 then 1 else m 11 j := by rw [em4, mup_k _ _ _ (by decide), em3, mup_k _ _ _ (by decide), em2, mup_r, em1, mup_k _ _ _ (by decide)]
  refine ⟨⟨⟨1, by decide, by decide, by rw [em4, mup_j _ _ (by decide), em3, mup_s]; rfl, fun j h0 h1 => ?_, ?_, ?_⟩, ⟨1, by decide, by decide, by rw [em4, mup_s]; rfl, fun j h0 h1 => ?_, ?_, ?_⟩⟩, fun j h1 h2 => ?_, fun q h0 h1 h2 => ?_⟩
  · rw [e10, show j = 0 by omega]; show (0 : Int) ≤ 1 ∧ (1 : Int) < 32768; decide
  · rw [e10]; exact (by decide : (0 : Int) < 1)
  · show 0 + m4 10 ((0 : Nat) : Int) * 1 = 1
    rw [e10]; rfl
  · rw [e11, show j = 0 by omega]; show (0 : Int) ≤ 1 ∧ (1 : Int) < 32768; decide
  · rw [e11]; exact (by decide : (0 : Int) < 1)
  · show 0 + m4 11 ((0 : Nat) : Int) * 1 = 1
    rw [e11]; rfl
  · rw [em4, mup_j _ _ h2, em3, mup_j _ _ h1, em2, mup_k _ _ _ (by decide), em1, mup_k _ _ _ (by decide)]
  · rw [em4, mup_k _ _ _ h0, em3, mup_k _ _ _ h0, em2, mup_k _ _ _ h2, em1, mup_k _ _ _ h1]

set_option maxHeartbeats 4000000 in
set_option maxRecDepth 100000 in
theorem ct_StageRatiosModel_timesOver {lau : Launch} {D : va_G} {cy : Nat → ClassId} {aa ad : Nat → Nat} (hI : wI (wR D cy aa ad)) (m : Mem) (x v : Int) (hb : BwIs m 37 10 v) (hx : 1 ≤ x ∧ x ≤ 400) (hlt : v * x < 32768 ^ 240) : MT lau (wR D cy aa ad) yX11_timesOver cX11_timesOver 5 (none) ({ frames := 0, cells := 0, slots := 0, locals := 0 } : Room) m [.ref (aa 0), .int (iz (x))] (Pv (fun m' => BwIs m' 37 10 (v * x) ∧ (∀ j : Int, j ≠ 37 → m' 0 j = m 0 j) ∧ ∀ q : Nat, q ≠ 0 → q ≠ 10 → m' q = m q)) := by
  refine v_entry hI RX11 (by decide) rfl (Nat.le_of_ble_eq_true rfl) (fun E hE C X => ?_)
  subst hE
  show V E (wR D cy aa ad) 5 m 0 [(0, .ref (aa 0)), (1, .int (iz (x)))] []
  obtain ⟨n, hn1, hn2, hu, hlim, htop, hval⟩ := hb
  refine v_iconst (z := 0) C dX11_timesOver_0 rfl ?_
  refine v_istore_n (L1 := [(2, .int (iz (0))), (0, .ref (aa 0)), (1, .int (iz (x)))]) C dX11_timesOver_1 (by decide) rfl ?_
  refine v_iconst (z := 0) C dX11_timesOver_2 rfl ?_
  refine v_istore_n (L1 := [(3, .int (iz (0))), (2, .int (iz (0))), (0, .ref (aa 0)), (1, .int (iz (x)))]) C dX11_timesOver_3 (by decide) rfl ?_
  have K4 : ∀ (nK : Nat) (c : Int) (i : Int) (mL : Mem) (hi : 0 ≤ i ∧ i ≤ n) (hc : 0 ≤ c ∧ c < x) (hf : ∀ k, k ≠ 10 → mL k = m k) (hlo : ∀ j : Int, 0 ≤ j → j < i → 0 ≤ mL 10 j ∧ mL 10 j < 32768) (hhi : ∀ j : Int, i ≤ j → mL 10 j = m 10 j) (hV : bgW (mL 10) i.toNat + c * 32768 ^ i.toNat = bgW (m 10) i.toNat * x), (n - i).toNat < nK → V E (wR D cy aa ad) 5 mL 4 [(0, .ref (aa 0)), (1, .int (iz (x))), (2, .int (iz (c))), (3, .int (iz (i)))] [] := by
    intro nK
    induction nK with
    | zero => intro c i mL hi hc hf hlo hhi hV hn; exact absurd hn (Nat.not_lt_zero _)
    | succ nK ih4 =>
      intro c i mL hi hc hf hlo hhi hV hn4
      have hun : mL 0 37 = n := by rw [hf 0 (by decide)]; exact hu
      refine v_iload_n C 3 dX11_timesOver_4 rfl ?_
      refine v_aload_n C 0 dX11_timesOver_5 rfl ?_
      refine v_get C 0 37 lR0 (eR0 _) rfl inX11 (by decide) rfl qw1177 dX11_timesOver_6 ?_
      refine v_icmp_ge (tgt := 49) C dX11_timesOver_9 (by decide) (by omega) (by omega) (fun c1 => ?_) (fun c1 => ?_)
      · have hin : i = n := by omega
        subst hin
        rw [show ((n : Int)).toNat = n from rfl, hval] at hV
        have hw := bgW_top hn1 hlim htop
        rw [hval] at hw
        have hv0 : 0 < v := Int.lt_of_lt_of_le (pwW_pos _) hw
        have hwx : (32768 : Int) ^ (n - 1) ≤ v * x := Int.le_trans hw (by have := Int.mul_le_mul_of_nonneg_left (a := 1) (b := x) (c := v) (by omega) (by omega); rwa [Int.mul_one] at this)
        refine v_iload_n C 2 dX11_timesOver_49 rfl ?_
        refine v_if_le (tgt := 73) C dX11_timesOver_50 (by decide) (by omega) (fun c2 => ?_) (fun c2 => ?_)
        · refine v_vret C X dX11_timesOver_73 ⟨rfl, ?_⟩
          first
            | (have hc0 : c = 0 := by omega
               rw [hc0, Int.zero_mul, Int.add_zero] at hV
               exact ⟨bw_end0 hn1 hn2 hun hlo hV hwx, fun j _ => by rw [hf 0 (by decide)], fun k h1 h2 => hf k h2⟩)
            | (have q := bw_end1 (m := mL) (f := 37) (gl := 10) (n := n) (by decide) (by omega) hlo hV (by omega) (by omega)
               have e1 : NO_m62 = mup mL 10 n c := by rw [NO_em62, hun]
               have e2 : NO_m70 = mup (mup mL 10 n c) 0 37 ((n : Int) + 1) := by rw [NO_em70, e1, mup_k _ _ _ (by decide), hun]
               rw [e2]
               exact ⟨q, fun j h => by rw [mup_j _ _ h, mup_k _ _ _ (by decide), hf 0 (by decide)], fun k h1 h2 => by rw [mup_k _ _ _ h1, mup_k _ _ _ h2]; exact hf k h2⟩)
        · have hn240 : n < 240 := by
            apply Classical.byContradiction; intro h
            have e16 : n = 240 := by omega
            subst e16
            have e1 := (bgW_rng hlo).1
            have e2 : 1 * 32768 ^ 240 ≤ c * 32768 ^ 240 := Int.mul_le_mul_of_nonneg_right (by omega) (Int.le_of_lt (pwW_pos _))
            omega
          refine v_aload_n C 0 dX11_timesOver_53 rfl ?_
          refine v_get C 0 35 lR0 (eR0 _) rfl inX11 (by decide) rfl qw1175 dX11_timesOver_54 ?_
          refine v_aload_n C 0 dX11_timesOver_57 rfl ?_
          refine v_get C 0 37 lR0 (eR0 _) rfl inX11 (by decide) rfl qw1177 dX11_timesOver_58 ?_
          refine v_iload_n C 2 dX11_timesOver_61 rfl ?_
          refine v_iast C 10 lR10 eR10 (by decide) (by omega) dX11_timesOver_62 (fun m3 em3 => ?_)
          refine v_aload_n C 0 dX11_timesOver_63 rfl ?_
          refine v_dup C dX11_timesOver_64 rfl ?_
          refine v_get C 0 37 lR0 (eR0 _) rfl inX11 (by decide) rfl qw1177 dX11_timesOver_65 ?_
          refine v_iconst (z := 1) C dX11_timesOver_68 rfl ?_
          refine v_iadd C dX11_timesOver_69 ?_
          refine v_put C 0 37 ((m3 0 37) + 1) 37 rfl lR0 (eR0 _) rfl inX11 tyX11 tyX11_ok nmX11 (by decide) qw1177 rfl rfl rfl (Nat.le_of_ble_eq_true rfl) (by rw [mup_r]; exact (eR0 _)) dX11_timesOver_70 (fun m4 em4 => ?_)
          refine v_vret C X dX11_timesOver_73 ⟨rfl, ?_⟩
          first
            | (have hc0 : c = 0 := by omega
               rw [hc0, Int.zero_mul, Int.add_zero] at hV
               exact ⟨bw_end0 hn1 hn2 hun hlo hV hwx, fun j _ => by rw [hf 0 (by decide)], fun k h1 h2 => hf k h2⟩)
            | (have q := bw_end1 (m := mL) (f := 37) (gl := 10) (n := n) (by decide) (by omega) hlo hV (by omega) (by omega)
               have e1 : m3 = mup mL 10 n c := by rw [em3, hun]
               have e2 : m4 = mup (mup mL 10 n c) 0 37 ((n : Int) + 1) := by rw [em4, e1, mup_k _ _ _ (by decide), hun]
               rw [e2]
               exact ⟨q, fun j h => by rw [mup_j _ _ h, mup_k _ _ _ (by decide), hf 0 (by decide)], fun k h1 h2 => by rw [mup_k _ _ _ h1, mup_k _ _ _ h2]; exact hf k h2⟩)
      · have hgi := hlim i (by omega) (by omega)
        have hgi2 : mL 10 i = m 10 i := hhi i (by omega)
        have hmul : m 10 i * x ≤ 32767 * x := Int.mul_le_mul_of_nonneg_right (by omega) (by omega)
        have hmul0 : 0 ≤ m 10 i * x := Int.mul_nonneg (by omega) (by omega)
        have hp : 0 ≤ mL 10 i * x + c ∧ mL 10 i * x + c ≤ 2147483647 := by rw [hgi2]; exact ⟨by omega, by omega⟩
        refine v_aload_n C 0 dX11_timesOver_12 rfl ?_
        refine v_get C 0 35 lR0 (eR0 _) rfl inX11 (by decide) rfl qw1175 dX11_timesOver_13 ?_
        refine v_iload_n C 3 dX11_timesOver_16 rfl ?_
        refine v_iald C 10 lR10 (eR10 _) (by decide) (by omega) dX11_timesOver_17 ?_
        refine v_iload_n C 1 dX11_timesOver_18 rfl ?_
        refine v_imul C dX11_timesOver_19 ?_
        refine v_iload_n C 2 dX11_timesOver_20 rfl ?_
        refine v_iadd C dX11_timesOver_21 ?_
        refine v_istore (L1 := [(4, .int (iz (((mL 10 i) * x) + c))), (0, .ref (aa 0)), (1, .int (iz (x))), (2, .int (iz (c))), (3, .int (iz (i)))]) C dX11_timesOver_22 (by decide) rfl ?_
        refine v_aload_n C 1 dX11_timesOver_24 rfl ?_
        refine v_get C 0 35 lR0 (eR0 _) rfl inX11 (by decide) rfl qw1175 dX11_timesOver_25 ?_
        refine v_iload_n C 4 dX11_timesOver_28 rfl ?_
        refine v_iload C 0 dX11_timesOver_29 rfl ?_
        refine v_ldcw (z := 32768) C qw1529 dX11_timesOver_31 rfl ?_
        refine v_irem C (by first | exact hp | omega) (by first | exact hp | omega) dX11_timesOver_34 ?_
        refine v_iast C 10 lR10 eR10 (by decide) (by omega) dX11_timesOver_35 (fun m5 em5 => ?_)
        refine v_iload C 0 dX11_timesOver_36 rfl ?_
        refine v_ldcw (z := 32768) C qw1529 dX11_timesOver_38 rfl ?_
        refine v_idiv C (by first | exact hp | omega) (by first | exact hp | omega) dX11_timesOver_41 ?_
        refine v_istore_n (L1 := [(2, .int (iz ((((mL 10 i) * x) + c) / 32768))), (4, .int (iz (((mL 10 i) * x) + c))), (0, .ref (aa 0)), (1, .int (iz (x))), (3, .int (iz (i)))]) C dX11_timesOver_42 (by decide) rfl ?_
        refine v_iinc (L1 := [(3, .int (iz (i + 1))), (2, .int (iz ((((mL 10 i) * x) + c) / 32768))), (4, .int (iz (((mL 10 i) * x) + c))), (0, .ref (aa 0)), (1, .int (iz (x)))]) C 4 dX11_timesOver_43 rfl (by decide) rfl ?_
        refine v_goto (tgt := 4) C dX11_timesOver_46 (by decide) ?_
        refine v_sub [3, 4, 1, 0] rfl ?_
        exact ih4 ((((mL 10 i) * x) + c) / 32768) (i + 1) m5 (by first | assumption | omega) (by rw [hgi2]; exact ⟨by omega, by omega⟩) (by intro k h; rw [em5, mup_k _ _ _ h]; exact hf k h) (by 
                    intro j h0 h1; rw [em5]
                    by_cases q : j = i
                    · subst q; rw [mup_s]; exact ⟨Int.emod_nonneg _ (by omega), Int.emod_lt_of_pos _ (by omega)⟩
                    · rw [mup_j _ _ q]; exact hlo j h0 (by omega)
                  ) (by intro j h; rw [em5, mup_j _ _ (by omega)]; exact hhi j (by omega)) (by 
                    have e1 : (i + 1).toNat = i.toNat + 1 := by omega
                    have e2 : ((i.toNat : Nat) : Int) = i := by omega
                    have e3 : bgW (m5 10) i.toNat = bgW (mL 10) i.toNat := bgW_cg fun j h0 h1 => by rw [em5, mup_j _ _ (by omega)]
                    have := bgW_step (f := m5 10) (g := m 10) (n := i.toNat) (c := c) (x := x) (by rw [e3]; exact hV) (by rw [e2, em5, mup_s, hgi2])
                    rw [e2] at this
                    rw [e1, hgi2]
                    exact this
                  ) (by omega)
  refine v_sub [2, 3, 1, 0] rfl ?_
  exact K4 _ (0) (0) m (by first | assumption | omega) (by first | assumption | omega) (by intro k h; rfl) (by intro j h0 h1; omega) (by intro j h; rfl) (by show (0 : Int) + 0 * 1 = 0 * x; omega) (Nat.lt_succ_self _)

set_option maxHeartbeats 4000000 in
set_option maxRecDepth 100000 in
theorem ct_StageRatiosModel_timesUnder {lau : Launch} {D : va_G} {cy : Nat → ClassId} {aa ad : Nat → Nat} (hI : wI (wR D cy aa ad)) (m : Mem) (x v : Int) (hb : BwIs m 38 11 v) (hx : 1 ≤ x ∧ x ≤ 400) (hlt : v * x < 32768 ^ 240) : MT lau (wR D cy aa ad) yX11_timesUnder cX11_timesUnder 5 (none) ({ frames := 0, cells := 0, slots := 0, locals := 0 } : Room) m [.ref (aa 0), .int (iz (x))] (Pv (fun m' => BwIs m' 38 11 (v * x) ∧ (∀ j : Int, j ≠ 38 → m' 0 j = m 0 j) ∧ ∀ q : Nat, q ≠ 0 → q ≠ 11 → m' q = m q)) := by
  refine v_entry hI RX11 (by decide) rfl (Nat.le_of_ble_eq_true rfl) (fun E hE C X => ?_)
  subst hE
  show V E (wR D cy aa ad) 5 m 0 [(0, .ref (aa 0)), (1, .int (iz (x)))] []
  obtain ⟨n, hn1, hn2, hu, hlim, htop, hval⟩ := hb
  refine v_iconst (z := 0) C dX11_timesUnder_0 rfl ?_
  refine v_istore_n (L1 := [(2, .int (iz (0))), (0, .ref (aa 0)), (1, .int (iz (x)))]) C dX11_timesUnder_1 (by decide) rfl ?_
  refine v_iconst (z := 0) C dX11_timesUnder_2 rfl ?_
  refine v_istore_n (L1 := [(3, .int (iz (0))), (2, .int (iz (0))), (0, .ref (aa 0)), (1, .int (iz (x)))]) C dX11_timesUnder_3 (by decide) rfl ?_
  have K4 : ∀ (nK : Nat) (c : Int) (i : Int) (mL : Mem) (hi : 0 ≤ i ∧ i ≤ n) (hc : 0 ≤ c ∧ c < x) (hf : ∀ k, k ≠ 11 → mL k = m k) (hlo : ∀ j : Int, 0 ≤ j → j < i → 0 ≤ mL 11 j ∧ mL 11 j < 32768) (hhi : ∀ j : Int, i ≤ j → mL 11 j = m 11 j) (hV : bgW (mL 11) i.toNat + c * 32768 ^ i.toNat = bgW (m 11) i.toNat * x), (n - i).toNat < nK → V E (wR D cy aa ad) 5 mL 4 [(0, .ref (aa 0)), (1, .int (iz (x))), (2, .int (iz (c))), (3, .int (iz (i)))] [] := by
    intro nK
    induction nK with
    | zero => intro c i mL hi hc hf hlo hhi hV hn; exact absurd hn (Nat.not_lt_zero _)
    | succ nK ih4 =>
      intro c i mL hi hc hf hlo hhi hV hn4
      have hun : mL 0 38 = n := by rw [hf 0 (by decide)]; exact hu
      refine v_iload_n C 3 dX11_timesUnder_4 rfl ?_
      refine v_aload_n C 0 dX11_timesUnder_5 rfl ?_
      refine v_get C 0 38 lR0 (eR0 _) rfl inX11 (by decide) rfl qw1178 dX11_timesUnder_6 ?_
      refine v_icmp_ge (tgt := 49) C dX11_timesUnder_9 (by decide) (by omega) (by omega) (fun c1 => ?_) (fun c1 => ?_)
      · have hin : i = n := by omega
        subst hin
        rw [show ((n : Int)).toNat = n from rfl, hval] at hV
        have hw := bgW_top hn1 hlim htop
        rw [hval] at hw
        have hv0 : 0 < v := Int.lt_of_lt_of_le (pwW_pos _) hw
        have hwx : (32768 : Int) ^ (n - 1) ≤ v * x := Int.le_trans hw (by have := Int.mul_le_mul_of_nonneg_left (a := 1) (b := x) (c := v) (by omega) (by omega); rwa [Int.mul_one] at this)
        refine v_iload_n C 2 dX11_timesUnder_49 rfl ?_
        refine v_if_le (tgt := 73) C dX11_timesUnder_50 (by decide) (by omega) (fun c2 => ?_) (fun c2 => ?_)
        · refine v_vret C X dX11_timesUnder_73 ⟨rfl, ?_⟩
          first
            | (have hc0 : c = 0 := by omega
               rw [hc0, Int.zero_mul, Int.add_zero] at hV
               exact ⟨bw_end0 hn1 hn2 hun hlo hV hwx, fun j _ => by rw [hf 0 (by decide)], fun k h1 h2 => hf k h2⟩)
            | (have q := bw_end1 (m := mL) (f := 38) (gl := 11) (n := n) (by decide) (by omega) hlo hV (by omega) (by omega)
               have e1 : NO_m62 = mup mL 11 n c := by rw [NO_em62, hun]
               have e2 : NO_m70 = mup (mup mL 11 n c) 0 38 ((n : Int) + 1) := by rw [NO_em70, e1, mup_k _ _ _ (by decide), hun]
               rw [e2]
               exact ⟨q, fun j h => by rw [mup_j _ _ h, mup_k _ _ _ (by decide), hf 0 (by decide)], fun k h1 h2 => by rw [mup_k _ _ _ h1, mup_k _ _ _ h2]; exact hf k h2⟩)
        · have hn240 : n < 240 := by
            apply Classical.byContradiction; intro h
            have e16 : n = 240 := by omega
            subst e16
            have e1 := (bgW_rng hlo).1
            have e2 : 1 * 32768 ^ 240 ≤ c * 32768 ^ 240 := Int.mul_le_mul_of_nonneg_right (by omega) (Int.le_of_lt (pwW_pos _))
            omega
          refine v_aload_n C 0 dX11_timesUnder_53 rfl ?_
          refine v_get C 0 36 lR0 (eR0 _) rfl inX11 (by decide) rfl qw1176 dX11_timesUnder_54 ?_
          refine v_aload_n C 0 dX11_timesUnder_57 rfl ?_
          refine v_get C 0 38 lR0 (eR0 _) rfl inX11 (by decide) rfl qw1178 dX11_timesUnder_58 ?_
          refine v_iload_n C 2 dX11_timesUnder_61 rfl ?_
          refine v_iast C 11 lR11 eR11 (by decide) (by omega) dX11_timesUnder_62 (fun m3 em3 => ?_)
          refine v_aload_n C 0 dX11_timesUnder_63 rfl ?_
          refine v_dup C dX11_timesUnder_64 rfl ?_
          refine v_get C 0 38 lR0 (eR0 _) rfl inX11 (by decide) rfl qw1178 dX11_timesUnder_65 ?_
          refine v_iconst (z := 1) C dX11_timesUnder_68 rfl ?_
          refine v_iadd C dX11_timesUnder_69 ?_
          refine v_put C 0 38 ((m3 0 38) + 1) 38 rfl lR0 (eR0 _) rfl inX11 tyX11 tyX11_ok nmX11 (by decide) qw1178 rfl rfl rfl (Nat.le_of_ble_eq_true rfl) (by rw [mup_r]; exact (eR0 _)) dX11_timesUnder_70 (fun m4 em4 => ?_)
          refine v_vret C X dX11_timesUnder_73 ⟨rfl, ?_⟩
          first
            | (have hc0 : c = 0 := by omega
               rw [hc0, Int.zero_mul, Int.add_zero] at hV
               exact ⟨bw_end0 hn1 hn2 hun hlo hV hwx, fun j _ => by rw [hf 0 (by decide)], fun k h1 h2 => hf k h2⟩)
            | (have q := bw_end1 (m := mL) (f := 38) (gl := 11) (n := n) (by decide) (by omega) hlo hV (by omega) (by omega)
               have e1 : m3 = mup mL 11 n c := by rw [em3, hun]
               have e2 : m4 = mup (mup mL 11 n c) 0 38 ((n : Int) + 1) := by rw [em4, e1, mup_k _ _ _ (by decide), hun]
               rw [e2]
               exact ⟨q, fun j h => by rw [mup_j _ _ h, mup_k _ _ _ (by decide), hf 0 (by decide)], fun k h1 h2 => by rw [mup_k _ _ _ h1, mup_k _ _ _ h2]; exact hf k h2⟩)
      · have hgi := hlim i (by omega) (by omega)
        have hgi2 : mL 11 i = m 11 i := hhi i (by omega)
        have hmul : m 11 i * x ≤ 32767 * x := Int.mul_le_mul_of_nonneg_right (by omega) (by omega)
        have hmul0 : 0 ≤ m 11 i * x := Int.mul_nonneg (by omega) (by omega)
        have hp : 0 ≤ mL 11 i * x + c ∧ mL 11 i * x + c ≤ 2147483647 := by rw [hgi2]; exact ⟨by omega, by omega⟩
        refine v_aload_n C 0 dX11_timesUnder_12 rfl ?_
        refine v_get C 0 36 lR0 (eR0 _) rfl inX11 (by decide) rfl qw1176 dX11_timesUnder_13 ?_
        refine v_iload_n C 3 dX11_timesUnder_16 rfl ?_
        refine v_iald C 11 lR11 (eR11 _) (by decide) (by omega) dX11_timesUnder_17 ?_
        refine v_iload_n C 1 dX11_timesUnder_18 rfl ?_
        refine v_imul C dX11_timesUnder_19 ?_
        refine v_iload_n C 2 dX11_timesUnder_20 rfl ?_
        refine v_iadd C dX11_timesUnder_21 ?_
        refine v_istore (L1 := [(4, .int (iz (((mL 11 i) * x) + c))), (0, .ref (aa 0)), (1, .int (iz (x))), (2, .int (iz (c))), (3, .int (iz (i)))]) C dX11_timesUnder_22 (by decide) rfl ?_
        refine v_aload_n C 1 dX11_timesUnder_24 rfl ?_
        refine v_get C 0 36 lR0 (eR0 _) rfl inX11 (by decide) rfl qw1176 dX11_timesUnder_25 ?_
        refine v_iload_n C 4 dX11_timesUnder_28 rfl ?_
        refine v_iload C 0 dX11_timesUnder_29 rfl ?_
        refine v_ldcw (z := 32768) C qw1529 dX11_timesUnder_31 rfl ?_
        refine v_irem C (by first | exact hp | omega) (by first | exact hp | omega) dX11_timesUnder_34 ?_
        refine v_iast C 11 lR11 eR11 (by decide) (by omega) dX11_timesUnder_35 (fun m5 em5 => ?_)
        refine v_iload C 0 dX11_timesUnder_36 rfl ?_
        refine v_ldcw (z := 32768) C qw1529 dX11_timesUnder_38 rfl ?_
        refine v_idiv C (by first | exact hp | omega) (by first | exact hp | omega) dX11_timesUnder_41 ?_
        refine v_istore_n (L1 := [(2, .int (iz ((((mL 11 i) * x) + c) / 32768))), (4, .int (iz (((mL 11 i) * x) + c))), (0, .ref (aa 0)), (1, .int (iz (x))), (3, .int (iz (i)))]) C dX11_timesUnder_42 (by decide) rfl ?_
        refine v_iinc (L1 := [(3, .int (iz (i + 1))), (2, .int (iz ((((mL 11 i) * x) + c) / 32768))), (4, .int (iz (((mL 11 i) * x) + c))), (0, .ref (aa 0)), (1, .int (iz (x)))]) C 4 dX11_timesUnder_43 rfl (by decide) rfl ?_
        refine v_goto (tgt := 4) C dX11_timesUnder_46 (by decide) ?_
        refine v_sub [3, 4, 1, 0] rfl ?_
        exact ih4 ((((mL 11 i) * x) + c) / 32768) (i + 1) m5 (by first | assumption | omega) (by rw [hgi2]; exact ⟨by omega, by omega⟩) (by intro k h; rw [em5, mup_k _ _ _ h]; exact hf k h) (by 
                    intro j h0 h1; rw [em5]
                    by_cases q : j = i
                    · subst q; rw [mup_s]; exact ⟨Int.emod_nonneg _ (by omega), Int.emod_lt_of_pos _ (by omega)⟩
                    · rw [mup_j _ _ q]; exact hlo j h0 (by omega)
                  ) (by intro j h; rw [em5, mup_j _ _ (by omega)]; exact hhi j (by omega)) (by 
                    have e1 : (i + 1).toNat = i.toNat + 1 := by omega
                    have e2 : ((i.toNat : Nat) : Int) = i := by omega
                    have e3 : bgW (m5 11) i.toNat = bgW (mL 11) i.toNat := bgW_cg fun j h0 h1 => by rw [em5, mup_j _ _ (by omega)]
                    have := bgW_step (f := m5 11) (g := m 11) (n := i.toNat) (c := c) (x := x) (by rw [e3]; exact hV) (by rw [e2, em5, mup_s, hgi2])
                    rw [e2] at this
                    rw [e1, hgi2]
                    exact this
                  ) (by omega)
  refine v_sub [2, 3, 1, 0] rfl ?_
  exact K4 _ (0) (0) m (by first | assumption | omega) (by first | assumption | omega) (by intro k h; rfl) (by intro j h0 h1; omega) (by intro j h; rfl) (by show (0 : Int) + 0 * 1 = 0 * x; omega) (Nat.lt_succ_self _)

set_option maxHeartbeats 4000000 in
set_option maxRecDepth 100000 in
theorem ct_StageRatiosModel_compares {lau : Launch} {D : va_G} {cy : Nat → ClassId} {aa ad : Nat → Nat} (hI : wI (wR D cy aa ad)) (m : Mem) (N Q : Int) (hb : BW2 m N Q) : MT lau (wR D cy aa ad) yX11_compares cX11_compares 2 (some .int) ({ frames := 0, cells := 0, slots := 0, locals := 0 } : Room) m [.ref (aa 0)] (Pi (fun z m' => (if Q < N then 1 else if N < Q then -1 else 0) = z ∧ m = m')) := by
  refine v_entry hI RX11 (by decide) rfl (Nat.le_of_ble_eq_true rfl) (fun E hE C X => ?_)
  subst hE
  show V E (wR D cy aa ad) 2 m 0 [(0, .ref (aa 0))] []
  obtain ⟨⟨n, hn1, hn2, hu, hlim, htop, hval⟩, n2, hm1, hm2, hu2, hlim2, htop2, hval2⟩ := hb
  refine v_aload_n C 0 dX11_compares_0 rfl ?_
  refine v_get C 0 37 lR0 (eR0 _) rfl inX11 (by decide) rfl qw1177 dX11_compares_1 ?_
  refine v_aload_n C 0 dX11_compares_4 rfl ?_
  refine v_get C 0 38 lR0 (eR0 _) rfl inX11 (by decide) rfl qw1178 dX11_compares_5 ?_
  refine v_icmp_eq (tgt := 28) C dX11_compares_8 (by decide) (by omega) (by omega) (fun c1 => ?_) (fun c1 => ?_)
  · refine v_aload_n C 0 dX11_compares_28 rfl ?_
    refine v_get C 0 37 lR0 (eR0 _) rfl inX11 (by decide) rfl qw1177 dX11_compares_29 ?_
    refine v_iconst (z := 1) C dX11_compares_32 rfl ?_
    refine v_isub C dX11_compares_33 ?_
    refine v_istore_n (L1 := [(1, .int (iz ((m 0 37) - 1))), (0, .ref (aa 0))]) C dX11_compares_34 (by decide) rfl ?_
    have K35 : ∀ (nK : Nat) (i : Int) (hi : -1 ≤ i ∧ i < n) (heq : ∀ j : Int, i < j → j < n → m 10 j = m 11 j), (i + 1).toNat < nK → V E (wR D cy aa ad) 2 m 35 [(0, .ref (aa 0)), (1, .int (iz (i)))] [] := by
      intro nK
      induction nK with
      | zero => intro i  hi heq hn; exact absurd hn (Nat.not_lt_zero _)
      | succ nK ih35 =>
        intro i  hi heq hn35
        refine v_iload_n C 1 dX11_compares_35 rfl ?_
        refine v_if_lt (tgt := 81) C dX11_compares_36 (by decide) (by omega) (fun c2 => ?_) (fun c2 => ?_)
        · refine v_iconst (z := 0) C dX11_compares_81 rfl ?_
          refine v_iret C X rfl dX11_compares_82 ⟨_, rfl, ?_, ?_⟩
          · have e : bgW (m 10) n = bgW (m 11) n := bgW_cg fun j h0 h1 => heq j (by omega) h1
            rw [hval, show n = n2 by omega, hval2] at e
            rw [if_neg (by omega), if_neg (by omega)]
          · rfl
        · have r1 := hlim i (by omega) (by omega)
          have r2 := hlim2 i (by omega) (by omega)
          refine v_aload_n C 0 dX11_compares_39 rfl ?_
          refine v_get C 0 35 lR0 (eR0 _) rfl inX11 (by decide) rfl qw1175 dX11_compares_40 ?_
          refine v_iload_n C 1 dX11_compares_43 rfl ?_
          refine v_iald C 10 lR10 (eR10 _) (by decide) (by omega) dX11_compares_44 ?_
          refine v_aload_n C 0 dX11_compares_45 rfl ?_
          refine v_get C 0 36 lR0 (eR0 _) rfl inX11 (by decide) rfl qw1176 dX11_compares_46 ?_
          refine v_iload_n C 1 dX11_compares_49 rfl ?_
          refine v_iald C 11 lR11 (eR11 _) (by decide) (by omega) dX11_compares_50 ?_
          refine v_icmp_eq (tgt := 75) C dX11_compares_51 (by decide) (by omega) (by omega) (fun c3 => ?_) (fun c3 => ?_)
          · refine v_iinc (L1 := [(1, .int (iz (i + (-1)))), (0, .ref (aa 0))]) C 1 dX11_compares_75 rfl (by decide) rfl ?_
            refine v_goto (tgt := 35) C dX11_compares_78 (by decide) ?_
            refine v_sub [1, 0] rfl ?_
            exact ih35 (i + (-1))  (by first | assumption | omega) (by 
                            intro j h0 h1
                            by_cases q : j = i
                            · subst q; omega
                            · exact heq j (by omega) h1
                          ) (by omega)
          · refine v_aload_n C 0 dX11_compares_54 rfl ?_
            refine v_get C 0 35 lR0 (eR0 _) rfl inX11 (by decide) rfl qw1175 dX11_compares_55 ?_
            refine v_iload_n C 1 dX11_compares_58 rfl ?_
            refine v_iald C 10 lR10 (eR10 _) (by decide) (by omega) dX11_compares_59 ?_
            refine v_aload_n C 0 dX11_compares_60 rfl ?_
            refine v_get C 0 36 lR0 (eR0 _) rfl inX11 (by decide) rfl qw1176 dX11_compares_61 ?_
            refine v_iload_n C 1 dX11_compares_64 rfl ?_
            refine v_iald C 11 lR11 (eR11 _) (by decide) (by omega) dX11_compares_65 ?_
            refine v_icmp_ge (tgt := 73) C dX11_compares_66 (by decide) (by omega) (by omega) (fun c4 => ?_) (fun c4 => ?_)
            · refine v_iconst (z := 1) C dX11_compares_73 rfl ?_
              refine v_iret C X rfl dX11_compares_74 ⟨_, rfl, ?_, ?_⟩
              · first
                  | (have e := bgW_lt (f := m 11) (g := m 10) (n := n) (k := i.toNat) (by omega) (fun j h0 h1 => hlim2 j h0 (by omega)) hlim (fun j h0 h1 => (heq j (by omega) h1).symm) (by rw [show ((i.toNat : Nat) : Int) = i by omega]; omega)
                     rw [hval, show n = n2 by omega, hval2] at e
                     rw [if_pos e])
                  | (have e := bgW_lt (f := m 10) (g := m 11) (n := n) (k := i.toNat) (by omega) hlim (fun j h0 h1 => hlim2 j h0 (by omega)) (fun j h0 h1 => heq j (by omega) h1) (by rw [show ((i.toNat : Nat) : Int) = i by omega]; omega)
                     rw [hval, show n = n2 by omega, hval2] at e
                     rw [if_neg (by omega), if_pos e])
              · rfl
            · refine v_iconst (z := -1) C dX11_compares_69 rfl ?_
              refine v_goto (tgt := 74) C dX11_compares_70 (by decide) ?_
              refine v_iret C X rfl dX11_compares_74 ⟨_, rfl, ?_, ?_⟩
              · first
                  | (have e := bgW_lt (f := m 11) (g := m 10) (n := n) (k := i.toNat) (by omega) (fun j h0 h1 => hlim2 j h0 (by omega)) hlim (fun j h0 h1 => (heq j (by omega) h1).symm) (by rw [show ((i.toNat : Nat) : Int) = i by omega]; omega)
                     rw [hval, show n = n2 by omega, hval2] at e
                     rw [if_pos e])
                  | (have e := bgW_lt (f := m 10) (g := m 11) (n := n) (k := i.toNat) (by omega) hlim (fun j h0 h1 => hlim2 j h0 (by omega)) (fun j h0 h1 => heq j (by omega) h1) (by rw [show ((i.toNat : Nat) : Int) = i by omega]; omega)
                     rw [hval, show n = n2 by omega, hval2] at e
                     rw [if_neg (by omega), if_pos e])
              · rfl
    refine v_sub [1, 0] rfl ?_
    exact K35 _ ((m 0 37) - 1)  (by first | assumption | omega) (by intro j h0 h1; omega) (Nat.lt_succ_self _)
  · refine v_aload_n C 0 dX11_compares_11 rfl ?_
    refine v_get C 0 37 lR0 (eR0 _) rfl inX11 (by decide) rfl qw1177 dX11_compares_12 ?_
    refine v_aload_n C 0 dX11_compares_15 rfl ?_
    refine v_get C 0 38 lR0 (eR0 _) rfl inX11 (by decide) rfl qw1178 dX11_compares_16 ?_
    refine v_icmp_ge (tgt := 26) C dX11_compares_19 (by decide) (by omega) (by omega) (fun c5 => ?_) (fun c5 => ?_)
    · refine v_iconst (z := 1) C dX11_compares_26 rfl ?_
      refine v_iret C X rfl dX11_compares_27 ⟨_, rfl, ?_, ?_⟩
      · first
          | (have hlt : n2 < n := by omega
             have e := bgW_lt_len hlt hlim2 hlim htop
             rw [hval, hval2] at e
             rw [if_pos e])
          | (have hlt : n < n2 := by omega
             have e := bgW_lt_len hlt hlim hlim2 htop2
             rw [hval, hval2] at e
             rw [if_neg (by omega), if_pos e])
      · rfl
    · refine v_iconst (z := -1) C dX11_compares_22 rfl ?_
      refine v_goto (tgt := 27) C dX11_compares_23 (by decide) ?_
      refine v_iret C X rfl dX11_compares_27 ⟨_, rfl, ?_, ?_⟩
      · first
          | (have hlt : n2 < n := by omega
             have e := bgW_lt_len hlt hlim2 hlim htop
             rw [hval, hval2] at e
             rw [if_pos e])
          | (have hlt : n < n2 := by omega
             have e := bgW_lt_len hlt hlim hlim2 htop2
             rw [hval, hval2] at e
             rw [if_neg (by omega), if_pos e])
      · rfl

set_option maxHeartbeats 4000000 in
set_option maxRecDepth 100000 in
theorem ct_StageRatiosModel_times {lau : Launch} {D : va_G} {cy : Nat → ClassId} {aa ad : Nat → Nat} (hI : wI (wR D cy aa ad)) (m : Mem) (a b g N Q : Int) (ha : 1 ≤ a ∧ a ≤ 400) (hb : 1 ≤ b ∧ b ≤ 400) (hg : 0 ≤ g ∧ g ≤ 1000) (hw : BW2 m N Q) (hN0 : 0 ≤ N) (hQ0 : 0 ≤ Q) (hN : N * a ^ g.toNat < 32768 ^ 240) (hQ : Q * b ^ g.toNat < 32768 ^ 240) : MT lau (wR D cy aa ad) yX11_times cX11_times 5 (none) ({ frames := 1, cells := 0, slots := 0, locals := 24 } : Room) m [.ref (aa 0), .int (iz (a)), .int (iz (b)), .int (iz (g))] (Pv (fun m' => BW2 m' (N * a ^ g.toNat) (Q * b ^ g.toNat) ∧ FBm m m')) := by
  refine v_entry hI RX11 (by decide) rfl (Nat.le_of_ble_eq_true rfl) (fun E hE C X => ?_)
  subst hE
  show V E (wR D cy aa ad) 5 m 0 [(0, .ref (aa 0)), (1, .int (iz (a))), (2, .int (iz (b))), (3, .int (iz (g)))] []
  refine v_iconst (z := 0) C dX11_times_0 rfl ?_
  refine v_istore (L1 := [(4, .int (iz (0))), (0, .ref (aa 0)), (1, .int (iz (a))), (2, .int (iz (b))), (3, .int (iz (g)))]) C dX11_times_1 (by decide) rfl ?_
  have K3 : ∀ (nK : Nat) (i : Int) (mL : Mem) (hi : 0 ≤ i ∧ i ≤ g) (h2 : BW2 mL (N * a ^ i.toNat) (Q * b ^ i.toNat)) (hf : FBm m mL), (g - i).toNat < nK → V E (wR D cy aa ad) 5 mL 3 [(0, .ref (aa 0)), (1, .int (iz (a))), (2, .int (iz (b))), (3, .int (iz (g))), (4, .int (iz (i)))] [] := by
    intro nK
    induction nK with
    | zero => intro i mL hi h2 hf hn; exact absurd hn (Nat.not_lt_zero _)
    | succ nK ih3 =>
      intro i mL hi h2 hf hn3
      have e1 : (i + 1).toNat = i.toNat + 1 := by omega
      refine v_iload C 4 dX11_times_3 rfl ?_
      refine v_iload_n C 3 dX11_times_5 rfl ?_
      refine v_icmp_ge (tgt := 25) C dX11_times_6 (by decide) (by omega) (by omega) (fun c1 => ?_) (fun c1 => ?_)
      · refine v_vret C X dX11_times_25 ⟨rfl, ?_⟩
        rw [show i = g by omega] at h2; exact ⟨h2, hf⟩
      · refine v_aload_n C 0 dX11_times_9 rfl ?_
        refine v_iload_n C 1 dX11_times_10 rfl ?_
        refine v_callV (st := []) (n := 1) (q := 0) C [.int (iz (a))] (ct_StageRatiosModel_timesOver C.2.2.2.2.2.2.1 mL (a) (N * a ^ i.toNat) (by exact h2.1) (by first | assumption | omega) (by rw [Int.mul_assoc, ← pw_s]; exact pw_lt hN0 ha.1 (by omega) hN)) lR0 (eR0 _) rfl qw1528 qw16 qw1525 rfl rfl ⟨Nat.le_of_ble_eq_true rfl, Nat.le_of_ble_eq_true rfl⟩ (by decide +kernel) qw1527 qp68 rfl rfl (Nat.le_of_ble_eq_true rfl) dX11_times_11 (fun r m2 hq2 => ?_)
        obtain ⟨rfl, hq2⟩ := hq2
        show V E (wR D cy aa ad) 5 m2 14 [(0, .ref (aa 0)), (1, .int (iz (a))), (2, .int (iz (b))), (3, .int (iz (g))), (4, .int (iz (i)))] []
        refine v_aload_n C 0 dX11_times_14 rfl ?_
        refine v_iload_n C 2 dX11_times_15 rfl ?_
        refine v_callV (st := []) (n := 1) (q := 0) C [.int (iz (b))] (ct_StageRatiosModel_timesUnder C.2.2.2.2.2.2.1 m2 (b) (Q * b ^ i.toNat) (by exact h2.2.fr (hq2.2.1 38 (by decide)) (hq2.2.2 11 (by decide) (by decide))) (by first | assumption | omega) (by rw [Int.mul_assoc, ← pw_s]; exact pw_lt hQ0 hb.1 (by omega) hQ)) lR0 (eR0 _) rfl qw1533 qw16 qw1530 rfl rfl ⟨Nat.le_of_ble_eq_true rfl, Nat.le_of_ble_eq_true rfl⟩ (by decide +kernel) qw1532 qp69 rfl rfl (Nat.le_of_ble_eq_true rfl) dX11_times_16 (fun r m3 hq3 => ?_)
        obtain ⟨rfl, hq3⟩ := hq3
        show V E (wR D cy aa ad) 5 m3 19 [(0, .ref (aa 0)), (1, .int (iz (a))), (2, .int (iz (b))), (3, .int (iz (g))), (4, .int (iz (i)))] []
        refine v_iinc (L1 := [(4, .int (iz (i + 1))), (0, .ref (aa 0)), (1, .int (iz (a))), (2, .int (iz (b))), (3, .int (iz (g)))]) C 4 dX11_times_19 rfl (by decide) rfl ?_
        refine v_goto (tgt := 3) C dX11_times_22 (by decide) ?_
        refine v_sub [1, 2, 3, 4, 0] rfl ?_
        exact ih3 (i + 1) m3 (by first | assumption | omega) (by 
                    rw [e1, pw_s, pw_s, ← Int.mul_assoc, ← Int.mul_assoc]
                    exact ⟨hq2.1.fr (hq3.2.1 37 (by decide)) (hq3.2.2 10 (by decide) (by decide)), hq3.1⟩
                  ) (by exact hf.tr ⟨fun j h1 h2 => by rw [hq3.2.1 j h2, hq2.2.1 j h1], fun q h1 h3 h4 => by rw [hq3.2.2 q h1 h4, hq2.2.2 q h1 h3]⟩) (by omega)
  refine v_sub [1, 2, 3, 4, 0] rfl ?_
  exact K3 _ (0) m (by first | assumption | omega) (by show BW2 m (N * a ^ 0) (Q * b ^ 0); rw [Int.pow_zero, Int.pow_zero, Int.mul_one, Int.mul_one]; exact hw) (by exact ⟨fun _ _ _ => rfl, fun _ _ _ _ => rfl⟩) (Nat.lt_succ_self _)

set_option maxHeartbeats 4000000 in
set_option maxRecDepth 100000 in
theorem ct_StageRatiosModel_laysSpeed {lau : Launch} {D : va_G} {cy : Nat → ClassId} {aa ad : Nat → Nat} (hI : wI (wR D cy aa ad)) (m : Mem) (fa Af Bf Cf Rr Xx : Int → Int) (Pp : Int) (Dd : Int → Int) (hg : RT m fa Af Bf Cf Rr Xx) (hd : DT m (Rr 5) Pp Dd) : MT lau (wR D cy aa ad) yX11_laysSpeed cX11_laysSpeed 2 (none) ({ frames := 3, cells := 0, slots := 0, locals := 67 } : Room) m [.ref (aa 0)] (Pv (fun m' => BW2 m' (numL (spT fa (Rr 5) Pp Dd)) (denL (spT fa (Rr 5) Pp Dd)) ∧ FBm m m')) := by
  refine v_entry hI RX11 (by decide) rfl (Nat.le_of_ble_eq_true rfl) (fun E hE C X => ?_)
  subst hE
  show V E (wR D cy aa ad) 2 m 0 [(0, .ref (aa 0))] []
  obtain ⟨⟨r11, r8, r9, r10, r12⟩, r1, r2, r6, hvd, hfo⟩ := id hg
  obtain ⟨hn, hF, hup, hlw, hX⟩ := id hvd
  obtain ⟨d34, d9, hDv⟩ := id hd
  have hsp := hDv.sp hF
  have hsb := fun (c : Nat) (hc : (c : Int) ≤ Rr 5) => spL_b c (fun s h0 h1 => hsp s h0 (by omega))
  refine v_aload_n C 0 dX11_laysSpeed_0 rfl ?_
  refine v_callV (st := []) (n := 0) (q := 0) C [] (ct_StageRatiosModel_one C.2.2.2.2.2.2.1 m  ) lR0 (eR0 _) rfl qw1520 qw16 qw1517 rfl rfl ⟨Nat.le_of_ble_eq_true rfl, Nat.le_of_ble_eq_true rfl⟩ (by decide +kernel) qw1519 qp66 rfl rfl (Nat.le_of_ble_eq_true rfl) dX11_laysSpeed_1 (fun r m1 hq1 => ?_)
  obtain ⟨rfl, hq1⟩ := hq1
  show V E (wR D cy aa ad) 2 m1 4 [(0, .ref (aa 0))] []
  refine v_iconst (z := 0) C dX11_laysSpeed_4 rfl ?_
  refine v_istore_n (L1 := [(1, .int (iz (0))), (0, .ref (aa 0))]) C dX11_laysSpeed_5 (by decide) rfl ?_
  have K6 : ∀ (nK : Nat) (i : Int) (mL : Mem) (hi : 0 ≤ i ∧ i ≤ Rr 5) (h2 : BW2 mL (numL (spL fa (stZ fa (Rr 5) Pp Dd) (fun s => stZ fa (Rr 5) Pp Dd s - Dd s) i.toNat)) (denL (spL fa (stZ fa (Rr 5) Pp Dd) (fun s => stZ fa (Rr 5) Pp Dd s - Dd s) i.toNat))) (hf : FBm m mL), (Rr 5 - i).toNat < nK → V E (wR D cy aa ad) 2 mL 6 [(0, .ref (aa 0)), (1, .int (iz (i)))] [] := by
    intro nK
    induction nK with
    | zero => intro i mL hi h2 hf hn; exact absurd hn (Nat.not_lt_zero _)
    | succ nK ih6 =>
      intro i mL hi h2 hf hn6
      have hgL := hf.rt hg
      have hdL := hf.dt hd
      have l11 : mL 0 11 = Rr 5 := hgL.1.1
      have e1 : (i + 1).toNat = i.toNat + 1 := by omega
      have e2 : ((i.toNat : Nat) : Int) = i := by omega
      have b0 := hsb i.toNat (by omega)
      refine v_iload_n C 1 dX11_laysSpeed_6 rfl ?_
      refine v_aload_n C 0 dX11_laysSpeed_7 rfl ?_
      refine v_get C 0 11 lR0 (eR0 _) rfl inX11 (by decide) rfl qw1151 dX11_laysSpeed_8 ?_
      refine v_icmp_ge (tgt := 47) C dX11_laysSpeed_11 (by decide) (by omega) (by omega) (fun c2 => ?_) (fun c2 => ?_)
      · refine v_vret C X dX11_laysSpeed_47 ⟨rfl, ?_⟩
        rw [show i = Rr 5 by omega] at h2; exact ⟨h2, hf⟩
      · have e9 : mL 9 i = Dd i := hdL.2.1 i (by omega) (by omega)
        have hsi := hsp i (by omega) (by omega)
        have hfi := hF i (by omega) (by omega)
        dsimp only at hsi
        refine v_aload_n C 0 dX11_laysSpeed_14 rfl ?_
        refine v_aload_n C 0 dX11_laysSpeed_15 rfl ?_
        refine v_iload_n C 1 dX11_laysSpeed_16 rfl ?_
        refine v_callV (st := [.ref (aa 0)]) (n := 1) (q := 0) C [.int (iz (i))] (ct_StageRatiosModel_start C.2.2.2.2.2.2.1 mL (fa) (Af) (Bf) (Cf) (Rr) (Xx) (Pp) (Dd) (i) (by first | assumption | omega) (by first | assumption | omega) (by first | assumption | omega)) lR0 (eR0 _) rfl qw1480 qw16 qw1477 rfl rfl ⟨Nat.le_of_ble_eq_true rfl, Nat.le_of_ble_eq_true rfl⟩ (by decide +kernel) qw1479 qp60 rfl rfl (Nat.le_of_ble_eq_true rfl) dX11_laysSpeed_17 (fun r m3 hq3 => ?_)
        obtain ⟨z3, rfl, rfl, rfl⟩ := hq3
        show V E (wR D cy aa ad) 2 mL 20 [(0, .ref (aa 0)), (1, .int (iz (i)))] [.int (iz (stZ fa (Rr 5) Pp Dd i)), .ref (aa 0)]
        refine v_aload_n C 0 dX11_laysSpeed_20 rfl ?_
        refine v_iload_n C 1 dX11_laysSpeed_21 rfl ?_
        refine v_callV (st := [.int (iz (stZ fa (Rr 5) Pp Dd i)), .ref (aa 0)]) (n := 1) (q := 0) C [.int (iz (i))] (ct_StageRatiosModel_start C.2.2.2.2.2.2.1 mL (fa) (Af) (Bf) (Cf) (Rr) (Xx) (Pp) (Dd) (i) (by first | assumption | omega) (by first | assumption | omega) (by first | assumption | omega)) lR0 (eR0 _) rfl qw1480 qw16 qw1477 rfl rfl ⟨Nat.le_of_ble_eq_true rfl, Nat.le_of_ble_eq_true rfl⟩ (by decide +kernel) qw1479 qp60 rfl rfl (Nat.le_of_ble_eq_true rfl) dX11_laysSpeed_22 (fun r m4 hq4 => ?_)
        obtain ⟨z4, rfl, rfl, rfl⟩ := hq4
        show V E (wR D cy aa ad) 2 mL 25 [(0, .ref (aa 0)), (1, .int (iz (i)))] [.int (iz (stZ fa (Rr 5) Pp Dd i)), .int (iz (stZ fa (Rr 5) Pp Dd i)), .ref (aa 0)]
        refine v_aload_n C 0 dX11_laysSpeed_25 rfl ?_
        refine v_get C 0 33 lR0 (eR0 _) rfl inX11 (by decide) rfl qw1173 dX11_laysSpeed_26 ?_
        refine v_iload_n C 1 dX11_laysSpeed_29 rfl ?_
        refine v_iald C 9 lR9 (eR9 _) (by decide) (by omega) dX11_laysSpeed_30 ?_
        refine v_isub C dX11_laysSpeed_31 ?_
        refine v_aload_n C 0 dX11_laysSpeed_32 rfl ?_
        refine v_iload_n C 1 dX11_laysSpeed_33 rfl ?_
        refine v_iconst (z := 0) C dX11_laysSpeed_34 rfl ?_
        refine v_callV (st := [.int (iz ((stZ fa (Rr 5) Pp Dd i) - (mL 9 i))), .int (iz (stZ fa (Rr 5) Pp Dd i)), .ref (aa 0)]) (n := 2) (q := 0) C [.int (iz (i)), .int (iz (0))] (ct_StageRatiosModel_told C.2.2.2.2.2.2.1 mL (fa) (Af) (Bf) (Cf) (Rr) (Xx) (i) (0) (by first | assumption | omega) (by first | assumption | omega) (by first | assumption | omega)) lR0 (eR0 _) rfl qw1440 qw16 qw1437 rfl rfl ⟨Nat.le_of_ble_eq_true rfl, Nat.le_of_ble_eq_true rfl⟩ (by decide +kernel) qw1439 qp55 rfl rfl (Nat.le_of_ble_eq_true rfl) dX11_laysSpeed_35 (fun r m5 hq5 => ?_)
        obtain ⟨z5, rfl, rfl, rfl⟩ := hq5
        show V E (wR D cy aa ad) 2 mL 38 [(0, .ref (aa 0)), (1, .int (iz (i)))] [.int (iz (fa (i * 9 + 0))), .int (iz ((stZ fa (Rr 5) Pp Dd i) - (mL 9 i))), .int (iz (stZ fa (Rr 5) Pp Dd i)), .ref (aa 0)]
        refine v_callV (st := []) (n := 3) (q := 0) C [.int (iz (stZ fa (Rr 5) Pp Dd i)), .int (iz ((stZ fa (Rr 5) Pp Dd i) - (mL 9 i))), .int (iz (fa (i * 9 + 0)))] (ct_StageRatiosModel_times C.2.2.2.2.2.2.1 mL (stZ fa (Rr 5) Pp Dd i) ((stZ fa (Rr 5) Pp Dd i) - (mL 9 i)) (fa (i * 9 + 0)) (numL (spL fa (stZ fa (Rr 5) Pp Dd) (fun s => stZ fa (Rr 5) Pp Dd s - Dd s) i.toNat)) (denL (spL fa (stZ fa (Rr 5) Pp Dd) (fun s => stZ fa (Rr 5) Pp Dd s - Dd s) i.toNat)) (by omega) (by rw [e9]; omega) (by omega) (by exact h2) (by omega) (by omega) (by have b1 := hsb (i.toNat + 1) (by omega); rw [spL_num (by rw [e2]; omega), e2] at b1; exact lt_240 (le_2200 (Int.le_trans b1.2.1 (p104 (by omega))))) (by have b1 := hsb (i.toNat + 1) (by omega); rw [spL_den (by rw [e2]; omega), e2] at b1; rw [e9]; exact lt_240 (le_2200 (Int.le_trans b1.1.2 (Int.le_trans b1.2.1 (p104 (by omega))))))) lR0 (eR0 _) rfl qw1524 qw16 qw1521 rfl rfl ⟨Nat.le_of_ble_eq_true rfl, Nat.le_of_ble_eq_true rfl⟩ (by decide +kernel) qw1523 qp67 rfl rfl (Nat.le_of_ble_eq_true rfl) dX11_laysSpeed_38 (fun r m6 hq6 => ?_)
        obtain ⟨rfl, hq6⟩ := hq6
        show V E (wR D cy aa ad) 2 m6 41 [(0, .ref (aa 0)), (1, .int (iz (i)))] []
        refine v_iinc (L1 := [(1, .int (iz (i + 1))), (0, .ref (aa 0))]) C 1 dX11_laysSpeed_41 rfl (by decide) rfl ?_
        refine v_goto (tgt := 6) C dX11_laysSpeed_44 (by decide) ?_
        refine v_sub [1, 0] rfl ?_
        exact ih6 (i + 1) m6 (by first | assumption | omega) (by rw [e1, spL_num (by rw [e2]; omega), spL_den (by rw [e2]; omega), e2]; rw [e9] at hq6; exact hq6.1) (by exact hf.tr hq6.2) (by omega)
  refine v_sub [1, 0] rfl ?_
  exact K6 _ (0) m1 (by first | assumption | omega) (by exact hq1.1) (by exact hq1.2) (Nat.lt_succ_self _)

set_option maxHeartbeats 4000000 in
set_option maxRecDepth 100000 in
theorem ct_StageRatiosModel_reachesBy {lau : Launch} {D : va_G} {cy : Nat → ClassId} {aa ad : Nat → Nat} (hI : wI (wR D cy aa ad)) (m : Mem) (fa Af Bf Cf Rr Xx : Int → Int) (N Q k : Int) (hg : RT m fa Af Bf Cf Rr Xx) (hw2 : BW2 m N Q) (hN : 1 ≤ N ∧ N ≤ 2 ^ 2200) (hQ : 1 ≤ Q ∧ Q ≤ 2 ^ 2200) (hk : kPw k) : MT lau (wR D cy aa ad) yX11_reachesBy cX11_reachesBy 2 (some .boolean) ({ frames := 2, cells := 0, slots := 0, locals := 48 } : Room) m [.ref (aa 0), .int (iz (k))] (Pi (fun z m' => (1 = z ∧ (rch N Q (Rr 2) (Rr 3) k.toNat) ∧ FBm m m') ∨ (0 = z ∧ ¬ (rch N Q (Rr 2) (Rr 3) k.toNat) ∧ FBm m m'))) := by
  refine v_entry hI RX11 (by decide) rfl (Nat.le_of_ble_eq_true rfl) (fun E hE C X => ?_)
  subst hE
  show V E (wR D cy aa ad) 2 m 0 [(0, .ref (aa 0)), (1, .int (iz (k)))] []
  obtain ⟨⟨r11, r8, r9, r10, r12⟩, r1, r2, r6, hvd, hfo⟩ := id hg
  obtain ⟨hn, hF, hup, hlw, hX⟩ := id hvd
  obtain ⟨hk0, hk1⟩ := hk
  refine v_aload_n C 0 dX11_reachesBy_0 rfl ?_
  refine v_aload_n C 0 dX11_reachesBy_1 rfl ?_
  refine v_get C 0 9 lR0 (eR0 _) rfl inX11 (by decide) rfl qw1149 dX11_reachesBy_2 ?_
  refine v_aload_n C 0 dX11_reachesBy_5 rfl ?_
  refine v_get C 0 8 lR0 (eR0 _) rfl inX11 (by decide) rfl qw1148 dX11_reachesBy_6 ?_
  refine v_iload_n C 1 dX11_reachesBy_9 rfl ?_
  refine v_callV (st := []) (n := 3) (q := 0) C [.int (iz (m 0 9)), .int (iz (m 0 8)), .int (iz (k))] (ct_StageRatiosModel_times C.2.2.2.2.2.2.1 m (m 0 9) (m 0 8) (k) (N) (Q) (by omega) (by omega) (by first | assumption | omega) (by first | assumption | omega) (by first | assumption | omega) (by first | assumption | omega) (by rw [r9]; exact w240 (by omega) hN.2 hlw.1 (by omega) (by omega)) (by rw [r8]; exact w240 (by omega) hQ.2 (by omega) (by omega) (by omega))) lR0 (eR0 _) rfl qw1524 qw16 qw1521 rfl rfl ⟨Nat.le_of_ble_eq_true rfl, Nat.le_of_ble_eq_true rfl⟩ (by decide +kernel) qw1523 qp67 rfl rfl (Nat.le_of_ble_eq_true rfl) dX11_reachesBy_10 (fun r m1 hq1 => ?_)
  obtain ⟨rfl, hq1⟩ := hq1
  show V E (wR D cy aa ad) 2 m1 13 [(0, .ref (aa 0)), (1, .int (iz (k)))] []
  rw [r8, r9] at hq1
  refine v_aload_n C 0 dX11_reachesBy_13 rfl ?_
  refine v_callV (st := []) (n := 0) (q := 0) C [] (ct_StageRatiosModel_compares C.2.2.2.2.2.2.1 m1 (N * Rr 3 ^ k.toNat) (Q * Rr 2 ^ k.toNat) (by exact hq1.1)) lR0 (eR0 _) rfl qw1541 qw16 qw1538 rfl rfl ⟨Nat.le_of_ble_eq_true rfl, Nat.le_of_ble_eq_true rfl⟩ (by decide +kernel) qw1540 qp71 rfl rfl (Nat.le_of_ble_eq_true rfl) dX11_reachesBy_14 (fun r m2 hq2 => ?_)
  obtain ⟨z2, rfl, rfl, rfl⟩ := hq2
  show V E (wR D cy aa ad) 2 m1 17 [(0, .ref (aa 0)), (1, .int (iz (k)))] [.int (iz ((if (Q * Rr 2 ^ k.toNat) < (N * Rr 3 ^ k.toNat) then 1 else if (N * Rr 3 ^ k.toNat) < (Q * Rr 2 ^ k.toNat) then -1 else 0)))]
  refine v_if_lt (tgt := 24) C dX11_reachesBy_17 (by decide) (by split <;> (try split) <;> omega) (fun c3 => ?_) (fun c3 => ?_)
  · have hcv : ¬ rch N Q (Rr 2) (Rr 3) k.toNat := by
      unfold rch
      split at c3
      · omega
      · split at c3 <;> omega
    refine v_iconst (z := 0) C dX11_reachesBy_24 rfl ?_
    refine v_iret C X (by decide) dX11_reachesBy_25 ⟨_, rfl, Or.inr ⟨rfl, ?_, ?_⟩⟩
    · exact hcv
    · exact hq1.2
  · have hcv :  rch N Q (Rr 2) (Rr 3) k.toNat := by
      unfold rch
      split at c3
      · omega
      · split at c3 <;> omega
    refine v_iconst (z := 1) C dX11_reachesBy_20 rfl ?_
    refine v_goto (tgt := 25) C dX11_reachesBy_21 (by decide) ?_
    refine v_iret C X (by decide) dX11_reachesBy_25 ⟨_, rfl, Or.inl ⟨rfl, ?_, ?_⟩⟩
    · exact hcv
    · exact hq1.2

set_option maxHeartbeats 4000000 in
set_option maxRecDepth 100000 in
theorem ct_StageRatiosModel_greatestBy {lau : Launch} {D : va_G} {cy : Nat → ClassId} {aa ad : Nat → Nat} (hI : wI (wR D cy aa ad)) (m : Mem) (fa Af Bf Cf Rr Xx : Int → Int) (N Q : Int) (hg : RT m fa Af Bf Cf Rr Xx) (hw2 : BW2 m N Q) (hN : 1 ≤ N ∧ N ≤ 2 ^ 2200) (hQ : 1 ≤ Q ∧ Q ≤ 2 ^ 2200) : MT lau (wR D cy aa ad) yX11_greatestBy cX11_greatestBy 2 (some .int) ({ frames := 2, cells := 0, slots := 0, locals := 48 } : Room) m [.ref (aa 0)] (Pi (fun z m' => (PwIs N Q (Rr 2) (Rr 3) z) ∧ FBm m m')) := by
  refine v_entry hI RX11 (by decide) rfl (Nat.le_of_ble_eq_true rfl) (fun E hE C X => ?_)
  subst hE
  show V E (wR D cy aa ad) 2 m 0 [(0, .ref (aa 0))] []
  obtain ⟨⟨r11, r8, r9, r10, r12⟩, r1, r2, r6, hvd, hfo⟩ := id hg
  obtain ⟨hn, hF, hup, hlw, hX⟩ := id hvd
  refine v_iconst (z := 0) C dX11_greatestBy_0 rfl ?_
  refine v_istore_n (L1 := [(1, .int (iz (0))), (0, .ref (aa 0))]) C dX11_greatestBy_1 (by decide) rfl ?_
  have K2 : ∀ (nK : Nat) (i : Int) (mL : Mem) (hi : 0 ≤ i ∧ i ≤ 41) (h2 : BW2 mL (N * Rr 3 ^ i.toNat) (Q * Rr 2 ^ i.toNat)) (hall : ∀ j : Nat, (j : Int) < i → rch N Q (Rr 2) (Rr 3) j) (hf : FBm m mL), (41 - i).toNat < nK → V E (wR D cy aa ad) 2 mL 2 [(0, .ref (aa 0)), (1, .int (iz (i)))] [] := by
    intro nK
    induction nK with
    | zero => intro i mL hi h2 hall hf hn; exact absurd hn (Nat.not_lt_zero _)
    | succ nK ih2 =>
      intro i mL hi h2 hall hf hn2
      have hgL := hf.rt hg
      obtain ⟨⟨l11, l8, l9, -⟩, -⟩ := id hgL
      have e1 : (i + 1).toNat = i.toNat + 1 := by omega
      refine v_iload_n C 1 dX11_greatestBy_2 rfl ?_
      have K34 : ∀  (hend : i = 41 ∨ ¬ rch N Q (Rr 2) (Rr 3) i.toNat), V E (wR D cy aa ad) 2 mL 34 [(0, .ref (aa 0)), (1, .int (iz (i)))] [] := by
        intro   hend
        refine v_iload_n C 1 dX11_greatestBy_34 rfl ?_
        refine v_if_ne (tgt := 43) C dX11_greatestBy_35 (by decide) (by omega) (fun c1 => ?_) (fun c1 => ?_)
        · refine v_iload_n C 1 dX11_greatestBy_43 rfl ?_
          refine v_iconst (z := 1) C dX11_greatestBy_44 rfl ?_
          refine v_isub C dX11_greatestBy_45 ?_
          refine v_iret C X rfl dX11_greatestBy_46 ⟨_, rfl, ?_, ?_⟩
          · first
              | (have e0 : i = 0 := by omega
                 subst e0
                 exact Or.inl ⟨rfl, by rcases hend with y | y; · omega
                                       · exact y⟩)
              | exact Or.inr ⟨by omega, by omega, fun j h => hall j (by omega), hend.imp (fun y => by omega) (fun y => by rw [show (i - 1).toNat + 1 = i.toNat by omega]; exact y)⟩
          · exact hf
        · refine v_bipush (z := -2) C dX11_greatestBy_38 (by decide) ?_
          refine v_goto (tgt := 46) C dX11_greatestBy_40 (by decide) ?_
          refine v_iret C X rfl dX11_greatestBy_46 ⟨_, rfl, ?_, ?_⟩
          · first
              | (have e0 : i = 0 := by omega
                 subst e0
                 exact Or.inl ⟨rfl, by rcases hend with y | y; · omega
                                       · exact y⟩)
              | exact Or.inr ⟨by omega, by omega, fun j h => hall j (by omega), hend.imp (fun y => by omega) (fun y => by rw [show (i - 1).toNat + 1 = i.toNat by omega]; exact y)⟩
          · exact hf
      refine v_bipush (z := 40) C dX11_greatestBy_3 (by decide) ?_
      refine v_icmp_gt (tgt := 34) C dX11_greatestBy_5 (by decide) (by omega) (by omega) (fun c2 => ?_) (fun c2 => ?_)
      · refine v_sub [0, 1] rfl ?_
        exact K34    (by first | exact Or.inr hcv | exact Or.inl (by omega))
      · refine v_aload_n C 0 dX11_greatestBy_8 rfl ?_
        refine v_callV (st := []) (n := 0) (q := 0) C [] (ct_StageRatiosModel_compares C.2.2.2.2.2.2.1 mL (N * Rr 3 ^ i.toNat) (Q * Rr 2 ^ i.toNat) (by exact h2)) lR0 (eR0 _) rfl qw1541 qw16 qw1538 rfl rfl ⟨Nat.le_of_ble_eq_true rfl, Nat.le_of_ble_eq_true rfl⟩ (by decide +kernel) qw1540 qp71 rfl rfl (Nat.le_of_ble_eq_true rfl) dX11_greatestBy_9 (fun r m3 hq3 => ?_)
        obtain ⟨z3, rfl, rfl, rfl⟩ := hq3
        show V E (wR D cy aa ad) 2 mL 12 [(0, .ref (aa 0)), (1, .int (iz (i)))] [.int (iz ((if (Q * Rr 2 ^ i.toNat) < (N * Rr 3 ^ i.toNat) then 1 else if (N * Rr 3 ^ i.toNat) < (Q * Rr 2 ^ i.toNat) then -1 else 0)))]
        refine v_if_lt (tgt := 34) C dX11_greatestBy_12 (by decide) (by split <;> (try split) <;> omega) (fun c4 => ?_) (fun c4 => ?_)
        · have hcv : ¬ rch N Q (Rr 2) (Rr 3) i.toNat := by
            unfold rch
            split at c4
            · omega
            · split at c4 <;> omega
          refine v_sub [0, 1] rfl ?_
          exact K34    (by first | exact Or.inr hcv | exact Or.inl (by omega))
        · have hcv :  rch N Q (Rr 2) (Rr 3) i.toNat := by
            unfold rch
            split at c4
            · omega
            · split at c4 <;> omega
          refine v_aload_n C 0 dX11_greatestBy_15 rfl ?_
          refine v_aload_n C 0 dX11_greatestBy_16 rfl ?_
          refine v_get C 0 9 lR0 (eR0 _) rfl inX11 (by decide) rfl qw1149 dX11_greatestBy_17 ?_
          refine v_aload_n C 0 dX11_greatestBy_20 rfl ?_
          refine v_get C 0 8 lR0 (eR0 _) rfl inX11 (by decide) rfl qw1148 dX11_greatestBy_21 ?_
          refine v_iconst (z := 1) C dX11_greatestBy_24 rfl ?_
          refine v_callV (st := []) (n := 3) (q := 0) C [.int (iz (mL 0 9)), .int (iz (mL 0 8)), .int (iz (1))] (ct_StageRatiosModel_times C.2.2.2.2.2.2.1 mL (mL 0 9) (mL 0 8) (1) (N * Rr 3 ^ i.toNat) (Q * Rr 2 ^ i.toNat) (by omega) (by omega) (by decide) (by exact h2) (by exact Int.mul_nonneg (by omega) (Int.pow_nonneg (by omega))) (by exact Int.mul_nonneg (by omega) (Int.pow_nonneg (by omega))) (by rw [l9, show ((1 : Int)).toNat = 1 from rfl, Int.pow_one, Int.mul_assoc, ← pw_s]; exact w240 (by omega) hN.2 hlw.1 (by omega) (by omega)) (by rw [l8, show ((1 : Int)).toNat = 1 from rfl, Int.pow_one, Int.mul_assoc, ← pw_s]; exact w240 (by omega) hQ.2 (by omega) (by omega) (by omega))) lR0 (eR0 _) rfl qw1524 qw16 qw1521 rfl rfl ⟨Nat.le_of_ble_eq_true rfl, Nat.le_of_ble_eq_true rfl⟩ (by decide +kernel) qw1523 qp67 rfl rfl (Nat.le_of_ble_eq_true rfl) dX11_greatestBy_25 (fun r m5 hq5 => ?_)
          obtain ⟨rfl, hq5⟩ := hq5
          show V E (wR D cy aa ad) 2 m5 28 [(0, .ref (aa 0)), (1, .int (iz (i)))] []
          refine v_iinc (L1 := [(1, .int (iz (i + 1))), (0, .ref (aa 0))]) C 1 dX11_greatestBy_28 rfl (by decide) rfl ?_
          refine v_goto (tgt := 2) C dX11_greatestBy_31 (by decide) ?_
          refine v_sub [1, 0] rfl ?_
          exact ih2 (i + 1) m5 (by first | assumption | omega) (by have z := hq5.1; rw [l8, l9, show ((1 : Int)).toNat = 1 from rfl, Int.pow_one, Int.pow_one, Int.mul_assoc, Int.mul_assoc, ← pw_s, ← pw_s, ← e1] at z; exact z) (by 
                        intro j h
                        by_cases e : (j : Int) = i
                        · rw [show j = i.toNat by omega]; exact hcv
                        · exact hall j (by omega)
                      ) (by exact hf.tr hq5.2) (by omega)
  refine v_sub [1, 0] rfl ?_
  exact K2 _ (0) m (by first | assumption | omega) (by show BW2 m (N * Rr 3 ^ 0) (Q * Rr 2 ^ 0); rw [Int.pow_zero, Int.pow_zero, Int.mul_one, Int.mul_one]; exact hw2) (by intro j h; omega) (by exact ⟨fun _ _ _ => rfl, fun _ _ _ _ => rfl⟩) (Nat.lt_succ_self _)

set_option maxHeartbeats 4000000 in
set_option maxRecDepth 100000 in
theorem ct_StageRatiosModel_divReaches {lau : Launch} {D : va_G} {cy : Nat → ClassId} {aa ad : Nat → Nat} (hI : wI (wR D cy aa ad)) (m : Mem) (fa Af Bf Cf Rr Xx : Int → Int) (Pp : Int) (Dd : Int → Int) (k : Int) (hg : RT m fa Af Bf Cf Rr Xx) (hd : DT m (Rr 5) Pp Dd) (hk : kPw k) : MT lau (wR D cy aa ad) yX11_divReaches cX11_divReaches 2 (some .boolean) ({ frames := 4, cells := 0, slots := 0, locals := 88 } : Room) m [.ref (aa 0), .int (iz (k))] (Pi (fun z m' => (1 = z ∧ (reA fa (Rr 5) (Rr 2) (Rr 3) Pp Dd k.toNat) ∧ FBm m m') ∨ (0 = z ∧ ¬ (reA fa (Rr 5) (Rr 2) (Rr 3) Pp Dd k.toNat) ∧ FBm m m'))) := by
  refine v_entry hI RX11 (by decide) rfl (Nat.le_of_ble_eq_true rfl) (fun E hE C X => ?_)
  subst hE
  show V E (wR D cy aa ad) 2 m 0 [(0, .ref (aa 0)), (1, .int (iz (k)))] []
  obtain ⟨⟨r11, r8, r9, r10, r12⟩, r1, r2, r6, hvd, hfo⟩ := id hg
  obtain ⟨hn, hF, hup, hlw, hX⟩ := id hvd
  obtain ⟨d34, d9, hDv⟩ := id hd
  have al := hDv.al hF
  refine v_aload_n C 0 dX11_divReaches_0 rfl ?_
  refine v_callV (st := []) (n := 0) (q := 0) C [] (ct_StageRatiosModel_laysSpeed C.2.2.2.2.2.2.1 m (fa) (Af) (Bf) (Cf) (Rr) (Xx) (Pp) (Dd) (by first | assumption | omega) (by first | assumption | omega)) lR0 (eR0 _) rfl qw1516 qw16 qw1513 rfl rfl ⟨Nat.le_of_ble_eq_true rfl, Nat.le_of_ble_eq_true rfl⟩ (by decide +kernel) qw1515 qp65 rfl rfl (Nat.le_of_ble_eq_true rfl) dX11_divReaches_1 (fun r m1 hq1 => ?_)
  obtain ⟨rfl, hq1⟩ := hq1
  show V E (wR D cy aa ad) 2 m1 4 [(0, .ref (aa 0)), (1, .int (iz (k)))] []
  refine v_aload_n C 0 dX11_divReaches_4 rfl ?_
  refine v_iload_n C 1 dX11_divReaches_5 rfl ?_
  refine v_callV (st := []) (n := 1) (q := 0) C [.int (iz (k))] (ct_StageRatiosModel_reachesBy C.2.2.2.2.2.2.1 m1 (fa) (Af) (Bf) (Cf) (Rr) (Xx) (numL (spT fa (Rr 5) Pp Dd)) (denL (spT fa (Rr 5) Pp Dd)) (k) (by exact hq1.2.rt hg) (by exact hq1.1) (by exact ⟨by omega, le_2200 al.2.2.1⟩) (by exact ⟨al.2.2.2.1, le_2200 (Int.le_trans al.2.2.2.2 al.2.2.1)⟩) (by first | assumption | omega)) lR0 (eR0 _) rfl qw1537 qw16 qw1534 rfl rfl ⟨Nat.le_of_ble_eq_true rfl, Nat.le_of_ble_eq_true rfl⟩ (by decide +kernel) qw1536 qp70 rfl rfl (Nat.le_of_ble_eq_true rfl) dX11_divReaches_6 (fun r m2 hq2 => ?_)
  obtain ⟨z2, rfl, ⟨rfl, hq2, hm2⟩ | ⟨rfl, hq2, hm2⟩⟩ := hq2
  · show V E (wR D cy aa ad) 2 m2 9 [(0, .ref (aa 0)), (1, .int (iz (k)))] [.int (iz (1))]
    refine v_iret C X (by decide) dX11_divReaches_9 ⟨_, rfl, Or.inl ⟨rfl, ?_, ?_⟩⟩
    · exact hq2
    · exact hq1.2.tr hm2
  · show V E (wR D cy aa ad) 2 m2 9 [(0, .ref (aa 0)), (1, .int (iz (k)))] [.int (iz (0))]
    refine v_iret C X (by decide) dX11_divReaches_9 ⟨_, rfl, Or.inr ⟨rfl, ?_, ?_⟩⟩
    · exact hq2
    · exact hq1.2.tr hm2

set_option maxHeartbeats 4000000 in
set_option maxRecDepth 100000 in
theorem ct_StageRatiosModel_refusesPower {lau : Launch} {D : va_G} {cy : Nat → ClassId} {aa ad : Nat → Nat} (hI : wI (wR D cy aa ad)) (m : Mem) (b k : Int) (hb : b = 0 ∨ b = 1) (hk : -2147483648 ≤ k ∧ k ≤ 2147483647) (hT : m 0 20 = 0 ∨ m 0 20 = 1) : MT lau (wR D cy aa ad) yX11_refusesPower cX11_refusesPower 3 (some .int) ({ frames := 1, cells := 0, slots := 0, locals := 22 } : Room) m [.ref (aa 0), .int (iz (b)), .int (iz (k))] (Pi (fun z m' => ((z = 1 ∧ ¬ (m 0 20 = 1 ∧ b = 1)) ∨ ((m 0 20 = 1 ∧ b = 1) ∧ ((z = 0 ∧ kPw k) ∨ (z = 2 ∧ ¬ kPw k)))) ∧ m = m')) := by
  refine v_entry hI RX11 (by decide) rfl (Nat.le_of_ble_eq_true rfl) (fun E hE C X => ?_)
  subst hE
  show V E (wR D cy aa ad) 3 m 0 [(0, .ref (aa 0)), (1, .int (iz (b))), (2, .int (iz (k)))] []
  refine v_aload_n C 0 dX11_refusesPower_0 rfl ?_
  refine v_get C 0 20 lR0 (eR0 _) rfl inX11 (by decide) rfl qw1160 dX11_refusesPower_1 ?_
  refine v_if_eq (tgt := 11) C dX11_refusesPower_4 (by decide) (by omega) (fun c1 => ?_) (fun c1 => ?_)
  · refine v_iconst (z := 1) C dX11_refusesPower_11 rfl ?_
    refine v_goto (tgt := 30) C dX11_refusesPower_12 (by decide) ?_
    refine v_iret C X rfl dX11_refusesPower_30 ⟨_, rfl, ?_, ?_⟩
    · unfold kPw
      first
        | exact Or.inl ⟨rfl, by omega⟩
        | exact Or.inr ⟨⟨by omega, by omega⟩, Or.inl ⟨rfl, NO_q19⟩⟩
        | exact Or.inr ⟨⟨by omega, by omega⟩, Or.inr ⟨rfl, NO_q19⟩⟩
    · rfl
  · refine v_iload_n C 1 dX11_refusesPower_7 rfl ?_
    refine v_if_ne (tgt := 15) C dX11_refusesPower_8 (by decide) (by omega) (fun c2 => ?_) (fun c2 => ?_)
    · refine v_iload_n C 2 dX11_refusesPower_15 rfl ?_
      refine v_iconst (z := 0) C dX11_refusesPower_16 rfl ?_
      refine v_bipush (z := 40) C dX11_refusesPower_17 (by decide) ?_
      refine v_callS (st := []) (n := 3) C [.int (iz (k)), .int (iz (0)), .int (iz (40))] (ct_StageRatiosModel_in C.2.2.2.2.2.2.1 m (k) (0) (40) (by first | assumption | omega) (by first | assumption | omega) (by first | assumption | omega)) qw1355 qw16 qw1353 rfl rfl ⟨Nat.le_of_ble_eq_true rfl, Nat.le_of_ble_eq_true rfl⟩ (by decide +kernel) qw1354 rfl rfl (Nat.le_of_ble_eq_true rfl) dX11_refusesPower_19 (fun r m3 hq3 => ?_)
      obtain ⟨z3, rfl, ⟨rfl, hq3, rfl⟩ | ⟨rfl, hq3, rfl⟩⟩ := hq3
      · show V E (wR D cy aa ad) 3 m 22 [(0, .ref (aa 0)), (1, .int (iz (b))), (2, .int (iz (k)))] [.int (iz (1))]
        refine v_if_eq (tgt := 29) C dX11_refusesPower_22 (by decide) (by omega) (fun c4 => by exact absurd c4 (by decide)) (fun c4 => ?_)
        refine v_iconst (z := 0) C dX11_refusesPower_25 rfl ?_
        refine v_goto (tgt := 30) C dX11_refusesPower_26 (by decide) ?_
        refine v_iret C X rfl dX11_refusesPower_30 ⟨_, rfl, ?_, ?_⟩
        · unfold kPw
          first
            | exact Or.inl ⟨rfl, by omega⟩
            | exact Or.inr ⟨⟨by omega, by omega⟩, Or.inl ⟨rfl, hq3⟩⟩
            | exact Or.inr ⟨⟨by omega, by omega⟩, Or.inr ⟨rfl, hq3⟩⟩
        · rfl
      · show V E (wR D cy aa ad) 3 m 22 [(0, .ref (aa 0)), (1, .int (iz (b))), (2, .int (iz (k)))] [.int (iz (0))]
        refine v_if_eq (tgt := 29) C dX11_refusesPower_22 (by decide) (by omega) (fun c5 => ?_) (fun c5 => by exact absurd c5 (by decide))
        refine v_iconst (z := 2) C dX11_refusesPower_29 rfl ?_
        refine v_iret C X rfl dX11_refusesPower_30 ⟨_, rfl, ?_, ?_⟩
        · unfold kPw
          first
            | exact Or.inl ⟨rfl, by omega⟩
            | exact Or.inr ⟨⟨by omega, by omega⟩, Or.inl ⟨rfl, hq3⟩⟩
            | exact Or.inr ⟨⟨by omega, by omega⟩, Or.inr ⟨rfl, hq3⟩⟩
        · rfl
    · refine v_iconst (z := 1) C dX11_refusesPower_11 rfl ?_
      refine v_goto (tgt := 30) C dX11_refusesPower_12 (by decide) ?_
      refine v_iret C X rfl dX11_refusesPower_30 ⟨_, rfl, ?_, ?_⟩
      · unfold kPw
        first
          | exact Or.inl ⟨rfl, by omega⟩
          | exact Or.inr ⟨⟨by omega, by omega⟩, Or.inl ⟨rfl, NO_q19⟩⟩
          | exact Or.inr ⟨⟨by omega, by omega⟩, Or.inr ⟨rfl, NO_q19⟩⟩
      · rfl
