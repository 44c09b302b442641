/-! the reference's reader: tokens and steps -/
def kZR (k : Int) : Int := if k = 0 then 1 else if k = 1 then 2 else if k = 2 then 3 else if k = 3 then 4 else 0
/-- what a token leaves behind, or a fault -/
def TkS (m : Mem) (b : Int → Int) (n : Int) (x : Rs Int) : Prop := match x with
  | .inl e => m 0 31 = e.1 ∧ 0 < e.1 ∧ e.1 ≤ 6 ∧ m 0 29 = e.2 ∧ m 0 28 = 0
  | .inr p => (0 ≤ p ∧ p ≤ n) ∧ m 0 31 = 0 ∧ m 0 29 = skZ b n p ∧ m 0 27 = nxZ b n p ∧ m 0 28 = kZR (kdZ b n p) ∧ (kdZ b n p = 1 → m 0 32 = enZ 256 0 (wlZ b n p)) ∧ (kdZ b n p = 2 → m 0 30 = nmZ b n p)
/-- before a token is sought -/
def NxS (m : Mem) (n : Int) (x : Rs Int) : Prop := match x with
  | .inl e => m 0 31 = e.1 ∧ 0 < e.1 ∧ e.1 ≤ 6 ∧ m 0 29 = e.2 ∧ m 0 28 = 0
  | .inr p => (0 ≤ p ∧ p ≤ n) ∧ m 0 31 = 0 ∧ m 0 27 = p
def nxO (b : Int → Int) (n : Int) (x : Rs Int) : Rs Int := bnd x fun p => .inr (nxZ b n p)
def flO (b : Int → Int) (n f : Int) (x : Rs Int) : Rs Int := bnd x fun p => .inl (f, skZ b n p)
theorem TkS.nx {m : Mem} {b : Int → Int} {n : Int} {x : Rs Int} (h : TkS m b n x) : NxS m n (nxO b n x) := by
  cases x with
  | inl e => exact h
  | inr p =>
    have t := tk_rngP (b := b) h.1.2
    exact ⟨⟨by have := h.1.1; omega, t.2.2.2.1⟩, h.2.1, h.2.2.2.1⟩
theorem TkS.f0 {m : Mem} {b : Int → Int} {n : Int} {x : Rs Int} (h : TkS m b n x) : 0 ≤ m 0 31 ∧ m 0 31 ≤ 6 := by
  cases x with
  | inl e => have := h.1; have := h.2.1; have := h.2.2.1; omega
  | inr p => have := h.2.1; omega
theorem TkS.tk0 {m : Mem} {b : Int → Int} {n : Int} {x : Rs Int} (h : TkS m b n x) : 0 ≤ m 0 28 ∧ m 0 28 ≤ 4 := by
  cases x with
  | inl e => have := h.2.2.2.2; omega
  | inr p => have := h.2.2.2.2.1; rw [this]; unfold kZR; repeat' (first | omega | split)
/-- the reader's own places of cell 0 -/
def FZ (m m' : Mem) : Prop := (∀ j : Int, (j < 27 ∨ 32 < j) → m' 0 j = m 0 j) ∧ ∀ q, q ≠ 0 → m' q = m q
theorem FZ.rfl' (m : Mem) : FZ m m := ⟨fun _ _ => rfl, fun _ _ => rfl⟩
theorem FZ.tr {m m1 m2 : Mem} (h : FZ m m1) (g : FZ m1 m2) : FZ m m2 := ⟨fun j a => (g.1 j a).trans (h.1 j a), fun q a => (g.2 q a).trans (h.2 q a)⟩
def BtR (m : Mem) (b : Int → Int) (n : Int) : Prop := m 0 26 = n ∧ (0 ≤ n ∧ n ≤ 700) ∧ ∀ j : Int, 0 ≤ j → j < n → m 8 j % 256 = b j
theorem BtR.fr {m m' : Mem} {b : Int → Int} {n : Int} (h : BtR m b n) (f : FZ m m') : BtR m' b n := by
  unfold BtR at h ⊢; rw [f.1 26 (by omega), f.2 8 (by decide)]; exact h
theorem BtR.rng {m : Mem} {b : Int → Int} {n : Int} (h : BtR m b n) {j : Int} (h0 : 0 ≤ j) (h1 : j < n) : 0 ≤ b j ∧ b j ≤ 255 := by have := h.2.2 j h0 h1; omega
def byN (b : Int → Int) (n k : Int) : Int := if k < n then b k else -1
theorem byN_1 {b : Int → Int} {n k : Int} (h : k < n) : byN b n k = b k := if_pos h
theorem byN_0 {b : Int → Int} {n k : Int} (h : ¬ k < n) : byN b n k = -1 := if_neg h
theorem cls_of1 {x : Int} (h : 97 ≤ x ∧ x ≤ 122) : cls x = 1 := if_pos h
theorem cls_of2 {x : Int} (h : 48 ≤ x ∧ x ≤ 57) : cls x = 2 := by unfold cls; rw [if_neg (by omega), if_pos h]
theorem TkS.e {m : Mem} {b : Int → Int} {n p q : Int} (hp : 0 ≤ p ∧ p ≤ n) (hf : m 0 31 = 0) (h3 : m 0 29 = q) (hq : skZ b n p = q) (hn : ¬ q < n) (hk : m 0 28 = 1) (h6 : m 0 27 = q) : TkS m b n (.inr p) := by
  have a : kdZ b n p = 0 := by unfold kdZ kqZ; rw [hq, if_neg hn]
  have c : nxZ b n p = q := by unfold nxZ nqZ; rw [hq, if_neg hn]
  exact ⟨hp, hf, by rw [hq, h3], by rw [c, h6], by rw [a, hk]; rfl, fun y => by omega, fun y => by omega⟩
theorem TkS.o {m : Mem} {b : Int → Int} {n p q : Int} (hp : 0 ≤ p ∧ p ≤ n) (hf : m 0 31 = 0) (h3 : m 0 29 = q) (hq : skZ b n p = q) (hn : q < n) (hc1 : ¬ (97 ≤ b q ∧ b q ≤ 122)) (hc2 : ¬ (48 ≤ b q ∧ b q ≤ 57)) (hk : m 0 28 = if b q = 59 then 4 else 0) (h6 : m 0 27 = q + 1) : TkS m b n (.inr p) := by
  have k : cls (b q) = if b q = 59 then 3 else 4 := by unfold cls; rw [if_neg hc1, if_neg hc2]
  have kk : cls (b q) = 3 ∨ cls (b q) = 4 := by rw [k]; split <;> omega
  have a : kdZ b n p = cls (b q) := by unfold kdZ kqZ; rw [hq, if_pos hn, if_neg (by omega), if_neg (by omega)]
  have c : nxZ b n p = q + 1 := by unfold nxZ nqZ; rw [hq, if_pos hn, if_neg (by omega), if_neg (by omega)]
  refine ⟨hp, hf, by rw [hq, h3], by rw [c, h6], ?_, fun y => by omega, fun y => by omega⟩
  rw [a, hk, k]; by_cases d : b q = 59
  · rw [if_pos d, if_pos d]; rfl
  · rw [if_neg d, if_neg d]; rfl
theorem TkS.w {m : Mem} {b : Int → Int} {n p q x : Int} (hp : 0 ≤ p ∧ p ≤ n) (hf : m 0 31 = 0) (h3 : m 0 29 = q) (hq : skZ b n p = q) (hn : q < n) (hc : cls (b q) = 1) (hx : rnZ b n 1 q = x) (h6 : m 0 27 = x) (h4 : x - q ≤ 7 → m 0 32 = enZ 256 0 (lsR b q (x - q).toNat)) (hk : m 0 28 = if x - q ≤ 7 then 2 else 0) : TkS m b n (.inr p) := by
  have a : kdZ b n p = if x - q ≤ 7 then 1 else 4 := by unfold kdZ kqZ; rw [hq, if_pos hn, if_pos hc, hx]
  have c : nxZ b n p = x := by unfold nxZ nqZ; rw [hq, if_pos hn, if_pos hc, hx]
  refine ⟨hp, hf, by rw [hq, h3], by rw [c, h6], ?_, fun y => ?_, fun y => by rw [a] at y; split at y <;> omega⟩
  · rw [a, hk]; split <;> rfl
  · unfold wlZ wqZ; rw [hq, hx, h4]; rw [a] at y; split at y
    · assumption
    · omega
theorem TkS.n {m : Mem} {b : Int → Int} {n p q x : Int} (hp : 0 ≤ p ∧ p ≤ n) (hf : m 0 31 = 0) (h3 : m 0 29 = q) (hq : skZ b n p = q) (hn : q < n) (hc : cls (b q) = 2) (hx : rnZ b n 2 q = x) (h6 : m 0 27 = x) (h4 : x - q ≤ 3 → m 0 30 = nmR b q (x - q).toNat) (hk : m 0 28 = if x - q ≤ 3 then 3 else 0) : TkS m b n (.inr p) := by
  have a : kdZ b n p = if x - q ≤ 3 then 2 else 4 := by unfold kdZ kqZ; rw [hq, if_pos hn, if_neg (by omega), if_pos hc, hx]
  have c : nxZ b n p = x := by unfold nxZ nqZ; rw [hq, if_pos hn, if_neg (by omega), if_pos hc, hx]
  refine ⟨hp, hf, by rw [hq, h3], by rw [c, h6], ?_, fun y => by rw [a] at y; split at y <;> omega, fun y => ?_⟩
  · rw [a, hk]; split <;> rfl
  · unfold nmZ mqZ; rw [hq, hx, h4]; rw [a] at y; split at y
    · assumption
    · omega
theorem en256_r {b : Int → Int} {q x n : Int} (hr : ∀ i : Int, q ≤ i → i < x → 97 ≤ b i ∧ b i ≤ 122) (h : x - q ≤ 6) (hx : q ≤ x) : 0 ≤ enZ 256 0 (lsR b q (x - q).toNat) ∧ enZ 256 0 (lsR b q (x - q).toNat) < 281474976710656 := by
  have hm : ∀ c ∈ lsR b q (x - q).toNat, 97 ≤ c ∧ c ≤ 122 := fun c hc => by
    obtain ⟨i, i0, i1, i2⟩ := lsR_mem hc
    rw [i2]; exact hr i i0 (by omega)
  have a := en256_0 hm
  have d := en256_b hm
  rw [lsR_len] at d
  have e : (256 : Int) ^ (x - q).toNat ≤ 256 ^ 6 := pw_le (by decide) (by omega)
  have f : (256 : Int) ^ 6 = 281474976710656 := by decide
  omega
set_option maxHeartbeats 4000000 in
set_option maxRecDepth 100000 in
theorem ct_StageRatiosModel_byteAt {lau : Launch} {D : va_G} {cy : Nat → ClassId} {aa ad : Nat → Nat} (hI : wI (wR D cy aa ad)) (m : Mem) (b : Int → Int) (n : Int) (i : Int) (hB : BtR m b n) (hi : 0 ≤ i ∧ i ≤ 701) : MT lau (wR D cy aa ad) yX11_byteAt cX11_byteAt 2 (some .int) ({ frames := 0, cells := 0, slots := 0, locals := 0 } : Room) m [.ref (aa 0), .int (iz (i))] (Pi (fun z m' => byN b n i = z ∧ m = m')) := by
  refine v_entry hI RX11 (by decide) rfl (Nat.le_of_ble_eq_true rfl) (fun E hE C X => ?_)
  subst hE
  show V E (wR D cy aa ad) 2 m 0 [(0, .ref (aa 0)), (1, .int (iz (i)))] []
  obtain ⟨e26, hn, hb⟩ := id hB
  refine v_iload_n C 1 dX11_byteAt_0 rfl ?_
  refine v_aload_n C 0 dX11_byteAt_1 rfl ?_
  refine v_get C 0 26 lR0 (eR0 _) rfl inX11 (by decide) rfl qw1166 dX11_byteAt_2 ?_
  refine v_icmp_ge (tgt := 21) C dX11_byteAt_5 (by decide) (by first | omega | (rw [e26]; omega)) (by first | omega | (rw [e26]; omega)) (fun c1 => ?_) (fun c1 => ?_)
  · refine v_iconst (z := -1) C dX11_byteAt_21 rfl ?_
    refine v_iret C X rfl dX11_byteAt_22 ⟨_, rfl, ?_, ?_⟩
    · first
        | (rw [byN_1 (by omega), hb i hi.1 (by omega)])
        | (rw [byN_0 (by omega)])
    · rfl
  · refine v_aload_n C 0 dX11_byteAt_8 rfl ?_
    refine v_get C 0 24 lR0 (eR0 _) rfl inX11 (by decide) rfl qw1164 dX11_byteAt_9 ?_
    refine v_iload_n C 1 dX11_byteAt_12 rfl ?_
    refine v_bald C 8 lR8 (eR8 _) (by decide) (by rw [e26] at *; omega) dX11_byteAt_13 ?_
    refine v_sipush (z := 255) C dX11_byteAt_14 (by decide) ?_
    refine v_iand (z := m 8 i % 256) C (by exact iz_255 _) dX11_byteAt_17 ?_
    refine v_goto (tgt := 22) C dX11_byteAt_18 (by decide) ?_
    refine v_iret C X rfl dX11_byteAt_22 ⟨_, rfl, ?_, ?_⟩
    · first
        | (rw [byN_1 (by omega), hb i hi.1 (by omega)])
        | (rw [byN_0 (by omega)])
    · rfl

set_option maxHeartbeats 4000000 in
set_option maxRecDepth 100000 in
theorem ct_StageRatiosModel_nextWord {lau : Launch} {D : va_G} {cy : Nat → ClassId} {aa ad : Nat → Nat} (hI : wI (wR D cy aa ad)) (m : Mem) (b : Int → Int) (n : Int) (p q : Int) (hB : BtR m b n) (hq : m 0 29 = q) (hs : m 0 27 = q) (hqn : 0 ≤ q ∧ q ≤ n) (hp : 0 ≤ p ∧ p ≤ n) (hsk : skZ b n p = q) (hqc : q < n ∧ cls (b q) = 1) (hf0 : m 0 31 = 0) : MT lau (wR D cy aa ad) yX11_nextWord cX11_nextWord 1 (none) ({ frames := 1, cells := 0, slots := 0, locals := 22 } : Room) m [.ref (aa 0)] (Pv (fun m' => TkS m' b n (.inr p) ∧ FZ m m')) := by
  refine v_entry hI RX11 (by decide) rfl (Nat.le_of_ble_eq_true rfl) (fun E hE C X => ?_)
  subst hE
  show V E (wR D cy aa ad) 1 m 0 [(0, .ref (aa 0))] []
  refine v_aload_n C 0 dX11_nextWord_0 rfl ?_
  refine v_lconst (z := 0) C dX11_nextWord_1 rfl ?_
  refine v_put C 0 32 (0) 32 rfl lR0 (eR0 _) rfl inX11 tyX11 tyX11_ok nmX11 (by decide) qw1172 rfl rfl rfl (Nat.le_of_ble_eq_true rfl) (by rw [mup_r]; exact (eR0 _)) dX11_nextWord_2 (fun m1 em1 => ?_)
  have K5 : ∀ (nK : Nat)  (mL : Mem) (hx : q ≤ mL 0 27 ∧ mL 0 27 ≤ n) (hr : rnZ b n 1 q = rnZ b n 1 (mL 0 27)) (hall : ∀ i : Int, q ≤ i → i < mL 0 27 → cls (b i) = 1) (hv : mL 0 27 - q ≤ 7 → mL 0 32 = enZ 256 0 (lsR b q (mL 0 27 - q).toNat)) (h0 : ∀ j : Int, j ≠ 27 → j ≠ 32 → mL 0 j = m 0 j) (hf : ∀ q, q ≠ 0 → mL q = m q), (n - mL 0 27).toNat < nK → V E (wR D cy aa ad) 1 mL 5 [(0, .ref (aa 0))] [] := by
    intro nK
    induction nK with
    | zero => intro  mL hx hr hall hv h0 hf hn; exact absurd hn (Nat.not_lt_zero _)
    | succ nK ih5 =>
      intro  mL hx hr hall hv h0 hf hn5
      have hBL : BtR mL b n := by unfold BtR at hB ⊢; rw [h0 26 (by decide) (by decide), hf 8 (by decide)]; exact hB
      have e29 : mL 0 29 = q := by rw [h0 29 (by decide) (by decide)]; exact hq
      have hn7 := hB.2.1
      have hrun : ∀ i : Int, q ≤ i → i < mL 0 27 → 97 ≤ b i ∧ b i ≤ 122 := fun i i0 i1 => cls_1 (hall i i0 i1)
      refine v_aload_n C 0 dX11_nextWord_5 rfl ?_
      refine v_aload_n C 0 dX11_nextWord_6 rfl ?_
      refine v_get C 0 27 lR0 (eR0 _) rfl inX11 (by decide) rfl qw1167 dX11_nextWord_7 ?_
      refine v_callV (st := []) (n := 1) (q := 0) C [.int (iz (mL 0 27))] (ct_StageRatiosModel_byteAt C.2.2.2.2.2.2.1 mL (b) (n) (mL 0 27) (by exact hBL) (by omega)) lR0 (eR0 _) rfl qw1352 qw16 qw1349 rfl rfl ⟨Nat.le_of_ble_eq_true rfl, Nat.le_of_ble_eq_true rfl⟩ (by decide +kernel) qw1351 qp39 rfl rfl (Nat.le_of_ble_eq_true rfl) dX11_nextWord_10 (fun r m2 hq2 => ?_)
      obtain ⟨z2, rfl, rfl, rfl⟩ := hq2
      show V E (wR D cy aa ad) 1 mL 13 [(0, .ref (aa 0))] [.int (iz (byN b n (mL 0 27)))]
      refine v_bipush (z := 97) C dX11_nextWord_13 (by decide) ?_
      refine v_bipush (z := 122) C dX11_nextWord_15 (by decide) ?_
      have hbr : -1 ≤ byN b n (mL 0 27) ∧ byN b n (mL 0 27) ≤ 255 := by
        unfold byN; split
        · have := hB.rng (j := mL 0 27) (by omega) (by assumption); omega
        · omega
      refine v_callS (st := []) (n := 3) C [.int (iz (byN b n (mL 0 27))), .int (iz (97)), .int (iz (122))] (ct_StageRatiosModel_in C.2.2.2.2.2.2.1 mL (byN b n (mL 0 27)) (97) (122) (by first | assumption | omega) (by first | assumption | omega) (by first | assumption | omega)) qw1355 qw16 qw1353 rfl rfl ⟨Nat.le_of_ble_eq_true rfl, Nat.le_of_ble_eq_true rfl⟩ (by decide +kernel) qw1354 rfl rfl (Nat.le_of_ble_eq_true rfl) dX11_nextWord_17 (fun r m3 hq3 => ?_)
      obtain ⟨z3, rfl, ⟨rfl, hq3, rfl⟩ | ⟨rfl, hq3, rfl⟩⟩ := hq3
      · show V E (wR D cy aa ad) 1 mL 20 [(0, .ref (aa 0))] [.int (iz (1))]
        have hln : mL 0 27 < n := by
          by_cases y : mL 0 27 < n
          · exact y
          · have := hq3; rw [byN_0 y] at this; omega
        have hcc := hq3
        rw [byN_1 hln] at hcc
        have hcl : cls (b (mL 0 27)) = 1 := cls_of1 hcc
        refine v_if_eq (tgt := 71) C dX11_nextWord_20 (by decide) (by omega) (fun c4 => by exact absurd c4 (by decide)) (fun c4 => ?_)
        have K58 : ∀  (mJ : Mem) (x58 : mJ 0 27 = mL 0 27) (v58 : mL 0 27 + 1 - q ≤ 7 → mJ 0 32 = enZ 256 0 (lsR b q (mL 0 27 + 1 - q).toNat)) (z58 : ∀ j : Int, j ≠ 27 → j ≠ 32 → mJ 0 j = m 0 j) (f58 : ∀ q, q ≠ 0 → mJ q = m q), V E (wR D cy aa ad) 1 mJ 58 [(0, .ref (aa 0))] [] := by
          intro  mJ x58 v58 z58 f58
          refine v_aload_n C 0 dX11_nextWord_58 rfl ?_
          refine v_dup C dX11_nextWord_59 rfl ?_
          refine v_get C 0 27 lR0 (eR0 _) rfl inX11 (by decide) rfl qw1167 dX11_nextWord_60 ?_
          refine v_iconst (z := 1) C dX11_nextWord_63 rfl ?_
          refine v_iadd C dX11_nextWord_64 ?_
          refine v_put C 0 27 ((mJ 0 27) + 1) 27 rfl lR0 (eR0 _) rfl inX11 tyX11 tyX11_ok nmX11 (by decide) qw1167 rfl rfl rfl (Nat.le_of_ble_eq_true rfl) (by rw [mup_r]; exact (eR0 _)) dX11_nextWord_65 (fun m5 em5 => ?_)
          refine v_goto (tgt := 5) C dX11_nextWord_68 (by decide) ?_
          refine v_sub [0] rfl ?_
          exact ih5  m5 (by rw [em5, mup_s, x58]; omega) (by rw [em5, mup_s, x58, hr]; exact rnZ_s (by omega) hcl) (by 
                        intro i i0 i1; rw [em5, mup_s, x58] at i1
                        by_cases e : i = mL 0 27
                        · rw [e]; exact hcl
                        · exact hall i i0 (by omega)
                      ) (by rw [em5, mup_s, mup_j _ _ (by decide), x58]; intro y; exact v58 (by omega)) (by intro j a c; rw [em5, mup_j _ _ a]; exact z58 j a c) (by intro q h; rw [em5, mup_k _ _ _ h]; exact f58 q h) (by rw [em5, mup_s, x58]; omega)
        refine v_aload_n C 0 dX11_nextWord_23 rfl ?_
        refine v_get C 0 27 lR0 (eR0 _) rfl inX11 (by decide) rfl qw1167 dX11_nextWord_24 ?_
        refine v_aload_n C 0 dX11_nextWord_27 rfl ?_
        refine v_get C 0 29 lR0 (eR0 _) rfl inX11 (by decide) rfl qw1169 dX11_nextWord_28 ?_
        refine v_isub C dX11_nextWord_31 ?_
        refine v_bipush (z := 7) C dX11_nextWord_32 (by decide) ?_
        refine v_icmp_ge (tgt := 58) C dX11_nextWord_34 (by decide) (by first | omega | (rw [e29]; omega)) (by omega) (fun c6 => ?_) (fun c6 => ?_)
        · refine v_sub [0] rfl ?_
          exact K58   mL (by 
                        first
                          | rfl
                          | (rw [NO_em55, mup_j _ _ (by decide)])
                      ) (by 
                        first
                          | (intro y; omega)
                          | (intro _; rw [NO_em55, mup_s]; exact hvv)
                      ) (by 
                        first
                          | exact h0
                          | (intro j a c; rw [NO_em55, mup_j _ _ c]; exact h0 j a c)
                      ) (by 
                        first
                          | exact hf
                          | (intro q h; rw [NO_em55, mup_k _ _ _ h]; exact hf q h)
                      )
        · refine v_aload_n C 0 dX11_nextWord_37 rfl ?_
          refine v_aload_n C 0 dX11_nextWord_38 rfl ?_
          refine v_get C 0 32 lR0 (eR0 _) rfl inX11 (by decide) rfl qw1172 dX11_nextWord_39 ?_
          refine v_bipush (z := 8) C dX11_nextWord_42 (by decide) ?_
          have her := en256_r (n := n) hrun (by omega) hx.1
          refine v_lshl (z := mL 0 32 * 256) C (by rw [hv (by omega)]; exact lz_sl8 (by omega) (by omega)) dX11_nextWord_44 ?_
          refine v_aload_n C 0 dX11_nextWord_45 rfl ?_
          refine v_aload_n C 0 dX11_nextWord_46 rfl ?_
          refine v_get C 0 27 lR0 (eR0 _) rfl inX11 (by decide) rfl qw1167 dX11_nextWord_47 ?_
          refine v_callV (st := [.long (lz (mL 0 32 * 256)), .ref (aa 0)]) (n := 1) (q := 0) C [.int (iz (mL 0 27))] (ct_StageRatiosModel_byteAt C.2.2.2.2.2.2.1 mL (b) (n) (mL 0 27) (by exact hBL) (by omega)) lR0 (eR0 _) rfl qw1352 qw16 qw1349 rfl rfl ⟨Nat.le_of_ble_eq_true rfl, Nat.le_of_ble_eq_true rfl⟩ (by decide +kernel) qw1351 qp39 rfl rfl (Nat.le_of_ble_eq_true rfl) dX11_nextWord_50 (fun r m7 hq7 => ?_)
          obtain ⟨z7, rfl, rfl, rfl⟩ := hq7
          show V E (wR D cy aa ad) 1 mL 53 [(0, .ref (aa 0))] [.int (iz (byN b n (mL 0 27))), .long (lz (mL 0 32 * 256)), .ref (aa 0)]
          refine v_i2l C (by first | omega | (rw [e29]; omega)) dX11_nextWord_53 ?_
          refine v_lor (z := mL 0 32 * 256 + byN b n (mL 0 27)) C (by rw [hv (by omega), byN_1 hln]; exact lz_or8 (by omega) (by omega) (by omega)) dX11_nextWord_54 ?_
          have hvv : mL 0 32 * 256 + byN b n (mL 0 27) = enZ 256 0 (lsR b q (mL 0 27 + 1 - q).toNat) := by
            rw [lsR_s hx.1, hv (by omega), byN_1 hln]
            show _ = enZ 256 0 (lsR b q (mL 0 27 - q).toNat) * 256 + (b (mL 0 27) - 0)
            omega
          refine v_put C 0 32 (mL 0 32 * 256 + byN b n (mL 0 27)) 32 rfl lR0 (eR0 _) rfl inX11 tyX11 tyX11_ok nmX11 (by decide) qw1172 rfl rfl rfl (Nat.le_of_ble_eq_true rfl) (by rw [mup_r]; exact (eR0 _)) dX11_nextWord_55 (fun m8 em8 => ?_)
          refine v_sub [0] rfl ?_
          exact K58   m8 (by 
                        first
                          | rfl
                          | (rw [em8, mup_j _ _ (by decide)])
                      ) (by 
                        first
                          | (intro y; omega)
                          | (intro _; rw [em8, mup_s]; exact hvv)
                      ) (by 
                        first
                          | exact h0
                          | (intro j a c; rw [em8, mup_j _ _ c]; exact h0 j a c)
                      ) (by 
                        first
                          | exact hf
                          | (intro q h; rw [em8, mup_k _ _ _ h]; exact hf q h)
                      )
      · show V E (wR D cy aa ad) 1 mL 20 [(0, .ref (aa 0))] [.int (iz (0))]
        have hre : rnZ b n 1 q = mL 0 27 := by
          rw [hr]; exact rnZ_e (fun y => hq3 (by rw [byN_1 y.1]; exact cls_1 y.2))
        refine v_if_eq (tgt := 71) C dX11_nextWord_20 (by decide) (by omega) (fun c9 => ?_) (fun c9 => by exact absurd c9 (by decide))
        refine v_aload_n C 0 dX11_nextWord_71 rfl ?_
        refine v_aload_n C 0 dX11_nextWord_72 rfl ?_
        refine v_get C 0 27 lR0 (eR0 _) rfl inX11 (by decide) rfl qw1167 dX11_nextWord_73 ?_
        refine v_aload_n C 0 dX11_nextWord_76 rfl ?_
        refine v_get C 0 29 lR0 (eR0 _) rfl inX11 (by decide) rfl qw1169 dX11_nextWord_77 ?_
        refine v_isub C dX11_nextWord_80 ?_
        refine v_bipush (z := 7) C dX11_nextWord_81 (by decide) ?_
        refine v_icmp_le (tgt := 90) C dX11_nextWord_83 (by decide) (by first | omega | (rw [e29]; omega)) (by omega) (fun c10 => ?_) (fun c10 => ?_)
        · refine v_iconst (z := 2) C dX11_nextWord_90 rfl ?_
          refine v_put C 0 28 (2) 28 rfl lR0 (eR0 _) rfl inX11 tyX11 tyX11_ok nmX11 (by decide) qw1168 rfl rfl rfl (Nat.le_of_ble_eq_true rfl) (by rw [mup_r]; exact (eR0 _)) dX11_nextWord_91 (fun m11 em11 => ?_)
          refine v_vret C X dX11_nextWord_94 ⟨rfl, ?_⟩
          have z91 : ∀ j : Int, j ≠ 28 → m11 0 j = mL 0 j := fun j h => by rw [em11, mup_j _ _ h]
          refine ⟨TkS.w hp (by rw [z91 31 (by decide), h0 31 (by decide) (by decide)]; exact hf0) (by rw [z91 29 (by decide)]; exact e29) hsk hqc.1 hqc.2 hre (by rw [z91 27 (by decide)]) (fun y => by rw [z91 32 (by decide)]; exact hv y) ?_, fun j hj => by rw [z91 j (by omega)]; exact h0 j (by omega) (by omega), fun q h => by rw [em11, mup_k _ _ _ h]; exact hf q h⟩
          rw [em11, mup_s]
          first
            | (rw [if_pos (by omega)])
            | (rw [if_neg (by omega)])
        · refine v_iconst (z := 0) C dX11_nextWord_86 rfl ?_
          refine v_goto (tgt := 91) C dX11_nextWord_87 (by decide) ?_
          refine v_put C 0 28 (0) 28 rfl lR0 (eR0 _) rfl inX11 tyX11 tyX11_ok nmX11 (by decide) qw1168 rfl rfl rfl (Nat.le_of_ble_eq_true rfl) (by rw [mup_r]; exact (eR0 _)) dX11_nextWord_91 (fun m12 em12 => ?_)
          refine v_vret C X dX11_nextWord_94 ⟨rfl, ?_⟩
          have z91 : ∀ j : Int, j ≠ 28 → m12 0 j = mL 0 j := fun j h => by rw [em12, mup_j _ _ h]
          refine ⟨TkS.w hp (by rw [z91 31 (by decide), h0 31 (by decide) (by decide)]; exact hf0) (by rw [z91 29 (by decide)]; exact e29) hsk hqc.1 hqc.2 hre (by rw [z91 27 (by decide)]) (fun y => by rw [z91 32 (by decide)]; exact hv y) ?_, fun j hj => by rw [z91 j (by omega)]; exact h0 j (by omega) (by omega), fun q h => by rw [em12, mup_k _ _ _ h]; exact hf q h⟩
          rw [em12, mup_s]
          first
            | (rw [if_pos (by omega)])
            | (rw [if_neg (by omega)])
  refine v_sub [0] rfl ?_
  exact K5 _  m1 (by rw [em1, mup_j _ _ (by decide)]; omega) (by rw [em1, mup_j _ _ (by decide), hs]) (by intro i i0 i1; rw [em1, mup_j _ _ (by decide)] at i1; omega) (by intro _; rw [em1, mup_s, mup_j _ _ (by decide), hs, show (q - q).toNat = 0 by omega]; rfl) (by intro j a c; rw [em1, mup_j _ _ c]) (by intro q h; rw [em1, mup_k _ _ _ h]) (Nat.lt_succ_self _)

set_option maxHeartbeats 4000000 in
set_option maxRecDepth 100000 in
theorem ct_StageRatiosModel_nextWhole {lau : Launch} {D : va_G} {cy : Nat → ClassId} {aa ad : Nat → Nat} (hI : wI (wR D cy aa ad)) (m : Mem) (b : Int → Int) (n : Int) (p q : Int) (hB : BtR m b n) (hq : m 0 29 = q) (hs : m 0 27 = q) (hqn : 0 ≤ q ∧ q ≤ n) (hp : 0 ≤ p ∧ p ≤ n) (hsk : skZ b n p = q) (hqc : q < n ∧ cls (b q) = 2) (hf0 : m 0 31 = 0) : MT lau (wR D cy aa ad) yX11_nextWhole cX11_nextWhole 1 (none) ({ frames := 1, cells := 0, slots := 0, locals := 22 } : Room) m [.ref (aa 0)] (Pv (fun m' => TkS m' b n (.inr p) ∧ FZ m m')) := by
  refine v_entry hI RX11 (by decide) rfl (Nat.le_of_ble_eq_true rfl) (fun E hE C X => ?_)
  subst hE
  show V E (wR D cy aa ad) 1 m 0 [(0, .ref (aa 0))] []
  refine v_aload_n C 0 dX11_nextWhole_0 rfl ?_
  refine v_iconst (z := 0) C dX11_nextWhole_1 rfl ?_
  refine v_put C 0 30 (0) 30 rfl lR0 (eR0 _) rfl inX11 tyX11 tyX11_ok nmX11 (by decide) qw1170 rfl rfl rfl (Nat.le_of_ble_eq_true rfl) (by rw [mup_r]; exact (eR0 _)) dX11_nextWhole_2 (fun m1 em1 => ?_)
  have K5 : ∀ (nK : Nat)  (mL : Mem) (hx : q ≤ mL 0 27 ∧ mL 0 27 ≤ n) (hr : rnZ b n 2 q = rnZ b n 2 (mL 0 27)) (hall : ∀ i : Int, q ≤ i → i < mL 0 27 → cls (b i) = 2) (hv : mL 0 27 - q ≤ 3 → mL 0 30 = nmR b q (mL 0 27 - q).toNat) (h0 : ∀ j : Int, j ≠ 27 → j ≠ 30 → mL 0 j = m 0 j) (hf : ∀ q, q ≠ 0 → mL q = m q), (n - mL 0 27).toNat < nK → V E (wR D cy aa ad) 1 mL 5 [(0, .ref (aa 0))] [] := by
    intro nK
    induction nK with
    | zero => intro  mL hx hr hall hv h0 hf hn; exact absurd hn (Nat.not_lt_zero _)
    | succ nK ih5 =>
      intro  mL hx hr hall hv h0 hf hn5
      have hBL : BtR mL b n := by unfold BtR at hB ⊢; rw [h0 26 (by decide) (by decide), hf 8 (by decide)]; exact hB
      have e29 : mL 0 29 = q := by rw [h0 29 (by decide) (by decide)]; exact hq
      have hn7 := hB.2.1
      have hrun : ∀ i : Int, q ≤ i → i < mL 0 27 → 48 ≤ b i ∧ b i ≤ 57 := fun i i0 i1 => cls_2 (hall i i0 i1)
      refine v_aload_n C 0 dX11_nextWhole_5 rfl ?_
      refine v_aload_n C 0 dX11_nextWhole_6 rfl ?_
      refine v_get C 0 27 lR0 (eR0 _) rfl inX11 (by decide) rfl qw1167 dX11_nextWhole_7 ?_
      refine v_callV (st := []) (n := 1) (q := 0) C [.int (iz (mL 0 27))] (ct_StageRatiosModel_byteAt C.2.2.2.2.2.2.1 mL (b) (n) (mL 0 27) (by exact hBL) (by omega)) lR0 (eR0 _) rfl qw1352 qw16 qw1349 rfl rfl ⟨Nat.le_of_ble_eq_true rfl, Nat.le_of_ble_eq_true rfl⟩ (by decide +kernel) qw1351 qp39 rfl rfl (Nat.le_of_ble_eq_true rfl) dX11_nextWhole_10 (fun r m2 hq2 => ?_)
      obtain ⟨z2, rfl, rfl, rfl⟩ := hq2
      show V E (wR D cy aa ad) 1 mL 13 [(0, .ref (aa 0))] [.int (iz (byN b n (mL 0 27)))]
      refine v_bipush (z := 48) C dX11_nextWhole_13 (by decide) ?_
      refine v_bipush (z := 57) C dX11_nextWhole_15 (by decide) ?_
      have hbr : -1 ≤ byN b n (mL 0 27) ∧ byN b n (mL 0 27) ≤ 255 := by
        unfold byN; split
        · have := hB.rng (j := mL 0 27) (by omega) (by assumption); omega
        · omega
      refine v_callS (st := []) (n := 3) C [.int (iz (byN b n (mL 0 27))), .int (iz (48)), .int (iz (57))] (ct_StageRatiosModel_in C.2.2.2.2.2.2.1 mL (byN b n (mL 0 27)) (48) (57) (by first | assumption | omega) (by first | assumption | omega) (by first | assumption | omega)) qw1355 qw16 qw1353 rfl rfl ⟨Nat.le_of_ble_eq_true rfl, Nat.le_of_ble_eq_true rfl⟩ (by decide +kernel) qw1354 rfl rfl (Nat.le_of_ble_eq_true rfl) dX11_nextWhole_17 (fun r m3 hq3 => ?_)
      obtain ⟨z3, rfl, ⟨rfl, hq3, rfl⟩ | ⟨rfl, hq3, rfl⟩⟩ := hq3
      · show V E (wR D cy aa ad) 1 mL 20 [(0, .ref (aa 0))] [.int (iz (1))]
        have hln : mL 0 27 < n := by
          by_cases y : mL 0 27 < n
          · exact y
          · have := hq3; rw [byN_0 y] at this; omega
        have hcc := hq3
        rw [byN_1 hln] at hcc
        have hcl : cls (b (mL 0 27)) = 2 := cls_of2 hcc
        refine v_if_eq (tgt := 72) C dX11_nextWhole_20 (by decide) (by omega) (fun c4 => by exact absurd c4 (by decide)) (fun c4 => ?_)
        have K59 : ∀  (mJ : Mem) (x58 : mJ 0 27 = mL 0 27) (v58 : mL 0 27 + 1 - q ≤ 3 → mJ 0 30 = nmR b q (mL 0 27 + 1 - q).toNat) (z58 : ∀ j : Int, j ≠ 27 → j ≠ 30 → mJ 0 j = m 0 j) (f58 : ∀ q, q ≠ 0 → mJ q = m q), V E (wR D cy aa ad) 1 mJ 59 [(0, .ref (aa 0))] [] := by
          intro  mJ x58 v58 z58 f58
          refine v_aload_n C 0 dX11_nextWhole_59 rfl ?_
          refine v_dup C dX11_nextWhole_60 rfl ?_
          refine v_get C 0 27 lR0 (eR0 _) rfl inX11 (by decide) rfl qw1167 dX11_nextWhole_61 ?_
          refine v_iconst (z := 1) C dX11_nextWhole_64 rfl ?_
          refine v_iadd C dX11_nextWhole_65 ?_
          refine v_put C 0 27 ((mJ 0 27) + 1) 27 rfl lR0 (eR0 _) rfl inX11 tyX11 tyX11_ok nmX11 (by decide) qw1167 rfl rfl rfl (Nat.le_of_ble_eq_true rfl) (by rw [mup_r]; exact (eR0 _)) dX11_nextWhole_66 (fun m5 em5 => ?_)
          refine v_goto (tgt := 5) C dX11_nextWhole_69 (by decide) ?_
          refine v_sub [0] rfl ?_
          exact ih5  m5 (by rw [em5, mup_s, x58]; omega) (by rw [em5, mup_s, x58, hr]; exact rnZ_s (by omega) hcl) (by 
                        intro i i0 i1; rw [em5, mup_s, x58] at i1
                        by_cases e : i = mL 0 27
                        · rw [e]; exact hcl
                        · exact hall i i0 (by omega)
                      ) (by rw [em5, mup_s, mup_j _ _ (by decide), x58]; intro y; exact v58 (by omega)) (by intro j a c; rw [em5, mup_j _ _ a]; exact z58 j a c) (by intro q h; rw [em5, mup_k _ _ _ h]; exact f58 q h) (by rw [em5, mup_s, x58]; omega)
        refine v_aload_n C 0 dX11_nextWhole_23 rfl ?_
        refine v_get C 0 27 lR0 (eR0 _) rfl inX11 (by decide) rfl qw1167 dX11_nextWhole_24 ?_
        refine v_aload_n C 0 dX11_nextWhole_27 rfl ?_
        refine v_get C 0 29 lR0 (eR0 _) rfl inX11 (by decide) rfl qw1169 dX11_nextWhole_28 ?_
        refine v_isub C dX11_nextWhole_31 ?_
        refine v_iconst (z := 3) C dX11_nextWhole_32 rfl ?_
        refine v_icmp_ge (tgt := 59) C dX11_nextWhole_33 (by decide) (by first | omega | (rw [e29]; omega)) (by omega) (fun c6 => ?_) (fun c6 => ?_)
        · refine v_sub [0] rfl ?_
          exact K59   mL (by 
                        first
                          | rfl
                          | (rw [NO_em56, mup_j _ _ (by decide)])
                      ) (by 
                        first
                          | (intro y; omega)
                          | (intro _; rw [NO_em56, mup_s]; exact hvv)
                      ) (by 
                        first
                          | exact h0
                          | (intro j a c; rw [NO_em56, mup_j _ _ c]; exact h0 j a c)
                      ) (by 
                        first
                          | exact hf
                          | (intro q h; rw [NO_em56, mup_k _ _ _ h]; exact hf q h)
                      )
        · refine v_aload_n C 0 dX11_nextWhole_36 rfl ?_
          refine v_bipush (z := 10) C dX11_nextWhole_37 (by decide) ?_
          refine v_aload_n C 0 dX11_nextWhole_39 rfl ?_
          refine v_get C 0 30 lR0 (eR0 _) rfl inX11 (by decide) rfl qw1170 dX11_nextWhole_40 ?_
          refine v_imul C dX11_nextWhole_43 ?_
          refine v_aload_n C 0 dX11_nextWhole_44 rfl ?_
          refine v_aload_n C 0 dX11_nextWhole_45 rfl ?_
          refine v_get C 0 27 lR0 (eR0 _) rfl inX11 (by decide) rfl qw1167 dX11_nextWhole_46 ?_
          refine v_callV (st := [.int (iz (10 * (mL 0 30))), .ref (aa 0)]) (n := 1) (q := 0) C [.int (iz (mL 0 27))] (ct_StageRatiosModel_byteAt C.2.2.2.2.2.2.1 mL (b) (n) (mL 0 27) (by exact hBL) (by omega)) lR0 (eR0 _) rfl qw1352 qw16 qw1349 rfl rfl ⟨Nat.le_of_ble_eq_true rfl, Nat.le_of_ble_eq_true rfl⟩ (by decide +kernel) qw1351 qp39 rfl rfl (Nat.le_of_ble_eq_true rfl) dX11_nextWhole_49 (fun r m7 hq7 => ?_)
          obtain ⟨z7, rfl, rfl, rfl⟩ := hq7
          show V E (wR D cy aa ad) 1 mL 52 [(0, .ref (aa 0))] [.int (iz (byN b n (mL 0 27))), .int (iz (10 * (mL 0 30))), .ref (aa 0)]
          refine v_iadd C dX11_nextWhole_52 ?_
          refine v_bipush (z := 48) C dX11_nextWhole_53 (by decide) ?_
          refine v_isub C dX11_nextWhole_55 ?_
          have hvv : 10 * mL 0 30 + byN b n (mL 0 27) - 48 = nmR b q (mL 0 27 + 1 - q).toNat := by
            rw [nmR_s hx.1, hv (by omega), byN_1 hln]; omega
          refine v_put C 0 30 (((10 * (mL 0 30)) + (byN b n (mL 0 27))) - 48) 30 rfl lR0 (eR0 _) rfl inX11 tyX11 tyX11_ok nmX11 (by decide) qw1170 rfl rfl rfl (Nat.le_of_ble_eq_true rfl) (by rw [mup_r]; exact (eR0 _)) dX11_nextWhole_56 (fun m8 em8 => ?_)
          refine v_sub [0] rfl ?_
          exact K59   m8 (by 
                        first
                          | rfl
                          | (rw [em8, mup_j _ _ (by decide)])
                      ) (by 
                        first
                          | (intro y; omega)
                          | (intro _; rw [em8, mup_s]; exact hvv)
                      ) (by 
                        first
                          | exact h0
                          | (intro j a c; rw [em8, mup_j _ _ c]; exact h0 j a c)
                      ) (by 
                        first
                          | exact hf
                          | (intro q h; rw [em8, mup_k _ _ _ h]; exact hf q h)
                      )
      · show V E (wR D cy aa ad) 1 mL 20 [(0, .ref (aa 0))] [.int (iz (0))]
        have hre : rnZ b n 2 q = mL 0 27 := by
          rw [hr]; exact rnZ_e (fun y => hq3 (by rw [byN_1 y.1]; exact cls_2 y.2))
        refine v_if_eq (tgt := 72) C dX11_nextWhole_20 (by decide) (by omega) (fun c9 => ?_) (fun c9 => by exact absurd c9 (by decide))
        refine v_aload_n C 0 dX11_nextWhole_72 rfl ?_
        refine v_aload_n C 0 dX11_nextWhole_73 rfl ?_
        refine v_get C 0 27 lR0 (eR0 _) rfl inX11 (by decide) rfl qw1167 dX11_nextWhole_74 ?_
        refine v_aload_n C 0 dX11_nextWhole_77 rfl ?_
        refine v_get C 0 29 lR0 (eR0 _) rfl inX11 (by decide) rfl qw1169 dX11_nextWhole_78 ?_
        refine v_isub C dX11_nextWhole_81 ?_
        refine v_iconst (z := 3) C dX11_nextWhole_82 rfl ?_
        refine v_icmp_le (tgt := 90) C dX11_nextWhole_83 (by decide) (by first | omega | (rw [e29]; omega)) (by omega) (fun c10 => ?_) (fun c10 => ?_)
        · refine v_iconst (z := 3) C dX11_nextWhole_90 rfl ?_
          refine v_put C 0 28 (3) 28 rfl lR0 (eR0 _) rfl inX11 tyX11 tyX11_ok nmX11 (by decide) qw1168 rfl rfl rfl (Nat.le_of_ble_eq_true rfl) (by rw [mup_r]; exact (eR0 _)) dX11_nextWhole_91 (fun m11 em11 => ?_)
          refine v_vret C X dX11_nextWhole_94 ⟨rfl, ?_⟩
          have z91 : ∀ j : Int, j ≠ 28 → m11 0 j = mL 0 j := fun j h => by rw [em11, mup_j _ _ h]
          refine ⟨TkS.n hp (by rw [z91 31 (by decide), h0 31 (by decide) (by decide)]; exact hf0) (by rw [z91 29 (by decide)]; exact e29) hsk hqc.1 hqc.2 hre (by rw [z91 27 (by decide)]) (fun y => by rw [z91 30 (by decide)]; exact hv y) ?_, fun j hj => by rw [z91 j (by omega)]; exact h0 j (by omega) (by omega), fun q h => by rw [em11, mup_k _ _ _ h]; exact hf q h⟩
          rw [em11, mup_s]
          first
            | (rw [if_pos (by omega)])
            | (rw [if_neg (by omega)])
        · refine v_iconst (z := 0) C dX11_nextWhole_86 rfl ?_
          refine v_goto (tgt := 91) C dX11_nextWhole_87 (by decide) ?_
          refine v_put C 0 28 (0) 28 rfl lR0 (eR0 _) rfl inX11 tyX11 tyX11_ok nmX11 (by decide) qw1168 rfl rfl rfl (Nat.le_of_ble_eq_true rfl) (by rw [mup_r]; exact (eR0 _)) dX11_nextWhole_91 (fun m12 em12 => ?_)
          refine v_vret C X dX11_nextWhole_94 ⟨rfl, ?_⟩
          have z91 : ∀ j : Int, j ≠ 28 → m12 0 j = mL 0 j := fun j h => by rw [em12, mup_j _ _ h]
          refine ⟨TkS.n hp (by rw [z91 31 (by decide), h0 31 (by decide) (by decide)]; exact hf0) (by rw [z91 29 (by decide)]; exact e29) hsk hqc.1 hqc.2 hre (by rw [z91 27 (by decide)]) (fun y => by rw [z91 30 (by decide)]; exact hv y) ?_, fun j hj => by rw [z91 j (by omega)]; exact h0 j (by omega) (by omega), fun q h => by rw [em12, mup_k _ _ _ h]; exact hf q h⟩
          rw [em12, mup_s]
          first
            | (rw [if_pos (by omega)])
            | (rw [if_neg (by omega)])
  refine v_sub [0] rfl ?_
  exact K5 _  m1 (by rw [em1, mup_j _ _ (by decide)]; omega) (by rw [em1, mup_j _ _ (by decide), hs]) (by intro i i0 i1; rw [em1, mup_j _ _ (by decide)] at i1; omega) (by intro _; rw [em1, mup_s, mup_j _ _ (by decide), hs, show (q - q).toNat = 0 by omega]; rfl) (by intro j a c; rw [em1, mup_j _ _ c]) (by intro q h; rw [em1, mup_k _ _ _ h]) (Nat.lt_succ_self _)
