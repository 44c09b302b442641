/-! the class's tape: tokens -/
def BtOk (b : Int → Int) : Prop := ∀ j : Int, 0 ≤ j → j < 700 → 0 ≤ b j ∧ b j ≤ 255
def TkC (m : Mem) (b : Int → Int) (n p : Int) : Prop := m 2 = b ∧ m 1 5 = n ∧ m 1 2 = kdZ b n p ∧ m 1 3 = skZ b n p ∧ m 1 6 = nxZ b n p ∧ (kdZ b n p = 1 → m 1 4 = enZ 27 96 (wlZ b n p)) ∧ (kdZ b n p = 2 → m 1 4 = nmZ b n p)
theorem TkC.e {m : Mem} {b : Int → Int} {n p q : Int} (h2 : m 2 = b) (h5 : m 1 5 = n) (h3 : m 1 3 = q) (hq : skZ b n p = q) (hn : ¬ q < n) (hk : m 1 2 = 0) (h6 : m 1 6 = q) : TkC m b n p := by
  have a : kdZ b n p = 0 := by unfold kdZ kqZ; rw [hq, if_neg hn]
  have c : nxZ b n p = q := by unfold nxZ nqZ; rw [hq, if_neg hn]
  exact ⟨h2, h5, by rw [a, hk], by rw [hq, h3], by rw [c, h6], fun y => by omega, fun y => by omega⟩
theorem TkC.o {m : Mem} {b : Int → Int} {n p q kk : Int} (h2 : m 2 = b) (h5 : m 1 5 = n) (h3 : m 1 3 = q) (hq : skZ b n p = q) (hn : q < n) (hc : cls (b q) = kk) (hk3 : kk = 3 ∨ kk = 4) (hk : m 1 2 = kk) (h6 : m 1 6 = q + 1) : TkC m b n p := by
  have a : kdZ b n p = kk := by unfold kdZ kqZ; rw [hq, if_pos hn, if_neg (by omega), if_neg (by omega), hc]
  have c : nxZ b n p = q + 1 := by unfold nxZ nqZ; rw [hq, if_pos hn, if_neg (by omega), if_neg (by omega)]
  exact ⟨h2, h5, by rw [a, hk], by rw [hq, h3], by rw [c, h6], fun y => by omega, fun y => by omega⟩
theorem TkC.w {m : Mem} {b : Int → Int} {n p q x : Int} (h2 : m 2 = b) (h5 : m 1 5 = n) (h3 : m 1 3 = q) (hq : skZ b n p = q) (hn : q < n) (hc : cls (b q) = 1) (hx : rnZ b n 1 q = x) (h6 : m 1 6 = x) (h4 : m 1 4 = enZ 27 96 (lsR b q (x - q).toNat)) (hk : m 1 2 = if x - q ≤ 7 then 1 else 4) : TkC m b n p := by
  have a : kdZ b n p = if x - q ≤ 7 then 1 else 4 := by unfold kdZ kqZ; rw [hq, if_pos hn, if_pos hc, hx]
  have c : nxZ b n p = x := by unfold nxZ nqZ; rw [hq, if_pos hn, if_pos hc, hx]
  exact ⟨h2, h5, by rw [a, hk], by rw [hq, h3], by rw [c, h6], fun y => by unfold wlZ wqZ; rw [hq, hx, h4], fun y => by rw [a] at y; split at y <;> omega⟩
theorem TkC.n {m : Mem} {b : Int → Int} {n p q x : Int} (h2 : m 2 = b) (h5 : m 1 5 = n) (h3 : m 1 3 = q) (hq : skZ b n p = q) (hn : q < n) (hc : cls (b q) = 2) (hx : rnZ b n 2 q = x) (h6 : m 1 6 = x) (h4 : m 1 4 = nmR b q (x - q).toNat) (hk : m 1 2 = if x - q ≤ 3 then 2 else 4) : TkC m b n p := by
  have a : kdZ b n p = if x - q ≤ 3 then 2 else 4 := by unfold kdZ kqZ; rw [hq, if_pos hn, if_neg (by omega), if_pos hc, hx]
  have c : nxZ b n p = x := by unfold nxZ nqZ; rw [hq, if_pos hn, if_neg (by omega), if_pos hc, hx]
  exact ⟨h2, h5, by rw [a, hk], by rw [hq, h3], by rw [c, h6], fun y => by rw [a] at y; split at y <;> omega, fun y => by unfold nmZ mqZ; rw [hq, hx, h4]⟩
theorem TkC.fr {m m' : Mem} {b : Int → Int} {n p : Int} (h : TkC m b n p) (h1 : m' 1 = m 1) (h2 : m' 2 = m 2) : TkC m' b n p := by unfold TkC at h ⊢; rw [h1, h2]; exact h
theorem lsR_s {b : Int → Int} {q x : Int} (h : q ≤ x) : lsR b q (x + 1 - q).toNat = b x :: lsR b q (x - q).toNat := by
  rw [show (x + 1 - q).toNat = (x - q).toNat + 1 by omega]
  show b (q + ((x - q).toNat : Nat)) :: _ = _
  rw [show q + (((x - q).toNat : Nat) : Int) = x by omega]
theorem nmR_s {b : Int → Int} {q x : Int} (h : q ≤ x) : nmR b q (x + 1 - q).toNat = nmR b q (x - q).toNat * 10 + b x - 48 := by
  rw [show (x + 1 - q).toNat = (x - q).toNat + 1 by omega]
  show nmR b q (x - q).toNat * 10 + b (q + ((x - q).toNat : Nat)) - 48 = _
  rw [show q + (((x - q).toNat : Nat) : Int) = x by omega]
set_option maxHeartbeats 4000000 in
set_option maxRecDepth 100000 in
theorem ct_Tape_withLetter {lau : Launch} {D : va_G} {cy : Nat → ClassId} {aa ad : Nat → Nat} (hI : wI (wC D cy aa ad)) (m : Mem) (v c : Int) (hc : -2147483648 ≤ c ∧ c ≤ 2147483647) (hc2 : 0 ≤ c) : MT lau (wC D cy aa ad) yX8_withLetter cX8_withLetter 3 (some .long) ({ frames := 0, cells := 0, slots := 0, locals := 0 } : Room) m [.long (lz (v)), .int (iz (c))] (Pl (fun z m' => v * 27 + (c - 97 + 1) = z ∧ m = m')) := by
  refine v_entry hI RX8 (by decide) rfl (Nat.le_of_ble_eq_true rfl) (fun E hE C X => ?_)
  subst hE
  show V E (wC D cy aa ad) 3 m 0 [(0, .long (lz (v))), (2, .int (iz (c)))] []
  refine v_lload_n C 0 dX8_withLetter_0 rfl ?_
  refine v_ldc2 (z := 27) C qw124 dX8_withLetter_1 rfl ?_
  refine v_lmul C dX8_withLetter_4 ?_
  refine v_iload_n C 1 dX8_withLetter_5 rfl ?_
  refine v_bipush (z := 97) C dX8_withLetter_6 (by decide) ?_
  refine v_isub C dX8_withLetter_8 ?_
  refine v_iconst (z := 1) C dX8_withLetter_9 rfl ?_
  refine v_iadd C dX8_withLetter_10 ?_
  refine v_i2l C (by omega) dX8_withLetter_11 ?_
  refine v_ladd C dX8_withLetter_12 ?_
  refine v_lret C X dX8_withLetter_13 ⟨_, rfl, ?_, ?_⟩
  · rfl
  · rfl

set_option maxHeartbeats 4000000 in
set_option maxRecDepth 100000 in
theorem ct_Tape_kindOf {lau : Launch} {D : va_G} {cy : Nat → ClassId} {aa ad : Nat → Nat} (hI : wI (wC D cy aa ad)) (m : Mem) (c : Int) (hc : -2147483648 ≤ c ∧ c ≤ 2147483647) : MT lau (wC D cy aa ad) yX8_kindOf cX8_kindOf 1 (some .int) ({ frames := 0, cells := 0, slots := 0, locals := 0 } : Room) m [.int (iz (c))] (Pi (fun z m' => cls c = z ∧ m = m')) := by
  refine v_entry hI RX8 (by decide) rfl (Nat.le_of_ble_eq_true rfl) (fun E hE C X => ?_)
  subst hE
  show V E (wC D cy aa ad) 1 m 0 [(0, .int (iz (c)))] []
  refine v_iload_n C 0 dX8_kindOf_0 rfl ?_
  refine v_bipush (z := 97) C dX8_kindOf_1 (by decide) ?_
  refine v_icmp_lt (tgt := 14) C dX8_kindOf_3 (by decide) (by omega) (by omega) (fun c1 => ?_) (fun c1 => ?_)
  · refine v_iload_n C 0 dX8_kindOf_14 rfl ?_
    refine v_bipush (z := 48) C dX8_kindOf_15 (by decide) ?_
    refine v_icmp_lt (tgt := 28) C dX8_kindOf_17 (by decide) (by omega) (by omega) (fun c2 => ?_) (fun c2 => ?_)
    · refine v_iload_n C 0 dX8_kindOf_28 rfl ?_
      refine v_bipush (z := 59) C dX8_kindOf_29 (by decide) ?_
      refine v_icmp_ne (tgt := 38) C dX8_kindOf_31 (by decide) (by omega) (by omega) (fun c3 => ?_) (fun c3 => ?_)
      · refine v_iconst (z := 4) C dX8_kindOf_38 rfl ?_
        refine v_iret C X rfl dX8_kindOf_39 ⟨_, rfl, ?_, ?_⟩
        · unfold cls; repeat' (first | omega | rfl | split)
        · rfl
      · refine v_iconst (z := 3) C dX8_kindOf_34 rfl ?_
        refine v_goto (tgt := 39) C dX8_kindOf_35 (by decide) ?_
        refine v_iret C X rfl dX8_kindOf_39 ⟨_, rfl, ?_, ?_⟩
        · unfold cls; repeat' (first | omega | rfl | split)
        · rfl
    · refine v_iload_n C 0 dX8_kindOf_20 rfl ?_
      refine v_bipush (z := 57) C dX8_kindOf_21 (by decide) ?_
      refine v_icmp_gt (tgt := 28) C dX8_kindOf_23 (by decide) (by omega) (by omega) (fun c4 => ?_) (fun c4 => ?_)
      · refine v_iload_n C 0 dX8_kindOf_28 rfl ?_
        refine v_bipush (z := 59) C dX8_kindOf_29 (by decide) ?_
        refine v_icmp_ne (tgt := 38) C dX8_kindOf_31 (by decide) (by omega) (by omega) (fun c5 => ?_) (fun c5 => ?_)
        · refine v_iconst (z := 4) C dX8_kindOf_38 rfl ?_
          refine v_iret C X rfl dX8_kindOf_39 ⟨_, rfl, ?_, ?_⟩
          · unfold cls; repeat' (first | omega | rfl | split)
          · rfl
        · refine v_iconst (z := 3) C dX8_kindOf_34 rfl ?_
          refine v_goto (tgt := 39) C dX8_kindOf_35 (by decide) ?_
          refine v_iret C X rfl dX8_kindOf_39 ⟨_, rfl, ?_, ?_⟩
          · unfold cls; repeat' (first | omega | rfl | split)
          · rfl
      · refine v_iconst (z := 2) C dX8_kindOf_26 rfl ?_
        refine v_iret C X rfl dX8_kindOf_27 ⟨_, rfl, ?_, ?_⟩
        · unfold cls; repeat' (first | omega | rfl | split)
        · rfl
  · refine v_iload_n C 0 dX8_kindOf_6 rfl ?_
    refine v_bipush (z := 122) C dX8_kindOf_7 (by decide) ?_
    refine v_icmp_gt (tgt := 14) C dX8_kindOf_9 (by decide) (by omega) (by omega) (fun c6 => ?_) (fun c6 => ?_)
    · refine v_iload_n C 0 dX8_kindOf_14 rfl ?_
      refine v_bipush (z := 48) C dX8_kindOf_15 (by decide) ?_
      refine v_icmp_lt (tgt := 28) C dX8_kindOf_17 (by decide) (by omega) (by omega) (fun c7 => ?_) (fun c7 => ?_)
      · refine v_iload_n C 0 dX8_kindOf_28 rfl ?_
        refine v_bipush (z := 59) C dX8_kindOf_29 (by decide) ?_
        refine v_icmp_ne (tgt := 38) C dX8_kindOf_31 (by decide) (by omega) (by omega) (fun c8 => ?_) (fun c8 => ?_)
        · refine v_iconst (z := 4) C dX8_kindOf_38 rfl ?_
          refine v_iret C X rfl dX8_kindOf_39 ⟨_, rfl, ?_, ?_⟩
          · unfold cls; repeat' (first | omega | rfl | split)
          · rfl
        · refine v_iconst (z := 3) C dX8_kindOf_34 rfl ?_
          refine v_goto (tgt := 39) C dX8_kindOf_35 (by decide) ?_
          refine v_iret C X rfl dX8_kindOf_39 ⟨_, rfl, ?_, ?_⟩
          · unfold cls; repeat' (first | omega | rfl | split)
          · rfl
      · refine v_iload_n C 0 dX8_kindOf_20 rfl ?_
        refine v_bipush (z := 57) C dX8_kindOf_21 (by decide) ?_
        refine v_icmp_gt (tgt := 28) C dX8_kindOf_23 (by decide) (by omega) (by omega) (fun c9 => ?_) (fun c9 => ?_)
        · refine v_iload_n C 0 dX8_kindOf_28 rfl ?_
          refine v_bipush (z := 59) C dX8_kindOf_29 (by decide) ?_
          refine v_icmp_ne (tgt := 38) C dX8_kindOf_31 (by decide) (by omega) (by omega) (fun c10 => ?_) (fun c10 => ?_)
          · refine v_iconst (z := 4) C dX8_kindOf_38 rfl ?_
            refine v_iret C X rfl dX8_kindOf_39 ⟨_, rfl, ?_, ?_⟩
            · unfold cls; repeat' (first | omega | rfl | split)
            · rfl
          · refine v_iconst (z := 3) C dX8_kindOf_34 rfl ?_
            refine v_goto (tgt := 39) C dX8_kindOf_35 (by decide) ?_
            refine v_iret C X rfl dX8_kindOf_39 ⟨_, rfl, ?_, ?_⟩
            · unfold cls; repeat' (first | omega | rfl | split)
            · rfl
        · refine v_iconst (z := 2) C dX8_kindOf_26 rfl ?_
          refine v_iret C X rfl dX8_kindOf_27 ⟨_, rfl, ?_, ?_⟩
          · unfold cls; repeat' (first | omega | rfl | split)
          · rfl
    · refine v_iconst (z := 1) C dX8_kindOf_12 rfl ?_
      refine v_iret C X rfl dX8_kindOf_13 ⟨_, rfl, ?_, ?_⟩
      · unfold cls; repeat' (first | omega | rfl | split)
      · rfl

set_option maxHeartbeats 4000000 in
set_option maxRecDepth 100000 in
theorem ct_Tape_byteAt {lau : Launch} {D : va_G} {cy : Nat → ClassId} {aa ad : Nat → Nat} (hI : wI (wC D cy aa ad)) (m : Mem) (i : Int) (hi : 0 ≤ i ∧ i < 700) : MT lau (wC D cy aa ad) yX8_byteAt cX8_byteAt 2 (some .int) ({ frames := 0, cells := 0, slots := 0, locals := 0 } : Room) m [.ref (aa 1), .int (iz (i))] (Pi (fun z m' => m 2 i = z ∧ m = m')) := by
  refine v_entry hI RX8 (by decide) rfl (Nat.le_of_ble_eq_true rfl) (fun E hE C X => ?_)
  subst hE
  show V E (wC D cy aa ad) 2 m 0 [(0, .ref (aa 1)), (1, .int (iz (i)))] []
  refine v_iload_n C 1 dX8_byteAt_0 rfl ?_
  refine v_if_lt (tgt := 22) C dX8_byteAt_1 (by decide) (by omega) (fun c1 => ?_) (fun c1 => ?_)
  · exfalso; omega
  · refine v_iload_n C 1 dX8_byteAt_4 rfl ?_
    refine v_aload_n C 0 dX8_byteAt_5 rfl ?_
    refine v_get C 1 0 lC1 (eC1 _) rfl inX8 (by decide) rfl qw36 dX8_byteAt_6 ?_
    refine v_alen C 2 0 lC2 (eC2 _) rfl dX8_byteAt_9 ?_
    refine v_st (st1 := [.int (iz (700)), .int (iz (i))]) rfl ?_
    refine v_icmp_ge (tgt := 22) C dX8_byteAt_10 (by decide) (by omega) (by omega) (fun c2 => ?_) (fun c2 => ?_)
    · exfalso; omega
    · refine v_aload_n C 0 dX8_byteAt_13 rfl ?_
      refine v_get C 1 0 lC1 (eC1 _) rfl inX8 (by decide) rfl qw36 dX8_byteAt_14 ?_
      refine v_iload_n C 1 dX8_byteAt_17 rfl ?_
      refine v_iald C 2 lC2 (eC2 _) (by decide) (by omega) dX8_byteAt_18 ?_
      refine v_goto (tgt := 23) C dX8_byteAt_19 (by decide) ?_
      refine v_iret C X rfl dX8_byteAt_23 ⟨_, rfl, ?_, ?_⟩
      · rfl
      · rfl

set_option maxHeartbeats 4000000 in
set_option maxRecDepth 100000 in
theorem ct_Tape_hasRoom {lau : Launch} {D : va_G} {cy : Nat → ClassId} {aa ad : Nat → Nat} (hI : wI (wC D cy aa ad)) (m : Mem) (x : Int) (hx : 0 ≤ m 1 1 ∧ m 1 1 ≤ 700) (hx2 : 0 ≤ x ∧ x ≤ 700) : MT lau (wC D cy aa ad) yX8_hasRoom cX8_hasRoom 2 (some .boolean) ({ frames := 0, cells := 0, slots := 0, locals := 0 } : Room) m [.ref (aa 1), .int (iz (x))] (Pi (fun z m' => (1 = z ∧ (m 1 1 + x ≤ 700) ∧ m = m') ∨ (0 = z ∧ ¬ (m 1 1 + x ≤ 700) ∧ m = m'))) := by
  refine v_entry hI RX8 (by decide) rfl (Nat.le_of_ble_eq_true rfl) (fun E hE C X => ?_)
  subst hE
  show V E (wC D cy aa ad) 2 m 0 [(0, .ref (aa 1)), (1, .int (iz (x)))] []
  refine v_aload_n C 0 dX8_hasRoom_0 rfl ?_
  refine v_get C 1 1 lC1 (eC1 _) rfl inX8 (by decide) rfl qw37 dX8_hasRoom_1 ?_
  refine v_iload_n C 1 dX8_hasRoom_4 rfl ?_
  refine v_iadd C dX8_hasRoom_5 ?_
  refine v_sipush (z := 700) C dX8_hasRoom_6 (by decide) ?_
  refine v_icmp_gt (tgt := 16) C dX8_hasRoom_9 (by decide) (by omega) (by omega) (fun c1 => ?_) (fun c1 => ?_)
  · refine v_iconst (z := 0) C dX8_hasRoom_16 rfl ?_
    refine v_iret C X (by decide) dX8_hasRoom_17 ⟨_, rfl, Or.inr ⟨rfl, ?_, ?_⟩⟩
    · omega
    · rfl
  · refine v_iconst (z := 1) C dX8_hasRoom_12 rfl ?_
    refine v_goto (tgt := 17) C dX8_hasRoom_13 (by decide) ?_
    refine v_iret C X (by decide) dX8_hasRoom_17 ⟨_, rfl, Or.inl ⟨rfl, ?_, ?_⟩⟩
    · omega
    · rfl

set_option maxHeartbeats 4000000 in
set_option maxRecDepth 100000 in
theorem ct_Tape_clear {lau : Launch} {D : va_G} {cy : Nat → ClassId} {aa ad : Nat → Nat} (hI : wI (wC D cy aa ad)) (m : Mem)   : MT lau (wC D cy aa ad) yX8_clear cX8_clear 1 (none) ({ frames := 0, cells := 0, slots := 0, locals := 0 } : Room) m [.ref (aa 1)] (Pv (fun m' => mup m 1 1 0 = m')) := by
  refine v_entry hI RX8 (by decide) rfl (Nat.le_of_ble_eq_true rfl) (fun E hE C X => ?_)
  subst hE
  show V E (wC D cy aa ad) 1 m 0 [(0, .ref (aa 1))] []
  refine v_aload_n C 0 dX8_clear_0 rfl ?_
  refine v_iconst (z := 0) C dX8_clear_1 rfl ?_
  refine v_put C 1 1 (0) 1 rfl lC1 (eC1 _) rfl inX8 tyX8 tyX8_ok nmX8 (by decide) qw37 rfl rfl rfl (Nat.le_of_ble_eq_true rfl) (by rw [mup_r]; exact (eC1 _)) dX8_clear_2 (fun m1 em1 => ?_)
  refine v_vret C X dX8_clear_5 ⟨rfl, ?_⟩
  exact em1.symm

set_option maxHeartbeats 4000000 in
set_option maxRecDepth 100000 in
theorem ct_Tape_step {lau : Launch} {D : va_G} {cy : Nat → ClassId} {aa ad : Nat → Nat} (hI : wI (wC D cy aa ad)) (m : Mem) (b : Int → Int) (n p : Int) (hb : BtOk b) (hn : 0 ≤ n ∧ n ≤ 700) (h2 : m 2 = b) (h5 : m 1 5 = n) (h6 : m 1 6 = p) (hp : 0 ≤ p ∧ p ≤ n) : MT lau (wC D cy aa ad) yX8_step cX8_step 2 (none) ({ frames := 1, cells := 0, slots := 0, locals := 22 } : Room) m [.ref (aa 1)] (Pv (fun m' => TkC m' b n p ∧ m' 1 1 = m 1 1 ∧ ∀ q, q ≠ 1 → m' q = m q)) := by
  refine v_entry hI RX8 (by decide) rfl (Nat.le_of_ble_eq_true rfl) (fun E hE C X => ?_)
  subst hE
  show V E (wC D cy aa ad) 2 m 0 [(0, .ref (aa 1))] []
  have K0 : ∀ (nK : Nat)  (mA : Mem) (hA6 : 0 ≤ mA 1 6 ∧ mA 1 6 ≤ n) (hAs : skZ b n p = skZ b n (mA 1 6)) (hA0 : ∀ j : Int, j ≠ 6 → mA 1 j = m 1 j) (hAf : ∀ q, q ≠ 1 → mA q = m q), (n - mA 1 6).toNat < nK → V E (wC D cy aa ad) 2 mA 0 [(0, .ref (aa 1))] [] := by
    intro nK
    induction nK with
    | zero => intro  mA hA6 hAs hA0 hAf hn; exact absurd hn (Nat.not_lt_zero _)
    | succ nK ih0 =>
      intro  mA hA6 hAs hA0 hAf hn0
      have a5 : mA 1 5 = n := by rw [hA0 5 (by decide)]; exact h5
      have a2 : mA 2 = b := by rw [hAf 2 (by decide)]; exact h2
      refine v_aload_n C 0 dX8_step_0 rfl ?_
      refine v_get C 1 6 lC1 (eC1 _) rfl inX8 (by decide) rfl qw46 dX8_step_1 ?_
      refine v_aload_n C 0 dX8_step_4 rfl ?_
      refine v_get C 1 5 lC1 (eC1 _) rfl inX8 (by decide) rfl qw45 dX8_step_5 ?_
      have K37 : ∀  (hsk : skZ b n p = mA 1 6), V E (wC D cy aa ad) 2 mA 37 [(0, .ref (aa 1))] [] := by
        intro   hsk
        obtain ⟨q, hq⟩ : ∃ q, mA 1 6 = q := ⟨_, rfl⟩
        rw [hq] at hsk hA6
        refine v_aload_n C 0 dX8_step_37 rfl ?_
        refine v_aload_n C 0 dX8_step_38 rfl ?_
        refine v_get C 1 6 lC1 (eC1 _) rfl inX8 (by decide) rfl qw46 dX8_step_39 ?_
        refine v_put C 1 3 (mA 1 6) 3 rfl lC1 (eC1 _) rfl inX8 tyX8 tyX8_ok nmX8 (by decide) qw41 rfl rfl rfl (Nat.le_of_ble_eq_true rfl) (by rw [mup_r]; exact (eC1 _)) dX8_step_42 (fun m1 em1 => ?_)
        refine v_aload_n C 0 dX8_step_45 rfl ?_
        refine v_lconst (z := 0) C dX8_step_46 rfl ?_
        refine v_put C 1 4 (0) 4 rfl lC1 (eC1 _) rfl inX8 tyX8 tyX8_ok nmX8 (by decide) qw43 rfl rfl rfl (Nat.le_of_ble_eq_true rfl) (by rw [mup_r]; exact (eC1 _)) dX8_step_47 (fun m2 em2 => ?_)
        have e2q : m2 2 = b := by rw [em2, mup_k _ _ _ (by decide), em1, mup_k _ _ _ (by decide)]; exact a2
        have z6 : m2 1 6 = q := by rw [em2, mup_j _ _ (by decide), em1, mup_j _ _ (by decide)]; exact hq
        have z5 : m2 1 5 = n := by rw [em2, mup_j _ _ (by decide), em1, mup_j _ _ (by decide)]; exact a5
        refine v_aload_n C 0 dX8_step_50 rfl ?_
        have K77 : ∀ (kk : Int) (hkk : (¬ q < n ∧ kk = 0) ∨ (q < n ∧ kk = cls (b q))), V E (wC D cy aa ad) 2 m2 77 [(0, .ref (aa 1))] [.int (iz (kk)), .ref (aa 1)] := by
          intro kk  hkk
          have hkr : 0 ≤ kk ∧ kk ≤ 4 := by
            rcases hkk with y | y
            · omega
            · have := cls_rng (b q); omega
          refine v_put C 1 2 (kk) 2 rfl lC1 (eC1 _) rfl inX8 tyX8 tyX8_ok nmX8 (by decide) qw39 rfl rfl rfl (Nat.le_of_ble_eq_true rfl) (by rw [mup_r]; exact (eC1 _)) dX8_step_77 (fun m3 em3 => ?_)
          have k2 : m3 1 2 = kk := by rw [em3, mup_s]
          have f6 : m3 1 6 = q := by rw [em3, mup_j _ _ (by decide)]; exact z6
          have f5 : m3 1 5 = n := by rw [em3, mup_j _ _ (by decide)]; exact z5
          have f4 : m3 1 4 = 0 := by rw [em3, mup_j _ _ (by decide), em2, mup_s]
          have f3 : m3 1 3 = q := by rw [em3, mup_j _ _ (by decide), em2, mup_j _ _ (by decide), em1, mup_s]; exact hq
          have f1 : m3 1 1 = m 1 1 := by rw [em3, mup_j _ _ (by decide), em2, mup_j _ _ (by decide), em1, mup_j _ _ (by decide)]; exact hA0 1 (by decide)
          have ff : ∀ q, q ≠ 1 → m3 q = m q := fun q h => by rw [em3, mup_k _ _ _ h, em2, mup_k _ _ _ h, em1, mup_k _ _ _ h]; exact hAf q h
          refine v_aload_n C 0 dX8_step_80 rfl ?_
          have K93 : ∀ (w : Int) (hw : (w = 1 ∧ kk = 1) ∨ (w = 0 ∧ (kk = 0 ∨ 2 ≤ kk))), V E (wC D cy aa ad) 2 m3 93 [(0, .ref (aa 1))] [.int (iz (w))] := by
            intro w  hw
            refine v_istore_n (L1 := [(1, .int (iz (w))), (0, .ref (aa 1))]) C dX8_step_93 (by decide) rfl ?_
            refine v_iload_n C 0 dX8_step_94 rfl ?_
            refine v_if_ne (tgt := 128) C dX8_step_95 (by decide) (by omega) (fun c4 => ?_) (fun c4 => ?_)
            · have K128 : ∀ (nK : Nat)  (mB : Mem) (hB6 : q ≤ mB 1 6 ∧ mB 1 6 ≤ n) (hBr : rnZ b n kk q = rnZ b n kk (mB 1 6)) (hBv : mB 1 4 = (if w = 1 then enZ 27 96 (lsR b q (mB 1 6 - q).toNat) else nmR b q (mB 1 6 - q).toNat)) (hB0 : ∀ j : Int, j ≠ 4 → j ≠ 6 → mB 1 j = m3 1 j) (hBf : ∀ q, q ≠ 1 → mB q = m q) (hqn : q < n) (hkc : kk = cls (b q)), (n - mB 1 6).toNat < nK → V E (wC D cy aa ad) 2 mB 128 [(0, .ref (aa 1)), (1, .int (iz (w)))] [] := by
                intro nK
                induction nK with
                | zero => intro  mB hB6 hBr hBv hB0 hBf hqn hkc hn; exact absurd hn (Nat.not_lt_zero _)
                | succ nK ih128 =>
                  intro  mB hB6 hBr hBv hB0 hBf hqn hkc hn128
                  have b5 : mB 1 5 = n := by rw [hB0 5 (by decide) (by decide)]; exact f5
                  have b2 : mB 2 = b := by rw [hBf 2 (by decide)]; exact h2
                  have b3 : mB 1 3 = q := by rw [hB0 3 (by decide) (by decide)]; exact f3
                  have bk : mB 1 2 = kk := by rw [hB0 2 (by decide) (by decide)]; exact k2
                  refine v_aload_n C 0 dX8_step_128 rfl ?_
                  refine v_get C 1 6 lC1 (eC1 _) rfl inX8 (by decide) rfl qw46 dX8_step_129 ?_
                  refine v_aload_n C 0 dX8_step_132 rfl ?_
                  refine v_get C 1 5 lC1 (eC1 _) rfl inX8 (by decide) rfl qw45 dX8_step_133 ?_
                  have K218 : ∀  (hx : rnZ b n kk q = mB 1 6), V E (wC D cy aa ad) 2 mB 218 [(0, .ref (aa 1)), (1, .int (iz (w)))] [] := by
                    intro   hx
                    have hkk12 : kk = 1 ∨ kk = 2 := by omega
                    refine v_aload_n C 0 dX8_step_218 rfl ?_
                    refine v_get C 1 6 lC1 (eC1 _) rfl inX8 (by decide) rfl qw46 dX8_step_219 ?_
                    refine v_aload_n C 0 dX8_step_222 rfl ?_
                    refine v_get C 1 3 lC1 (eC1 _) rfl inX8 (by decide) rfl qw41 dX8_step_223 ?_
                    refine v_isub C dX8_step_226 ?_
                    refine v_iload_n C 1 dX8_step_227 rfl ?_
                    refine v_if_eq (tgt := 236) C dX8_step_228 (by decide) (by omega) (fun c5 => ?_) (fun c5 => ?_)
                    · refine v_iconst (z := 3) C dX8_step_236 rfl ?_
                      refine v_icmp_le (tgt := 245) C dX8_step_237 (by decide) (by omega) (by omega) (fun c6 => ?_) (fun c6 => ?_)
                      · refine v_vret C X dX8_step_245 ⟨rfl, ?_⟩
                        first
                          | (refine ⟨?_, by rw [NO_em242, mup_j _ _ (by decide), hB0 1 (by decide) (by decide)]; exact f1, fun q h => by rw [NO_em242, mup_k _ _ _ h]; exact hBf q h⟩
                             have g2 : NO_m242 2 = b := by rw [NO_em242, mup_k _ _ _ (by decide)]; exact b2
                             have g5 : NO_m242 1 5 = n := by rw [NO_em242, mup_j _ _ (by decide)]; exact b5
                             have g3 : NO_m242 1 3 = q := by rw [NO_em242, mup_j _ _ (by decide)]; exact b3
                             have g6 : NO_m242 1 6 = mB 1 6 := by rw [NO_em242, mup_j _ _ (by decide)]
                             have g4 : NO_m242 1 4 = mB 1 4 := by rw [NO_em242, mup_j _ _ (by decide)]
                             have gk : NO_m242 1 2 = 4 := by rw [NO_em242, mup_s]
                             first
                               | exact TkC.w g2 g5 g3 hsk hqn (by omega) (by rw [← hx, show kk = 1 by omega]) g6 (by rw [g4, hBv, if_pos (by omega)]) (by rw [gk, if_neg (by omega)])
                               | exact TkC.n g2 g5 g3 hsk hqn (by omega) (by rw [← hx, show kk = 2 by omega]) g6 (by rw [g4, hBv, if_neg (by omega)]) (by rw [gk, if_neg (by omega)]))
                          | (refine ⟨?_, by rw [hB0 1 (by decide) (by decide)]; exact f1, hBf⟩
                             first
                               | exact TkC.w b2 b5 b3 hsk hqn (by omega) (by rw [← hx, show kk = 1 by omega]) rfl (by rw [hBv, if_pos (by omega)]) (by rw [bk, if_pos (by omega)]; omega)
                               | exact TkC.n b2 b5 b3 hsk hqn (by omega) (by rw [← hx, show kk = 2 by omega]) rfl (by rw [hBv, if_neg (by omega)]) (by rw [bk, if_pos (by omega)]; omega))
                      · refine v_aload_n C 0 dX8_step_240 rfl ?_
                        refine v_iconst (z := 4) C dX8_step_241 rfl ?_
                        refine v_put C 1 2 (4) 2 rfl lC1 (eC1 _) rfl inX8 tyX8 tyX8_ok nmX8 (by decide) qw39 rfl rfl rfl (Nat.le_of_ble_eq_true rfl) (by rw [mup_r]; exact (eC1 _)) dX8_step_242 (fun m7 em7 => ?_)
                        refine v_vret C X dX8_step_245 ⟨rfl, ?_⟩
                        first
                          | (refine ⟨?_, by rw [em7, mup_j _ _ (by decide), hB0 1 (by decide) (by decide)]; exact f1, fun q h => by rw [em7, mup_k _ _ _ h]; exact hBf q h⟩
                             have g2 : m7 2 = b := by rw [em7, mup_k _ _ _ (by decide)]; exact b2
                             have g5 : m7 1 5 = n := by rw [em7, mup_j _ _ (by decide)]; exact b5
                             have g3 : m7 1 3 = q := by rw [em7, mup_j _ _ (by decide)]; exact b3
                             have g6 : m7 1 6 = mB 1 6 := by rw [em7, mup_j _ _ (by decide)]
                             have g4 : m7 1 4 = mB 1 4 := by rw [em7, mup_j _ _ (by decide)]
                             have gk : m7 1 2 = 4 := by rw [em7, mup_s]
                             first
                               | exact TkC.w g2 g5 g3 hsk hqn (by omega) (by rw [← hx, show kk = 1 by omega]) g6 (by rw [g4, hBv, if_pos (by omega)]) (by rw [gk, if_neg (by omega)])
                               | exact TkC.n g2 g5 g3 hsk hqn (by omega) (by rw [← hx, show kk = 2 by omega]) g6 (by rw [g4, hBv, if_neg (by omega)]) (by rw [gk, if_neg (by omega)]))
                          | (refine ⟨?_, by rw [hB0 1 (by decide) (by decide)]; exact f1, hBf⟩
                             first
                               | exact TkC.w b2 b5 b3 hsk hqn (by omega) (by rw [← hx, show kk = 1 by omega]) rfl (by rw [hBv, if_pos (by omega)]) (by rw [bk, if_pos (by omega)]; omega)
                               | exact TkC.n b2 b5 b3 hsk hqn (by omega) (by rw [← hx, show kk = 2 by omega]) rfl (by rw [hBv, if_neg (by omega)]) (by rw [bk, if_pos (by omega)]; omega))
                    · refine v_bipush (z := 7) C dX8_step_231 (by decide) ?_
                      refine v_goto (tgt := 237) C dX8_step_233 (by decide) ?_
                      refine v_icmp_le (tgt := 245) C dX8_step_237 (by decide) (by omega) (by omega) (fun c8 => ?_) (fun c8 => ?_)
                      · refine v_vret C X dX8_step_245 ⟨rfl, ?_⟩
                        first
                          | (refine ⟨?_, by rw [NO_em242, mup_j _ _ (by decide), hB0 1 (by decide) (by decide)]; exact f1, fun q h => by rw [NO_em242, mup_k _ _ _ h]; exact hBf q h⟩
                             have g2 : NO_m242 2 = b := by rw [NO_em242, mup_k _ _ _ (by decide)]; exact b2
                             have g5 : NO_m242 1 5 = n := by rw [NO_em242, mup_j _ _ (by decide)]; exact b5
                             have g3 : NO_m242 1 3 = q := by rw [NO_em242, mup_j _ _ (by decide)]; exact b3
                             have g6 : NO_m242 1 6 = mB 1 6 := by rw [NO_em242, mup_j _ _ (by decide)]
                             have g4 : NO_m242 1 4 = mB 1 4 := by rw [NO_em242, mup_j _ _ (by decide)]
                             have gk : NO_m242 1 2 = 4 := by rw [NO_em242, mup_s]
                             first
                               | exact TkC.w g2 g5 g3 hsk hqn (by omega) (by rw [← hx, show kk = 1 by omega]) g6 (by rw [g4, hBv, if_pos (by omega)]) (by rw [gk, if_neg (by omega)])
                               | exact TkC.n g2 g5 g3 hsk hqn (by omega) (by rw [← hx, show kk = 2 by omega]) g6 (by rw [g4, hBv, if_neg (by omega)]) (by rw [gk, if_neg (by omega)]))
                          | (refine ⟨?_, by rw [hB0 1 (by decide) (by decide)]; exact f1, hBf⟩
                             first
                               | exact TkC.w b2 b5 b3 hsk hqn (by omega) (by rw [← hx, show kk = 1 by omega]) rfl (by rw [hBv, if_pos (by omega)]) (by rw [bk, if_pos (by omega)]; omega)
                               | exact TkC.n b2 b5 b3 hsk hqn (by omega) (by rw [← hx, show kk = 2 by omega]) rfl (by rw [hBv, if_neg (by omega)]) (by rw [bk, if_pos (by omega)]; omega))
                      · refine v_aload_n C 0 dX8_step_240 rfl ?_
                        refine v_iconst (z := 4) C dX8_step_241 rfl ?_
                        refine v_put C 1 2 (4) 2 rfl lC1 (eC1 _) rfl inX8 tyX8 tyX8_ok nmX8 (by decide) qw39 rfl rfl rfl (Nat.le_of_ble_eq_true rfl) (by rw [mup_r]; exact (eC1 _)) dX8_step_242 (fun m9 em9 => ?_)
                        refine v_vret C X dX8_step_245 ⟨rfl, ?_⟩
                        first
                          | (refine ⟨?_, by rw [em9, mup_j _ _ (by decide), hB0 1 (by decide) (by decide)]; exact f1, fun q h => by rw [em9, mup_k _ _ _ h]; exact hBf q h⟩
                             have g2 : m9 2 = b := by rw [em9, mup_k _ _ _ (by decide)]; exact b2
                             have g5 : m9 1 5 = n := by rw [em9, mup_j _ _ (by decide)]; exact b5
                             have g3 : m9 1 3 = q := by rw [em9, mup_j _ _ (by decide)]; exact b3
                             have g6 : m9 1 6 = mB 1 6 := by rw [em9, mup_j _ _ (by decide)]
                             have g4 : m9 1 4 = mB 1 4 := by rw [em9, mup_j _ _ (by decide)]
                             have gk : m9 1 2 = 4 := by rw [em9, mup_s]
                             first
                               | exact TkC.w g2 g5 g3 hsk hqn (by omega) (by rw [← hx, show kk = 1 by omega]) g6 (by rw [g4, hBv, if_pos (by omega)]) (by rw [gk, if_neg (by omega)])
                               | exact TkC.n g2 g5 g3 hsk hqn (by omega) (by rw [← hx, show kk = 2 by omega]) g6 (by rw [g4, hBv, if_neg (by omega)]) (by rw [gk, if_neg (by omega)]))
                          | (refine ⟨?_, by rw [hB0 1 (by decide) (by decide)]; exact f1, hBf⟩
                             first
                               | exact TkC.w b2 b5 b3 hsk hqn (by omega) (by rw [← hx, show kk = 1 by omega]) rfl (by rw [hBv, if_pos (by omega)]) (by rw [bk, if_pos (by omega)]; omega)
                               | exact TkC.n b2 b5 b3 hsk hqn (by omega) (by rw [← hx, show kk = 2 by omega]) rfl (by rw [hBv, if_neg (by omega)]) (by rw [bk, if_pos (by omega)]; omega))
                  refine v_icmp_ge (tgt := 218) C dX8_step_136 (by decide) (by omega) (by omega) (fun c10 => ?_) (fun c10 => ?_)
                  · refine v_sub [0, 1] rfl ?_
                    exact K218    (by rw [hBr]; exact rnZ_e (fun y => by rw [← b2] at y; omega))
                  · have hbx := hb (mB 1 6) (by omega) (by omega)
                    refine v_aload_n C 0 dX8_step_139 rfl ?_
                    refine v_aload_n C 0 dX8_step_140 rfl ?_
                    refine v_get C 1 6 lC1 (eC1 _) rfl inX8 (by decide) rfl qw46 dX8_step_141 ?_
                    refine v_callV (st := []) (n := 1) (q := 1) C [.int (iz (mB 1 6))] (ct_Tape_byteAt C.2.2.2.2.2.2.1 mB (mB 1 6) (by omega)) lC1 (eC1 _) rfl qw522 qw2 qw519 rfl rfl ⟨Nat.le_of_ble_eq_true rfl, Nat.le_of_ble_eq_true rfl⟩ (by decide +kernel) qw521 qp1 rfl rfl (Nat.le_of_ble_eq_true rfl) dX8_step_144 (fun r m11 hq11 => ?_)
                    obtain ⟨z11, rfl, rfl, rfl⟩ := hq11
                    show V E (wC D cy aa ad) 2 mB 147 [(0, .ref (aa 1)), (1, .int (iz (w)))] [.int (iz (mB 2 (mB 1 6)))]
                    refine v_callS (st := []) (n := 1) C [.int (iz (mB 2 (mB 1 6)))] (ct_Tape_kindOf C.2.2.2.2.2.2.1 mB (mB 2 (mB 1 6)) (by rw [b2]; omega)) qw525 qw2 qw523 rfl rfl ⟨Nat.le_of_ble_eq_true rfl, Nat.le_of_ble_eq_true rfl⟩ (by decide +kernel) qw524 rfl rfl (Nat.le_of_ble_eq_true rfl) dX8_step_147 (fun r m12 hq12 => ?_)
                    obtain ⟨z12, rfl, rfl, rfl⟩ := hq12
                    show V E (wC D cy aa ad) 2 mB 150 [(0, .ref (aa 1)), (1, .int (iz (w)))] [.int (iz (cls (mB 2 (mB 1 6))))]
                    have hcl := cls_rng (mB 2 (mB 1 6))
                    refine v_aload_n C 0 dX8_step_150 rfl ?_
                    refine v_get C 1 2 lC1 (eC1 _) rfl inX8 (by decide) rfl qw39 dX8_step_151 ?_
                    refine v_icmp_ne (tgt := 218) C dX8_step_154 (by decide) (by omega) (by omega) (fun c13 => ?_) (fun c13 => ?_)
                    · refine v_sub [0, 1] rfl ?_
                      exact K218    (by rw [hBr]; exact rnZ_e (fun y => by rw [← b2] at y; omega))
                    · refine v_aload_n C 0 dX8_step_157 rfl ?_
                      have K202 : ∀ (v : Int) (hv : v = (if w = 1 then enZ 27 96 (lsR b q (mB 1 6 + 1 - q).toNat) else nmR b q (mB 1 6 + 1 - q).toNat)), V E (wC D cy aa ad) 2 mB 202 [(0, .ref (aa 1)), (1, .int (iz (w)))] [.long (lz (v)), .ref (aa 1)] := by
                        intro v  hv
                        refine v_put C 1 4 (v) 4 rfl lC1 (eC1 _) rfl inX8 tyX8 tyX8_ok nmX8 (by decide) qw43 rfl rfl rfl (Nat.le_of_ble_eq_true rfl) (by rw [mup_r]; exact (eC1 _)) dX8_step_202 (fun m14 em14 => ?_)
                        refine v_aload_n C 0 dX8_step_205 rfl ?_
                        refine v_dup C dX8_step_206 rfl ?_
                        refine v_get C 1 6 lC1 (eC1 _) rfl inX8 (by decide) rfl qw46 dX8_step_207 ?_
                        refine v_iconst (z := 1) C dX8_step_210 rfl ?_
                        refine v_iadd C dX8_step_211 ?_
                        refine v_put C 1 6 ((m14 1 6) + 1) 6 rfl lC1 (eC1 _) rfl inX8 tyX8 tyX8_ok nmX8 (by decide) qw46 rfl rfl rfl (Nat.le_of_ble_eq_true rfl) (by rw [mup_r]; exact (eC1 _)) dX8_step_212 (fun m15 em15 => ?_)
                        refine v_goto (tgt := 128) C dX8_step_215 (by decide) ?_
                        refine v_sub [0, 1] rfl ?_
                        exact ih128  m15 (by rw [em15, mup_s, em14, mup_j _ _ (by decide)]; omega) (by rw [em15, mup_s, em14, mup_j _ _ (by decide), hBr]; exact rnZ_s (by omega) (by rw [← b2]; omega)) (by rw [em15, mup_s, mup_j _ _ (by decide), em14, mup_s, mup_j _ _ (by decide)]; exact hv) (by intro j h1 h2; rw [em15, mup_j _ _ h2, em14, mup_j _ _ h1]; exact hB0 j h1 h2) (by intro q h; rw [em15, mup_k _ _ _ h, em14, mup_k _ _ _ h]; exact hBf q h) (by first | assumption | omega) (by first | assumption | omega) (by rw [em15, mup_s, em14, mup_j _ _ (by decide)]; omega)
                      refine v_iload_n C 1 dX8_step_158 rfl ?_
                      refine v_if_eq (tgt := 180) C dX8_step_159 (by decide) (by omega) (fun c16 => ?_) (fun c16 => ?_)
                      · refine v_aload_n C 0 dX8_step_180 rfl ?_
                        refine v_get C 1 4 lC1 (eC1 _) rfl inX8 (by decide) rfl qw43 dX8_step_181 ?_
                        refine v_ldc2 (z := 10) C qw526 dX8_step_184 rfl ?_
                        refine v_lmul C dX8_step_187 ?_
                        refine v_aload_n C 0 dX8_step_188 rfl ?_
                        refine v_aload_n C 0 dX8_step_189 rfl ?_
                        refine v_get C 1 6 lC1 (eC1 _) rfl inX8 (by decide) rfl qw46 dX8_step_190 ?_
                        refine v_callV (st := [.long (lz ((mB 1 4) * 10)), .ref (aa 1)]) (n := 1) (q := 1) C [.int (iz (mB 1 6))] (ct_Tape_byteAt C.2.2.2.2.2.2.1 mB (mB 1 6) (by omega)) lC1 (eC1 _) rfl qw522 qw2 qw519 rfl rfl ⟨Nat.le_of_ble_eq_true rfl, Nat.le_of_ble_eq_true rfl⟩ (by decide +kernel) qw521 qp1 rfl rfl (Nat.le_of_ble_eq_true rfl) dX8_step_193 (fun r m17 hq17 => ?_)
                        obtain ⟨z17, rfl, rfl, rfl⟩ := hq17
                        show V E (wC D cy aa ad) 2 mB 196 [(0, .ref (aa 1)), (1, .int (iz (w)))] [.int (iz (mB 2 (mB 1 6))), .long (lz ((mB 1 4) * 10)), .ref (aa 1)]
                        refine v_i2l C (by rw [b2]; omega) dX8_step_196 ?_
                        refine v_ladd C dX8_step_197 ?_
                        refine v_ldc2 (z := 48) C qw527 dX8_step_198 rfl ?_
                        refine v_lsub C dX8_step_201 ?_
                        refine v_sub [0, 1] rfl ?_
                        exact K202  ((((mB 1 4) * 10) + (mB 2 (mB 1 6))) - 48)  (by 
                                                    first
                                                      | (rw [if_pos (by omega), lsR_s hB6.1]; rw [if_pos (by omega)] at hBv; show _ = enZ 27 96 (lsR b q (mB 1 6 - q).toNat) * 27 + (b (mB 1 6) - 96); rw [← hBv, b2]; omega)
                                                      | (rw [if_neg (by omega), nmR_s hB6.1]; rw [if_neg (by omega)] at hBv; rw [← hBv, b2])
                                                  )
                      · refine v_aload_n C 0 dX8_step_162 rfl ?_
                        refine v_get C 1 4 lC1 (eC1 _) rfl inX8 (by decide) rfl qw43 dX8_step_163 ?_
                        refine v_aload_n C 0 dX8_step_166 rfl ?_
                        refine v_aload_n C 0 dX8_step_167 rfl ?_
                        refine v_get C 1 6 lC1 (eC1 _) rfl inX8 (by decide) rfl qw46 dX8_step_168 ?_
                        refine v_callV (st := [.long (lz (mB 1 4)), .ref (aa 1)]) (n := 1) (q := 1) C [.int (iz (mB 1 6))] (ct_Tape_byteAt C.2.2.2.2.2.2.1 mB (mB 1 6) (by omega)) lC1 (eC1 _) rfl qw522 qw2 qw519 rfl rfl ⟨Nat.le_of_ble_eq_true rfl, Nat.le_of_ble_eq_true rfl⟩ (by decide +kernel) qw521 qp1 rfl rfl (Nat.le_of_ble_eq_true rfl) dX8_step_171 (fun r m18 hq18 => ?_)
                        obtain ⟨z18, rfl, rfl, rfl⟩ := hq18
                        show V E (wC D cy aa ad) 2 mB 174 [(0, .ref (aa 1)), (1, .int (iz (w)))] [.int (iz (mB 2 (mB 1 6))), .long (lz (mB 1 4)), .ref (aa 1)]
                        refine v_callS (st := [.ref (aa 1)]) (n := 2) C [.long (lz (mB 1 4)), .int (iz (mB 2 (mB 1 6)))] (ct_Tape_withLetter C.2.2.2.2.2.2.1 mB (mB 1 4) (mB 2 (mB 1 6)) (by rw [b2]; omega) (by rw [b2]; omega)) qw123 qw2 qw121 rfl rfl ⟨Nat.le_of_ble_eq_true rfl, Nat.le_of_ble_eq_true rfl⟩ (by decide +kernel) qw122 rfl rfl (Nat.le_of_ble_eq_true rfl) dX8_step_174 (fun r m19 hq19 => ?_)
                        obtain ⟨z19, rfl, rfl, rfl⟩ := hq19
                        show V E (wC D cy aa ad) 2 mB 177 [(0, .ref (aa 1)), (1, .int (iz (w)))] [.long (lz ((mB 1 4) * 27 + ((mB 2 (mB 1 6)) - 97 + 1))), .ref (aa 1)]
                        refine v_goto (tgt := 202) C dX8_step_177 (by decide) ?_
                        refine v_sub [0, 1] rfl ?_
                        exact K202  ((mB 1 4) * 27 + ((mB 2 (mB 1 6)) - 97 + 1))  (by 
                                                    first
                                                      | (rw [if_pos (by omega), lsR_s hB6.1]; rw [if_pos (by omega)] at hBv; show _ = enZ 27 96 (lsR b q (mB 1 6 - q).toNat) * 27 + (b (mB 1 6) - 96); rw [← hBv, b2]; omega)
                                                      | (rw [if_neg (by omega), nmR_s hB6.1]; rw [if_neg (by omega)] at hBv; rw [← hBv, b2])
                                                  )
              refine v_sub [1, 0] rfl ?_
              exact K128 _  m3 (by rw [f6]; omega) (by rw [f6]) (by rw [f4, f6, show (q - q).toNat = 0 by omega]; show (0 : Int) = if w = 1 then 0 else 0; split <;> rfl) (by intro j _ _; rfl) (by exact ff) (by omega) (by omega) (Nat.lt_succ_self _)
            · refine v_aload_n C 1 dX8_step_98 rfl ?_
              refine v_get C 1 2 lC1 (eC1 _) rfl inX8 (by decide) rfl qw39 dX8_step_99 ?_
              refine v_iconst (z := 2) C dX8_step_102 rfl ?_
              refine v_icmp_eq (tgt := 128) C dX8_step_103 (by decide) (by omega) (by omega) (fun c20 => ?_) (fun c20 => ?_)
              · have K128 : ∀ (nK : Nat)  (mB : Mem) (hB6 : q ≤ mB 1 6 ∧ mB 1 6 ≤ n) (hBr : rnZ b n kk q = rnZ b n kk (mB 1 6)) (hBv : mB 1 4 = (if w = 1 then enZ 27 96 (lsR b q (mB 1 6 - q).toNat) else nmR b q (mB 1 6 - q).toNat)) (hB0 : ∀ j : Int, j ≠ 4 → j ≠ 6 → mB 1 j = m3 1 j) (hBf : ∀ q, q ≠ 1 → mB q = m q) (hqn : q < n) (hkc : kk = cls (b q)), (n - mB 1 6).toNat < nK → V E (wC D cy aa ad) 2 mB 128 [(0, .ref (aa 1)), (1, .int (iz (w)))] [] := by
                  intro nK
                  induction nK with
                  | zero => intro  mB hB6 hBr hBv hB0 hBf hqn hkc hn; exact absurd hn (Nat.not_lt_zero _)
                  | succ nK ih128 =>
                    intro  mB hB6 hBr hBv hB0 hBf hqn hkc hn128
                    have b5 : mB 1 5 = n := by rw [hB0 5 (by decide) (by decide)]; exact f5
                    have b2 : mB 2 = b := by rw [hBf 2 (by decide)]; exact h2
                    have b3 : mB 1 3 = q := by rw [hB0 3 (by decide) (by decide)]; exact f3
                    have bk : mB 1 2 = kk := by rw [hB0 2 (by decide) (by decide)]; exact k2
                    refine v_aload_n C 0 dX8_step_128 rfl ?_
                    refine v_get C 1 6 lC1 (eC1 _) rfl inX8 (by decide) rfl qw46 dX8_step_129 ?_
                    refine v_aload_n C 0 dX8_step_132 rfl ?_
                    refine v_get C 1 5 lC1 (eC1 _) rfl inX8 (by decide) rfl qw45 dX8_step_133 ?_
                    have K218 : ∀  (hx : rnZ b n kk q = mB 1 6), V E (wC D cy aa ad) 2 mB 218 [(0, .ref (aa 1)), (1, .int (iz (w)))] [] := by
                      intro   hx
                      have hkk12 : kk = 1 ∨ kk = 2 := by omega
                      refine v_aload_n C 0 dX8_step_218 rfl ?_
                      refine v_get C 1 6 lC1 (eC1 _) rfl inX8 (by decide) rfl qw46 dX8_step_219 ?_
                      refine v_aload_n C 0 dX8_step_222 rfl ?_
                      refine v_get C 1 3 lC1 (eC1 _) rfl inX8 (by decide) rfl qw41 dX8_step_223 ?_
                      refine v_isub C dX8_step_226 ?_
                      refine v_iload_n C 1 dX8_step_227 rfl ?_
                      refine v_if_eq (tgt := 236) C dX8_step_228 (by decide) (by omega) (fun c21 => ?_) (fun c21 => ?_)
                      · refine v_iconst (z := 3) C dX8_step_236 rfl ?_
                        refine v_icmp_le (tgt := 245) C dX8_step_237 (by decide) (by omega) (by omega) (fun c22 => ?_) (fun c22 => ?_)
                        · refine v_vret C X dX8_step_245 ⟨rfl, ?_⟩
                          first
                            | (refine ⟨?_, by rw [NO_em242, mup_j _ _ (by decide), hB0 1 (by decide) (by decide)]; exact f1, fun q h => by rw [NO_em242, mup_k _ _ _ h]; exact hBf q h⟩
                               have g2 : NO_m242 2 = b := by rw [NO_em242, mup_k _ _ _ (by decide)]; exact b2
                               have g5 : NO_m242 1 5 = n := by rw [NO_em242, mup_j _ _ (by decide)]; exact b5
                               have g3 : NO_m242 1 3 = q := by rw [NO_em242, mup_j _ _ (by decide)]; exact b3
                               have g6 : NO_m242 1 6 = mB 1 6 := by rw [NO_em242, mup_j _ _ (by decide)]
                               have g4 : NO_m242 1 4 = mB 1 4 := by rw [NO_em242, mup_j _ _ (by decide)]
                               have gk : NO_m242 1 2 = 4 := by rw [NO_em242, mup_s]
                               first
                                 | exact TkC.w g2 g5 g3 hsk hqn (by omega) (by rw [← hx, show kk = 1 by omega]) g6 (by rw [g4, hBv, if_pos (by omega)]) (by rw [gk, if_neg (by omega)])
                                 | exact TkC.n g2 g5 g3 hsk hqn (by omega) (by rw [← hx, show kk = 2 by omega]) g6 (by rw [g4, hBv, if_neg (by omega)]) (by rw [gk, if_neg (by omega)]))
                            | (refine ⟨?_, by rw [hB0 1 (by decide) (by decide)]; exact f1, hBf⟩
                               first
                                 | exact TkC.w b2 b5 b3 hsk hqn (by omega) (by rw [← hx, show kk = 1 by omega]) rfl (by rw [hBv, if_pos (by omega)]) (by rw [bk, if_pos (by omega)]; omega)
                                 | exact TkC.n b2 b5 b3 hsk hqn (by omega) (by rw [← hx, show kk = 2 by omega]) rfl (by rw [hBv, if_neg (by omega)]) (by rw [bk, if_pos (by omega)]; omega))
                        · refine v_aload_n C 0 dX8_step_240 rfl ?_
                          refine v_iconst (z := 4) C dX8_step_241 rfl ?_
                          refine v_put C 1 2 (4) 2 rfl lC1 (eC1 _) rfl inX8 tyX8 tyX8_ok nmX8 (by decide) qw39 rfl rfl rfl (Nat.le_of_ble_eq_true rfl) (by rw [mup_r]; exact (eC1 _)) dX8_step_242 (fun m23 em23 => ?_)
                          refine v_vret C X dX8_step_245 ⟨rfl, ?_⟩
                          first
                            | (refine ⟨?_, by rw [em23, mup_j _ _ (by decide), hB0 1 (by decide) (by decide)]; exact f1, fun q h => by rw [em23, mup_k _ _ _ h]; exact hBf q h⟩
                               have g2 : m23 2 = b := by rw [em23, mup_k _ _ _ (by decide)]; exact b2
                               have g5 : m23 1 5 = n := by rw [em23, mup_j _ _ (by decide)]; exact b5
                               have g3 : m23 1 3 = q := by rw [em23, mup_j _ _ (by decide)]; exact b3
                               have g6 : m23 1 6 = mB 1 6 := by rw [em23, mup_j _ _ (by decide)]
                               have g4 : m23 1 4 = mB 1 4 := by rw [em23, mup_j _ _ (by decide)]
                               have gk : m23 1 2 = 4 := by rw [em23, mup_s]
                               first
                                 | exact TkC.w g2 g5 g3 hsk hqn (by omega) (by rw [← hx, show kk = 1 by omega]) g6 (by rw [g4, hBv, if_pos (by omega)]) (by rw [gk, if_neg (by omega)])
                                 | exact TkC.n g2 g5 g3 hsk hqn (by omega) (by rw [← hx, show kk = 2 by omega]) g6 (by rw [g4, hBv, if_neg (by omega)]) (by rw [gk, if_neg (by omega)]))
                            | (refine ⟨?_, by rw [hB0 1 (by decide) (by decide)]; exact f1, hBf⟩
                               first
                                 | exact TkC.w b2 b5 b3 hsk hqn (by omega) (by rw [← hx, show kk = 1 by omega]) rfl (by rw [hBv, if_pos (by omega)]) (by rw [bk, if_pos (by omega)]; omega)
                                 | exact TkC.n b2 b5 b3 hsk hqn (by omega) (by rw [← hx, show kk = 2 by omega]) rfl (by rw [hBv, if_neg (by omega)]) (by rw [bk, if_pos (by omega)]; omega))
                      · refine v_bipush (z := 7) C dX8_step_231 (by decide) ?_
                        refine v_goto (tgt := 237) C dX8_step_233 (by decide) ?_
                        refine v_icmp_le (tgt := 245) C dX8_step_237 (by decide) (by omega) (by omega) (fun c24 => ?_) (fun c24 => ?_)
                        · refine v_vret C X dX8_step_245 ⟨rfl, ?_⟩
                          first
                            | (refine ⟨?_, by rw [NO_em242, mup_j _ _ (by decide), hB0 1 (by decide) (by decide)]; exact f1, fun q h => by rw [NO_em242, mup_k _ _ _ h]; exact hBf q h⟩
                               have g2 : NO_m242 2 = b := by rw [NO_em242, mup_k _ _ _ (by decide)]; exact b2
                               have g5 : NO_m242 1 5 = n := by rw [NO_em242, mup_j _ _ (by decide)]; exact b5
                               have g3 : NO_m242 1 3 = q := by rw [NO_em242, mup_j _ _ (by decide)]; exact b3
                               have g6 : NO_m242 1 6 = mB 1 6 := by rw [NO_em242, mup_j _ _ (by decide)]
                               have g4 : NO_m242 1 4 = mB 1 4 := by rw [NO_em242, mup_j _ _ (by decide)]
                               have gk : NO_m242 1 2 = 4 := by rw [NO_em242, mup_s]
                               first
                                 | exact TkC.w g2 g5 g3 hsk hqn (by omega) (by rw [← hx, show kk = 1 by omega]) g6 (by rw [g4, hBv, if_pos (by omega)]) (by rw [gk, if_neg (by omega)])
                                 | exact TkC.n g2 g5 g3 hsk hqn (by omega) (by rw [← hx, show kk = 2 by omega]) g6 (by rw [g4, hBv, if_neg (by omega)]) (by rw [gk, if_neg (by omega)]))
                            | (refine ⟨?_, by rw [hB0 1 (by decide) (by decide)]; exact f1, hBf⟩
                               first
                                 | exact TkC.w b2 b5 b3 hsk hqn (by omega) (by rw [← hx, show kk = 1 by omega]) rfl (by rw [hBv, if_pos (by omega)]) (by rw [bk, if_pos (by omega)]; omega)
                                 | exact TkC.n b2 b5 b3 hsk hqn (by omega) (by rw [← hx, show kk = 2 by omega]) rfl (by rw [hBv, if_neg (by omega)]) (by rw [bk, if_pos (by omega)]; omega))
                        · refine v_aload_n C 0 dX8_step_240 rfl ?_
                          refine v_iconst (z := 4) C dX8_step_241 rfl ?_
                          refine v_put C 1 2 (4) 2 rfl lC1 (eC1 _) rfl inX8 tyX8 tyX8_ok nmX8 (by decide) qw39 rfl rfl rfl (Nat.le_of_ble_eq_true rfl) (by rw [mup_r]; exact (eC1 _)) dX8_step_242 (fun m25 em25 => ?_)
                          refine v_vret C X dX8_step_245 ⟨rfl, ?_⟩
                          first
                            | (refine ⟨?_, by rw [em25, mup_j _ _ (by decide), hB0 1 (by decide) (by decide)]; exact f1, fun q h => by rw [em25, mup_k _ _ _ h]; exact hBf q h⟩
                               have g2 : m25 2 = b := by rw [em25, mup_k _ _ _ (by decide)]; exact b2
                               have g5 : m25 1 5 = n := by rw [em25, mup_j _ _ (by decide)]; exact b5
                               have g3 : m25 1 3 = q := by rw [em25, mup_j _ _ (by decide)]; exact b3
                               have g6 : m25 1 6 = mB 1 6 := by rw [em25, mup_j _ _ (by decide)]
                               have g4 : m25 1 4 = mB 1 4 := by rw [em25, mup_j _ _ (by decide)]
                               have gk : m25 1 2 = 4 := by rw [em25, mup_s]
                               first
                                 | exact TkC.w g2 g5 g3 hsk hqn (by omega) (by rw [← hx, show kk = 1 by omega]) g6 (by rw [g4, hBv, if_pos (by omega)]) (by rw [gk, if_neg (by omega)])
                                 | exact TkC.n g2 g5 g3 hsk hqn (by omega) (by rw [← hx, show kk = 2 by omega]) g6 (by rw [g4, hBv, if_neg (by omega)]) (by rw [gk, if_neg (by omega)]))
                            | (refine ⟨?_, by rw [hB0 1 (by decide) (by decide)]; exact f1, hBf⟩
                               first
                                 | exact TkC.w b2 b5 b3 hsk hqn (by omega) (by rw [← hx, show kk = 1 by omega]) rfl (by rw [hBv, if_pos (by omega)]) (by rw [bk, if_pos (by omega)]; omega)
                                 | exact TkC.n b2 b5 b3 hsk hqn (by omega) (by rw [← hx, show kk = 2 by omega]) rfl (by rw [hBv, if_neg (by omega)]) (by rw [bk, if_pos (by omega)]; omega))
                    refine v_icmp_ge (tgt := 218) C dX8_step_136 (by decide) (by omega) (by omega) (fun c26 => ?_) (fun c26 => ?_)
                    · refine v_sub [0, 1] rfl ?_
                      exact K218    (by rw [hBr]; exact rnZ_e (fun y => by rw [← b2] at y; omega))
                    · have hbx := hb (mB 1 6) (by omega) (by omega)
                      refine v_aload_n C 0 dX8_step_139 rfl ?_
                      refine v_aload_n C 0 dX8_step_140 rfl ?_
                      refine v_get C 1 6 lC1 (eC1 _) rfl inX8 (by decide) rfl qw46 dX8_step_141 ?_
                      refine v_callV (st := []) (n := 1) (q := 1) C [.int (iz (mB 1 6))] (ct_Tape_byteAt C.2.2.2.2.2.2.1 mB (mB 1 6) (by omega)) lC1 (eC1 _) rfl qw522 qw2 qw519 rfl rfl ⟨Nat.le_of_ble_eq_true rfl, Nat.le_of_ble_eq_true rfl⟩ (by decide +kernel) qw521 qp1 rfl rfl (Nat.le_of_ble_eq_true rfl) dX8_step_144 (fun r m27 hq27 => ?_)
                      obtain ⟨z27, rfl, rfl, rfl⟩ := hq27
                      show V E (wC D cy aa ad) 2 mB 147 [(0, .ref (aa 1)), (1, .int (iz (w)))] [.int (iz (mB 2 (mB 1 6)))]
                      refine v_callS (st := []) (n := 1) C [.int (iz (mB 2 (mB 1 6)))] (ct_Tape_kindOf C.2.2.2.2.2.2.1 mB (mB 2 (mB 1 6)) (by rw [b2]; omega)) qw525 qw2 qw523 rfl rfl ⟨Nat.le_of_ble_eq_true rfl, Nat.le_of_ble_eq_true rfl⟩ (by decide +kernel) qw524 rfl rfl (Nat.le_of_ble_eq_true rfl) dX8_step_147 (fun r m28 hq28 => ?_)
                      obtain ⟨z28, rfl, rfl, rfl⟩ := hq28
                      show V E (wC D cy aa ad) 2 mB 150 [(0, .ref (aa 1)), (1, .int (iz (w)))] [.int (iz (cls (mB 2 (mB 1 6))))]
                      have hcl := cls_rng (mB 2 (mB 1 6))
                      refine v_aload_n C 0 dX8_step_150 rfl ?_
                      refine v_get C 1 2 lC1 (eC1 _) rfl inX8 (by decide) rfl qw39 dX8_step_151 ?_
                      refine v_icmp_ne (tgt := 218) C dX8_step_154 (by decide) (by omega) (by omega) (fun c29 => ?_) (fun c29 => ?_)
                      · refine v_sub [0, 1] rfl ?_
                        exact K218    (by rw [hBr]; exact rnZ_e (fun y => by rw [← b2] at y; omega))
                      · refine v_aload_n C 0 dX8_step_157 rfl ?_
                        have K202 : ∀ (v : Int) (hv : v = (if w = 1 then enZ 27 96 (lsR b q (mB 1 6 + 1 - q).toNat) else nmR b q (mB 1 6 + 1 - q).toNat)), V E (wC D cy aa ad) 2 mB 202 [(0, .ref (aa 1)), (1, .int (iz (w)))] [.long (lz (v)), .ref (aa 1)] := by
                          intro v  hv
                          refine v_put C 1 4 (v) 4 rfl lC1 (eC1 _) rfl inX8 tyX8 tyX8_ok nmX8 (by decide) qw43 rfl rfl rfl (Nat.le_of_ble_eq_true rfl) (by rw [mup_r]; exact (eC1 _)) dX8_step_202 (fun m30 em30 => ?_)
                          refine v_aload_n C 0 dX8_step_205 rfl ?_
                          refine v_dup C dX8_step_206 rfl ?_
                          refine v_get C 1 6 lC1 (eC1 _) rfl inX8 (by decide) rfl qw46 dX8_step_207 ?_
                          refine v_iconst (z := 1) C dX8_step_210 rfl ?_
                          refine v_iadd C dX8_step_211 ?_
                          refine v_put C 1 6 ((m30 1 6) + 1) 6 rfl lC1 (eC1 _) rfl inX8 tyX8 tyX8_ok nmX8 (by decide) qw46 rfl rfl rfl (Nat.le_of_ble_eq_true rfl) (by rw [mup_r]; exact (eC1 _)) dX8_step_212 (fun m31 em31 => ?_)
                          refine v_goto (tgt := 128) C dX8_step_215 (by decide) ?_
                          refine v_sub [0, 1] rfl ?_
                          exact ih128  m31 (by rw [em31, mup_s, em30, mup_j _ _ (by decide)]; omega) (by rw [em31, mup_s, em30, mup_j _ _ (by decide), hBr]; exact rnZ_s (by omega) (by rw [← b2]; omega)) (by rw [em31, mup_s, mup_j _ _ (by decide), em30, mup_s, mup_j _ _ (by decide)]; exact hv) (by intro j h1 h2; rw [em31, mup_j _ _ h2, em30, mup_j _ _ h1]; exact hB0 j h1 h2) (by intro q h; rw [em31, mup_k _ _ _ h, em30, mup_k _ _ _ h]; exact hBf q h) (by first | assumption | omega) (by first | assumption | omega) (by rw [em31, mup_s, em30, mup_j _ _ (by decide)]; omega)
                        refine v_iload_n C 1 dX8_step_158 rfl ?_
                        refine v_if_eq (tgt := 180) C dX8_step_159 (by decide) (by omega) (fun c32 => ?_) (fun c32 => ?_)
                        · refine v_aload_n C 0 dX8_step_180 rfl ?_
                          refine v_get C 1 4 lC1 (eC1 _) rfl inX8 (by decide) rfl qw43 dX8_step_181 ?_
                          refine v_ldc2 (z := 10) C qw526 dX8_step_184 rfl ?_
                          refine v_lmul C dX8_step_187 ?_
                          refine v_aload_n C 0 dX8_step_188 rfl ?_
                          refine v_aload_n C 0 dX8_step_189 rfl ?_
                          refine v_get C 1 6 lC1 (eC1 _) rfl inX8 (by decide) rfl qw46 dX8_step_190 ?_
                          refine v_callV (st := [.long (lz ((mB 1 4) * 10)), .ref (aa 1)]) (n := 1) (q := 1) C [.int (iz (mB 1 6))] (ct_Tape_byteAt C.2.2.2.2.2.2.1 mB (mB 1 6) (by omega)) lC1 (eC1 _) rfl qw522 qw2 qw519 rfl rfl ⟨Nat.le_of_ble_eq_true rfl, Nat.le_of_ble_eq_true rfl⟩ (by decide +kernel) qw521 qp1 rfl rfl (Nat.le_of_ble_eq_true rfl) dX8_step_193 (fun r m33 hq33 => ?_)
                          obtain ⟨z33, rfl, rfl, rfl⟩ := hq33
                          show V E (wC D cy aa ad) 2 mB 196 [(0, .ref (aa 1)), (1, .int (iz (w)))] [.int (iz (mB 2 (mB 1 6))), .long (lz ((mB 1 4) * 10)), .ref (aa 1)]
                          refine v_i2l C (by rw [b2]; omega) dX8_step_196 ?_
                          refine v_ladd C dX8_step_197 ?_
                          refine v_ldc2 (z := 48) C qw527 dX8_step_198 rfl ?_
                          refine v_lsub C dX8_step_201 ?_
                          refine v_sub [0, 1] rfl ?_
                          exact K202  ((((mB 1 4) * 10) + (mB 2 (mB 1 6))) - 48)  (by 
                                                        first
                                                          | (rw [if_pos (by omega), lsR_s hB6.1]; rw [if_pos (by omega)] at hBv; show _ = enZ 27 96 (lsR b q (mB 1 6 - q).toNat) * 27 + (b (mB 1 6) - 96); rw [← hBv, b2]; omega)
                                                          | (rw [if_neg (by omega), nmR_s hB6.1]; rw [if_neg (by omega)] at hBv; rw [← hBv, b2])
                                                      )
                        · refine v_aload_n C 0 dX8_step_162 rfl ?_
                          refine v_get C 1 4 lC1 (eC1 _) rfl inX8 (by decide) rfl qw43 dX8_step_163 ?_
                          refine v_aload_n C 0 dX8_step_166 rfl ?_
                          refine v_aload_n C 0 dX8_step_167 rfl ?_
                          refine v_get C 1 6 lC1 (eC1 _) rfl inX8 (by decide) rfl qw46 dX8_step_168 ?_
                          refine v_callV (st := [.long (lz (mB 1 4)), .ref (aa 1)]) (n := 1) (q := 1) C [.int (iz (mB 1 6))] (ct_Tape_byteAt C.2.2.2.2.2.2.1 mB (mB 1 6) (by omega)) lC1 (eC1 _) rfl qw522 qw2 qw519 rfl rfl ⟨Nat.le_of_ble_eq_true rfl, Nat.le_of_ble_eq_true rfl⟩ (by decide +kernel) qw521 qp1 rfl rfl (Nat.le_of_ble_eq_true rfl) dX8_step_171 (fun r m34 hq34 => ?_)
                          obtain ⟨z34, rfl, rfl, rfl⟩ := hq34
                          show V E (wC D cy aa ad) 2 mB 174 [(0, .ref (aa 1)), (1, .int (iz (w)))] [.int (iz (mB 2 (mB 1 6))), .long (lz (mB 1 4)), .ref (aa 1)]
                          refine v_callS (st := [.ref (aa 1)]) (n := 2) C [.long (lz (mB 1 4)), .int (iz (mB 2 (mB 1 6)))] (ct_Tape_withLetter C.2.2.2.2.2.2.1 mB (mB 1 4) (mB 2 (mB 1 6)) (by rw [b2]; omega) (by rw [b2]; omega)) qw123 qw2 qw121 rfl rfl ⟨Nat.le_of_ble_eq_true rfl, Nat.le_of_ble_eq_true rfl⟩ (by decide +kernel) qw122 rfl rfl (Nat.le_of_ble_eq_true rfl) dX8_step_174 (fun r m35 hq35 => ?_)
                          obtain ⟨z35, rfl, rfl, rfl⟩ := hq35
                          show V E (wC D cy aa ad) 2 mB 177 [(0, .ref (aa 1)), (1, .int (iz (w)))] [.long (lz ((mB 1 4) * 27 + ((mB 2 (mB 1 6)) - 97 + 1))), .ref (aa 1)]
                          refine v_goto (tgt := 202) C dX8_step_177 (by decide) ?_
                          refine v_sub [0, 1] rfl ?_
                          exact K202  ((mB 1 4) * 27 + ((mB 2 (mB 1 6)) - 97 + 1))  (by 
                                                        first
                                                          | (rw [if_pos (by omega), lsR_s hB6.1]; rw [if_pos (by omega)] at hBv; show _ = enZ 27 96 (lsR b q (mB 1 6 - q).toNat) * 27 + (b (mB 1 6) - 96); rw [← hBv, b2]; omega)
                                                          | (rw [if_neg (by omega), nmR_s hB6.1]; rw [if_neg (by omega)] at hBv; rw [← hBv, b2])
                                                      )
                refine v_sub [1, 0] rfl ?_
                exact K128 _  m3 (by rw [f6]; omega) (by rw [f6]) (by rw [f4, f6, show (q - q).toNat = 0 by omega]; show (0 : Int) = if w = 1 then 0 else 0; split <;> rfl) (by intro j _ _; rfl) (by exact ff) (by omega) (by omega) (Nat.lt_succ_self _)
              · refine v_aload_n C 1 dX8_step_106 rfl ?_
                refine v_dup C dX8_step_107 rfl ?_
                refine v_get C 1 6 lC1 (eC1 _) rfl inX8 (by decide) rfl qw46 dX8_step_108 ?_
                refine v_aload_n C 1 dX8_step_111 rfl ?_
                refine v_get C 1 2 lC1 (eC1 _) rfl inX8 (by decide) rfl qw39 dX8_step_112 ?_
                refine v_if_ne (tgt := 122) C dX8_step_115 (by decide) (by omega) (fun c36 => ?_) (fun c36 => ?_)
                · refine v_iconst (z := 1) C dX8_step_122 rfl ?_
                  refine v_iadd C dX8_step_123 ?_
                  refine v_put C 1 6 ((m3 1 6) + 1) 6 rfl lC1 (eC1 _) rfl inX8 tyX8 tyX8_ok nmX8 (by decide) qw46 rfl rfl rfl (Nat.le_of_ble_eq_true rfl) (by rw [mup_r]; exact (eC1 _)) dX8_step_124 (fun m37 em37 => ?_)
                  refine v_vret C X dX8_step_127 ⟨rfl, ?_⟩
                  refine ⟨?_, by rw [em37, mup_j _ _ (by decide)]; exact f1, fun q h => by rw [em37, mup_k _ _ _ h]; exact ff q h⟩
                  have g2 : m37 2 = b := by rw [em37, mup_k _ _ _ (by decide), ff 2 (by decide)]; exact h2
                  have g5 : m37 1 5 = n := by rw [em37, mup_j _ _ (by decide)]; exact f5
                  have g3 : m37 1 3 = q := by rw [em37, mup_j _ _ (by decide)]; exact f3
                  have gk : m37 1 2 = kk := by rw [em37, mup_j _ _ (by decide)]; exact k2
                  have hclq := cls_rng (b q)
                  first
                    | (have g6 : m37 1 6 = q + 0 := by rw [em37, mup_s, f6]
                       exact TkC.e g2 g5 g3 hsk (by omega) (by omega) (by omega))
                    | (have g6 : m37 1 6 = q + 1 := by rw [em37, mup_s, f6]
                       exact TkC.o g2 g5 g3 hsk (by omega) (kk := kk) (by omega) (by omega) gk g6)
                · refine v_iconst (z := 0) C dX8_step_118 rfl ?_
                  refine v_goto (tgt := 123) C dX8_step_119 (by decide) ?_
                  refine v_iadd C dX8_step_123 ?_
                  refine v_put C 1 6 ((m3 1 6) + 0) 6 rfl lC1 (eC1 _) rfl inX8 tyX8 tyX8_ok nmX8 (by decide) qw46 rfl rfl rfl (Nat.le_of_ble_eq_true rfl) (by rw [mup_r]; exact (eC1 _)) dX8_step_124 (fun m38 em38 => ?_)
                  refine v_vret C X dX8_step_127 ⟨rfl, ?_⟩
                  refine ⟨?_, by rw [em38, mup_j _ _ (by decide)]; exact f1, fun q h => by rw [em38, mup_k _ _ _ h]; exact ff q h⟩
                  have g2 : m38 2 = b := by rw [em38, mup_k _ _ _ (by decide), ff 2 (by decide)]; exact h2
                  have g5 : m38 1 5 = n := by rw [em38, mup_j _ _ (by decide)]; exact f5
                  have g3 : m38 1 3 = q := by rw [em38, mup_j _ _ (by decide)]; exact f3
                  have gk : m38 1 2 = kk := by rw [em38, mup_j _ _ (by decide)]; exact k2
                  have hclq := cls_rng (b q)
                  first
                    | (have g6 : m38 1 6 = q + 0 := by rw [em38, mup_s, f6]
                       exact TkC.e g2 g5 g3 hsk (by omega) (by omega) (by omega))
                    | (have g6 : m38 1 6 = q + 1 := by rw [em38, mup_s, f6]
                       exact TkC.o g2 g5 g3 hsk (by omega) (kk := kk) (by omega) (by omega) gk g6)
          refine v_get C 1 2 lC1 (eC1 _) rfl inX8 (by decide) rfl qw39 dX8_step_81 ?_
          refine v_iconst (z := 1) C dX8_step_84 rfl ?_
          refine v_icmp_ne (tgt := 92) C dX8_step_85 (by decide) (by omega) (by omega) (fun c39 => ?_) (fun c39 => ?_)
          · refine v_iconst (z := 0) C dX8_step_92 rfl ?_
            refine v_sub [0] rfl ?_
            exact K93  (0)  (by rw [k2] at *; omega)
          · refine v_iconst (z := 1) C dX8_step_88 rfl ?_
            refine v_goto (tgt := 93) C dX8_step_89 (by decide) ?_
            refine v_sub [0] rfl ?_
            exact K93  (1)  (by rw [k2] at *; omega)
        refine v_aload_n C 0 dX8_step_51 rfl ?_
        refine v_get C 1 6 lC1 (eC1 _) rfl inX8 (by decide) rfl qw46 dX8_step_52 ?_
        refine v_aload_n C 0 dX8_step_55 rfl ?_
        refine v_get C 1 5 lC1 (eC1 _) rfl inX8 (by decide) rfl qw45 dX8_step_56 ?_
        refine v_icmp_ge (tgt := 76) C dX8_step_59 (by decide) (by omega) (by omega) (fun c40 => ?_) (fun c40 => ?_)
        · refine v_iconst (z := 0) C dX8_step_76 rfl ?_
          refine v_sub [0] rfl ?_
          exact K77  (0)  (by 
                        first
                          | exact Or.inl ⟨by omega, rfl⟩
                          | exact Or.inr ⟨by omega, by rw [z6, e2q]⟩
                      )
        · refine v_aload_n C 0 dX8_step_62 rfl ?_
          refine v_aload_n C 0 dX8_step_63 rfl ?_
          refine v_get C 1 6 lC1 (eC1 _) rfl inX8 (by decide) rfl qw46 dX8_step_64 ?_
          refine v_callV (st := [.ref (aa 1)]) (n := 1) (q := 1) C [.int (iz (m2 1 6))] (ct_Tape_byteAt C.2.2.2.2.2.2.1 m2 (m2 1 6) (by omega)) lC1 (eC1 _) rfl qw522 qw2 qw519 rfl rfl ⟨Nat.le_of_ble_eq_true rfl, Nat.le_of_ble_eq_true rfl⟩ (by decide +kernel) qw521 qp1 rfl rfl (Nat.le_of_ble_eq_true rfl) dX8_step_67 (fun r m41 hq41 => ?_)
          obtain ⟨z41, rfl, rfl, rfl⟩ := hq41
          show V E (wC D cy aa ad) 2 m2 70 [(0, .ref (aa 1))] [.int (iz (m2 2 (m2 1 6))), .ref (aa 1)]
          refine v_callS (st := [.ref (aa 1)]) (n := 1) C [.int (iz (m2 2 (m2 1 6)))] (ct_Tape_kindOf C.2.2.2.2.2.2.1 m2 (m2 2 (m2 1 6)) (by rw [z6, e2q]; have := hb q hA6.1 (by omega); omega)) qw525 qw2 qw523 rfl rfl ⟨Nat.le_of_ble_eq_true rfl, Nat.le_of_ble_eq_true rfl⟩ (by decide +kernel) qw524 rfl rfl (Nat.le_of_ble_eq_true rfl) dX8_step_70 (fun r m42 hq42 => ?_)
          obtain ⟨z42, rfl, rfl, rfl⟩ := hq42
          show V E (wC D cy aa ad) 2 m2 73 [(0, .ref (aa 1))] [.int (iz (cls (m2 2 (m2 1 6)))), .ref (aa 1)]
          refine v_goto (tgt := 77) C dX8_step_73 (by decide) ?_
          refine v_sub [0] rfl ?_
          exact K77  (cls (m2 2 (m2 1 6)))  (by 
                        first
                          | exact Or.inl ⟨by omega, rfl⟩
                          | exact Or.inr ⟨by omega, by rw [z6, e2q]⟩
                      )
      refine v_icmp_ge (tgt := 37) C dX8_step_8 (by decide) (by omega) (by omega) (fun c43 => ?_) (fun c43 => ?_)
      · refine v_sub [0] rfl ?_
        exact K37    (by rw [hAs]; exact skZ_e (fun y => by rw [← a2] at y; omega))
      · refine v_aload_n C 0 dX8_step_11 rfl ?_
        refine v_aload_n C 0 dX8_step_12 rfl ?_
        refine v_get C 1 6 lC1 (eC1 _) rfl inX8 (by decide) rfl qw46 dX8_step_13 ?_
        refine v_callV (st := []) (n := 1) (q := 1) C [.int (iz (mA 1 6))] (ct_Tape_byteAt C.2.2.2.2.2.2.1 mA (mA 1 6) (by omega)) lC1 (eC1 _) rfl qw522 qw2 qw519 rfl rfl ⟨Nat.le_of_ble_eq_true rfl, Nat.le_of_ble_eq_true rfl⟩ (by decide +kernel) qw521 qp1 rfl rfl (Nat.le_of_ble_eq_true rfl) dX8_step_16 (fun r m44 hq44 => ?_)
        obtain ⟨z44, rfl, rfl, rfl⟩ := hq44
        show V E (wC D cy aa ad) 2 mA 19 [(0, .ref (aa 1))] [.int (iz (mA 2 (mA 1 6)))]
        have hbx := hb (mA 1 6) hA6.1 (by omega)
        refine v_bipush (z := 32) C dX8_step_19 (by decide) ?_
        refine v_icmp_ne (tgt := 37) C dX8_step_21 (by decide) (by first | (rw [a2]; omega) | omega) (by omega) (fun c45 => ?_) (fun c45 => ?_)
        · refine v_sub [0] rfl ?_
          exact K37    (by rw [hAs]; exact skZ_e (fun y => by rw [← a2] at y; omega))
        · refine v_aload_n C 0 dX8_step_24 rfl ?_
          refine v_dup C dX8_step_25 rfl ?_
          refine v_get C 1 6 lC1 (eC1 _) rfl inX8 (by decide) rfl qw46 dX8_step_26 ?_
          refine v_iconst (z := 1) C dX8_step_29 rfl ?_
          refine v_iadd C dX8_step_30 ?_
          refine v_put C 1 6 ((mA 1 6) + 1) 6 rfl lC1 (eC1 _) rfl inX8 tyX8 tyX8_ok nmX8 (by decide) qw46 rfl rfl rfl (Nat.le_of_ble_eq_true rfl) (by rw [mup_r]; exact (eC1 _)) dX8_step_31 (fun m46 em46 => ?_)
          refine v_goto (tgt := 0) C dX8_step_34 (by decide) ?_
          refine v_sub [0] rfl ?_
          exact ih0  m46 (by rw [em46, mup_s]; omega) (by rw [em46, mup_s, hAs]; exact skZ_s (by omega) (by rw [← a2]; omega)) (by intro j h; rw [em46, mup_j _ _ h]; exact hA0 j h) (by intro q h; rw [em46, mup_k _ _ _ h]; exact hAf q h) (by rw [em46, mup_s]; omega)
  refine v_sub [0] rfl ?_
  exact K0 _  m (by omega) (by rw [h6]) (by intro j _; rfl) (by intro q _; rfl) (Nat.lt_succ_self _)

set_option maxHeartbeats 4000000 in
set_option maxRecDepth 100000 in
theorem ct_Tape_begin {lau : Launch} {D : va_G} {cy : Nat → ClassId} {aa ad : Nat → Nat} (hI : wI (wC D cy aa ad)) (m : Mem) (b : Int → Int) (n : Int) (hb : BtOk b) (hn : 0 ≤ n ∧ n ≤ 700) (h2 : m 2 = b) : MT lau (wC D cy aa ad) yX8_begin cX8_begin 2 (none) ({ frames := 2, cells := 0, slots := 0, locals := 43 } : Room) m [.ref (aa 1), .int (iz (n))] (Pv (fun m' => TkC m' b n 0 ∧ m' 1 1 = m 1 1 ∧ ∀ q, q ≠ 1 → m' q = m q)) := by
  refine v_entry hI RX8 (by decide) rfl (Nat.le_of_ble_eq_true rfl) (fun E hE C X => ?_)
  subst hE
  show V E (wC D cy aa ad) 2 m 0 [(0, .ref (aa 1)), (1, .int (iz (n)))] []
  refine v_aload_n C 0 dX8_begin_0 rfl ?_
  refine v_iload_n C 1 dX8_begin_1 rfl ?_
  refine v_put C 1 5 (n) 5 rfl lC1 (eC1 _) rfl inX8 tyX8 tyX8_ok nmX8 (by decide) qw45 rfl rfl rfl (Nat.le_of_ble_eq_true rfl) (by rw [mup_r]; exact (eC1 _)) dX8_begin_2 (fun m1 em1 => ?_)
  refine v_aload_n C 0 dX8_begin_5 rfl ?_
  refine v_iconst (z := 0) C dX8_begin_6 rfl ?_
  refine v_put C 1 6 (0) 6 rfl lC1 (eC1 _) rfl inX8 tyX8 tyX8_ok nmX8 (by decide) qw46 rfl rfl rfl (Nat.le_of_ble_eq_true rfl) (by rw [mup_r]; exact (eC1 _)) dX8_begin_7 (fun m2 em2 => ?_)
  refine v_aload_n C 0 dX8_begin_10 rfl ?_
  refine v_callV (st := []) (n := 0) (q := 1) C [] (ct_Tape_step C.2.2.2.2.2.2.1 m2 (b) (n) (0) (by first | assumption | omega) (by first | assumption | omega) (by rw [em2, mup_k _ _ _ (by decide), em1, mup_k _ _ _ (by decide)]; exact h2) (by rw [em2, mup_j _ _ (by decide), em1, mup_s]) (by rw [em2, mup_s]) (by first | assumption | omega)) lC1 (eC1 _) rfl qw518 qw2 qw515 rfl rfl ⟨Nat.le_of_ble_eq_true rfl, Nat.le_of_ble_eq_true rfl⟩ (by decide +kernel) qw516 qw517 rfl rfl (Nat.le_of_ble_eq_true rfl) dX8_begin_11 (fun r m3 hq3 => ?_)
  obtain ⟨rfl, hq3⟩ := hq3
  show V E (wC D cy aa ad) 2 m3 14 [(0, .ref (aa 1)), (1, .int (iz (n)))] []
  refine v_vret C X dX8_begin_14 ⟨rfl, ?_⟩
  exact ⟨hq3.1, by rw [hq3.2.1, em2, mup_j _ _ (by decide), em1, mup_j _ _ (by decide)], fun q h => by rw [hq3.2.2 q h, em2, mup_k _ _ _ h, em1, mup_k _ _ _ h]⟩
