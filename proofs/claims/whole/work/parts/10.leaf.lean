/-- an int array of n places in the class's world -/
def ArI (D : va_G) (cy : Nat → ClassId) (aa ad : Nat → Nat) (a n : Nat) : Prop := a < (wC D cy aa ad).2.2.2.1 ∧ n < 2147483648 ∧ ∀ x : Int → Int, wE (wC D cy aa ad) a x = eI cy n x
set_option maxHeartbeats 4000000 in
set_option maxRecDepth 100000 in
theorem ct_StageRatios_at {lau : Launch} {D : va_G} {cy : Nat → ClassId} {aa ad : Nat → Nat} (hI : wI (wC D cy aa ad)) (m : Mem) (a n : Nat) (x : Int) (ha : ArI D cy aa ad a n) (hx : 0 ≤ x ∧ x < n) : MT lau (wC D cy aa ad) yX10_at cX10_at 2 (some .int) ({ frames := 0, cells := 0, slots := 0, locals := 0 } : Room) m [.ref (aa a), .int (iz (x))] (Pi (fun z m' => m a x = z ∧ m = m')) := by
  refine v_entry hI RX10 (by decide) rfl (Nat.le_of_ble_eq_true rfl) (fun E hE C X => ?_)
  subst hE
  show V E (wC D cy aa ad) 2 m 0 [(0, .ref (aa a)), (1, .int (iz (x)))] []
  refine v_aload_n C 0 dX10_at_0 rfl ?_
  refine v_ifnull C dX10_at_1 ?_
  refine v_iload_n C 1 dX10_at_4 rfl ?_
  refine v_if_lt (tgt := 20) C dX10_at_5 (by decide) (by have := ha.2.1; omega) (fun c1 => ?_) (fun c1 => ?_)
  · exfalso; omega
  · refine v_iload_n C 1 dX10_at_8 rfl ?_
    refine v_aload_n C 0 dX10_at_9 rfl ?_
    refine v_alen C a 0 ha.1 (ha.2.2 _) rfl dX10_at_10 ?_
    refine v_icmp_ge (tgt := 20) C dX10_at_11 (by decide) (by have := ha.2.1; omega) (by have := ha.2.1; omega) (fun c2 => ?_) (fun c2 => ?_)
    · exfalso; omega
    · refine v_aload_n C 0 dX10_at_14 rfl ?_
      refine v_iload_n C 1 dX10_at_15 rfl ?_
      refine v_iald C a ha.1 (ha.2.2 _) (ha.2.1) (by omega) dX10_at_16 ?_
      refine v_goto (tgt := 21) C dX10_at_17 (by decide) ?_
      refine v_iret C X rfl dX10_at_21 ⟨_, rfl, ?_, ?_⟩
      · rfl
      · rfl

set_option maxHeartbeats 4000000 in
set_option maxRecDepth 100000 in
theorem ct_at_any {lau : Launch} {D : va_G} {cy : Nat → ClassId} {aa ad : Nat → Nat} (hI : wI (wC D cy aa ad)) (m : Mem) (a n : Nat) (x : Int) (ha : ArI D cy aa ad a n) (hx : -2147483648 ≤ x ∧ x ≤ 2147483647) : MT lau (wC D cy aa ad) yX10_at cX10_at 2 (some .int) ({ frames := 0, cells := 0, slots := 0, locals := 0 } : Room) m [.ref (aa a), .int (iz (x))] (Pi (fun z m' => (if 0 ≤ x ∧ x < n then m a x else 0) = z ∧ m = m')) := by
  refine v_entry hI RX10 (by decide) rfl (Nat.le_of_ble_eq_true rfl) (fun E hE C X => ?_)
  subst hE
  show V E (wC D cy aa ad) 2 m 0 [(0, .ref (aa a)), (1, .int (iz (x)))] []
  refine v_aload_n C 0 dX10_at_0 rfl ?_
  refine v_ifnull C dX10_at_1 ?_
  refine v_iload_n C 1 dX10_at_4 rfl ?_
  refine v_if_lt (tgt := 20) C dX10_at_5 (by decide) (by have := ha.2.1; omega) (fun c1 => ?_) (fun c1 => ?_)
  · refine v_iconst (z := 0) C dX10_at_20 rfl ?_
    refine v_iret C X rfl dX10_at_21 ⟨_, rfl, ?_, ?_⟩
    · first | rw [if_pos (by omega)] | rw [if_neg (by omega)]
    · rfl
  · refine v_iload_n C 1 dX10_at_8 rfl ?_
    refine v_aload_n C 0 dX10_at_9 rfl ?_
    refine v_alen C a 0 ha.1 (ha.2.2 _) rfl dX10_at_10 ?_
    refine v_icmp_ge (tgt := 20) C dX10_at_11 (by decide) (by have := ha.2.1; omega) (by have := ha.2.1; omega) (fun c2 => ?_) (fun c2 => ?_)
    · refine v_iconst (z := 0) C dX10_at_20 rfl ?_
      refine v_iret C X rfl dX10_at_21 ⟨_, rfl, ?_, ?_⟩
      · first | rw [if_pos (by omega)] | rw [if_neg (by omega)]
      · rfl
    · refine v_aload_n C 0 dX10_at_14 rfl ?_
      refine v_iload_n C 1 dX10_at_15 rfl ?_
      refine v_iald C a ha.1 (ha.2.2 _) (ha.2.1) (by omega) dX10_at_16 ?_
      refine v_goto (tgt := 21) C dX10_at_17 (by decide) ?_
      refine v_iret C X rfl dX10_at_21 ⟨_, rfl, ?_, ?_⟩
      · first | rw [if_pos (by omega)] | rw [if_neg (by omega)]
      · rfl

set_option maxHeartbeats 4000000 in
set_option maxRecDepth 100000 in
theorem ct_StageRatios_put {lau : Launch} {D : va_G} {cy : Nat → ClassId} {aa ad : Nat → Nat} (hI : wI (wC D cy aa ad)) (m : Mem) (a n : Nat) (x v : Int) (ha : ArI D cy aa ad a n) (hx : 0 ≤ x ∧ x < n) : MT lau (wC D cy aa ad) yX10_put cX10_put 3 (none) ({ frames := 0, cells := 0, slots := 0, locals := 0 } : Room) m [.ref (aa a), .int (iz (x)), .int (iz (v))] (Pv (fun m' => mup m a x v = m')) := by
  refine v_entry hI RX10 (by decide) rfl (Nat.le_of_ble_eq_true rfl) (fun E hE C X => ?_)
  subst hE
  show V E (wC D cy aa ad) 3 m 0 [(0, .ref (aa a)), (1, .int (iz (x))), (2, .int (iz (v)))] []
  refine v_aload_n C 0 dX10_put_0 rfl ?_
  refine v_ifnull C dX10_put_1 ?_
  refine v_iload_n C 1 dX10_put_4 rfl ?_
  refine v_if_lt (tgt := 18) C dX10_put_5 (by decide) (by have := ha.2.1; omega) (fun c1 => ?_) (fun c1 => ?_)
  · exfalso; omega
  · refine v_iload_n C 1 dX10_put_8 rfl ?_
    refine v_aload_n C 0 dX10_put_9 rfl ?_
    refine v_alen C a 0 ha.1 (ha.2.2 _) rfl dX10_put_10 ?_
    refine v_icmp_ge (tgt := 18) C dX10_put_11 (by decide) (by have := ha.2.1; omega) (by have := ha.2.1; omega) (fun c2 => ?_) (fun c2 => ?_)
    · exfalso; omega
    · refine v_aload_n C 0 dX10_put_14 rfl ?_
      refine v_iload_n C 1 dX10_put_15 rfl ?_
      refine v_iload_n C 2 dX10_put_16 rfl ?_
      refine v_iast C a ha.1 ha.2.2 (ha.2.1) (by omega) dX10_put_17 (fun m3 em3 => ?_)
      refine v_vret C X dX10_put_18 ⟨rfl, ?_⟩
      exact em3.symm

set_option maxHeartbeats 4000000 in
set_option maxRecDepth 100000 in
theorem ct_put_any {lau : Launch} {D : va_G} {cy : Nat → ClassId} {aa ad : Nat → Nat} (hI : wI (wC D cy aa ad)) (m : Mem) (a n : Nat) (x v : Int) (ha : ArI D cy aa ad a n) (hx : -2147483648 ≤ x ∧ x ≤ 2147483647) : MT lau (wC D cy aa ad) yX10_put cX10_put 3 (none) ({ frames := 0, cells := 0, slots := 0, locals := 0 } : Room) m [.ref (aa a), .int (iz (x)), .int (iz (v))] (Pv (fun m' => (if 0 ≤ x ∧ x < n then mup m a x v else m) = m')) := by
  refine v_entry hI RX10 (by decide) rfl (Nat.le_of_ble_eq_true rfl) (fun E hE C X => ?_)
  subst hE
  show V E (wC D cy aa ad) 3 m 0 [(0, .ref (aa a)), (1, .int (iz (x))), (2, .int (iz (v)))] []
  refine v_aload_n C 0 dX10_put_0 rfl ?_
  refine v_ifnull C dX10_put_1 ?_
  refine v_iload_n C 1 dX10_put_4 rfl ?_
  refine v_if_lt (tgt := 18) C dX10_put_5 (by decide) (by have := ha.2.1; omega) (fun c1 => ?_) (fun c1 => ?_)
  · refine v_vret C X dX10_put_18 ⟨rfl, ?_⟩
    first | rw [if_neg (by omega)] | (rw [if_pos (by omega)]; exact em3.symm)
  · refine v_iload_n C 1 dX10_put_8 rfl ?_
    refine v_aload_n C 0 dX10_put_9 rfl ?_
    refine v_alen C a 0 ha.1 (ha.2.2 _) rfl dX10_put_10 ?_
    refine v_icmp_ge (tgt := 18) C dX10_put_11 (by decide) (by have := ha.2.1; omega) (by have := ha.2.1; omega) (fun c2 => ?_) (fun c2 => ?_)
    · refine v_vret C X dX10_put_18 ⟨rfl, ?_⟩
      first | rw [if_neg (by omega)] | (rw [if_pos (by omega)]; exact em3.symm)
    · refine v_aload_n C 0 dX10_put_14 rfl ?_
      refine v_iload_n C 1 dX10_put_15 rfl ?_
      refine v_iload_n C 2 dX10_put_16 rfl ?_
      refine v_iast C a ha.1 ha.2.2 (ha.2.1) (by omega) dX10_put_17 (fun m3 em3 => ?_)
      refine v_vret C X dX10_put_18 ⟨rfl, ?_⟩
      first | rw [if_neg (by omega)] | (rw [if_pos (by omega)]; exact em3.symm)
