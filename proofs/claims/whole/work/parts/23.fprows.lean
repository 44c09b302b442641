theorem nan_num {n : Nat} (h : 9218868437227405312 < n % 9223372036854775808) : n / 4503599627370496 % 2048 = 2047 ∧ n % 4503599627370496 ≠ 0 := by omega
theorem fin_notNaN {b : UInt64} {s : Bool} {c : Nat} {q : Int} (h : FP.Core.val64 b = .fin s c q) : ¬ isNaN64 b = true := by
  intro hn
  have h1 := isNaN64_iff.mp hn
  have e := Nat.and_two_pow_sub_one_eq_mod b.toNat 63
  rw [show (0x7fffffffffffffff : Nat) = 2 ^ 63 - 1 from rfl, e] at h1
  obtain ⟨a1, a2⟩ := nan_num h1
  have h2 : FP.Core.decode FP.Core.b64 b.toNat = .nan := by
    unfold FP.Core.decode
    rw [if_pos (show FP.Core.fieldE FP.Core.b64 b.toNat = FP.Core.b64.exps - 1 from a1), if_neg (show ¬ FP.Core.fieldT FP.Core.b64 b.toNat = 0 from a2)]
  have h3 : FP.Core.decode FP.Core.b64 b.toNat = .fin s c q := h
  rw [h2] at h3
  cases h3
theorem alike_fin {r x : UInt64} {s : Bool} {c : Nat} {q : Int} (h : alike64 r x = true) (hv : FP.Core.val64 x = .fin s c q) : r = x := by
  unfold alike64 at h
  rcases Bool.or_eq_true_iff.mp h with h1 | h1
  · exact of_decide_eq_true h1
  · exact absurd (Bool.and_eq_true_iff.mp h1).2 (fin_notNaN hv)
theorem zero_val : FP.Core.val64 FP.dconst0 = .fin false 0 (-1074) := by decide +kernel
theorem dcmp_0 {x : UInt64} {c : Nat} {q : Int} (hx : Fi x c q) : FP.dcmp x FP.dconst0 = some .gt := by
  show FP.Core.order (FP.Core.val64 x) (FP.Core.val64 FP.dconst0) = _
  rw [hx.1, zero_val]
  show some (compare ((FP.Core.inUnits c q (min q (-1074)) : Nat) : Int) ((FP.Core.inUnits 0 (-1074) (min q (-1074)) : Nat) : Int)) = _
  have e : FP.Core.inUnits 0 (-1074) (min q (-1074)) = 0 := Nat.zero_mul _
  have p : 0 < FP.Core.inUnits c q (min q (-1074)) := Nat.mul_pos hx.2.1 (Nat.two_pow_pos _)
  rw [e, Int.compare_eq_gt.mpr (by omega)]
section VD
variable {E : Amb} {w : Wd} {cc : ByteArray} {own : String} {nL : Nat} {R0 : Room} {m : Mem} {pc : Nat} {L : List (Nat × Value)} {st : List Value}
theorem v_dconst0 (C : Cx E w cc own nL R0) (hdg : decode cc pc = .ok (.dconst 0, 1)) (k : V E w nL m (pc + 1) L (.double FP.dconst0 :: st)) : V E w nL m pc L (st) := fun H locs d0 ls hd hP hS hl => lv_dconst0 C.1 C.2.1 hdg (k H locs d0 ls hd hP hS hl)
theorem v_dc (C : Cx E w cc own nL R0) {x y : UInt64} {op : CmpOp} {c d : Nat} {q s : Int} (hx : Fi x c q) (hy : Fi y d s) (hdg : decode cc pc = .ok (.dcmp op, 1)) (k1 : Va c q < Va d s → V E w nL m (pc + 1) L (.int (iz (-1)) :: st)) (k2 : Va c q = Va d s → V E w nL m (pc + 1) L (.int (iz 0) :: st)) (k3 : Va d s < Va c q → V E w nL m (pc + 1) L (.int (iz 1) :: st)) : V E w nL m pc L (.double y :: .double x :: st) := by
  rcases Nat.lt_trichotomy (Va c q) (Va d s) with h | h | h
  · exact v_dcmp (z := -1) C (by rw [dcmp_Va hx hy, Int.compare_eq_lt.mpr (by omega)]; rfl) hdg (k1 h)
  · exact v_dcmp (z := 0) C (by rw [dcmp_Va hx hy, Int.compare_eq_eq.mpr (by omega)]; rfl) hdg (k2 h)
  · exact v_dcmp (z := 1) C (by rw [dcmp_Va hx hy, Int.compare_eq_gt.mpr (by omega)]; rfl) hdg (k3 h)
theorem v_dc_le (C : Cx E w cc own nL R0) {x y : UInt64} {op : CmpOp} {c d : Nat} {q s off : Int} {tgt : Nat} (hx : Fi x c q) (hy : Fi y d s) (hdg : decode cc pc = .ok (.dcmp op, 1)) (hdg2 : decode cc (pc + 1) = .ok (.ifCond .le off, 3)) (ht : ((pc + 1 : Nat) : Int) + off = (tgt : Int)) (kt : Va c q ≤ Va d s → V E w nL m tgt L st) (kf : Va d s < Va c q → V E w nL m (pc + 1 + 3) L st) : V E w nL m pc L (.double y :: .double x :: st) :=
  v_dc C hx hy hdg (fun h => v_if_le C hdg2 ht (by omega) (fun _ => kt (by omega)) (fun g => absurd g (by decide))) (fun h => v_if_le C hdg2 ht (by omega) (fun _ => kt (by omega)) (fun g => absurd g (by decide))) (fun h => v_if_le C hdg2 ht (by omega) (fun g => absurd g (by decide)) (fun _ => kf h))
theorem v_dc_gt (C : Cx E w cc own nL R0) {x y : UInt64} {op : CmpOp} {c d : Nat} {q s off : Int} {tgt : Nat} (hx : Fi x c q) (hy : Fi y d s) (hdg : decode cc pc = .ok (.dcmp op, 1)) (hdg2 : decode cc (pc + 1) = .ok (.ifCond .gt off, 3)) (ht : ((pc + 1 : Nat) : Int) + off = (tgt : Int)) (kt : Va d s < Va c q → V E w nL m tgt L st) (kf : Va c q ≤ Va d s → V E w nL m (pc + 1 + 3) L st) : V E w nL m pc L (.double y :: .double x :: st) :=
  v_dc C hx hy hdg (fun h => v_if_gt C hdg2 ht (by omega) (fun g => absurd g (by decide)) (fun _ => kf (by omega))) (fun h => v_if_gt C hdg2 ht (by omega) (fun g => absurd g (by decide)) (fun _ => kf (by omega))) (fun h => v_if_gt C hdg2 ht (by omega) (fun _ => kt h) (fun g => absurd g (by decide)))
theorem v_dc_ge (C : Cx E w cc own nL R0) {x y : UInt64} {op : CmpOp} {c d : Nat} {q s off : Int} {tgt : Nat} (hx : Fi x c q) (hy : Fi y d s) (hdg : decode cc pc = .ok (.dcmp op, 1)) (hdg2 : decode cc (pc + 1) = .ok (.ifCond .ge off, 3)) (ht : ((pc + 1 : Nat) : Int) + off = (tgt : Int)) (kt : Va d s ≤ Va c q → V E w nL m tgt L st) (kf : Va c q < Va d s → V E w nL m (pc + 1 + 3) L st) : V E w nL m pc L (.double y :: .double x :: st) :=
  v_dc C hx hy hdg (fun h => v_if_ge C hdg2 ht (by omega) (fun g => absurd g (by decide)) (fun _ => kf h)) (fun h => v_if_ge C hdg2 ht (by omega) (fun _ => kt (by omega)) (fun g => absurd g (by decide))) (fun h => v_if_ge C hdg2 ht (by omega) (fun _ => kt (by omega)) (fun g => absurd g (by decide)))
end VD
