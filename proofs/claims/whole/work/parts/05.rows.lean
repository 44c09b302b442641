section VR
variable {E : Amb} {w : Wd} {cc : ByteArray} {own : String} {nL : Nat} {R0 : Room} {m : Mem} {pc : Nat} {L : List (Nat × Value)} {st : List Value}
theorem v_iconst (C : Cx E w cc own nL R0) {n z : Int} (hdg : decode cc pc = .ok (.iconst n, 1)) (hz : Int32.ofInt n = iz z) (k : V E w nL m (pc + 1) L (.int (iz z) :: st)) : V E w nL m pc L (st) := fun H locs d0 ls hd hP hS hl => by
  have k := k H locs d0 ls hd hP hS hl
  exact lv_iconst C.1 C.2.1 hdg hz k
theorem v_bipush (C : Cx E w cc own nL R0) {n z : Int} (hdg : decode cc pc = .ok (.bipush n, 2)) (hz : (Int8.ofInt n).toInt32 = iz z) (k : V E w nL m (pc + 2) L (.int (iz z) :: st)) : V E w nL m pc L (st) := fun H locs d0 ls hd hP hS hl => by
  have k := k H locs d0 ls hd hP hS hl
  exact lv_bipush C.1 C.2.1 hdg hz k
theorem v_sipush (C : Cx E w cc own nL R0) {n z : Int} (hdg : decode cc pc = .ok (.sipush n, 3)) (hz : (Int16.ofInt n).toInt32 = iz z) (k : V E w nL m (pc + 3) L (.int (iz z) :: st)) : V E w nL m pc L (st) := fun H locs d0 ls hd hP hS hl => by
  have k := k H locs d0 ls hd hP hS hl
  exact lv_sipush C.1 C.2.1 hdg hz k
theorem v_lconst (C : Cx E w cc own nL R0) {n : Fin 2} {z : Int} (hdg : decode cc pc = .ok (.lconst n, 1)) (hz : Int64.ofNat (n : Nat) = lz z) (k : V E w nL m (pc + 1) L (.long (lz z) :: st)) : V E w nL m pc L (st) := fun H locs d0 ls hd hP hS hl => by
  have k := k H locs d0 ls hd hP hS hl
  exact lv_lconst C.1 C.2.1 hdg hz k
theorem v_ldc (C : Cx E w cc own nL R0) {index : Nat} {v : Int32} {z : Int} (hw : Cond.constant own index v ∈ lw_gd) (hdg : decode cc pc = .ok (.ldc index, 2)) (hz : v = iz z) (k : V E w nL m (pc + 2) L (.int (iz z) :: st)) : V E w nL m pc L (st) := fun H locs d0 ls hd hP hS hl => by
  have k := k H locs d0 ls hd hP hS hl
  exact lv_ldc (v := iz z) C.1 C.2.1 C.2.2.2.1 (dr_words C.2.2.2.2.1 _ _ (hz ▸ hw)) hdg k
theorem v_ldc2 (C : Cx E w cc own nL R0) {index : Nat} {v : Int64} {z : Int} (hw : Cond.constantLong own index v ∈ lw_gd) (hdg : decode cc pc = .ok (.ldc2_w index, 3)) (hz : v = lz z) (k : V E w nL m (pc + 3) L (.long (lz z) :: st)) : V E w nL m pc L (st) := fun H locs d0 ls hd hP hS hl => by
  have k := k H locs d0 ls hd hP hS hl
  exact lv_ldc2 (v := lz z) C.1 C.2.1 C.2.2.2.1 (dr_words C.2.2.2.2.1 _ _ (hz ▸ hw)) hdg k
theorem v_ldc2d (C : Cx E w cc own nL R0) {index : Nat} {v : UInt64} (hw : Cond.constantDouble own index v ∈ lw_gd) (hdg : decode cc pc = .ok (.ldc2_w index, 3)) (k : V E w nL m (pc + 3) L (.double v :: st)) : V E w nL m pc L (st) := fun H locs d0 ls hd hP hS hl => by
  have k := k H locs d0 ls hd hP hS hl
  exact lv_ldc2d C.1 C.2.1 C.2.2.2.1 (dr_words C.2.2.2.2.1 _ _ hw) hdg k
theorem v_iload (C : Cx E w cc own nL R0) {i : Nat} {x : Int} (q : Nat) (hdg : decode cc pc = .ok (.iload i, 2)) (hq : L[q]? = some (i, .int (iz x))) (k : V E w nL m (pc + 2) L (.int (iz x) :: st)) : V E w nL m pc L (st) := fun H locs d0 ls hd hP hS hl => by
  have k := k H locs d0 ls hd hP hS hl
  exact lv_iload C.1 C.2.1 hdg (lv_at hl q hq) k
theorem v_iload_n (C : Cx E w cc own nL R0) {n : Fin 4} {x : Int} (q : Nat) (hdg : decode cc pc = .ok (.iload_n n, 1)) (hq : L[q]? = some ((n : Nat), .int (iz x))) (k : V E w nL m (pc + 1) L (.int (iz x) :: st)) : V E w nL m pc L (st) := fun H locs d0 ls hd hP hS hl => by
  have k := k H locs d0 ls hd hP hS hl
  exact lv_iload_n C.1 C.2.1 hdg rfl (lv_at hl q hq) k
theorem v_aload (C : Cx E w cc own nL R0) {i : Nat} {x : Nat} (q : Nat) (hdg : decode cc pc = .ok (.aload i, 2)) (hq : L[q]? = some (i, .ref x)) (k : V E w nL m (pc + 2) L (.ref x :: st)) : V E w nL m pc L (st) := fun H locs d0 ls hd hP hS hl => by
  have k := k H locs d0 ls hd hP hS hl
  exact lv_aload C.1 C.2.1 hdg (lv_at hl q hq) k
theorem v_aload_n (C : Cx E w cc own nL R0) {n : Fin 4} {x : Nat} (q : Nat) (hdg : decode cc pc = .ok (.aload_n n, 1)) (hq : L[q]? = some ((n : Nat), .ref x)) (k : V E w nL m (pc + 1) L (.ref x :: st)) : V E w nL m pc L (st) := fun H locs d0 ls hd hP hS hl => by
  have k := k H locs d0 ls hd hP hS hl
  exact lv_aload_n C.1 C.2.1 hdg rfl (lv_at hl q hq) k
theorem v_lload (C : Cx E w cc own nL R0) {i : Nat} {x : Int} (q : Nat) (hdg : decode cc pc = .ok (.lload i, 2)) (hq : L[q]? = some (i, .long (lz x))) (k : V E w nL m (pc + 2) L (.long (lz x) :: st)) : V E w nL m pc L (st) := fun H locs d0 ls hd hP hS hl => by
  have k := k H locs d0 ls hd hP hS hl
  exact lv_lload C.1 C.2.1 hdg (lv_at hl q hq) k
theorem v_lload_n (C : Cx E w cc own nL R0) {n : Fin 4} {x : Int} (q : Nat) (hdg : decode cc pc = .ok (.lload_n n, 1)) (hq : L[q]? = some ((n : Nat), .long (lz x))) (k : V E w nL m (pc + 1) L (.long (lz x) :: st)) : V E w nL m pc L (st) := fun H locs d0 ls hd hP hS hl => by
  have k := k H locs d0 ls hd hP hS hl
  exact lv_lload_n C.1 C.2.1 hdg rfl (lv_at hl q hq) k
theorem v_dload (C : Cx E w cc own nL R0) {i : Nat} {x : UInt64} (q : Nat) (hdg : decode cc pc = .ok (.dload i, 2)) (hq : L[q]? = some (i, .double x)) (k : V E w nL m (pc + 2) L (.double x :: st)) : V E w nL m pc L (st) := fun H locs d0 ls hd hP hS hl => by
  have k := k H locs d0 ls hd hP hS hl
  exact lv_dload C.1 C.2.1 hdg (lv_at hl q hq) k
theorem v_dload_n (C : Cx E w cc own nL R0) {n : Fin 4} {x : UInt64} (q : Nat) (hdg : decode cc pc = .ok (.dload_n n, 1)) (hq : L[q]? = some ((n : Nat), .double x)) (k : V E w nL m (pc + 1) L (.double x :: st)) : V E w nL m pc L (st) := fun H locs d0 ls hd hP hS hl => by
  have k := k H locs d0 ls hd hP hS hl
  exact lv_dload_n C.1 C.2.1 hdg rfl (lv_at hl q hq) k
theorem v_istore (C : Cx E w cc own nL R0) {i : Nat} {x : Int} {L1 : List (Nat × Value)} (hdg : decode cc pc = .ok (.istore i, 2)) (hn : i < nL) (hL : (i, (.int (iz x) : Value)) :: L.filter (fun q => !(q.1 == i) && !(q.1 + 1 == i && q.2.category == 2)) = L1) (k : V E w nL m (pc + 2) L1 st) : V E w nL m pc L (.int (iz x) :: st) := fun H locs d0 ls hd hP hS hl => lv_istore C.1 C.2.1 hdg hl hn hL (fun ls1 h1 => k H locs d0 ls1 hd hP hS h1)
theorem v_istore_n (C : Cx E w cc own nL R0) {n : Fin 4} {x : Int} {L1 : List (Nat × Value)} (hdg : decode cc pc = .ok (.istore_n n, 1)) (hn : (n : Nat) < nL) (hL : ((n : Nat), (.int (iz x) : Value)) :: L.filter (fun q => !(q.1 == (n : Nat)) && !(q.1 + 1 == (n : Nat) && q.2.category == 2)) = L1) (k : V E w nL m (pc + 1) L1 st) : V E w nL m pc L (.int (iz x) :: st) := fun H locs d0 ls hd hP hS hl => lv_istore_n C.1 C.2.1 hdg rfl hl hn hL (fun ls1 h1 => k H locs d0 ls1 hd hP hS h1)
theorem v_astore (C : Cx E w cc own nL R0) {i : Nat} {x : Nat} {L1 : List (Nat × Value)} (hdg : decode cc pc = .ok (.astore i, 2)) (hn : i < nL) (hL : (i, (.ref x : Value)) :: L.filter (fun q => !(q.1 == i) && !(q.1 + 1 == i && q.2.category == 2)) = L1) (k : V E w nL m (pc + 2) L1 st) : V E w nL m pc L (.ref x :: st) := fun H locs d0 ls hd hP hS hl => lv_astore C.1 C.2.1 hdg hl hn hL (fun ls1 h1 => k H locs d0 ls1 hd hP hS h1)
theorem v_astore_n (C : Cx E w cc own nL R0) {n : Fin 4} {x : Nat} {L1 : List (Nat × Value)} (hdg : decode cc pc = .ok (.astore_n n, 1)) (hn : (n : Nat) < nL) (hL : ((n : Nat), (.ref x : Value)) :: L.filter (fun q => !(q.1 == (n : Nat)) && !(q.1 + 1 == (n : Nat) && q.2.category == 2)) = L1) (k : V E w nL m (pc + 1) L1 st) : V E w nL m pc L (.ref x :: st) := fun H locs d0 ls hd hP hS hl => lv_astore_n C.1 C.2.1 hdg rfl hl hn hL (fun ls1 h1 => k H locs d0 ls1 hd hP hS h1)
theorem v_lstore (C : Cx E w cc own nL R0) {i : Nat} {x : Int} {L1 : List (Nat × Value)} (hdg : decode cc pc = .ok (.lstore i, 2)) (hn : i + 1 < nL) (hL : (i, (.long (lz x) : Value)) :: L.filter (fun q => !(q.1 == i) && (!(q.1 == i + 1) && !(q.1 + 1 == i && q.2.category == 2))) = L1) (k : V E w nL m (pc + 2) L1 st) : V E w nL m pc L (.long (lz x) :: st) := fun H locs d0 ls hd hP hS hl => lv_lstore C.1 C.2.1 hdg hl hn hL (fun ls1 h1 => k H locs d0 ls1 hd hP hS h1)
theorem v_lstore_n (C : Cx E w cc own nL R0) {n : Fin 4} {x : Int} {L1 : List (Nat × Value)} (hdg : decode cc pc = .ok (.lstore_n n, 1)) (hn : (n : Nat) + 1 < nL) (hL : ((n : Nat), (.long (lz x) : Value)) :: L.filter (fun q => !(q.1 == (n : Nat)) && (!(q.1 == (n : Nat) + 1) && !(q.1 + 1 == (n : Nat) && q.2.category == 2))) = L1) (k : V E w nL m (pc + 1) L1 st) : V E w nL m pc L (.long (lz x) :: st) := fun H locs d0 ls hd hP hS hl => lv_lstore_n C.1 C.2.1 hdg rfl hl hn hL (fun ls1 h1 => k H locs d0 ls1 hd hP hS h1)
theorem v_dstore (C : Cx E w cc own nL R0) {i : Nat} {x : UInt64} {L1 : List (Nat × Value)} (hdg : decode cc pc = .ok (.dstore i, 2)) (hn : i + 1 < nL) (hL : (i, (.double x : Value)) :: L.filter (fun q => !(q.1 == i) && (!(q.1 == i + 1) && !(q.1 + 1 == i && q.2.category == 2))) = L1) (k : V E w nL m (pc + 2) L1 st) : V E w nL m pc L (.double x :: st) := fun H locs d0 ls hd hP hS hl => lv_dstore C.1 C.2.1 hdg hl hn hL (fun ls1 h1 => k H locs d0 ls1 hd hP hS h1)
theorem v_dstore_n (C : Cx E w cc own nL R0) {n : Fin 4} {x : UInt64} {L1 : List (Nat × Value)} (hdg : decode cc pc = .ok (.dstore_n n, 1)) (hn : (n : Nat) + 1 < nL) (hL : ((n : Nat), (.double x : Value)) :: L.filter (fun q => !(q.1 == (n : Nat)) && (!(q.1 == (n : Nat) + 1) && !(q.1 + 1 == (n : Nat) && q.2.category == 2))) = L1) (k : V E w nL m (pc + 1) L1 st) : V E w nL m pc L (.double x :: st) := fun H locs d0 ls hd hP hS hl => lv_dstore_n C.1 C.2.1 hdg rfl hl hn hL (fun ls1 h1 => k H locs d0 ls1 hd hP hS h1)
theorem v_iinc (C : Cx E w cc own nL R0) {i : Nat} {n : Int} {x : Int} {L1 : List (Nat × Value)} (q : Nat) (hdg : decode cc pc = .ok (.iinc i n, 3)) (hq : L[q]? = some (i, .int (iz x))) (hn : i < nL) (hL : (i, Value.int (iz (x + n))) :: L.filter (fun q => !(q.1 == i) && !(q.1 + 1 == i && q.2.category == 2)) = L1) (k : V E w nL m (pc + 3) L1 st) : V E w nL m pc L st := fun H locs d0 ls hd hP hS hl => lv_iinc (k := q) C.1 C.2.1 hdg hl hq (by rw [iz_add]; rfl) hn hL (fun ls1 h1 => k H locs d0 ls1 hd hP hS h1)
theorem v_iadd (C : Cx E w cc own nL R0) {x y : Int} (hdg : decode cc pc = .ok (.iadd, 1)) (k : V E w nL m (pc + 1) L (.int (iz (x + y)) :: st)) : V E w nL m pc L (.int (iz y) :: .int (iz x) :: st) := fun H locs d0 ls hd hP hS hl => by
  have k := k H locs d0 ls hd hP hS hl
  rw [iz_add] at k
  exact lv_iadd C.1 C.2.1 hdg k
theorem v_isub (C : Cx E w cc own nL R0) {x y : Int} (hdg : decode cc pc = .ok (.isub, 1)) (k : V E w nL m (pc + 1) L (.int (iz (x - y)) :: st)) : V E w nL m pc L (.int (iz y) :: .int (iz x) :: st) := fun H locs d0 ls hd hP hS hl => by
  have k := k H locs d0 ls hd hP hS hl
  rw [iz_sub] at k
  exact lv_isub C.1 C.2.1 hdg k
theorem v_imul (C : Cx E w cc own nL R0) {x y : Int} (hdg : decode cc pc = .ok (.imul, 1)) (k : V E w nL m (pc + 1) L (.int (iz (x * y)) :: st)) : V E w nL m pc L (.int (iz y) :: .int (iz x) :: st) := fun H locs d0 ls hd hP hS hl => by
  have k := k H locs d0 ls hd hP hS hl
  rw [iz_mul] at k
  exact lv_imul C.1 C.2.1 hdg k
theorem v_ladd (C : Cx E w cc own nL R0) {x y : Int} (hdg : decode cc pc = .ok (.ladd, 1)) (k : V E w nL m (pc + 1) L (.long (lz (x + y)) :: st)) : V E w nL m pc L (.long (lz y) :: .long (lz x) :: st) := fun H locs d0 ls hd hP hS hl => by
  have k := k H locs d0 ls hd hP hS hl
  rw [lz_add] at k
  exact lv_ladd C.1 C.2.1 hdg k
theorem v_lsub (C : Cx E w cc own nL R0) {x y : Int} (hdg : decode cc pc = .ok (.lsub, 1)) (k : V E w nL m (pc + 1) L (.long (lz (x - y)) :: st)) : V E w nL m pc L (.long (lz y) :: .long (lz x) :: st) := fun H locs d0 ls hd hP hS hl => by
  have k := k H locs d0 ls hd hP hS hl
  rw [lz_sub] at k
  exact lv_lsub C.1 C.2.1 hdg k
theorem v_lmul (C : Cx E w cc own nL R0) {x y : Int} (hdg : decode cc pc = .ok (.lmul, 1)) (k : V E w nL m (pc + 1) L (.long (lz (x * y)) :: st)) : V E w nL m pc L (.long (lz y) :: .long (lz x) :: st) := fun H locs d0 ls hd hP hS hl => by
  have k := k H locs d0 ls hd hP hS hl
  rw [lz_mul] at k
  exact lv_lmul C.1 C.2.1 hdg k
theorem v_ineg (C : Cx E w cc own nL R0) {x : Int} (hdg : decode cc pc = .ok (.ineg, 1)) (k : V E w nL m (pc + 1) L (.int (iz (-x)) :: st)) : V E w nL m pc L (.int (iz x) :: st) := fun H locs d0 ls hd hP hS hl => by
  have k := k H locs d0 ls hd hP hS hl
  rw [iz_neg] at k
  exact lv_ineg C.1 C.2.1 hdg k
theorem iz_div {x y : Int} (hx : 0 ≤ x ∧ x ≤ 2147483647) (hy : 0 < y ∧ y ≤ 2147483647) : iz (x / y) = iz x / iz y := by
  apply Int32.toInt_inj.mp
  have hq : 0 ≤ x / y := Int.ediv_nonneg hx.1 (by omega)
  have hq2 : x / y ≤ x := Int.ediv_le_self _ hx.1
  rw [Int32.toInt_div, iz_toInt (by omega), iz_toInt (by omega), iz_toInt (by omega), Int.tdiv_eq_ediv_of_nonneg hx.1, Int.bmod_eq_of_le (by omega) (by omega)]
theorem iz_mod {x y : Int} (hx : 0 ≤ x ∧ x ≤ 2147483647) (hy : 0 < y ∧ y ≤ 2147483647) : iz (x % y) = iz x - iz x / iz y * iz y := by
  rw [← iz_div hx hy, ← iz_mul, ← iz_sub]
  congr 1
  have := Int.emod_add_mul_ediv x y
  rw [Int.mul_comm (x / y) y]; omega
theorem lz_div {x y : Int} (hx : 0 ≤ x ∧ x ≤ 9223372036854775807) (hy : 0 < y ∧ y ≤ 9223372036854775807) : lz (x / y) = lz x / lz y := by
  apply Int64.toInt_inj.mp
  have hq : 0 ≤ x / y := Int.ediv_nonneg hx.1 (by omega)
  have hq2 : x / y ≤ x := Int.ediv_le_self _ hx.1
  rw [Int64.toInt_div, lz_toInt (by omega), lz_toInt (by omega), lz_toInt (by omega), Int.tdiv_eq_ediv_of_nonneg hx.1, Int.bmod_eq_of_le (by omega) (by omega)]
theorem lz_mod {x y : Int} (hx : 0 ≤ x ∧ x ≤ 9223372036854775807) (hy : 0 < y ∧ y ≤ 9223372036854775807) : lz (x % y) = lz x - lz x / lz y * lz y := by
  rw [← lz_div hx hy, ← lz_mul, ← lz_sub]
  congr 1
  have := Int.emod_add_mul_ediv x y
  rw [Int.mul_comm (x / y) y]; omega
theorem iz_ne0 {y : Int} (hy : 0 < y ∧ y ≤ 2147483647) : ¬ iz y = 0 := by
  intro h; have := congrArg Int32.toInt h; rw [iz_toInt (by omega)] at this; simp at this; omega
theorem lz_ne0 {y : Int} (hy : 0 < y ∧ y ≤ 9223372036854775807) : ¬ lz y = 0 := by
  intro h; have := congrArg Int64.toInt h; rw [lz_toInt (by omega)] at this; simp at this; omega
theorem v_idiv (C : Cx E w cc own nL R0) {x y : Int} (hx : 0 ≤ x ∧ x ≤ 2147483647) (hy : 0 < y ∧ y ≤ 2147483647) (hdg : decode cc pc = .ok (.idiv, 1)) (k : V E w nL m (pc + 1) L (.int (iz (x / y)) :: st)) : V E w nL m pc L (.int (iz y) :: .int (iz x) :: st) := fun H locs d0 ls hd hP hS hl => by
  have k := k H locs d0 ls hd hP hS hl
  rw [iz_div hx hy] at k
  exact lv_idiv C.1 C.2.1 hdg (iz_ne0 hy) k
theorem v_irem (C : Cx E w cc own nL R0) {x y : Int} (hx : 0 ≤ x ∧ x ≤ 2147483647) (hy : 0 < y ∧ y ≤ 2147483647) (hdg : decode cc pc = .ok (.irem, 1)) (k : V E w nL m (pc + 1) L (.int (iz (x % y)) :: st)) : V E w nL m pc L (.int (iz y) :: .int (iz x) :: st) := fun H locs d0 ls hd hP hS hl => by
  have k := k H locs d0 ls hd hP hS hl
  rw [iz_mod hx hy] at k
  exact lv_irem C.1 C.2.1 hdg (iz_ne0 hy) k
theorem v_lrem (C : Cx E w cc own nL R0) {x y : Int} (hx : 0 ≤ x ∧ x ≤ 9223372036854775807) (hy : 0 < y ∧ y ≤ 9223372036854775807) (hdg : decode cc pc = .ok (.lrem, 1)) (k : V E w nL m (pc + 1) L (.long (lz (x % y)) :: st)) : V E w nL m pc L (.long (lz y) :: .long (lz x) :: st) := fun H locs d0 ls hd hP hS hl => by
  have k := k H locs d0 ls hd hP hS hl
  rw [lz_mod hx hy] at k
  exact lv_lrem C.1 C.2.1 hdg (lz_ne0 hy) k
theorem v_iand (C : Cx E w cc own nL R0) {x y z : Int} (hz : iz x &&& iz y = iz z) (hdg : decode cc pc = .ok (.iand, 1)) (k : V E w nL m (pc + 1) L (.int (iz z) :: st)) : V E w nL m pc L (.int (iz y) :: .int (iz x) :: st) := fun H locs d0 ls hd hP hS hl => by
  have k := k H locs d0 ls hd hP hS hl
  exact lv_iand C.1 C.2.1 hdg (hz ▸ k)
theorem v_ishr (C : Cx E w cc own nL R0) {x y z : Int} (hz : iz x >>> (iz y &&& 31) = iz z) (hdg : decode cc pc = .ok (.ishr, 1)) (k : V E w nL m (pc + 1) L (.int (iz z) :: st)) : V E w nL m pc L (.int (iz y) :: .int (iz x) :: st) := fun H locs d0 ls hd hP hS hl => by
  have k := k H locs d0 ls hd hP hS hl
  exact lv_ishr C.1 C.2.1 hdg (hz ▸ k)
theorem v_iushr (C : Cx E w cc own nL R0) {x y z : Int} (hz : ((iz x).toUInt32 >>> ((iz y).toUInt32 &&& Int32.toUInt32 31)).toInt32 = iz z) (hdg : decode cc pc = .ok (.iushr, 1)) (k : V E w nL m (pc + 1) L (.int (iz z) :: st)) : V E w nL m pc L (.int (iz y) :: .int (iz x) :: st) := fun H locs d0 ls hd hP hS hl => by
  have k := k H locs d0 ls hd hP hS hl
  exact lv_iushr C.1 C.2.1 hdg hz k
theorem v_i2b (C : Cx E w cc own nL R0) {x z : Int} (hz : (iz x).toInt8.toInt32 = iz z) (hdg : decode cc pc = .ok (.i2b, 1)) (k : V E w nL m (pc + 1) L (.int (iz z) :: st)) : V E w nL m pc L (.int (iz x) :: st) := fun H locs d0 ls hd hP hS hl => by
  have k := k H locs d0 ls hd hP hS hl
  exact lv_i2b C.1 C.2.1 hdg hz k
theorem iz_l {x : Int} (hx : -2147483648 ≤ x ∧ x ≤ 2147483647) : (iz x).toInt64 = lz x := by
  apply Int64.toInt_inj.mp
  rw [Int32.toInt_toInt64, iz_toInt hx, lz_toInt (by omega)]
theorem lz_i (x : Int) : (lz x).toInt32 = iz x := by
  unfold lz iz; exact Int64.toInt32_ofInt
theorem v_i2l (C : Cx E w cc own nL R0) {x : Int} (hx : -2147483648 ≤ x ∧ x ≤ 2147483647) (hdg : decode cc pc = .ok (.i2l, 1)) (k : V E w nL m (pc + 1) L (.long (lz x) :: st)) : V E w nL m pc L (.int (iz x) :: st) := fun H locs d0 ls hd hP hS hl => by
  have k := k H locs d0 ls hd hP hS hl
  exact lv_i2l C.1 C.2.1 hdg (iz_l hx) k
theorem v_l2i (C : Cx E w cc own nL R0) {x : Int} (hdg : decode cc pc = .ok (.l2i, 1)) (k : V E w nL m (pc + 1) L (.int (iz x) :: st)) : V E w nL m pc L (.long (lz x) :: st) := fun H locs d0 ls hd hP hS hl => by
  have k := k H locs d0 ls hd hP hS hl
  exact lv_l2i C.1 C.2.1 hdg (lz_i x) k
theorem v_land (C : Cx E w cc own nL R0) {x y z : Int} (hz : lz x &&& lz y = lz z) (hdg : decode cc pc = .ok (.land, 1)) (k : V E w nL m (pc + 1) L (.long (lz z) :: st)) : V E w nL m pc L (.long (lz y) :: .long (lz x) :: st) := fun H locs d0 ls hd hP hS hl => by
  have k := k H locs d0 ls hd hP hS hl
  exact lv_land C.1 C.2.1 hdg (hz ▸ k)
theorem v_lor (C : Cx E w cc own nL R0) {x y z : Int} (hz : lz x ||| lz y = lz z) (hdg : decode cc pc = .ok (.lor, 1)) (k : V E w nL m (pc + 1) L (.long (lz z) :: st)) : V E w nL m pc L (.long (lz y) :: .long (lz x) :: st) := fun H locs d0 ls hd hP hS hl => by
  have k := k H locs d0 ls hd hP hS hl
  exact lv_lor C.1 C.2.1 hdg (hz ▸ k)
theorem v_lushr (C : Cx E w cc own nL R0) {x y z : Int} (hz : ((lz x).toUInt64 >>> ((iz y).toInt64.toUInt64 &&& Int64.toUInt64 63)).toInt64 = lz z) (hdg : decode cc pc = .ok (.lushr, 1)) (k : V E w nL m (pc + 1) L (.long (lz z) :: st)) : V E w nL m pc L (.int (iz y) :: .long (lz x) :: st) := fun H locs d0 ls hd hP hS hl => by
  have k := k H locs d0 ls hd hP hS hl
  exact lv_lushr C.1 C.2.1 hdg hz k
theorem v_lshl (C : Cx E w cc own nL R0) {x y z : Int} (hz : lz x <<< ((iz y).toInt64 &&& 63) = lz z) (hdg : decode cc pc = .ok (.lshl, 1)) (k : V E w nL m (pc + 1) L (.long (lz z) :: st)) : V E w nL m pc L (.int (iz y) :: .long (lz x) :: st) := fun H locs d0 ls hd hP hS hl => by
  have k := k H locs d0 ls hd hP hS hl
  exact lv_lshl C.1 C.2.1 hdg hz k
theorem lg_lz {x y : Int} (hx : -9223372036854775808 ≤ x ∧ x ≤ 9223372036854775807) (hy : -9223372036854775808 ≤ y ∧ y ≤ 9223372036854775807) : lg_cmp (lz x) (lz y) = iz (if y < x then 1 else if x = y then 0 else -1) := by
  unfold lg_cmp
  by_cases h1 : y < x
  · rw [if_pos (show lz x > lz y from (lz_lt hy hx).mpr h1), if_pos h1]; rfl
  · rw [if_neg (fun q => h1 ((lz_lt hy hx).mp q)), if_neg h1]
    by_cases h2 : x = y
    · rw [if_pos (by rw [h2]), if_pos h2]; rfl
    · rw [if_neg (fun q => h2 ((lz_eq hx hy).mp q)), if_neg h2]; rfl
theorem v_lcmp (C : Cx E w cc own nL R0) {x y : Int} (hx : -9223372036854775808 ≤ x ∧ x ≤ 9223372036854775807) (hy : -9223372036854775808 ≤ y ∧ y ≤ 9223372036854775807) (hdg : decode cc pc = .ok (.lcmp, 1)) (k : V E w nL m (pc + 1) L (.int (iz (if y < x then 1 else if x = y then 0 else -1)) :: st)) : V E w nL m pc L (.long (lz y) :: .long (lz x) :: st) := fun H locs d0 ls hd hP hS hl => by
  have k := k H locs d0 ls hd hP hS hl
  exact W.lcmp C.1 C.2.1 hdg (lg_lz hx hy ▸ k)
theorem v_dconst1 (C : Cx E w cc own nL R0) (hdg : decode cc pc = .ok (.dconst 1, 1)) (k : V E w nL m (pc + 1) L (.double 4607182418800017408 :: st)) : V E w nL m pc L (st) := fun H locs d0 ls hd hP hS hl => by
  have k := k H locs d0 ls hd hP hS hl
  exact lv_dconst1 C.1 C.2.1 hdg k
theorem v_i2d (C : Cx E w cc own nL R0) {x : Int} (hdg : decode cc pc = .ok (.i2d, 1)) (k : V E w nL m (pc + 1) L (.double (FP.i2d (iz x)) :: st)) : V E w nL m pc L (.int (iz x) :: st) := fun H locs d0 ls hd hP hS hl => by
  have k := k H locs d0 ls hd hP hS hl
  exact lv_i2d C.1 C.2.1 hdg k
theorem v_dcmp (C : Cx E w cc own nL R0) {x y : UInt64} {op : CmpOp} {z : Int} (hz : Op.cmpValue (FP.dcmp x y) op = iz z) (hdg : decode cc pc = .ok (.dcmp op, 1)) (k : V E w nL m (pc + 1) L (.int (iz z) :: st)) : V E w nL m pc L (.double y :: .double x :: st) := fun H locs d0 ls hd hP hS hl => by
  have k := k H locs d0 ls hd hP hS hl
  exact lv_dcmp C.1 C.2.1 hdg (hz ▸ k)
theorem v_dmul (C : Cx E w cc own nL R0) {x y : UInt64} (hdg : decode cc pc = .ok (.dmul, 1)) (k : ∀ r : UInt64, alike64 r (FP.dmul x y) = true → V E w nL m (pc + 1) L (.double r :: st)) : V E w nL m pc L (.double y :: .double x :: st) := fun H locs d0 ls hd hP hS hl => lv_dmul_any hd lw_bits C.1 C.2.1 hdg (fun r d1 ha hd1 => k r ha H locs d1 ls hd1 hP hS hl)
theorem v_ddiv (C : Cx E w cc own nL R0) {x y : UInt64} (hdg : decode cc pc = .ok (.ddiv, 1)) (k : ∀ r : UInt64, alike64 r (FP.ddiv x y) = true → V E w nL m (pc + 1) L (.double r :: st)) : V E w nL m pc L (.double y :: .double x :: st) := fun H locs d0 ls hd hP hS hl => lv_ddiv_any hd lw_bits C.1 C.2.1 hdg (fun r d1 ha hd1 => k r ha H locs d1 ls hd1 hP hS hl)
theorem v_dadd (C : Cx E w cc own nL R0) {x y : UInt64} (hdg : decode cc pc = .ok (.dadd, 1)) (k : ∀ r : UInt64, alike64 r (FP.dadd x y) = true → V E w nL m (pc + 1) L (.double r :: st)) : V E w nL m pc L (.double y :: .double x :: st) := fun H locs d0 ls hd hP hS hl => lv_dadd_any hd lw_bits C.1 C.2.1 hdg (fun r d1 ha hd1 => k r ha H locs d1 ls hd1 hP hS hl)
theorem v_dsub (C : Cx E w cc own nL R0) {x y : UInt64} (hdg : decode cc pc = .ok (.dsub, 1)) (k : ∀ r : UInt64, alike64 r (FP.dsub x y) = true → V E w nL m (pc + 1) L (.double r :: st)) : V E w nL m pc L (.double y :: .double x :: st) := fun H locs d0 ls hd hP hS hl => lv_dsub_any hd lw_bits C.1 C.2.1 hdg (fun r d1 ha hd1 => k r ha H locs d1 ls hd1 hP hS hl)
theorem v_pop (C : Cx E w cc own nL R0) {v : Value} (hdg : decode cc pc = .ok (.pop, 1)) (hv : v.category = 1) (k : V E w nL m (pc + 1) L (st)) : V E w nL m pc L (v :: st) := fun H locs d0 ls hd hP hS hl => by
  have k := k H locs d0 ls hd hP hS hl
  exact lv_pop C.1 C.2.1 hdg hv k
theorem v_dup (C : Cx E w cc own nL R0) {v : Value} (hdg : decode cc pc = .ok (.dup, 1)) (hv : v.category = 1) (k : V E w nL m (pc + 1) L (v :: v :: st)) : V E w nL m pc L (v :: st) := fun H locs d0 ls hd hP hS hl => by
  have k := k H locs d0 ls hd hP hS hl
  exact lv_dup C.1 C.2.1 hdg hv k
theorem v_dup2 (C : Cx E w cc own nL R0) {v u : Value} (hdg : decode cc pc = .ok (.dup2, 1)) (hv : v.category = 1) (hu : u.category = 1) (k : V E w nL m (pc + 1) L (v :: u :: v :: u :: st)) : V E w nL m pc L (v :: u :: st) := fun H locs d0 ls hd hP hS hl => by
  have k := k H locs d0 ls hd hP hS hl
  exact lv_dup2_11 C.1 C.2.1 hdg hv hu k
theorem v_goto (C : Cx E w cc own nL R0) {off : Int} {tgt : Nat} (hdg : decode cc pc = .ok (.goto off, 3)) (ht : (pc : Int) + off = (tgt : Int)) (k : V E w nL m tgt L (st)) : V E w nL m pc L (st) := fun H locs d0 ls hd hP hS hl => by
  have k := k H locs d0 ls hd hP hS hl
  exact lv_goto C.1 C.2.1 hdg ht k
theorem v_ifnull (C : Cx E w cc own nL R0) {x : Nat} {off : Int} (hdg : decode cc pc = .ok (.ifnull off, 3)) (k : V E w nL m (pc + 3) L (st)) : V E w nL m pc L (.ref x :: st) := fun H locs d0 ls hd hP hS hl => by
  have k := k H locs d0 ls hd hP hS hl
  exact lv_ifnull C.1 C.2.1 hdg k
theorem iz_0 : (0 : Int32) = iz 0 := rfl
theorem r0 : (-2147483648 : Int) ≤ 0 ∧ (0 : Int) ≤ 2147483647 := by omega
theorem v_icmp_eq (C : Cx E w cc own nL R0) {x y off : Int} {tgt : Nat} (hdg : decode cc pc = .ok (.if_icmp .eq off, 3)) (ht : (pc : Int) + off = (tgt : Int)) (hx : -2147483648 ≤ x ∧ x ≤ 2147483647) (hy : -2147483648 ≤ y ∧ y ≤ 2147483647) (kt : x = y → V E w nL m tgt L st) (kf : x ≠ y → V E w nL m (pc + 3) L st) : V E w nL m pc L (.int (iz y) :: .int (iz x) :: st) := fun H locs d0 ls hd hP hS hl => lv_icmp_eq C.1 C.2.1 hdg ht (fun h => kt ((iz_eq hx hy).mp h) H locs d0 ls hd hP hS hl) (fun h => kf (fun q => h ((iz_eq hx hy).mpr q)) H locs d0 ls hd hP hS hl)
theorem v_if_eq (C : Cx E w cc own nL R0) {x off : Int} {tgt : Nat} (hdg : decode cc pc = .ok (.ifCond .eq off, 3)) (ht : (pc : Int) + off = (tgt : Int)) (hx : -2147483648 ≤ x ∧ x ≤ 2147483647) (kt : x = 0 → V E w nL m tgt L st) (kf : x ≠ 0 → V E w nL m (pc + 3) L st) : V E w nL m pc L (.int (iz x) :: st) := fun H locs d0 ls hd hP hS hl => lv_if_eq C.1 C.2.1 hdg ht (fun h => kt ((iz_eq hx r0).mp h) H locs d0 ls hd hP hS hl) (fun h => kf (fun q => h ((iz_eq hx r0).mpr q)) H locs d0 ls hd hP hS hl)
theorem v_icmp_ne (C : Cx E w cc own nL R0) {x y off : Int} {tgt : Nat} (hdg : decode cc pc = .ok (.if_icmp .ne off, 3)) (ht : (pc : Int) + off = (tgt : Int)) (hx : -2147483648 ≤ x ∧ x ≤ 2147483647) (hy : -2147483648 ≤ y ∧ y ≤ 2147483647) (kt : x ≠ y → V E w nL m tgt L st) (kf : x = y → V E w nL m (pc + 3) L st) : V E w nL m pc L (.int (iz y) :: .int (iz x) :: st) := fun H locs d0 ls hd hP hS hl => lv_icmp_ne C.1 C.2.1 hdg ht (fun h => kt (fun q => h ((iz_eq hx hy).mpr q)) H locs d0 ls hd hP hS hl) (fun h => kf ((iz_eq hx hy).mp h) H locs d0 ls hd hP hS hl)
theorem v_if_ne (C : Cx E w cc own nL R0) {x off : Int} {tgt : Nat} (hdg : decode cc pc = .ok (.ifCond .ne off, 3)) (ht : (pc : Int) + off = (tgt : Int)) (hx : -2147483648 ≤ x ∧ x ≤ 2147483647) (kt : x ≠ 0 → V E w nL m tgt L st) (kf : x = 0 → V E w nL m (pc + 3) L st) : V E w nL m pc L (.int (iz x) :: st) := fun H locs d0 ls hd hP hS hl => lv_if_ne C.1 C.2.1 hdg ht (fun h => kt (fun q => h ((iz_eq hx r0).mpr q)) H locs d0 ls hd hP hS hl) (fun h => kf ((iz_eq hx r0).mp h) H locs d0 ls hd hP hS hl)
theorem v_icmp_lt (C : Cx E w cc own nL R0) {x y off : Int} {tgt : Nat} (hdg : decode cc pc = .ok (.if_icmp .lt off, 3)) (ht : (pc : Int) + off = (tgt : Int)) (hx : -2147483648 ≤ x ∧ x ≤ 2147483647) (hy : -2147483648 ≤ y ∧ y ≤ 2147483647) (kt : x < y → V E w nL m tgt L st) (kf : y ≤ x → V E w nL m (pc + 3) L st) : V E w nL m pc L (.int (iz y) :: .int (iz x) :: st) := fun H locs d0 ls hd hP hS hl => lv_icmp_lt C.1 C.2.1 hdg ht (fun h => kt ((iz_lt hx hy).mp h) H locs d0 ls hd hP hS hl) (fun h => kf (Int.not_lt.mp (fun q => h ((iz_lt hx hy).mpr q))) H locs d0 ls hd hP hS hl)
theorem v_if_lt (C : Cx E w cc own nL R0) {x off : Int} {tgt : Nat} (hdg : decode cc pc = .ok (.ifCond .lt off, 3)) (ht : (pc : Int) + off = (tgt : Int)) (hx : -2147483648 ≤ x ∧ x ≤ 2147483647) (kt : x < 0 → V E w nL m tgt L st) (kf : 0 ≤ x → V E w nL m (pc + 3) L st) : V E w nL m pc L (.int (iz x) :: st) := fun H locs d0 ls hd hP hS hl => lv_if_lt C.1 C.2.1 hdg ht (fun h => kt ((iz_lt hx r0).mp h) H locs d0 ls hd hP hS hl) (fun h => kf (Int.not_lt.mp (fun q => h ((iz_lt hx r0).mpr q))) H locs d0 ls hd hP hS hl)
theorem v_icmp_ge (C : Cx E w cc own nL R0) {x y off : Int} {tgt : Nat} (hdg : decode cc pc = .ok (.if_icmp .ge off, 3)) (ht : (pc : Int) + off = (tgt : Int)) (hx : -2147483648 ≤ x ∧ x ≤ 2147483647) (hy : -2147483648 ≤ y ∧ y ≤ 2147483647) (kt : y ≤ x → V E w nL m tgt L st) (kf : x < y → V E w nL m (pc + 3) L st) : V E w nL m pc L (.int (iz y) :: .int (iz x) :: st) := fun H locs d0 ls hd hP hS hl => lv_icmp_ge C.1 C.2.1 hdg ht (fun h => kt ((iz_le hy hx).mp h) H locs d0 ls hd hP hS hl) (fun h => kf (Int.not_le.mp (fun q => h ((iz_le hy hx).mpr q))) H locs d0 ls hd hP hS hl)
theorem v_if_ge (C : Cx E w cc own nL R0) {x off : Int} {tgt : Nat} (hdg : decode cc pc = .ok (.ifCond .ge off, 3)) (ht : (pc : Int) + off = (tgt : Int)) (hx : -2147483648 ≤ x ∧ x ≤ 2147483647) (kt : 0 ≤ x → V E w nL m tgt L st) (kf : x < 0 → V E w nL m (pc + 3) L st) : V E w nL m pc L (.int (iz x) :: st) := fun H locs d0 ls hd hP hS hl => lv_if_ge C.1 C.2.1 hdg ht (fun h => kt ((iz_le r0 hx).mp h) H locs d0 ls hd hP hS hl) (fun h => kf (Int.not_le.mp (fun q => h ((iz_le r0 hx).mpr q))) H locs d0 ls hd hP hS hl)
theorem v_icmp_gt (C : Cx E w cc own nL R0) {x y off : Int} {tgt : Nat} (hdg : decode cc pc = .ok (.if_icmp .gt off, 3)) (ht : (pc : Int) + off = (tgt : Int)) (hx : -2147483648 ≤ x ∧ x ≤ 2147483647) (hy : -2147483648 ≤ y ∧ y ≤ 2147483647) (kt : y < x → V E w nL m tgt L st) (kf : x ≤ y → V E w nL m (pc + 3) L st) : V E w nL m pc L (.int (iz y) :: .int (iz x) :: st) := fun H locs d0 ls hd hP hS hl => lv_icmp_gt C.1 C.2.1 hdg ht (fun h => kt ((iz_lt hy hx).mp h) H locs d0 ls hd hP hS hl) (fun h => kf (Int.not_lt.mp (fun q => h ((iz_lt hy hx).mpr q))) H locs d0 ls hd hP hS hl)
theorem v_if_gt (C : Cx E w cc own nL R0) {x off : Int} {tgt : Nat} (hdg : decode cc pc = .ok (.ifCond .gt off, 3)) (ht : (pc : Int) + off = (tgt : Int)) (hx : -2147483648 ≤ x ∧ x ≤ 2147483647) (kt : 0 < x → V E w nL m tgt L st) (kf : x ≤ 0 → V E w nL m (pc + 3) L st) : V E w nL m pc L (.int (iz x) :: st) := fun H locs d0 ls hd hP hS hl => lv_if_gt C.1 C.2.1 hdg ht (fun h => kt ((iz_lt r0 hx).mp h) H locs d0 ls hd hP hS hl) (fun h => kf (Int.not_lt.mp (fun q => h ((iz_lt r0 hx).mpr q))) H locs d0 ls hd hP hS hl)
theorem v_icmp_le (C : Cx E w cc own nL R0) {x y off : Int} {tgt : Nat} (hdg : decode cc pc = .ok (.if_icmp .le off, 3)) (ht : (pc : Int) + off = (tgt : Int)) (hx : -2147483648 ≤ x ∧ x ≤ 2147483647) (hy : -2147483648 ≤ y ∧ y ≤ 2147483647) (kt : x ≤ y → V E w nL m tgt L st) (kf : y < x → V E w nL m (pc + 3) L st) : V E w nL m pc L (.int (iz y) :: .int (iz x) :: st) := fun H locs d0 ls hd hP hS hl => lv_icmp_le C.1 C.2.1 hdg ht (fun h => kt ((iz_le hx hy).mp h) H locs d0 ls hd hP hS hl) (fun h => kf (Int.not_le.mp (fun q => h ((iz_le hx hy).mpr q))) H locs d0 ls hd hP hS hl)
theorem v_if_le (C : Cx E w cc own nL R0) {x off : Int} {tgt : Nat} (hdg : decode cc pc = .ok (.ifCond .le off, 3)) (ht : (pc : Int) + off = (tgt : Int)) (hx : -2147483648 ≤ x ∧ x ≤ 2147483647) (kt : x ≤ 0 → V E w nL m tgt L st) (kf : 0 < x → V E w nL m (pc + 3) L st) : V E w nL m pc L (.int (iz x) :: st) := fun H locs d0 ls hd hP hS hl => lv_if_le C.1 C.2.1 hdg ht (fun h => kt ((iz_le hx r0).mp h) H locs d0 ls hd hP hS hl) (fun h => kf (Int.not_le.mp (fun q => h ((iz_le hx r0).mpr q))) H locs d0 ls hd hP hS hl)
theorem v_lc_eq (C : Cx E w cc own nL R0) {x y off : Int} {tgt : Nat} (hdg : decode cc pc = .ok (.lcmp, 1)) (hdg2 : decode cc (pc + 1) = .ok (.ifCond .eq off, 3)) (ht : ((pc + 1 : Nat) : Int) + off = (tgt : Int)) (hx : -9223372036854775808 ≤ x ∧ x ≤ 9223372036854775807) (hy : -9223372036854775808 ≤ y ∧ y ≤ 9223372036854775807) (kt : x = y → V E w nL m tgt L st) (kf : x ≠ y → V E w nL m (pc + 1 + 3) L st) : V E w nL m pc L (.long (lz y) :: .long (lz x) :: st) :=
  v_lcmp C hx hy hdg (v_if_eq C hdg2 ht (by split <;> (try split) <;> omega) (fun h => kt (by split at h <;> (try split at h) <;> omega)) (fun h => kf (by split at h <;> (try split at h) <;> omega)))
theorem v_lc_ne (C : Cx E w cc own nL R0) {x y off : Int} {tgt : Nat} (hdg : decode cc pc = .ok (.lcmp, 1)) (hdg2 : decode cc (pc + 1) = .ok (.ifCond .ne off, 3)) (ht : ((pc + 1 : Nat) : Int) + off = (tgt : Int)) (hx : -9223372036854775808 ≤ x ∧ x ≤ 9223372036854775807) (hy : -9223372036854775808 ≤ y ∧ y ≤ 9223372036854775807) (kt : x ≠ y → V E w nL m tgt L st) (kf : x = y → V E w nL m (pc + 1 + 3) L st) : V E w nL m pc L (.long (lz y) :: .long (lz x) :: st) :=
  v_lcmp C hx hy hdg (v_if_ne C hdg2 ht (by split <;> (try split) <;> omega) (fun h => kt (by split at h <;> (try split at h) <;> omega)) (fun h => kf (by split at h <;> (try split at h) <;> omega)))
theorem v_lc_le (C : Cx E w cc own nL R0) {x y off : Int} {tgt : Nat} (hdg : decode cc pc = .ok (.lcmp, 1)) (hdg2 : decode cc (pc + 1) = .ok (.ifCond .le off, 3)) (ht : ((pc + 1 : Nat) : Int) + off = (tgt : Int)) (hx : -9223372036854775808 ≤ x ∧ x ≤ 9223372036854775807) (hy : -9223372036854775808 ≤ y ∧ y ≤ 9223372036854775807) (kt : x ≤ y → V E w nL m tgt L st) (kf : y < x → V E w nL m (pc + 1 + 3) L st) : V E w nL m pc L (.long (lz y) :: .long (lz x) :: st) :=
  v_lcmp C hx hy hdg (v_if_le C hdg2 ht (by split <;> (try split) <;> omega) (fun h => kt (by split at h <;> (try split at h) <;> omega)) (fun h => kf (by split at h <;> (try split at h) <;> omega)))
theorem v_lc_gt (C : Cx E w cc own nL R0) {x y off : Int} {tgt : Nat} (hdg : decode cc pc = .ok (.lcmp, 1)) (hdg2 : decode cc (pc + 1) = .ok (.ifCond .gt off, 3)) (ht : ((pc + 1 : Nat) : Int) + off = (tgt : Int)) (hx : -9223372036854775808 ≤ x ∧ x ≤ 9223372036854775807) (hy : -9223372036854775808 ≤ y ∧ y ≤ 9223372036854775807) (kt : y < x → V E w nL m tgt L st) (kf : x ≤ y → V E w nL m (pc + 1 + 3) L st) : V E w nL m pc L (.long (lz y) :: .long (lz x) :: st) :=
  v_lcmp C hx hy hdg (v_if_gt C hdg2 ht (by split <;> (try split) <;> omega) (fun h => kt (by split at h <;> (try split at h) <;> omega)) (fun h => kf (by split at h <;> (try split at h) <;> omega)))
theorem v_lc_lt (C : Cx E w cc own nL R0) {x y off : Int} {tgt : Nat} (hdg : decode cc pc = .ok (.lcmp, 1)) (hdg2 : decode cc (pc + 1) = .ok (.ifCond .lt off, 3)) (ht : ((pc + 1 : Nat) : Int) + off = (tgt : Int)) (hx : -9223372036854775808 ≤ x ∧ x ≤ 9223372036854775807) (hy : -9223372036854775808 ≤ y ∧ y ≤ 9223372036854775807) (kt : x < y → V E w nL m tgt L st) (kf : y ≤ x → V E w nL m (pc + 1 + 3) L st) : V E w nL m pc L (.long (lz y) :: .long (lz x) :: st) :=
  v_lcmp C hx hy hdg (v_if_lt C hdg2 ht (by split <;> (try split) <;> omega) (fun h => kt (by split at h <;> (try split at h) <;> omega)) (fun h => kf (by split at h <;> (try split at h) <;> omega)))
theorem v_lc_ge (C : Cx E w cc own nL R0) {x y off : Int} {tgt : Nat} (hdg : decode cc pc = .ok (.lcmp, 1)) (hdg2 : decode cc (pc + 1) = .ok (.ifCond .ge off, 3)) (ht : ((pc + 1 : Nat) : Int) + off = (tgt : Int)) (hx : -9223372036854775808 ≤ x ∧ x ≤ 9223372036854775807) (hy : -9223372036854775808 ≤ y ∧ y ≤ 9223372036854775807) (kt : y ≤ x → V E w nL m tgt L st) (kf : x < y → V E w nL m (pc + 1 + 3) L st) : V E w nL m pc L (.long (lz y) :: .long (lz x) :: st) :=
  v_lcmp C hx hy hdg (v_if_ge C hdg2 ht (by split <;> (try split) <;> omega) (fun h => kt (by split at h <;> (try split at h) <;> omega)) (fun h => kf (by split at h <;> (try split at h) <;> omega)))
theorem v_table (C : Cx E w cc own nL R0) {dflt lo hi : Int} {offs : Array Int} {len : Nat} {x : Int} (hdg : decode cc pc = .ok (.tableswitch dflt lo hi offs, len)) (hx : -2147483648 ≤ x ∧ x ≤ 2147483647) (kout : ∀ tgt : Nat, (pc : Int) + dflt = (tgt : Int) → (x < lo ∨ hi < x) → V E w nL m tgt L st) (kin : ∀ (tgt : Nat) (off : Int), lo ≤ x → x ≤ hi → offs[(x - lo).toNat]? = some off → (pc : Int) + off = (tgt : Int) → V E w nL m tgt L st) (hd2 : ∃ tgt : Nat, (pc : Int) + dflt = (tgt : Int)) (hi2 : lo ≤ x → x ≤ hi → ∃ (tgt : Nat) (off : Int), offs[(x - lo).toNat]? = some off ∧ (pc : Int) + off = (tgt : Int)) : V E w nL m pc L (.int (iz x) :: st) := fun H locs d0 ls hd hP hS hl => by
  by_cases h1 : x < lo
  · obtain ⟨tgt, ht⟩ := hd2
    exact lv_tableOut C.1 C.2.1 hdg (by rw [iz_toInt hx]; exact Or.inl h1) ht (kout tgt ht (Or.inl h1) H locs d0 ls hd hP hS hl)
  · by_cases h2 : hi < x
    · obtain ⟨tgt, ht⟩ := hd2
      exact lv_tableOut C.1 C.2.1 hdg (by rw [iz_toInt hx]; exact Or.inr h2) ht (kout tgt ht (Or.inr h2) H locs d0 ls hd hP hS hl)
    · obtain ⟨tgt, off, ho, ht⟩ := hi2 (by omega) (by omega)
      exact lv_tableIn C.1 C.2.1 hdg (by rw [iz_toInt hx]; exact h1) (by rw [iz_toInt hx]; exact h2) (by rw [iz_toInt hx]; exact ho) ht (kin tgt off (by omega) (by omega) ho ht H locs d0 ls hd hP hS hl)
theorem v_get (C : Cx E w cc own nL R0) {Cn : String} {T : u_T} {N ci index : Nat} {fs : List Value} (q : Nat) (j : Nat) (hq : q < w.2.2.2.1) (he : wE w q (m q) = .inr (ci, fs)) (hc : clsAll[ci]? = some (Cn, T, N)) (hin : ∀ y ∈ u_ws Cn T N, y ∈ lw_gd) (hj : j < N) {v : Value} (hv : fs[j]? = some v) (hlk : Cond.fieldLink own index (T j).1 (T j).2.1 (T j).2.2.1 ∈ lw_gd) (hdg : decode cc pc = .ok (.getfield index, 3)) (k : V E w nL m (pc + 3) L (v :: st)) : V E w nL m pc L (.ref (w.2.2.1 q) :: st) := fun H locs d0 ls hd hP hS hl =>
  va_get (D := w.1) (cl := clsAll) (tys := wT w) C.1 C.2.1 (dr_words C.2.2.2.2.1 d0) hin C.2.2.2.1 C.2.2.2.2.2.1 hP q (by rw [wG_get hq, he]) hc j hj (dr_words C.2.2.2.2.1 d0 _ hlk) (fun _ h => h) hv hdg (k H locs d0 ls hd hP hS hl)
theorem v_put (C : Cx E w cc own nL R0) {Cn : String} {T : u_T} {N ci index : Nat} {fs : List Value} (q : Nat) (j : Nat) (vj jz : Int) (hjz : (j : Int) = jz) (hq : q < w.2.2.2.1) (he : wE w q (m q) = .inr (ci, fs)) (hc : clsAll[ci]? = some (Cn, T, N)) (hin : ∀ y ∈ u_ws Cn T N, y ∈ lw_gd) (ty0 : Nat → FieldType) (hty : ∀ k, k < N → parseFieldDescriptor (T k).2.2.1 = some (ty0 k)) (hnm : ∀ a, a < N → ∀ b, b < N → a ≠ b → (T a).2.1 ≠ (T b).2.1) (hj : j < N) {v : Value} (hlk : Cond.fieldLink own index (T j).1 (T j).2.1 (T j).2.2.1 ∈ lw_gd) (hfin : (T j).2.2.2 = false) (hn : narrow (ty0 j) v = v) (hfit : fits (ty0 j) v = true) (hl2 : j < fs.length) (hset : wE w q (mup m q jz vj q) = .inr (ci, fs.set j v)) (hdg : decode cc pc = .ok (.putfield index, 3)) (k : ∀ m1 : Mem, m1 = mup m q jz vj → V E w nL m1 (pc + 3) L st) : V E w nL m pc L (v :: .ref (w.2.2.1 q) :: st) := fun H locs d0 ls hd hP hS hl =>
  va_put (D := w.1) (cl := clsAll) (tys := wT w) (A := wA w E.2.2.2.2.1.heap.size) C.1 C.2.1 (dr_words C.2.2.2.2.1 d0) hin ty0 hty hnm C.2.2.2.1 C.2.2.2.2.2.1 hP (wD C.2.2.2.2.2.2.1 _ m) hS q (by rw [wG_get hq, he]) hc j hj (dr_words C.2.2.2.2.1 d0 _ hlk) (fun _ h => h) hfin (hty j hj) hn hfit hl2 hdg
    (fun H1 locs1 hP1 hD1 hS1 => k _ rfl H1 locs1 d0 ls hd (by rw [wG_set hq hset] at hP1; exact hP1) hS1 hl)
theorem v_iald (C : Cx E w cc own nL R0) {n : Nat} {z : Int} (q : Nat) (hq : q < w.2.2.2.1) (he : wE w q (m q) = eI w.2.1 n (m q)) (hn : n < 2147483648) (hz : 0 ≤ z ∧ z < n) (hdg : decode cc pc = .ok (.iaload, 1)) (k : V E w nL m (pc + 1) L (.int (iz (m q z)) :: st)) : V E w nL m pc L (.int (iz z) :: .ref (w.2.2.1 q) :: st) := fun H locs d0 ls hd hP hS hl => by
  have k := k H locs d0 ls hd hP hS hl
  refine va_iald (s := E.2.2.2.2.1.setDrawn d0) (D := w.1) (cl := clsAll) (tys := wT w) C.1 C.2.1 C.2.2.2.2.2.1 hP q 0 (n := n) (f := fun j => iz (m q (j : Int))) (by rw [wG_get hq, he]) rfl (iz_in hz.1 hz.2 hn) hdg ?_
  rw [iz_clamp hz.1 (by omega), Int.toNat_of_nonneg hz.1]
  exact k
theorem v_iast (C : Cx E w cc own nL R0) {n : Nat} {z v : Int} (q : Nat) (hq : q < w.2.2.2.1) (he : ∀ r, wE w q r = eI w.2.1 n r) (hn : n < 2147483648) (hz : 0 ≤ z ∧ z < n) (hdg : decode cc pc = .ok (.iastore, 1)) (k : ∀ m1 : Mem, m1 = mup m q z v → V E w nL m1 (pc + 1) L st) : V E w nL m pc L (.int (iz v) :: .int (iz z) :: .ref (w.2.2.1 q) :: st) := fun H locs d0 ls hd hP hS hl => by
  refine va_iast (s := E.2.2.2.2.1.setDrawn d0) (D := w.1) (cl := clsAll) (tys := wT w) (A := wA w E.2.2.2.2.1.heap.size) C.1 C.2.1 C.2.2.2.2.2.1 hP (wD C.2.2.2.2.2.2.1 _ m) hS q 0 (n := n) (f := fun j => iz (m q (j : Int))) (by rw [wG_get hq, he]) rfl (iz_in hz.1 hz.2 hn) hdg (fun H1 locs1 hP1 hD1 hS1 => k _ rfl H1 locs1 d0 ls hd ?_ hS1 hl)
  have hs : wE w q (mup m q z v q) = .inl (w.2.1 0, n, .inl (upd (fun j => iz (m q (j : Int))) (iz z).toNatClampNeg (iz v))) := by
    rw [he, mup_r]
    refine congrArg (fun f => (Sum.inl (w.2.1 0, n, Sum.inl f) : va_E)) (funext fun j => ?_)
    rw [iz_clamp hz.1 (by omega)]
    show iz (if (j : Int) = z then v else m q (j : Int)) = ite _ _ _
    by_cases h : (j : Int) = z
    · rw [if_pos (by omega : j = z.toNat), if_pos h]
    · rw [if_neg (by omega : ¬ j = z.toNat), if_neg h]
  rw [wG_set hq hs] at hP1
  exact hP1
theorem v_bald (C : Cx E w cc own nL R0) {n : Nat} {z : Int} (q : Nat) (hq : q < w.2.2.2.1) (he : wE w q (m q) = eB w.2.1 n (m q)) (hn : n < 2147483648) (hz : 0 ≤ z ∧ z < n) (hdg : decode cc pc = .ok (.baload, 1)) (k : V E w nL m (pc + 1) L (.int (iz (m q z)) :: st)) : V E w nL m pc L (.int (iz z) :: .ref (w.2.2.1 q) :: st) := fun H locs d0 ls hd hP hS hl => by
  have k := k H locs d0 ls hd hP hS hl
  refine va_bald (s := E.2.2.2.2.1.setDrawn d0) (D := w.1) (cl := clsAll) (tys := wT w) C.1 C.2.1 C.2.2.2.2.2.1 hP q 2 (n := n) (f := fun j => iz (m q (j : Int))) (by rw [wG_get hq, he]) rfl (iz_in hz.1 hz.2 hn) hdg ?_
  rw [iz_clamp hz.1 (by omega), Int.toNat_of_nonneg hz.1]
  exact k
theorem v_bast (C : Cx E w cc own nL R0) {n : Nat} {z v : Int} (q : Nat) (hq : q < w.2.2.2.1) (he : ∀ r, wE w q r = eB w.2.1 n r) (hn : n < 2147483648) (hz : 0 ≤ z ∧ z < n) (hv : vp_nar .byte (iz v) = iz v) (hdg : decode cc pc = .ok (.bastore, 1)) (k : ∀ m1 : Mem, m1 = mup m q z v → V E w nL m1 (pc + 1) L st) : V E w nL m pc L (.int (iz v) :: .int (iz z) :: .ref (w.2.2.1 q) :: st) := fun H locs d0 ls hd hP hS hl => by
  refine va_bast (s := E.2.2.2.2.1.setDrawn d0) (D := w.1) (cl := clsAll) (tys := wT w) (A := wA w E.2.2.2.2.1.heap.size) C.1 C.2.1 C.2.2.2.2.2.1 hP (wD C.2.2.2.2.2.2.1 _ m) hS q 2 (n := n) (f := fun j => iz (m q (j : Int))) (by rw [wG_get hq, he]) rfl (iz_in hz.1 hz.2 hn) hdg (fun H1 locs1 hP1 hD1 hS1 => k _ rfl H1 locs1 d0 ls hd ?_ hS1 hl)
  have hs : wE w q (mup m q z v q) = .inl (w.2.1 2, n, .inl (upd (fun j => iz (m q (j : Int))) (iz z).toNatClampNeg (vp_nar .byte (iz v)))) := by
    rw [he, mup_r]
    refine congrArg (fun f => (Sum.inl (w.2.1 2, n, Sum.inl f) : va_E)) (funext fun j => ?_)
    rw [iz_clamp hz.1 (by omega)]
    show iz (if (j : Int) = z then v else m q (j : Int)) = ite _ _ _
    by_cases h : (j : Int) = z
    · rw [if_pos (by omega : j = z.toNat), if_pos h]; exact hv.symm
    · rw [if_neg (by omega : ¬ j = z.toNat), if_neg h]
  rw [wG_set hq hs] at hP1
  exact hP1
theorem v_zald (C : Cx E w cc own nL R0) {n : Nat} {z : Int} (q : Nat) (hq : q < w.2.2.2.1) (he : wE w q (m q) = eZ w.2.1 n (m q)) (hn : n < 2147483648) (hz : 0 ≤ z ∧ z < n) (hdg : decode cc pc = .ok (.baload, 1)) (k : V E w nL m (pc + 1) L (.int (iz (m q z)) :: st)) : V E w nL m pc L (.int (iz z) :: .ref (w.2.2.1 q) :: st) := fun H locs d0 ls hd hP hS hl => by
  have k := k H locs d0 ls hd hP hS hl
  refine va_zald (s := E.2.2.2.2.1.setDrawn d0) (D := w.1) (cl := clsAll) (tys := wT w) C.1 C.2.1 C.2.2.2.2.2.1 hP q 3 (n := n) (f := fun j => iz (m q (j : Int))) (by rw [wG_get hq, he]) rfl (iz_in hz.1 hz.2 hn) hdg ?_
  rw [iz_clamp hz.1 (by omega), Int.toNat_of_nonneg hz.1]
  exact k
theorem v_zast (C : Cx E w cc own nL R0) {n : Nat} {z v : Int} (q : Nat) (hq : q < w.2.2.2.1) (he : ∀ r, wE w q r = eZ w.2.1 n r) (hn : n < 2147483648) (hz : 0 ≤ z ∧ z < n) (hv : vp_nar .boolean (iz v) = iz v) (hdg : decode cc pc = .ok (.bastore, 1)) (k : ∀ m1 : Mem, m1 = mup m q z v → V E w nL m1 (pc + 1) L st) : V E w nL m pc L (.int (iz v) :: .int (iz z) :: .ref (w.2.2.1 q) :: st) := fun H locs d0 ls hd hP hS hl => by
  refine va_zast (s := E.2.2.2.2.1.setDrawn d0) (D := w.1) (cl := clsAll) (tys := wT w) (A := wA w E.2.2.2.2.1.heap.size) C.1 C.2.1 C.2.2.2.2.2.1 hP (wD C.2.2.2.2.2.2.1 _ m) hS q 3 (n := n) (f := fun j => iz (m q (j : Int))) (by rw [wG_get hq, he]) rfl (iz_in hz.1 hz.2 hn) hdg (fun H1 locs1 hP1 hD1 hS1 => k _ rfl H1 locs1 d0 ls hd ?_ hS1 hl)
  have hs : wE w q (mup m q z v q) = .inl (w.2.1 3, n, .inl (upd (fun j => iz (m q (j : Int))) (iz z).toNatClampNeg (vp_nar .boolean (iz v)))) := by
    rw [he, mup_r]
    refine congrArg (fun f => (Sum.inl (w.2.1 3, n, Sum.inl f) : va_E)) (funext fun j => ?_)
    rw [iz_clamp hz.1 (by omega)]
    show iz (if (j : Int) = z then v else m q (j : Int)) = ite _ _ _
    by_cases h : (j : Int) = z
    · rw [if_pos (by omega : j = z.toNat), if_pos h]; exact hv.symm
    · rw [if_neg (by omega : ¬ j = z.toNat), if_neg h]
  rw [wG_set hq hs] at hP1
  exact hP1
theorem v_lald (C : Cx E w cc own nL R0) {n : Nat} {z : Int} (q : Nat) (hq : q < w.2.2.2.1) (he : wE w q (m q) = eL w.2.1 n (m q)) (hn : n < 2147483648) (hz : 0 ≤ z ∧ z < n) (hdg : decode cc pc = .ok (.laload, 1)) (k : V E w nL m (pc + 1) L (.long (lz (m q z)) :: st)) : V E w nL m pc L (.int (iz z) :: .ref (w.2.2.1 q) :: st) := fun H locs d0 ls hd hP hS hl => by
  have k := k H locs d0 ls hd hP hS hl
  refine va_lald (s := E.2.2.2.2.1.setDrawn d0) (D := w.1) (cl := clsAll) (tys := wT w) C.1 C.2.1 C.2.2.2.2.2.1 hP q 1 (n := n) (f := fun j => lz (m q (j : Int))) (by rw [wG_get hq, he]) rfl (iz_in hz.1 hz.2 hn) hdg ?_
  rw [iz_clamp hz.1 (by omega), Int.toNat_of_nonneg hz.1]
  exact k
theorem v_last (C : Cx E w cc own nL R0) {n : Nat} {z v : Int} (q : Nat) (hq : q < w.2.2.2.1) (he : ∀ r, wE w q r = eL w.2.1 n r) (hn : n < 2147483648) (hz : 0 ≤ z ∧ z < n) (hdg : decode cc pc = .ok (.lastore, 1)) (k : ∀ m1 : Mem, m1 = mup m q z v → V E w nL m1 (pc + 1) L st) : V E w nL m pc L (.long (lz v) :: .int (iz z) :: .ref (w.2.2.1 q) :: st) := fun H locs d0 ls hd hP hS hl => by
  refine va_last (s := E.2.2.2.2.1.setDrawn d0) (D := w.1) (cl := clsAll) (tys := wT w) (A := wA w E.2.2.2.2.1.heap.size) C.1 C.2.1 C.2.2.2.2.2.1 hP (wD C.2.2.2.2.2.2.1 _ m) hS q 1 (n := n) (f := fun j => lz (m q (j : Int))) (by rw [wG_get hq, he]) rfl (iz_in hz.1 hz.2 hn) hdg (fun H1 locs1 hP1 hD1 hS1 => k _ rfl H1 locs1 d0 ls hd ?_ hS1 hl)
  have hs : wE w q (mup m q z v q) = .inl (w.2.1 1, n, .inr (.inl (vp_updL (fun j => lz (m q (j : Int))) (iz z).toNatClampNeg (lz v)))) := by
    rw [he, mup_r]
    refine congrArg (fun f => (Sum.inl (w.2.1 1, n, Sum.inr (Sum.inl f)) : va_E)) (funext fun j => ?_)
    rw [iz_clamp hz.1 (by omega)]
    show lz (if (j : Int) = z then v else m q (j : Int)) = ite _ _ _
    by_cases h : (j : Int) = z
    · rw [if_pos (by omega : j = z.toNat), if_pos h]
    · rw [if_neg (by omega : ¬ j = z.toNat), if_neg h]
  rw [wG_set hq hs] at hP1
  exact hP1
theorem v_alen (C : Cx E w cc own nL R0) {n : Nat} {x : (Nat → Int32) ⊕ (Nat → Int64) ⊕ (Nat → UInt32) ⊕ (Nat → UInt64) ⊕ (Nat → Option Nat)} {cA : ClassId} {ty : FieldType} (q t0 : Nat) (hq : q < w.2.2.2.1) (he : wE w q (m q) = .inl (cA, n, x)) (ht : (wT w)[t0]? = some (cA, ty)) (hdg : decode cc pc = .ok (.arraylength, 1)) (k : V E w nL m (pc + 1) L (.int (iz (n : Int)) :: st)) : V E w nL m pc L (.ref (w.2.2.1 q) :: st) := fun H locs d0 ls hd hP hS hl =>
  va_alen (s := E.2.2.2.2.1.setDrawn d0) (D := w.1) (cl := clsAll) (tys := wT w) (x := (n, x)) C.1 C.2.1 C.2.2.2.2.2.1 hP q t0 (by rw [wG_get hq, he]) ht (by show Int32.ofNat n = iz (n : Int); unfold iz; exact (Int32.ofInt_eq_ofNat).symm) hdg (k H locs d0 ls hd hP hS hl)
theorem v_iret (C : Cx E w cc own nL R0) {Post : Option Value → Mem → Prop} {v : Int} {ty : FieldType} (X : Rx E w (some ty) Post) (hn : narrow ty (.int (iz v)) = .int (iz v)) (hdg : decode cc pc = .ok (.ireturn, 1)) (hpost : Post (some (.int (iz v))) m) : V E w nL m pc L [.int (iz v)] := fun H locs d0 ls hd hP hS hl => by
  obtain ⟨hr, hlk, hQ⟩ := X
  rw [hQ]
  refine W.endD hd ?_
  exact W.zret C.1 C.2.1 hr hn (fun t ht hW => ⟨⟨_, m, rfl, hpost, by rw [ht]; exact hP⟩, hS.F ht⟩) hS.2.2 hdg hlk
theorem v_lret (C : Cx E w cc own nL R0) {Post : Option Value → Mem → Prop} {v : Int} (X : Rx E w (some .long) Post) (hdg : decode cc pc = .ok (.lreturn, 1)) (hpost : Post (some (.long (lz v))) m) : V E w nL m pc L [.long (lz v)] := fun H locs d0 ls hd hP hS hl => by
  obtain ⟨hr, hlk, hQ⟩ := X
  rw [hQ]
  refine W.endD hd ?_
  exact W.lret C.1 C.2.1 hr (fun t ht hW => ⟨⟨_, m, rfl, hpost, by rw [ht]; exact hP⟩, hS.F ht⟩) hS.2.2 hdg hlk
theorem v_dret (C : Cx E w cc own nL R0) {Post : Option Value → Mem → Prop} {v : UInt64} (X : Rx E w (some .double) Post) (hdg : decode cc pc = .ok (.dreturn, 1)) (hpost : Post (some (.double v)) m) : V E w nL m pc L [.double v] := fun H locs d0 ls hd hP hS hl => by
  obtain ⟨hr, hlk, hQ⟩ := X
  rw [hQ]
  refine W.endD hd ?_
  exact W.dret C.1 C.2.1 hr (fun t ht hW => ⟨⟨_, m, rfl, hpost, by rw [ht]; exact hP⟩, hS.F ht⟩) hS.2.2 hdg hlk
theorem v_vret (C : Cx E w cc own nL R0) {Post : Option Value → Mem → Prop}  (X : Rx E w none Post) (hdg : decode cc pc = .ok (.return_, 1)) (hpost : Post none m) : V E w nL m pc L [] := fun H locs d0 ls hd hP hS hl => by
  obtain ⟨hr, hlk, hQ⟩ := X
  rw [hQ]
  refine W.endD hd ?_
  exact W.vret C.1 C.2.1 hr (fun t ht hW => ⟨⟨_, m, rfl, hpost, by rw [ht]; exact hP⟩, hS.F ht⟩) hS.2.2 hdg hlk
theorem v_aret (C : Cx E w cc own nL R0) {Post : Option Value → Mem → Prop} {v : Nat} {ty : FieldType} (X : Rx E w (some ty) Post) (hty : (∃ n, ty = .object n) ∨ ∃ t, ty = .array t) (hdg : decode cc pc = .ok (.areturn, 1)) (hpost : Post (some (.ref v)) m) : V E w nL m pc L [.ref v] := fun H locs d0 ls hd hP hS hl => by
  obtain ⟨hr, hlk, hQ⟩ := X
  rw [hQ]
  refine W.endD hd ?_
  exact W.aret C.1 C.2.1 hr hty (Or.inr ⟨v, rfl⟩) (fun t ht hW => ⟨⟨_, m, rfl, hpost, by rw [ht]; exact hP⟩, hS.F ht⟩) hS.2.2 hdg hlk
theorem v_mem {m1 : Mem} (h : m = m1) (k : V E w nL m1 pc L st) : V E w nL m pc L st := h ▸ k
theorem v_sub {L1 : List (Nat × Value)} (ks : List Nat) (hL : lv_pick L ks = L1) (k : V E w nL m pc L1 st) : V E w nL m pc L st := fun H locs d0 ls hd hP hS hl => k H locs d0 ls hd hP hS (lv_sub hl ks hL)
theorem v_st {st1 : List Value} (h : st = st1) (k : V E w nL m pc L st1) : V E w nL m pc L st := h ▸ k
end VR
