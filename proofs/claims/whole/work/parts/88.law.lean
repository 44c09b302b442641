/-! the law: both worlds and its own row of one long side by side; the judgement VQ, its rows -/
abbrev Lw : Type := va_G × (Nat → ClassId) × (Nat → Nat) × (Nat → Nat) × (Nat → Nat) × Nat
abbrev Lw.C (zl : Lw) : Wd := wC zl.1 zl.2.1 zl.2.2.1 zl.2.2.2.2.1
abbrev Lw.R (zl : Lw) : Wd := wR zl.1 zl.2.1 zl.2.2.2.1 zl.2.2.2.2.1
abbrev Lw.o (zl : Lw) : Nat := zl.2.2.2.2.2
abbrev Mq : Type := Mem × Mem × (Nat → Int64)
def VQ (E : Amb) (zl : Lw) (ce sl : Nat) (m : Mq) (pc : Nat) (L : List (Nat × Value)) (st : List Value) : Prop :=
  ∀ (H : Heap) (locs : List Loc) (d0 : Drawn) (ls : Array Slot), E.2.2.2.2.1.drawn.sameBut d0 lw_cs → (va_P zl.1 clsAll (wG zl.C m.1) H ∧ va_P zl.1 clsAll (wG zl.R m.2.1) H ∧ va_P zl.1 clsAll [(zl.o, eO zl.2.1 m.2.2)] H) → va_S (fun q => E.2.2.2.2.1.heap.size ≤ q) E.2.2.2.2.1.heap H locs → lv_has ls 7 L →
    W E.1 E.2.1 E.2.2.1 E.2.2.2.1 (E.2.2.2.2.1.setDrawn d0) E.2.2.2.2.2.1 E.2.2.2.2.2.2.1 E.2.2.2.2.2.2.2.1 E.2.2.2.2.2.2.2.2.1 E.2.2.2.2.2.2.2.2.2.1 H locs ce sl E.2.2.2.2.2.2.2.2.2.2 (F0 E.2.2.2.2.2.1 pc ls st)
/-- what stays the same along the law -/
def CQx (E : Amb) (zl : Lw) (b Ln : Nat) (xs : Nat → Int32) (cc : ByteArray) : Prop :=
  E.1.tables.exec = Jvm.exec ∧ E.2.2.2.2.2.2.2.2.2.1.code = cc ∧ E.2.2.2.2.2.2.2.2.2.1.maxLocals = 7 ∧ E.2.2.2.2.1.vm.findClass "StageRatiosLaw" = some E.2.2.2.2.2.1.cls ∧ (∀ q ∈ lw_gd, q.before E.2.2.2.2.2.2.1 E.2.2.2.2.1 = true) ∧ va_K zl.1 clsAll (tyB zl.2.1) E.2.2.2.2.1 ∧ E.2.2.2.1 = room_1 ∧
  (wI zl.C ∧ wI zl.R ∧ (∀ i j, i < 83 → j < 26 → zl.2.2.1 i ≠ zl.2.2.2.1 j) ∧ (∀ i, i < 83 → zl.2.2.1 i ≠ zl.o) ∧ (∀ j, j < 26 → zl.2.2.2.1 j ≠ zl.o)) ∧
  ((∀ i, i < 83 → E.2.2.2.2.1.heap.size ≤ zl.2.2.1 i) ∧ (∀ j, j < 26 → E.2.2.2.2.1.heap.size ≤ zl.2.2.2.1 j) ∧ E.2.2.2.2.1.heap.size ≤ zl.o) ∧
  OX zl.2.2.2.2.1 (fun q => E.2.2.2.2.1.heap.size ≤ q) E.2.2.2.2.1 E.2.2.2.2.1.heap ∧ ZQ (fun q => E.2.2.2.2.1.heap.size ≤ q) E.2.2.2.2.1 E.2.2.2.2.1.heap ∧ XWd E.2.2.2.2.1 ∧ E.2.1.stackTraces = false ∧ va_X b Ln xs E.2.2.2.2.1 E.2.2.2.2.1.heap ∧ b < E.2.2.2.2.1.heap.size ∧ Ln ≤ 3072
theorem iz_63 (x : Int) : iz x &&& iz 63 = iz (x % 64) := by
  apply Int32.toBitVec_inj.mp
  apply BitVec.eq_of_toNat_eq
  show ((iz x).toBitVec &&& (iz 63).toBitVec).toNat = _
  rw [BitVec.toNat_and, iz_toNat, iz_toNat, iz_toNat]
  show (x % 4294967296).toNat &&& 63 = (x % 64 % 4294967296).toNat
  have := Nat.and_two_pow_sub_one_eq_mod (x % 4294967296).toNat 6
  rw [show (63 : Nat) = 2 ^ 6 - 1 from rfl, this]
  omega
section VRQ
variable {E : Amb} {zl : Lw} {b Ln : Nat} {xs : Nat → Int32} {cc : ByteArray} {ce sl : Nat} {m : Mq} {pc : Nat} {L : List (Nat × Value)} {st : List Value}
theorem z_iconst (C : CQx E zl b Ln xs cc) {n z : Int} (hdg : decode cc pc = .ok (.iconst n, 1)) (hz : Int32.ofInt n = iz z) (k : VQ E zl ce sl m (pc + 1) L (.int (iz z) :: st)) : VQ E zl ce sl m pc L (st) := fun H locs d0 ls hd hP hS hl => by
  have k := k H locs d0 ls hd hP hS hl
  exact lv_iconst C.1 C.2.1 hdg hz k
theorem z_bipush (C : CQx E zl b Ln xs cc) {n z : Int} (hdg : decode cc pc = .ok (.bipush n, 2)) (hz : (Int8.ofInt n).toInt32 = iz z) (k : VQ E zl ce sl m (pc + 2) L (.int (iz z) :: st)) : VQ E zl ce sl m pc L (st) := fun H locs d0 ls hd hP hS hl => by
  have k := k H locs d0 ls hd hP hS hl
  exact lv_bipush C.1 C.2.1 hdg hz k
theorem z_sipush (C : CQx E zl b Ln xs cc) {n z : Int} (hdg : decode cc pc = .ok (.sipush n, 3)) (hz : (Int16.ofInt n).toInt32 = iz z) (k : VQ E zl ce sl m (pc + 3) L (.int (iz z) :: st)) : VQ E zl ce sl m pc L (st) := fun H locs d0 ls hd hP hS hl => by
  have k := k H locs d0 ls hd hP hS hl
  exact lv_sipush C.1 C.2.1 hdg hz k
theorem z_iload (C : CQx E zl b Ln xs cc) {i : Nat} {x : Int} (q : Nat) (hdg : decode cc pc = .ok (.iload i, 2)) (hq : L[q]? = some (i, .int (iz x))) (k : VQ E zl ce sl m (pc + 2) L (.int (iz x) :: st)) : VQ E zl ce sl m pc L (st) := fun H locs d0 ls hd hP hS hl => by
  have k := k H locs d0 ls hd hP hS hl
  exact lv_iload C.1 C.2.1 hdg (lv_at hl q hq) k
theorem z_iload_n (C : CQx E zl b Ln xs cc) {n : Fin 4} {x : Int} (q : Nat) (hdg : decode cc pc = .ok (.iload_n n, 1)) (hq : L[q]? = some ((n : Nat), .int (iz x))) (k : VQ E zl ce sl m (pc + 1) L (.int (iz x) :: st)) : VQ E zl ce sl m pc L (st) := fun H locs d0 ls hd hP hS hl => by
  have k := k H locs d0 ls hd hP hS hl
  exact lv_iload_n C.1 C.2.1 hdg rfl (lv_at hl q hq) k
theorem z_aload (C : CQx E zl b Ln xs cc) {i : Nat} {x : Nat} (q : Nat) (hdg : decode cc pc = .ok (.aload i, 2)) (hq : L[q]? = some (i, .ref x)) (k : VQ E zl ce sl m (pc + 2) L (.ref x :: st)) : VQ E zl ce sl m pc L (st) := fun H locs d0 ls hd hP hS hl => by
  have k := k H locs d0 ls hd hP hS hl
  exact lv_aload C.1 C.2.1 hdg (lv_at hl q hq) k
theorem z_aload_n (C : CQx E zl b Ln xs cc) {n : Fin 4} {x : Nat} (q : Nat) (hdg : decode cc pc = .ok (.aload_n n, 1)) (hq : L[q]? = some ((n : Nat), .ref x)) (k : VQ E zl ce sl m (pc + 1) L (.ref x :: st)) : VQ E zl ce sl m pc L (st) := fun H locs d0 ls hd hP hS hl => by
  have k := k H locs d0 ls hd hP hS hl
  exact lv_aload_n C.1 C.2.1 hdg rfl (lv_at hl q hq) k
theorem z_istore (C : CQx E zl b Ln xs cc) {i : Nat} {x : Int} {L1 : List (Nat × Value)} (hdg : decode cc pc = .ok (.istore i, 2)) (hn : i < 7) (hL : (i, (.int (iz x) : Value)) :: L.filter (fun q => !(q.1 == i) && !(q.1 + 1 == i && q.2.category == 2)) = L1) (k : VQ E zl ce sl m (pc + 2) L1 st) : VQ E zl ce sl m pc L (.int (iz x) :: st) := fun H locs d0 ls hd hP hS hl => lv_istore C.1 C.2.1 hdg hl hn hL (fun ls1 h1 => k H locs d0 ls1 hd hP hS h1)
theorem z_istore_n (C : CQx E zl b Ln xs cc) {n : Fin 4} {x : Int} {L1 : List (Nat × Value)} (hdg : decode cc pc = .ok (.istore_n n, 1)) (hn : (n : Nat) < 7) (hL : ((n : Nat), (.int (iz x) : Value)) :: L.filter (fun q => !(q.1 == (n : Nat)) && !(q.1 + 1 == (n : Nat) && q.2.category == 2)) = L1) (k : VQ E zl ce sl m (pc + 1) L1 st) : VQ E zl ce sl m pc L (.int (iz x) :: st) := fun H locs d0 ls hd hP hS hl => lv_istore_n C.1 C.2.1 hdg rfl hl hn hL (fun ls1 h1 => k H locs d0 ls1 hd hP hS h1)
theorem z_astore (C : CQx E zl b Ln xs cc) {i : Nat} {x : Nat} {L1 : List (Nat × Value)} (hdg : decode cc pc = .ok (.astore i, 2)) (hn : i < 7) (hL : (i, (.ref x : Value)) :: L.filter (fun q => !(q.1 == i) && !(q.1 + 1 == i && q.2.category == 2)) = L1) (k : VQ E zl ce sl m (pc + 2) L1 st) : VQ E zl ce sl m pc L (.ref x :: st) := fun H locs d0 ls hd hP hS hl => lv_astore C.1 C.2.1 hdg hl hn hL (fun ls1 h1 => k H locs d0 ls1 hd hP hS h1)
theorem z_astore_n (C : CQx E zl b Ln xs cc) {n : Fin 4} {x : Nat} {L1 : List (Nat × Value)} (hdg : decode cc pc = .ok (.astore_n n, 1)) (hn : (n : Nat) < 7) (hL : ((n : Nat), (.ref x : Value)) :: L.filter (fun q => !(q.1 == (n : Nat)) && !(q.1 + 1 == (n : Nat) && q.2.category == 2)) = L1) (k : VQ E zl ce sl m (pc + 1) L1 st) : VQ E zl ce sl m pc L (.ref x :: st) := fun H locs d0 ls hd hP hS hl => lv_astore_n C.1 C.2.1 hdg rfl hl hn hL (fun ls1 h1 => k H locs d0 ls1 hd hP hS h1)
theorem z_iinc (C : CQx E zl b Ln xs cc) {i : Nat} {n : Int} {x : Int} {L1 : List (Nat × Value)} (q : Nat) (hdg : decode cc pc = .ok (.iinc i n, 3)) (hq : L[q]? = some (i, .int (iz x))) (hn : i < 7) (hL : (i, Value.int (iz (x + n))) :: L.filter (fun q => !(q.1 == i) && !(q.1 + 1 == i && q.2.category == 2)) = L1) (k : VQ E zl ce sl m (pc + 3) L1 st) : VQ E zl ce sl m pc L st := fun H locs d0 ls hd hP hS hl => lv_iinc (k := q) C.1 C.2.1 hdg hl hq (by rw [iz_add]; rfl) hn hL (fun ls1 h1 => k H locs d0 ls1 hd hP hS h1)
theorem z_iadd (C : CQx E zl b Ln xs cc) {x y : Int} (hdg : decode cc pc = .ok (.iadd, 1)) (k : VQ E zl ce sl m (pc + 1) L (.int (iz (x + y)) :: st)) : VQ E zl ce sl m pc L (.int (iz y) :: .int (iz x) :: st) := fun H locs d0 ls hd hP hS hl => by
  have k := k H locs d0 ls hd hP hS hl
  rw [iz_add] at k
  exact lv_iadd C.1 C.2.1 hdg k
theorem z_isub (C : CQx E zl b Ln xs cc) {x y : Int} (hdg : decode cc pc = .ok (.isub, 1)) (k : VQ E zl ce sl m (pc + 1) L (.int (iz (x - y)) :: st)) : VQ E zl ce sl m pc L (.int (iz y) :: .int (iz x) :: st) := fun H locs d0 ls hd hP hS hl => by
  have k := k H locs d0 ls hd hP hS hl
  rw [iz_sub] at k
  exact lv_isub C.1 C.2.1 hdg k
theorem z_i2l (C : CQx E zl b Ln xs cc) {x : Int} (hx : -2147483648 ≤ x ∧ x ≤ 2147483647) (hdg : decode cc pc = .ok (.i2l, 1)) (k : VQ E zl ce sl m (pc + 1) L (.long (lz x) :: st)) : VQ E zl ce sl m pc L (.int (iz x) :: st) := fun H locs d0 ls hd hP hS hl => by
  have k := k H locs d0 ls hd hP hS hl
  exact lv_i2l C.1 C.2.1 hdg (iz_l hx) k
theorem z_lcmp (C : CQx E zl b Ln xs cc) {x y : Int} (hx : -9223372036854775808 ≤ x ∧ x ≤ 9223372036854775807) (hy : -9223372036854775808 ≤ y ∧ y ≤ 9223372036854775807) (hdg : decode cc pc = .ok (.lcmp, 1)) (k : VQ E zl ce sl m (pc + 1) L (.int (iz (if y < x then 1 else if x = y then 0 else -1)) :: st)) : VQ E zl ce sl m pc L (.long (lz y) :: .long (lz x) :: st) := fun H locs d0 ls hd hP hS hl => by
  have k := k H locs d0 ls hd hP hS hl
  exact W.lcmp C.1 C.2.1 hdg (lg_lz hx hy ▸ k)
theorem z_goto (C : CQx E zl b Ln xs cc) {off : Int} {tgt : Nat} (hdg : decode cc pc = .ok (.goto off, 3)) (ht : (pc : Int) + off = (tgt : Int)) (k : VQ E zl ce sl m tgt L (st)) : VQ E zl ce sl m pc L (st) := fun H locs d0 ls hd hP hS hl => by
  have k := k H locs d0 ls hd hP hS hl
  exact lv_goto C.1 C.2.1 hdg ht k
theorem z_icmp_eq (C : CQx E zl b Ln xs cc) {x y off : Int} {tgt : Nat} (hdg : decode cc pc = .ok (.if_icmp .eq off, 3)) (ht : (pc : Int) + off = (tgt : Int)) (hx : -2147483648 ≤ x ∧ x ≤ 2147483647) (hy : -2147483648 ≤ y ∧ y ≤ 2147483647) (kt : x = y → VQ E zl ce sl m tgt L st) (kf : x ≠ y → VQ E zl ce sl m (pc + 3) L st) : VQ E zl ce sl m pc L (.int (iz y) :: .int (iz x) :: st) := fun H locs d0 ls hd hP hS hl => lv_icmp_eq C.1 C.2.1 hdg ht (fun h => kt ((iz_eq hx hy).mp h) H locs d0 ls hd hP hS hl) (fun h => kf (fun q => h ((iz_eq hx hy).mpr q)) H locs d0 ls hd hP hS hl)
theorem z_if_eq (C : CQx E zl b Ln xs cc) {x off : Int} {tgt : Nat} (hdg : decode cc pc = .ok (.ifCond .eq off, 3)) (ht : (pc : Int) + off = (tgt : Int)) (hx : -2147483648 ≤ x ∧ x ≤ 2147483647) (kt : x = 0 → VQ E zl ce sl m tgt L st) (kf : x ≠ 0 → VQ E zl ce sl m (pc + 3) L st) : VQ E zl ce sl m pc L (.int (iz x) :: st) := fun H locs d0 ls hd hP hS hl => lv_if_eq C.1 C.2.1 hdg ht (fun h => kt ((iz_eq hx r0).mp h) H locs d0 ls hd hP hS hl) (fun h => kf (fun q => h ((iz_eq hx r0).mpr q)) H locs d0 ls hd hP hS hl)
theorem z_icmp_ne (C : CQx E zl b Ln xs cc) {x y off : Int} {tgt : Nat} (hdg : decode cc pc = .ok (.if_icmp .ne off, 3)) (ht : (pc : Int) + off = (tgt : Int)) (hx : -2147483648 ≤ x ∧ x ≤ 2147483647) (hy : -2147483648 ≤ y ∧ y ≤ 2147483647) (kt : x ≠ y → VQ E zl ce sl m tgt L st) (kf : x = y → VQ E zl ce sl m (pc + 3) L st) : VQ E zl ce sl m pc L (.int (iz y) :: .int (iz x) :: st) := fun H locs d0 ls hd hP hS hl => lv_icmp_ne C.1 C.2.1 hdg ht (fun h => kt (fun q => h ((iz_eq hx hy).mpr q)) H locs d0 ls hd hP hS hl) (fun h => kf ((iz_eq hx hy).mp h) H locs d0 ls hd hP hS hl)
theorem z_if_ne (C : CQx E zl b Ln xs cc) {x off : Int} {tgt : Nat} (hdg : decode cc pc = .ok (.ifCond .ne off, 3)) (ht : (pc : Int) + off = (tgt : Int)) (hx : -2147483648 ≤ x ∧ x ≤ 2147483647) (kt : x ≠ 0 → VQ E zl ce sl m tgt L st) (kf : x = 0 → VQ E zl ce sl m (pc + 3) L st) : VQ E zl ce sl m pc L (.int (iz x) :: st) := fun H locs d0 ls hd hP hS hl => lv_if_ne C.1 C.2.1 hdg ht (fun h => kt (fun q => h ((iz_eq hx r0).mpr q)) H locs d0 ls hd hP hS hl) (fun h => kf ((iz_eq hx r0).mp h) H locs d0 ls hd hP hS hl)
theorem z_icmp_lt (C : CQx E zl b Ln xs cc) {x y off : Int} {tgt : Nat} (hdg : decode cc pc = .ok (.if_icmp .lt off, 3)) (ht : (pc : Int) + off = (tgt : Int)) (hx : -2147483648 ≤ x ∧ x ≤ 2147483647) (hy : -2147483648 ≤ y ∧ y ≤ 2147483647) (kt : x < y → VQ E zl ce sl m tgt L st) (kf : y ≤ x → VQ E zl ce sl m (pc + 3) L st) : VQ E zl ce sl m pc L (.int (iz y) :: .int (iz x) :: st) := fun H locs d0 ls hd hP hS hl => lv_icmp_lt C.1 C.2.1 hdg ht (fun h => kt ((iz_lt hx hy).mp h) H locs d0 ls hd hP hS hl) (fun h => kf (Int.not_lt.mp (fun q => h ((iz_lt hx hy).mpr q))) H locs d0 ls hd hP hS hl)
theorem z_if_lt (C : CQx E zl b Ln xs cc) {x off : Int} {tgt : Nat} (hdg : decode cc pc = .ok (.ifCond .lt off, 3)) (ht : (pc : Int) + off = (tgt : Int)) (hx : -2147483648 ≤ x ∧ x ≤ 2147483647) (kt : x < 0 → VQ E zl ce sl m tgt L st) (kf : 0 ≤ x → VQ E zl ce sl m (pc + 3) L st) : VQ E zl ce sl m pc L (.int (iz x) :: st) := fun H locs d0 ls hd hP hS hl => lv_if_lt C.1 C.2.1 hdg ht (fun h => kt ((iz_lt hx r0).mp h) H locs d0 ls hd hP hS hl) (fun h => kf (Int.not_lt.mp (fun q => h ((iz_lt hx r0).mpr q))) H locs d0 ls hd hP hS hl)
theorem z_icmp_ge (C : CQx E zl b Ln xs cc) {x y off : Int} {tgt : Nat} (hdg : decode cc pc = .ok (.if_icmp .ge off, 3)) (ht : (pc : Int) + off = (tgt : Int)) (hx : -2147483648 ≤ x ∧ x ≤ 2147483647) (hy : -2147483648 ≤ y ∧ y ≤ 2147483647) (kt : y ≤ x → VQ E zl ce sl m tgt L st) (kf : x < y → VQ E zl ce sl m (pc + 3) L st) : VQ E zl ce sl m pc L (.int (iz y) :: .int (iz x) :: st) := fun H locs d0 ls hd hP hS hl => lv_icmp_ge C.1 C.2.1 hdg ht (fun h => kt ((iz_le hy hx).mp h) H locs d0 ls hd hP hS hl) (fun h => kf (Int.not_le.mp (fun q => h ((iz_le hy hx).mpr q))) H locs d0 ls hd hP hS hl)
theorem z_if_ge (C : CQx E zl b Ln xs cc) {x off : Int} {tgt : Nat} (hdg : decode cc pc = .ok (.ifCond .ge off, 3)) (ht : (pc : Int) + off = (tgt : Int)) (hx : -2147483648 ≤ x ∧ x ≤ 2147483647) (kt : 0 ≤ x → VQ E zl ce sl m tgt L st) (kf : x < 0 → VQ E zl ce sl m (pc + 3) L st) : VQ E zl ce sl m pc L (.int (iz x) :: st) := fun H locs d0 ls hd hP hS hl => lv_if_ge C.1 C.2.1 hdg ht (fun h => kt ((iz_le r0 hx).mp h) H locs d0 ls hd hP hS hl) (fun h => kf (Int.not_le.mp (fun q => h ((iz_le r0 hx).mpr q))) H locs d0 ls hd hP hS hl)
theorem z_icmp_gt (C : CQx E zl b Ln xs cc) {x y off : Int} {tgt : Nat} (hdg : decode cc pc = .ok (.if_icmp .gt off, 3)) (ht : (pc : Int) + off = (tgt : Int)) (hx : -2147483648 ≤ x ∧ x ≤ 2147483647) (hy : -2147483648 ≤ y ∧ y ≤ 2147483647) (kt : y < x → VQ E zl ce sl m tgt L st) (kf : x ≤ y → VQ E zl ce sl m (pc + 3) L st) : VQ E zl ce sl m pc L (.int (iz y) :: .int (iz x) :: st) := fun H locs d0 ls hd hP hS hl => lv_icmp_gt C.1 C.2.1 hdg ht (fun h => kt ((iz_lt hy hx).mp h) H locs d0 ls hd hP hS hl) (fun h => kf (Int.not_lt.mp (fun q => h ((iz_lt hy hx).mpr q))) H locs d0 ls hd hP hS hl)
theorem z_if_gt (C : CQx E zl b Ln xs cc) {x off : Int} {tgt : Nat} (hdg : decode cc pc = .ok (.ifCond .gt off, 3)) (ht : (pc : Int) + off = (tgt : Int)) (hx : -2147483648 ≤ x ∧ x ≤ 2147483647) (kt : 0 < x → VQ E zl ce sl m tgt L st) (kf : x ≤ 0 → VQ E zl ce sl m (pc + 3) L st) : VQ E zl ce sl m pc L (.int (iz x) :: st) := fun H locs d0 ls hd hP hS hl => lv_if_gt C.1 C.2.1 hdg ht (fun h => kt ((iz_lt r0 hx).mp h) H locs d0 ls hd hP hS hl) (fun h => kf (Int.not_lt.mp (fun q => h ((iz_lt r0 hx).mpr q))) H locs d0 ls hd hP hS hl)
theorem z_icmp_le (C : CQx E zl b Ln xs cc) {x y off : Int} {tgt : Nat} (hdg : decode cc pc = .ok (.if_icmp .le off, 3)) (ht : (pc : Int) + off = (tgt : Int)) (hx : -2147483648 ≤ x ∧ x ≤ 2147483647) (hy : -2147483648 ≤ y ∧ y ≤ 2147483647) (kt : x ≤ y → VQ E zl ce sl m tgt L st) (kf : y < x → VQ E zl ce sl m (pc + 3) L st) : VQ E zl ce sl m pc L (.int (iz y) :: .int (iz x) :: st) := fun H locs d0 ls hd hP hS hl => lv_icmp_le C.1 C.2.1 hdg ht (fun h => kt ((iz_le hx hy).mp h) H locs d0 ls hd hP hS hl) (fun h => kf (Int.not_le.mp (fun q => h ((iz_le hx hy).mpr q))) H locs d0 ls hd hP hS hl)
theorem z_if_le (C : CQx E zl b Ln xs cc) {x off : Int} {tgt : Nat} (hdg : decode cc pc = .ok (.ifCond .le off, 3)) (ht : (pc : Int) + off = (tgt : Int)) (hx : -2147483648 ≤ x ∧ x ≤ 2147483647) (kt : x ≤ 0 → VQ E zl ce sl m tgt L st) (kf : 0 < x → VQ E zl ce sl m (pc + 3) L st) : VQ E zl ce sl m pc L (.int (iz x) :: st) := fun H locs d0 ls hd hP hS hl => lv_if_le C.1 C.2.1 hdg ht (fun h => kt ((iz_le hx r0).mp h) H locs d0 ls hd hP hS hl) (fun h => kf (Int.not_le.mp (fun q => h ((iz_le hx r0).mpr q))) H locs d0 ls hd hP hS hl)
theorem z_lc_eq (C : CQx E zl b Ln xs cc) {x y off : Int} {tgt : Nat} (hdg : decode cc pc = .ok (.lcmp, 1)) (hdg2 : decode cc (pc + 1) = .ok (.ifCond .eq off, 3)) (ht : ((pc + 1 : Nat) : Int) + off = (tgt : Int)) (hx : -9223372036854775808 ≤ x ∧ x ≤ 9223372036854775807) (hy : -9223372036854775808 ≤ y ∧ y ≤ 9223372036854775807) (kt : x = y → VQ E zl ce sl m tgt L st) (kf : x ≠ y → VQ E zl ce sl m (pc + 1 + 3) L st) : VQ E zl ce sl m pc L (.long (lz y) :: .long (lz x) :: st) :=
  z_lcmp C hx hy hdg (z_if_eq C hdg2 ht (by split <;> (try split) <;> omega) (fun h => kt (by split at h <;> (try split at h) <;> omega)) (fun h => kf (by split at h <;> (try split at h) <;> omega)))
theorem z_lc_ne (C : CQx E zl b Ln xs cc) {x y off : Int} {tgt : Nat} (hdg : decode cc pc = .ok (.lcmp, 1)) (hdg2 : decode cc (pc + 1) = .ok (.ifCond .ne off, 3)) (ht : ((pc + 1 : Nat) : Int) + off = (tgt : Int)) (hx : -9223372036854775808 ≤ x ∧ x ≤ 9223372036854775807) (hy : -9223372036854775808 ≤ y ∧ y ≤ 9223372036854775807) (kt : x ≠ y → VQ E zl ce sl m tgt L st) (kf : x = y → VQ E zl ce sl m (pc + 1 + 3) L st) : VQ E zl ce sl m pc L (.long (lz y) :: .long (lz x) :: st) :=
  z_lcmp C hx hy hdg (z_if_ne C hdg2 ht (by split <;> (try split) <;> omega) (fun h => kt (by split at h <;> (try split at h) <;> omega)) (fun h => kf (by split at h <;> (try split at h) <;> omega)))
theorem z_lc_le (C : CQx E zl b Ln xs cc) {x y off : Int} {tgt : Nat} (hdg : decode cc pc = .ok (.lcmp, 1)) (hdg2 : decode cc (pc + 1) = .ok (.ifCond .le off, 3)) (ht : ((pc + 1 : Nat) : Int) + off = (tgt : Int)) (hx : -9223372036854775808 ≤ x ∧ x ≤ 9223372036854775807) (hy : -9223372036854775808 ≤ y ∧ y ≤ 9223372036854775807) (kt : x ≤ y → VQ E zl ce sl m tgt L st) (kf : y < x → VQ E zl ce sl m (pc + 1 + 3) L st) : VQ E zl ce sl m pc L (.long (lz y) :: .long (lz x) :: st) :=
  z_lcmp C hx hy hdg (z_if_le C hdg2 ht (by split <;> (try split) <;> omega) (fun h => kt (by split at h <;> (try split at h) <;> omega)) (fun h => kf (by split at h <;> (try split at h) <;> omega)))
theorem z_lc_gt (C : CQx E zl b Ln xs cc) {x y off : Int} {tgt : Nat} (hdg : decode cc pc = .ok (.lcmp, 1)) (hdg2 : decode cc (pc + 1) = .ok (.ifCond .gt off, 3)) (ht : ((pc + 1 : Nat) : Int) + off = (tgt : Int)) (hx : -9223372036854775808 ≤ x ∧ x ≤ 9223372036854775807) (hy : -9223372036854775808 ≤ y ∧ y ≤ 9223372036854775807) (kt : y < x → VQ E zl ce sl m tgt L st) (kf : x ≤ y → VQ E zl ce sl m (pc + 1 + 3) L st) : VQ E zl ce sl m pc L (.long (lz y) :: .long (lz x) :: st) :=
  z_lcmp C hx hy hdg (z_if_gt C hdg2 ht (by split <;> (try split) <;> omega) (fun h => kt (by split at h <;> (try split at h) <;> omega)) (fun h => kf (by split at h <;> (try split at h) <;> omega)))
theorem z_lc_lt (C : CQx E zl b Ln xs cc) {x y off : Int} {tgt : Nat} (hdg : decode cc pc = .ok (.lcmp, 1)) (hdg2 : decode cc (pc + 1) = .ok (.ifCond .lt off, 3)) (ht : ((pc + 1 : Nat) : Int) + off = (tgt : Int)) (hx : -9223372036854775808 ≤ x ∧ x ≤ 9223372036854775807) (hy : -9223372036854775808 ≤ y ∧ y ≤ 9223372036854775807) (kt : x < y → VQ E zl ce sl m tgt L st) (kf : y ≤ x → VQ E zl ce sl m (pc + 1 + 3) L st) : VQ E zl ce sl m pc L (.long (lz y) :: .long (lz x) :: st) :=
  z_lcmp C hx hy hdg (z_if_lt C hdg2 ht (by split <;> (try split) <;> omega) (fun h => kt (by split at h <;> (try split at h) <;> omega)) (fun h => kf (by split at h <;> (try split at h) <;> omega)))
theorem z_lc_ge (C : CQx E zl b Ln xs cc) {x y off : Int} {tgt : Nat} (hdg : decode cc pc = .ok (.lcmp, 1)) (hdg2 : decode cc (pc + 1) = .ok (.ifCond .ge off, 3)) (ht : ((pc + 1 : Nat) : Int) + off = (tgt : Int)) (hx : -9223372036854775808 ≤ x ∧ x ≤ 9223372036854775807) (hy : -9223372036854775808 ≤ y ∧ y ≤ 9223372036854775807) (kt : y ≤ x → VQ E zl ce sl m tgt L st) (kf : x < y → VQ E zl ce sl m (pc + 1 + 3) L st) : VQ E zl ce sl m pc L (.long (lz y) :: .long (lz x) :: st) :=
  z_lcmp C hx hy hdg (z_if_ge C hdg2 ht (by split <;> (try split) <;> omega) (fun h => kt (by split at h <;> (try split at h) <;> omega)) (fun h => kf (by split at h <;> (try split at h) <;> omega)))
theorem z_table (C : CQx E zl b Ln xs cc) {dflt lo hi : Int} {offs : Array Int} {len : Nat} {x : Int} (hdg : decode cc pc = .ok (.tableswitch dflt lo hi offs, len)) (hx : -2147483648 ≤ x ∧ x ≤ 2147483647) (kout : ∀ tgt : Nat, (pc : Int) + dflt = (tgt : Int) → (x < lo ∨ hi < x) → VQ E zl ce sl m tgt L st) (kin : ∀ (tgt : Nat) (off : Int), lo ≤ x → x ≤ hi → offs[(x - lo).toNat]? = some off → (pc : Int) + off = (tgt : Int) → VQ E zl ce sl m tgt L st) (hd2 : ∃ tgt : Nat, (pc : Int) + dflt = (tgt : Int)) (hi2 : lo ≤ x → x ≤ hi → ∃ (tgt : Nat) (off : Int), offs[(x - lo).toNat]? = some off ∧ (pc : Int) + off = (tgt : Int)) : VQ E zl ce sl m pc L (.int (iz x) :: st) := fun H locs d0 ls hd hP hS hl => by
  by_cases h1 : x < lo
  · obtain ⟨tgt, ht⟩ := hd2
    exact lv_tableOut C.1 C.2.1 hdg (by rw [iz_toInt hx]; exact Or.inl h1) ht (kout tgt ht (Or.inl h1) H locs d0 ls hd hP hS hl)
  · by_cases h2 : hi < x
    · obtain ⟨tgt, ht⟩ := hd2
      exact lv_tableOut C.1 C.2.1 hdg (by rw [iz_toInt hx]; exact Or.inr h2) ht (kout tgt ht (Or.inr h2) H locs d0 ls hd hP hS hl)
    · obtain ⟨tgt, off, ho, ht⟩ := hi2 (by omega) (by omega)
      exact lv_tableIn C.1 C.2.1 hdg (by rw [iz_toInt hx]; exact h1) (by rw [iz_toInt hx]; exact h2) (by rw [iz_toInt hx]; exact ho) ht (kin tgt off (by omega) (by omega) ho ht H locs d0 ls hd hP hS hl)
theorem z_sub {L1 : List (Nat × Value)} (ks : List Nat) (hL : lv_pick L ks = L1) (k : VQ E zl ce sl m pc L1 st) : VQ E zl ce sl m pc L st := fun H locs d0 ls hd hP hS hl => k H locs d0 ls hd hP hS (lv_sub hl ks hL)
theorem z_st {st1 : List Value} (h : st = st1) (k : VQ E zl ce sl m pc L st1) : VQ E zl ce sl m pc L st := h ▸ k
theorem z_slen (C : CQx E zl b Ln xs cc) (hdg : decode cc pc = .ok (.arraylength, 1)) (k : VQ E zl ce sl m (pc + 1) L (.int (iz (Ln : Nat)) :: st)) : VQ E zl ce sl m pc L (.ref b :: st) := fun H locs d0 ls hd hP hS hl =>
  va_slen (s := E.2.2.2.2.1.setDrawn d0) C.1 C.2.1 (b := b) (L := Ln) (xs := xs) C.2.2.2.2.2.2.2.2.2.2.2.2.2.1 C.2.2.2.2.2.2.2.2.2.2.2.2.2.2.1 (Nat.not_le.mpr C.2.2.2.2.2.2.2.2.2.2.2.2.2.2.1) hS hdg (by rw [iz_n]; exact k H locs d0 ls hd hP hS hl)
theorem z_sld (C : CQx E zl b Ln xs cc) {i : Int} (hi : 0 ≤ i ∧ i < Ln) (hdg : decode cc pc = .ok (.iaload, 1)) (k : VQ E zl ce sl m (pc + 1) L (.int (iz (xs i.toNat).toInt) :: st)) : VQ E zl ce sl m pc L (.int (iz i) :: .ref b :: st) := fun H locs d0 ls hd hP hS hl => by
  have hL := C.2.2.2.2.2.2.2.2.2.2.2.2.2.2.2
  refine va_sld (s := E.2.2.2.2.1.setDrawn d0) C.1 C.2.1 (b := b) (L := Ln) (xs := xs) C.2.2.2.2.2.2.2.2.2.2.2.2.2.1 C.2.2.2.2.2.2.2.2.2.2.2.2.2.2.1 (Nat.not_le.mpr C.2.2.2.2.2.2.2.2.2.2.2.2.2.2.1) hS (iz_in hi.1 hi.2 (by omega)) hdg ?_
  rw [iz_clamp hi.1 (by omega), ← iz_of (xs i.toNat)]
  exact k H locs d0 ls hd hP hS hl
theorem z_iand63 (C : CQx E zl b Ln xs cc) {x : Int} (hdg : decode cc pc = .ok (.iand, 1)) (k : VQ E zl ce sl m (pc + 1) L (.int (iz (x % 64)) :: st)) : VQ E zl ce sl m pc L (.int (iz 63) :: .int (iz x) :: st) := fun H locs d0 ls hd hP hS hl => by
  have k := k H locs d0 ls hd hP hS hl
  exact lv_iand C.1 C.2.1 hdg (iz_63 x ▸ k)
theorem z_olald (C : CQx E zl b Ln xs cc) {x : Int} (hx : m.2.2 0 = lz x) (hdg : decode cc pc = .ok (.laload, 1)) (k : VQ E zl ce sl m (pc + 1) L (.long (lz x) :: st)) : VQ E zl ce sl m pc L (.int (iz 0) :: .ref zl.o :: st) := fun H locs d0 ls hd hP hS hl => by
  refine va_lald (s := E.2.2.2.2.1.setDrawn d0) C.1 C.2.1 C.2.2.2.2.2.1 hP.2.2 0 1 (n := 1) (f := m.2.2) rfl rfl (iz_in (by decide) (by decide) (by decide)) hdg ?_
  rw [show (iz 0).toNatClampNeg = 0 from rfl, hx]
  exact k H locs d0 ls hd hP hS hl
theorem lw_aC {w : Wd} {sz s0 : Nat} (h : ∀ i, i < w.2.2.2.1 → s0 ≤ w.2.2.1 i) (hs : s0 ≤ sz) : ∀ q, wA w sz q → s0 ≤ q := fun q hq => hq.elim (fun ⟨i, hi, e⟩ => by rw [e]; exact h i hi) (fun h => Nat.le_trans hs h)
/-- a cell of another world stays -/
theorem kept_o {D : va_G} {ws : va_W} {w : Wd} {H H1 : Heap} (h : va_P D clsAll ws H) (hk : ∀ q : Nat, q < H.size → ¬ wA w H.size q → H1[q]? = H[q]?) (hne : ∀ (k : Nat) (q : Nat × va_E), ws[k]? = some q → ∀ i, i < w.2.2.2.1 → w.2.2.1 i ≠ q.1) : va_P D clsAll ws H1 := h.kept fun k q hq => hk q.1 ((h k q hq).lt) (fun y => y.elim (fun ⟨i, hi, e⟩ => hne k q hq i hi e.symm) (fun y => by have := (h k q hq).lt; omega))
theorem one_mem {q x : Nat × va_E} {k : Nat} (h : [x][k]? = some q) : q = x := by
  have ha := (List.getElem?_eq_some_iff.mp h).1
  simp at ha; subst ha; cases h; rfl
/-- a call of the class -/
theorem z_callC (C : CQx E zl b Ln xs cc) {y : MethodName} {bytes : ByteArray} {maxL index n : Nat} {ret : Option FieldType} {rm : Room} {Post : Option Value → Mem → Prop} {st0 : List Value} (As : List Value) (hM : MT E.2.1 zl.C y bytes maxL ret rm m.1 (.ref (zl.2.2.1 0) :: As) Post) (hcode : Cond.code y bytes maxL ret ∈ lw_gd) (hini : Cond.initialized y.cls ∈ lw_gd) (hlk : Cond.methodLink "StageRatiosLaw" index y ∈ lw_gd) (hcz : rm.cells = 0) (hsz : rm.slots = 0) (hroom : rm.frames + 1 ≤ 13 ∧ 8 + (maxL + 11) + rm.locals ≤ 496) (hnm : y.cls ≠ "java/lang/invoke/MethodHandle" ∧ y.cls ≠ "java/lang/invoke/VarHandle" ∧ (parseMethodDescriptor y.desc).map (fun d => d.parameters.length) = some n) (hinst : Cond.instanceMethod y ∈ lw_gd) (hsel : Cond.selects RX10 y y ∈ lw_gd) (hn : As.length = n) (hst : st0 = As.reverse ++ .ref (zl.2.2.1 0) :: st) (hcat : (st.map fun v => v.category).sum ≤ 8) (hcs : ce ≤ 1135 ∧ sl ≤ 20627) (hdg : decode cc pc = .ok (.invokevirtual index, 3))
    (k : ∀ (r : Option Value) (m1 : Mem), Post r m1 → VQ E zl ce sl (m1, m.2) (pc + 3) L (r.toList ++ st)) : VQ E zl ce sl m pc L st0 := fun H locs d0 ls hd hP hS hl => by
  have hs0 : E.2.2.2.2.1.heap.size ≤ H.size := hS.1
  have hAC := lw_aC (w := zl.C) (sz := H.size) C.2.2.2.2.2.2.2.2.1.1 hs0
  have hrun := va_runV_D (cs := lw_cs) (s := E.2.2.2.2.1.setDrawn d0) (cells := ce) (slots := sl) (locs := locs) (H := H) (nL := 7) (C := RX10) (Ts := lw_gd) (own := "StageRatiosLaw") (n := n) (b := zl.2.2.1 0) (As := As) (rest := st) (l := E.2.1) (e := E.2.2.1) (R := E.2.2.2.1) (below := E.2.2.2.2.2.2.2.1) (meth := E.2.2.2.2.2.2.2.2.1) (g := F0 E.2.2.2.2.2.1 pc ls st0) ⟨C.1, C.2.1, C.2.2.1, C.2.2.2.1, dr_words C.2.2.2.2.1 d0⟩ (hM H.size) ⟨callB_of (Ts := lw_gd) n (dr_words C.2.2.2.2.1 d0) (good_ws hcode) rfl hcz hsz (dr_words C.2.2.2.2.1 d0 _ hini) (dr_words C.2.2.2.2.1 d0 _ hlk) hnm (by rw [C.2.2.2.2.2.2.1]; exact hroom), dr_words C.2.2.2.2.1 d0 _ hinst, dr_words C.2.2.2.2.1 d0 _ hsel⟩
    ⟨BW_blind, va_recv (q := (RX10, TX10, 20)) (va_K.moved (Vm.Alike.refl _) C.2.2.2.2.2.1) hP.1 rfl (by rw [wG_get lC0, eC0]), fun U hU hW => ⟨rfl, by rw [hU], by rw [hU]; exact hP.1, va_K.moved hW.alike C.2.2.2.2.2.1, by rw [hU]; exact OX.to C.2.2.2.2.2.2.2.2.2.1 hW hS.2.1 hAC⟩⟩ rfl hn hl.1 hst (lv_room (m := E.2.2.2.2.2.1) (pc := pc) (ls := ls) (rest := st0) hcat) hdg (by rw [C.2.2.2.2.2.2.1]; exact hcs)
  intro T hT X
  obtain ⟨v, st₀, t, T', Lo, d', hd', h0, X', hL, e1, e2, ⟨⟨r, m1, hv, hp, hP1⟩, hz, hk⟩, stp⟩ := hrun T hT X
  cases hv
  rw [h0] at hz hk
  rw [← e1] at hz hk hP1
  have hS1 : va_S (fun q => E.2.2.2.2.1.heap.size ≤ q) E.2.2.2.2.1.heap T'.heap (locs ++ Lo) := ⟨Nat.le_trans hS.1 hz, fun q h1 h2 => by rw [hk q (Nat.lt_of_lt_of_le h1 hS.1) (fun h => h2 (hAC q h))]; exact hS.2.1 q h1 h2, fun q hq => by
    rcases List.mem_append.mp hq with h | h
    · exact hS.2.2 q h
    · exact hAC _ (hL q h)⟩
  have hR1 := kept_o (w := zl.C) hP.2.1 hk (fun j q hj i hi => by rw [(wG_mem hj).2]; exact C.2.2.2.2.2.2.2.1.2.2.1 i j hi (wG_mem hj).1)
  have hO1 := kept_o (w := zl.C) hP.2.2 hk (fun j q hj i hi => by rw [one_mem hj]; exact C.2.2.2.2.2.2.2.1.2.2.2.1 i hi)
  obtain ⟨t2, a1, b1⟩ := k v m1 hp T'.heap (locs ++ Lo) d' ls (hd.trans hd') ⟨hP1, hR1, hO1⟩ hS1 hl T' rfl X'
  exact ⟨t2, stp t2 a1, b1⟩
/-- a call of the reference -/
theorem z_callR (C : CQx E zl b Ln xs cc) {y : MethodName} {bytes : ByteArray} {maxL index n : Nat} {ret : Option FieldType} {rm : Room} {Post : Option Value → Mem → Prop} {st0 : List Value} (As : List Value) (hM : MT E.2.1 zl.R y bytes maxL ret rm m.2.1 (.ref (zl.2.2.2.1 0) :: As) Post) (hcode : Cond.code y bytes maxL ret ∈ lw_gd) (hini : Cond.initialized y.cls ∈ lw_gd) (hlk : Cond.methodLink "StageRatiosLaw" index y ∈ lw_gd) (hcz : rm.cells = 0) (hsz : rm.slots = 0) (hroom : rm.frames + 1 ≤ 13 ∧ 8 + (maxL + 11) + rm.locals ≤ 496) (hnm : y.cls ≠ "java/lang/invoke/MethodHandle" ∧ y.cls ≠ "java/lang/invoke/VarHandle" ∧ (parseMethodDescriptor y.desc).map (fun d => d.parameters.length) = some n) (hinst : Cond.instanceMethod y ∈ lw_gd) (hsel : Cond.selects RX11 y y ∈ lw_gd) (hn : As.length = n) (hst : st0 = As.reverse ++ .ref (zl.2.2.2.1 0) :: st) (hcat : (st.map fun v => v.category).sum ≤ 8) (hcs : ce ≤ 1135 ∧ sl ≤ 20627) (hdg : decode cc pc = .ok (.invokevirtual index, 3))
    (k : ∀ (r : Option Value) (m1 : Mem), Post r m1 → VQ E zl ce sl (m.1, m1, m.2.2) (pc + 3) L (r.toList ++ st)) : VQ E zl ce sl m pc L st0 := fun H locs d0 ls hd hP hS hl => by
  have hs0 : E.2.2.2.2.1.heap.size ≤ H.size := hS.1
  have hAC := lw_aC (w := zl.R) (sz := H.size) C.2.2.2.2.2.2.2.2.1.2.1 hs0
  have hrun := va_runV_D (cs := lw_cs) (s := E.2.2.2.2.1.setDrawn d0) (cells := ce) (slots := sl) (locs := locs) (H := H) (nL := 7) (C := RX11) (Ts := lw_gd) (own := "StageRatiosLaw") (n := n) (b := zl.2.2.2.1 0) (As := As) (rest := st) (l := E.2.1) (e := E.2.2.1) (R := E.2.2.2.1) (below := E.2.2.2.2.2.2.2.1) (meth := E.2.2.2.2.2.2.2.2.1) (g := F0 E.2.2.2.2.2.1 pc ls st0) ⟨C.1, C.2.1, C.2.2.1, C.2.2.2.1, dr_words C.2.2.2.2.1 d0⟩ (hM H.size) ⟨callB_of (Ts := lw_gd) n (dr_words C.2.2.2.2.1 d0) (good_ws hcode) rfl hcz hsz (dr_words C.2.2.2.2.1 d0 _ hini) (dr_words C.2.2.2.2.1 d0 _ hlk) hnm (by rw [C.2.2.2.2.2.2.1]; exact hroom), dr_words C.2.2.2.2.1 d0 _ hinst, dr_words C.2.2.2.2.1 d0 _ hsel⟩
    ⟨BW_blind, va_recv (q := (RX11, TX11, 61)) (va_K.moved (Vm.Alike.refl _) C.2.2.2.2.2.1) hP.2.1 rfl (by rw [wG_get lR0, eR0]), fun U hU hW => ⟨rfl, by rw [hU], by rw [hU]; exact hP.2.1, va_K.moved hW.alike C.2.2.2.2.2.1, by rw [hU]; exact OX.to C.2.2.2.2.2.2.2.2.2.1 hW hS.2.1 hAC⟩⟩ rfl hn hl.1 hst (lv_room (m := E.2.2.2.2.2.1) (pc := pc) (ls := ls) (rest := st0) hcat) hdg (by rw [C.2.2.2.2.2.2.1]; exact hcs)
  intro T hT X
  obtain ⟨v, st₀, t, T', Lo, d', hd', h0, X', hL, e1, e2, ⟨⟨r, m1, hv, hp, hP1⟩, hz, hk⟩, stp⟩ := hrun T hT X
  cases hv
  rw [h0] at hz hk
  rw [← e1] at hz hk hP1
  have hS1 : va_S (fun q => E.2.2.2.2.1.heap.size ≤ q) E.2.2.2.2.1.heap T'.heap (locs ++ Lo) := ⟨Nat.le_trans hS.1 hz, fun q h1 h2 => by rw [hk q (Nat.lt_of_lt_of_le h1 hS.1) (fun h => h2 (hAC q h))]; exact hS.2.1 q h1 h2, fun q hq => by
    rcases List.mem_append.mp hq with h | h
    · exact hS.2.2 q h
    · exact hAC _ (hL q h)⟩
  have hC1 := kept_o (w := zl.R) hP.1 hk (fun j q hj i hi => by rw [(wG_mem hj).2]; exact Ne.symm (C.2.2.2.2.2.2.2.1.2.2.1 j i (wG_mem hj).1 hi))
  have hO1 := kept_o (w := zl.R) hP.2.2 hk (fun j q hj i hi => by rw [one_mem hj]; exact C.2.2.2.2.2.2.2.1.2.2.2.2 i hi)
  obtain ⟨t2, a1, b1⟩ := k v m1 hp T'.heap (locs ++ Lo) d' ls (hd.trans hd') ⟨hC1, hP1, hO1⟩ hS1 hl T' rfl X'
  exact ⟨t2, stp t2 a1, b1⟩
/-- the law's weak: the class's answer in the row, or that it threw -/
theorem z_callW (C : CQx E zl b Ln xs cc) {st0 : List Value} {index : Nat} (k0 kf ks kt kc : Nat) (i : Int) (hci : CI m.1 k0 kf ks kt kc) (hi : -2147483648 ≤ i ∧ i ≤ 2147483647) (hst : st0 = [.ref zl.o, .int (iz i), .ref (zl.2.2.1 0)] ++ st) (hcat : (st.map fun v => v.category).sum ≤ 8) (hcs : ce + 1 ≤ 1135 ∧ sl + 6 ≤ 20627) (hcode : Cond.codeWith ylw method_3_code 4 (some .int) [(0, 9, 12, 13)] ∈ lw_gd) (hini : Cond.initialized "StageRatiosLaw" ∈ lw_gd) (hlk : Cond.methodLink "StageRatiosLaw" index ylw ∈ lw_gd) (hstat : Cond.static ylw ∈ lw_gd) (hdg : decode cc pc = .ok (.invokestatic index, 3))
    (k : ∀ (r : Int) (m1 : Mem) (f1 : Nat → Int64), lwP m.1 kf k0 i r m1 f1 → CI m.1 k0 kf ks kt kc → VQ E zl (ce + 1) (sl + 6) (m1, m.2.1, f1) (pc + 3) L (.int (iz r) :: st)) : VQ E zl ce sl m pc L st0 := fun H locs d0 ls hd hP hS hl => by
  have hs0 : E.2.2.2.2.1.heap.size ≤ H.size := hS.1
  have hAC := lw_aC (w := zl.C) (sz := H.size) C.2.2.2.2.2.2.2.2.1.1 hs0
  have hAL : ∀ q, AL zl.C H.size zl.o q → E.2.2.2.2.1.heap.size ≤ q := fun q h => h.elim (hAC q) (fun e => by rw [e]; exact C.2.2.2.2.2.2.2.2.1.2.2)
  have hgood : GoodIn lw_gd (Cond.codeWith ylw method_3_code 4 (some .int) [(0, 9, 12, 13)] :: lw_gd) := fun q hq => by
    rcases List.mem_cons.mp hq with rfl | hq
    · exact ⟨hcode, good_tbl _ hcode⟩
    · exact ⟨hq, good_tbl _ hq⟩
  have hrun := vx_runSW (s := E.2.2.2.2.1.setDrawn d0) (cells := ce) (slots := sl) (locs := locs) (H := H) (nL := 7) (hh := [(0, 9, 12, 13)]) (bytes := method_3_code) (maxL := 4) (ret := some .int) (Ts := lw_gd) (own := "StageRatiosLaw") (n := 3) (As := [.ref (zl.2.2.1 0), .int (iz i), .ref zl.o]) (rest := st) (l := E.2.1) (e := E.2.2.1) (R := E.2.2.2.1) (below := E.2.2.2.2.2.2.2.1) (meth := E.2.2.2.2.2.2.2.2.1) (g := F0 E.2.2.2.2.2.1 pc ls st0) ⟨C.1, C.2.1, C.2.2.1, C.2.2.2.1, dr_words C.2.2.2.2.1 d0⟩ (ct_lweak C.2.2.2.2.2.2.2.2.2.2.2.2.1 C.2.2.2.2.2.2.2.1.1 m.1 k0 kf ks kt kc i hci hi zl.o C.2.2.2.2.2.2.2.1.2.2.2.1 m.2.2 H.size)
    ⟨⟨rfl, rfl, by rw [C.2.2.2.2.2.2.1]; exact Nat.le_of_ble_eq_true rfl, by rw [C.2.2.2.2.2.2.1]; exact Nat.le_of_ble_eq_true rfl, pay_in (dr_words C.2.2.2.2.1 d0) hgood, List.mem_cons_self⟩, dr_words C.2.2.2.2.1 d0 _ hcode, dr_words C.2.2.2.2.1 d0 _ hini, by decide, (fun sig h => Option.some.inj (((congrArg (Option.map (fun d => d.parameters.length)) h).symm.trans (by decide +kernel : (parseMethodDescriptor ylw.desc).map (fun d => d.parameters.length) = some 3)).symm)), dr_words C.2.2.2.2.1 d0 _ hlk, dr_words C.2.2.2.2.1 d0 _ hstat⟩
    ⟨BL_blind, fun U hU hW => ⟨rfl, ⟨⟨by rw [hU], by rw [hU]; exact hP.1, va_K.moved hW.alike C.2.2.2.2.2.1, by rw [hU]; exact OX.to C.2.2.2.2.2.2.2.2.2.1 hW hS.2.1 hAC⟩, by rw [hU]; exact ((ZQ.moved hW.alike C.2.2.2.2.2.2.2.2.2.2.1).kept hS.2.1).narrow hAC, XWd.moved (u := E.2.2.2.2.1) hW.alike C.2.2.2.2.2.2.2.2.2.2.2.1⟩, by rw [hU]; exact hP.2.2⟩⟩ rfl rfl hl.1 hst (lv_room (m := E.2.2.2.2.2.1) (pc := pc) (ls := ls) (rest := st0) hcat) hdg (by rw [C.2.2.2.2.2.2.1]; exact hcs)
  intro T hT X
  obtain ⟨v, st₀, t, T', Lo, h0, X', hL, e1, e2, ⟨⟨r, m1, f1, hv, hp, hP1, hPo⟩, hz, hk⟩, stp⟩ := hrun T hT X
  cases hv
  rw [h0] at hz hk
  rw [← e1] at hz hk hP1 hPo
  have hS1 : va_S (fun q => E.2.2.2.2.1.heap.size ≤ q) E.2.2.2.2.1.heap T'.heap (locs ++ Lo) := ⟨Nat.le_trans hS.1 hz, fun q h1 h2 => by rw [hk q (Nat.lt_of_lt_of_le h1 hS.1) (fun h => h2 (hAL q h))]; exact hS.2.1 q h1 h2, fun q hq => by
    rcases List.mem_append.mp hq with h | h
    · exact hS.2.2 q h
    · exact hAL _ (hL q h)⟩
  have hR1 : va_P zl.1 clsAll (wG zl.R m.2.1) T'.heap := hP.2.1.kept fun j q hj => hk q.1 ((hP.2.1 j q hj).lt) (fun y => by
    have hq := wG_mem hj
    rcases y with y | y
    · rcases y with ⟨i, hi, e⟩ | y
      · exact C.2.2.2.2.2.2.2.1.2.2.1 i j hi hq.1 (e.symm.trans hq.2)
      · have := (hP.2.1 j q hj).lt; omega
    · exact C.2.2.2.2.2.2.2.1.2.2.2.2 j hq.1 (hq.2.symm.trans y))
  obtain ⟨t2, a1, b1⟩ := k r m1 f1 hp hci T'.heap (locs ++ Lo) d0 ls hd ⟨hP1, hR1, hPo⟩ hS1 hl T' rfl X'
  exact ⟨t2, stp t2 a1, b1⟩
end VRQ
