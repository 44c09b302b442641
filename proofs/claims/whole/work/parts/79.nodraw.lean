/-! the walk without draws: what an exception's road wants -/
def V0 (E : Amb) (w : Wd) (nL : Nat) (m : Mem) (pc : Nat) (L : List (Nat × Value)) (st : List Value) : Prop :=
  ∀ (H : Heap) (locs : List Loc) (ls : Array Slot), va_P w.1 clsAll (wG w m) H → va_S (wA w E.2.2.2.2.1.heap.size) E.2.2.2.2.1.heap H locs → lv_has ls nL L →
    W E.1 E.2.1 E.2.2.1 E.2.2.2.1 E.2.2.2.2.1 E.2.2.2.2.2.1 E.2.2.2.2.2.2.1 E.2.2.2.2.2.2.2.1 E.2.2.2.2.2.2.2.2.1 E.2.2.2.2.2.2.2.2.2.1 H locs 0 0 E.2.2.2.2.2.2.2.2.2.2 (F0 E.2.2.2.2.2.1 pc ls st)
def Rx0 (E : Amb) (w : Wd) (ret : Option FieldType) (Post : Option Value → Mem → Prop) : Prop :=
  E.2.2.2.2.2.2.2.2.1.sig.returnType = ret ∧ E.2.2.2.2.2.2.2.2.1.locks = false ∧ E.2.2.2.2.2.2.2.2.2.2 = MQ E.2.2.2.2.2.2.2.1 (QW w E.2.2.2.2.1.heap.size Post) E.2.2.2.2.2.2.1 E.2.2.2.2.1 0 0 (wA w E.2.2.2.2.1.heap.size)
def MT0 (l : Launch) (w : Wd) (y : MethodName) (cc : ByteArray) (maxL : Nat) (ret : Option FieldType) (rm : Room) (m : Mem) (av : List Value) (Post : Option Value → Mem → Prop) : Prop :=
  ∀ sz : Nat, Met l y (ws_ y cc maxL ret) rm (va_Pc av (BW w sz m)) (QW w sz Post) 0 0 (wA w sz)
theorem u0_entry {l : Launch} {w : Wd} {y : MethodName} {cc : ByteArray} {maxL : Nat} {ret : Option FieldType} {rm : Room} {m : Mem} {av : List Value} {Post : Option Value → Mem → Prop} (hI : wI w) (own : String) (hy : plainName y.cls = true) (ho : y.cls = own) (hlen : (lg_sl av).length ≤ maxL)
    (body : ∀ E : Amb, E.2.1 = l → Cx E w cc own maxL (headSpec (ws_ y cc maxL ret) rm).room → Rx0 E w ret Post → V0 E w maxL m 0 (lv_args 0 av) []) : MT0 l w y cc maxL ret rm m av Post := by
  intro sz
  refine Met.ofW (cc := cc) (maxL := maxL) (ret := ret) hy rfl ?_
  intro p e s mid args below meth c s₁ B hml hv
  obtain ⟨rfl, hsz, hP, hK, hO⟩ := hv
  subst hsz
  have hts := atoms_spec (ws := ws_ y cc maxL ret) B.pre
  have hts2 : ∀ q ∈ lw_gd, q.before av.toArray s = true := fun q h => hts q (List.mem_cons_of_mem _ h)
  have hown : s.vm.findClass own = some mid.cls := by rw [← ho]; exact findClass_of_methodNamed B.named
  have key := body (p, l, e, (headSpec (ws_ y cc maxL ret) rm).room, s, mid, av.toArray, below, meth, c, MQ below (QW w s.heap.size Post) av.toArray s 0 0 (wA w s.heap.size)) rfl ⟨B.exec, B.bytes, hml, hown, hts2, hK, hI, rfl, hO⟩ ⟨B.returns, B.notSynchronized, rfl⟩
  have hl := lv_entry av (n := maxL) hlen
  rw [lg_entry_eq]
  exact key s.heap [] _ hP va_S.rf hl
section VR0
variable {E : Amb} {w : Wd} {cc : ByteArray} {own : String} {nL : Nat} {R0 : Room} {m : Mem} {pc : Nat} {L : List (Nat × Value)} {st : List Value}
theorem u0_iconst (C : Cx E w cc own nL R0) {n z : Int} (hdg : decode cc pc = .ok (.iconst n, 1)) (hz : Int32.ofInt n = iz z) (k : V0 E w nL m (pc + 1) L (.int (iz z) :: st)) : V0 E w nL m pc L (st) := fun H locs ls hP hS hl => by
  have k := k H locs ls hP hS hl
  exact lv_iconst C.1 C.2.1 hdg hz k
theorem u0_bipush (C : Cx E w cc own nL R0) {n z : Int} (hdg : decode cc pc = .ok (.bipush n, 2)) (hz : (Int8.ofInt n).toInt32 = iz z) (k : V0 E w nL m (pc + 2) L (.int (iz z) :: st)) : V0 E w nL m pc L (st) := fun H locs ls hP hS hl => by
  have k := k H locs ls hP hS hl
  exact lv_bipush C.1 C.2.1 hdg hz k
theorem u0_sipush (C : Cx E w cc own nL R0) {n z : Int} (hdg : decode cc pc = .ok (.sipush n, 3)) (hz : (Int16.ofInt n).toInt32 = iz z) (k : V0 E w nL m (pc + 3) L (.int (iz z) :: st)) : V0 E w nL m pc L (st) := fun H locs ls hP hS hl => by
  have k := k H locs ls hP hS hl
  exact lv_sipush C.1 C.2.1 hdg hz k
theorem u0_lconst (C : Cx E w cc own nL R0) {n : Fin 2} {z : Int} (hdg : decode cc pc = .ok (.lconst n, 1)) (hz : Int64.ofNat (n : Nat) = lz z) (k : V0 E w nL m (pc + 1) L (.long (lz z) :: st)) : V0 E w nL m pc L (st) := fun H locs ls hP hS hl => by
  have k := k H locs ls hP hS hl
  exact lv_lconst C.1 C.2.1 hdg hz k
theorem u0_ldc (C : Cx E w cc own nL R0) {index : Nat} {v : Int32} {z : Int} (hw : Cond.constant own index v ∈ lw_gd) (hdg : decode cc pc = .ok (.ldc index, 2)) (hz : v = iz z) (k : V0 E w nL m (pc + 2) L (.int (iz z) :: st)) : V0 E w nL m pc L (st) := fun H locs ls hP hS hl => by
  have k := k H locs ls hP hS hl
  exact lv_ldc (v := iz z) C.1 C.2.1 C.2.2.2.1 (C.2.2.2.2.1 _ (hz ▸ hw)) hdg k
theorem u0_ldc2 (C : Cx E w cc own nL R0) {index : Nat} {v : Int64} {z : Int} (hw : Cond.constantLong own index v ∈ lw_gd) (hdg : decode cc pc = .ok (.ldc2_w index, 3)) (hz : v = lz z) (k : V0 E w nL m (pc + 3) L (.long (lz z) :: st)) : V0 E w nL m pc L (st) := fun H locs ls hP hS hl => by
  have k := k H locs ls hP hS hl
  exact lv_ldc2 (v := lz z) C.1 C.2.1 C.2.2.2.1 (C.2.2.2.2.1 _ (hz ▸ hw)) hdg k
theorem u0_iload (C : Cx E w cc own nL R0) {i : Nat} {x : Int} (q : Nat) (hdg : decode cc pc = .ok (.iload i, 2)) (hq : L[q]? = some (i, .int (iz x))) (k : V0 E w nL m (pc + 2) L (.int (iz x) :: st)) : V0 E w nL m pc L (st) := fun H locs ls hP hS hl => by
  have k := k H locs ls hP hS hl
  exact lv_iload C.1 C.2.1 hdg (lv_at hl q hq) k
theorem u0_iload_n (C : Cx E w cc own nL R0) {n : Fin 4} {x : Int} (q : Nat) (hdg : decode cc pc = .ok (.iload_n n, 1)) (hq : L[q]? = some ((n : Nat), .int (iz x))) (k : V0 E w nL m (pc + 1) L (.int (iz x) :: st)) : V0 E w nL m pc L (st) := fun H locs ls hP hS hl => by
  have k := k H locs ls hP hS hl
  exact lv_iload_n C.1 C.2.1 hdg rfl (lv_at hl q hq) k
theorem u0_aload (C : Cx E w cc own nL R0) {i : Nat} {x : Nat} (q : Nat) (hdg : decode cc pc = .ok (.aload i, 2)) (hq : L[q]? = some (i, .ref x)) (k : V0 E w nL m (pc + 2) L (.ref x :: st)) : V0 E w nL m pc L (st) := fun H locs ls hP hS hl => by
  have k := k H locs ls hP hS hl
  exact lv_aload C.1 C.2.1 hdg (lv_at hl q hq) k
theorem u0_aload_n (C : Cx E w cc own nL R0) {n : Fin 4} {x : Nat} (q : Nat) (hdg : decode cc pc = .ok (.aload_n n, 1)) (hq : L[q]? = some ((n : Nat), .ref x)) (k : V0 E w nL m (pc + 1) L (.ref x :: st)) : V0 E w nL m pc L (st) := fun H locs ls hP hS hl => by
  have k := k H locs ls hP hS hl
  exact lv_aload_n C.1 C.2.1 hdg rfl (lv_at hl q hq) k
theorem u0_lload (C : Cx E w cc own nL R0) {i : Nat} {x : Int} (q : Nat) (hdg : decode cc pc = .ok (.lload i, 2)) (hq : L[q]? = some (i, .long (lz x))) (k : V0 E w nL m (pc + 2) L (.long (lz x) :: st)) : V0 E w nL m pc L (st) := fun H locs ls hP hS hl => by
  have k := k H locs ls hP hS hl
  exact lv_lload C.1 C.2.1 hdg (lv_at hl q hq) k
theorem u0_lload_n (C : Cx E w cc own nL R0) {n : Fin 4} {x : Int} (q : Nat) (hdg : decode cc pc = .ok (.lload_n n, 1)) (hq : L[q]? = some ((n : Nat), .long (lz x))) (k : V0 E w nL m (pc + 1) L (.long (lz x) :: st)) : V0 E w nL m pc L (st) := fun H locs ls hP hS hl => by
  have k := k H locs ls hP hS hl
  exact lv_lload_n C.1 C.2.1 hdg rfl (lv_at hl q hq) k
theorem u0_istore (C : Cx E w cc own nL R0) {i : Nat} {x : Int} {L1 : List (Nat × Value)} (hdg : decode cc pc = .ok (.istore i, 2)) (hn : i < nL) (hL : (i, (.int (iz x) : Value)) :: L.filter (fun q => !(q.1 == i) && !(q.1 + 1 == i && q.2.category == 2)) = L1) (k : V0 E w nL m (pc + 2) L1 st) : V0 E w nL m pc L (.int (iz x) :: st) := fun H locs ls hP hS hl => lv_istore C.1 C.2.1 hdg hl hn hL (fun ls1 h1 => k H locs ls1 hP hS h1)
theorem u0_istore_n (C : Cx E w cc own nL R0) {n : Fin 4} {x : Int} {L1 : List (Nat × Value)} (hdg : decode cc pc = .ok (.istore_n n, 1)) (hn : (n : Nat) < nL) (hL : ((n : Nat), (.int (iz x) : Value)) :: L.filter (fun q => !(q.1 == (n : Nat)) && !(q.1 + 1 == (n : Nat) && q.2.category == 2)) = L1) (k : V0 E w nL m (pc + 1) L1 st) : V0 E w nL m pc L (.int (iz x) :: st) := fun H locs ls hP hS hl => lv_istore_n C.1 C.2.1 hdg rfl hl hn hL (fun ls1 h1 => k H locs ls1 hP hS h1)
theorem u0_astore (C : Cx E w cc own nL R0) {i : Nat} {x : Nat} {L1 : List (Nat × Value)} (hdg : decode cc pc = .ok (.astore i, 2)) (hn : i < nL) (hL : (i, (.ref x : Value)) :: L.filter (fun q => !(q.1 == i) && !(q.1 + 1 == i && q.2.category == 2)) = L1) (k : V0 E w nL m (pc + 2) L1 st) : V0 E w nL m pc L (.ref x :: st) := fun H locs ls hP hS hl => lv_astore C.1 C.2.1 hdg hl hn hL (fun ls1 h1 => k H locs ls1 hP hS h1)
theorem u0_astore_n (C : Cx E w cc own nL R0) {n : Fin 4} {x : Nat} {L1 : List (Nat × Value)} (hdg : decode cc pc = .ok (.astore_n n, 1)) (hn : (n : Nat) < nL) (hL : ((n : Nat), (.ref x : Value)) :: L.filter (fun q => !(q.1 == (n : Nat)) && !(q.1 + 1 == (n : Nat) && q.2.category == 2)) = L1) (k : V0 E w nL m (pc + 1) L1 st) : V0 E w nL m pc L (.ref x :: st) := fun H locs ls hP hS hl => lv_astore_n C.1 C.2.1 hdg rfl hl hn hL (fun ls1 h1 => k H locs ls1 hP hS h1)
theorem u0_lstore (C : Cx E w cc own nL R0) {i : Nat} {x : Int} {L1 : List (Nat × Value)} (hdg : decode cc pc = .ok (.lstore i, 2)) (hn : i + 1 < nL) (hL : (i, (.long (lz x) : Value)) :: L.filter (fun q => !(q.1 == i) && (!(q.1 == i + 1) && !(q.1 + 1 == i && q.2.category == 2))) = L1) (k : V0 E w nL m (pc + 2) L1 st) : V0 E w nL m pc L (.long (lz x) :: st) := fun H locs ls hP hS hl => lv_lstore C.1 C.2.1 hdg hl hn hL (fun ls1 h1 => k H locs ls1 hP hS h1)
theorem u0_lstore_n (C : Cx E w cc own nL R0) {n : Fin 4} {x : Int} {L1 : List (Nat × Value)} (hdg : decode cc pc = .ok (.lstore_n n, 1)) (hn : (n : Nat) + 1 < nL) (hL : ((n : Nat), (.long (lz x) : Value)) :: L.filter (fun q => !(q.1 == (n : Nat)) && (!(q.1 == (n : Nat) + 1) && !(q.1 + 1 == (n : Nat) && q.2.category == 2))) = L1) (k : V0 E w nL m (pc + 1) L1 st) : V0 E w nL m pc L (.long (lz x) :: st) := fun H locs ls hP hS hl => lv_lstore_n C.1 C.2.1 hdg rfl hl hn hL (fun ls1 h1 => k H locs ls1 hP hS h1)
theorem u0_iinc (C : Cx E w cc own nL R0) {i : Nat} {n : Int} {x : Int} {L1 : List (Nat × Value)} (q : Nat) (hdg : decode cc pc = .ok (.iinc i n, 3)) (hq : L[q]? = some (i, .int (iz x))) (hn : i < nL) (hL : (i, Value.int (iz (x + n))) :: L.filter (fun q => !(q.1 == i) && !(q.1 + 1 == i && q.2.category == 2)) = L1) (k : V0 E w nL m (pc + 3) L1 st) : V0 E w nL m pc L st := fun H locs ls hP hS hl => lv_iinc (k := q) C.1 C.2.1 hdg hl hq (by rw [iz_add]; rfl) hn hL (fun ls1 h1 => k H locs ls1 hP hS h1)
theorem u0_iadd (C : Cx E w cc own nL R0) {x y : Int} (hdg : decode cc pc = .ok (.iadd, 1)) (k : V0 E w nL m (pc + 1) L (.int (iz (x + y)) :: st)) : V0 E w nL m pc L (.int (iz y) :: .int (iz x) :: st) := fun H locs ls hP hS hl => by
  have k := k H locs ls hP hS hl
  rw [iz_add] at k
  exact lv_iadd C.1 C.2.1 hdg k
theorem u0_isub (C : Cx E w cc own nL R0) {x y : Int} (hdg : decode cc pc = .ok (.isub, 1)) (k : V0 E w nL m (pc + 1) L (.int (iz (x - y)) :: st)) : V0 E w nL m pc L (.int (iz y) :: .int (iz x) :: st) := fun H locs ls hP hS hl => by
  have k := k H locs ls hP hS hl
  rw [iz_sub] at k
  exact lv_isub C.1 C.2.1 hdg k
theorem u0_imul (C : Cx E w cc own nL R0) {x y : Int} (hdg : decode cc pc = .ok (.imul, 1)) (k : V0 E w nL m (pc + 1) L (.int (iz (x * y)) :: st)) : V0 E w nL m pc L (.int (iz y) :: .int (iz x) :: st) := fun H locs ls hP hS hl => by
  have k := k H locs ls hP hS hl
  rw [iz_mul] at k
  exact lv_imul C.1 C.2.1 hdg k
theorem u0_ladd (C : Cx E w cc own nL R0) {x y : Int} (hdg : decode cc pc = .ok (.ladd, 1)) (k : V0 E w nL m (pc + 1) L (.long (lz (x + y)) :: st)) : V0 E w nL m pc L (.long (lz y) :: .long (lz x) :: st) := fun H locs ls hP hS hl => by
  have k := k H locs ls hP hS hl
  rw [lz_add] at k
  exact lv_ladd C.1 C.2.1 hdg k
theorem u0_lsub (C : Cx E w cc own nL R0) {x y : Int} (hdg : decode cc pc = .ok (.lsub, 1)) (k : V0 E w nL m (pc + 1) L (.long (lz (x - y)) :: st)) : V0 E w nL m pc L (.long (lz y) :: .long (lz x) :: st) := fun H locs ls hP hS hl => by
  have k := k H locs ls hP hS hl
  rw [lz_sub] at k
  exact lv_lsub C.1 C.2.1 hdg k
theorem u0_lmul (C : Cx E w cc own nL R0) {x y : Int} (hdg : decode cc pc = .ok (.lmul, 1)) (k : V0 E w nL m (pc + 1) L (.long (lz (x * y)) :: st)) : V0 E w nL m pc L (.long (lz y) :: .long (lz x) :: st) := fun H locs ls hP hS hl => by
  have k := k H locs ls hP hS hl
  rw [lz_mul] at k
  exact lv_lmul C.1 C.2.1 hdg k
theorem u0_ineg (C : Cx E w cc own nL R0) {x : Int} (hdg : decode cc pc = .ok (.ineg, 1)) (k : V0 E w nL m (pc + 1) L (.int (iz (-x)) :: st)) : V0 E w nL m pc L (.int (iz x) :: st) := fun H locs ls hP hS hl => by
  have k := k H locs ls hP hS hl
  rw [iz_neg] at k
  exact lv_ineg C.1 C.2.1 hdg k
theorem u0_idiv (C : Cx E w cc own nL R0) {x y : Int} (hx : 0 ≤ x ∧ x ≤ 2147483647) (hy : 0 < y ∧ y ≤ 2147483647) (hdg : decode cc pc = .ok (.idiv, 1)) (k : V0 E w nL m (pc + 1) L (.int (iz (x / y)) :: st)) : V0 E w nL m pc L (.int (iz y) :: .int (iz x) :: st) := fun H locs ls hP hS hl => by
  have k := k H locs ls hP hS hl
  rw [iz_div hx hy] at k
  exact lv_idiv C.1 C.2.1 hdg (iz_ne0 hy) k
theorem u0_irem (C : Cx E w cc own nL R0) {x y : Int} (hx : 0 ≤ x ∧ x ≤ 2147483647) (hy : 0 < y ∧ y ≤ 2147483647) (hdg : decode cc pc = .ok (.irem, 1)) (k : V0 E w nL m (pc + 1) L (.int (iz (x % y)) :: st)) : V0 E w nL m pc L (.int (iz y) :: .int (iz x) :: st) := fun H locs ls hP hS hl => by
  have k := k H locs ls hP hS hl
  rw [iz_mod hx hy] at k
  exact lv_irem C.1 C.2.1 hdg (iz_ne0 hy) k
theorem u0_lrem (C : Cx E w cc own nL R0) {x y : Int} (hx : 0 ≤ x ∧ x ≤ 9223372036854775807) (hy : 0 < y ∧ y ≤ 9223372036854775807) (hdg : decode cc pc = .ok (.lrem, 1)) (k : V0 E w nL m (pc + 1) L (.long (lz (x % y)) :: st)) : V0 E w nL m pc L (.long (lz y) :: .long (lz x) :: st) := fun H locs ls hP hS hl => by
  have k := k H locs ls hP hS hl
  rw [lz_mod hx hy] at k
  exact lv_lrem C.1 C.2.1 hdg (lz_ne0 hy) k
theorem u0_iand (C : Cx E w cc own nL R0) {x y z : Int} (hz : iz x &&& iz y = iz z) (hdg : decode cc pc = .ok (.iand, 1)) (k : V0 E w nL m (pc + 1) L (.int (iz z) :: st)) : V0 E w nL m pc L (.int (iz y) :: .int (iz x) :: st) := fun H locs ls hP hS hl => by
  have k := k H locs ls hP hS hl
  exact lv_iand C.1 C.2.1 hdg (hz ▸ k)
theorem u0_ishr (C : Cx E w cc own nL R0) {x y z : Int} (hz : iz x >>> (iz y &&& 31) = iz z) (hdg : decode cc pc = .ok (.ishr, 1)) (k : V0 E w nL m (pc + 1) L (.int (iz z) :: st)) : V0 E w nL m pc L (.int (iz y) :: .int (iz x) :: st) := fun H locs ls hP hS hl => by
  have k := k H locs ls hP hS hl
  exact lv_ishr C.1 C.2.1 hdg (hz ▸ k)
theorem u0_iushr (C : Cx E w cc own nL R0) {x y z : Int} (hz : ((iz x).toUInt32 >>> ((iz y).toUInt32 &&& Int32.toUInt32 31)).toInt32 = iz z) (hdg : decode cc pc = .ok (.iushr, 1)) (k : V0 E w nL m (pc + 1) L (.int (iz z) :: st)) : V0 E w nL m pc L (.int (iz y) :: .int (iz x) :: st) := fun H locs ls hP hS hl => by
  have k := k H locs ls hP hS hl
  exact lv_iushr C.1 C.2.1 hdg hz k
theorem u0_i2b (C : Cx E w cc own nL R0) {x z : Int} (hz : (iz x).toInt8.toInt32 = iz z) (hdg : decode cc pc = .ok (.i2b, 1)) (k : V0 E w nL m (pc + 1) L (.int (iz z) :: st)) : V0 E w nL m pc L (.int (iz x) :: st) := fun H locs ls hP hS hl => by
  have k := k H locs ls hP hS hl
  exact lv_i2b C.1 C.2.1 hdg hz k
theorem u0_i2l (C : Cx E w cc own nL R0) {x : Int} (hx : -2147483648 ≤ x ∧ x ≤ 2147483647) (hdg : decode cc pc = .ok (.i2l, 1)) (k : V0 E w nL m (pc + 1) L (.long (lz x) :: st)) : V0 E w nL m pc L (.int (iz x) :: st) := fun H locs ls hP hS hl => by
  have k := k H locs ls hP hS hl
  exact lv_i2l C.1 C.2.1 hdg (iz_l hx) k
theorem u0_l2i (C : Cx E w cc own nL R0) {x : Int} (hdg : decode cc pc = .ok (.l2i, 1)) (k : V0 E w nL m (pc + 1) L (.int (iz x) :: st)) : V0 E w nL m pc L (.long (lz x) :: st) := fun H locs ls hP hS hl => by
  have k := k H locs ls hP hS hl
  exact lv_l2i C.1 C.2.1 hdg (lz_i x) k
theorem u0_land (C : Cx E w cc own nL R0) {x y z : Int} (hz : lz x &&& lz y = lz z) (hdg : decode cc pc = .ok (.land, 1)) (k : V0 E w nL m (pc + 1) L (.long (lz z) :: st)) : V0 E w nL m pc L (.long (lz y) :: .long (lz x) :: st) := fun H locs ls hP hS hl => by
  have k := k H locs ls hP hS hl
  exact lv_land C.1 C.2.1 hdg (hz ▸ k)
theorem u0_lor (C : Cx E w cc own nL R0) {x y z : Int} (hz : lz x ||| lz y = lz z) (hdg : decode cc pc = .ok (.lor, 1)) (k : V0 E w nL m (pc + 1) L (.long (lz z) :: st)) : V0 E w nL m pc L (.long (lz y) :: .long (lz x) :: st) := fun H locs ls hP hS hl => by
  have k := k H locs ls hP hS hl
  exact lv_lor C.1 C.2.1 hdg (hz ▸ k)
theorem u0_lshl (C : Cx E w cc own nL R0) {x y z : Int} (hz : lz x <<< ((iz y).toInt64 &&& 63) = lz z) (hdg : decode cc pc = .ok (.lshl, 1)) (k : V0 E w nL m (pc + 1) L (.long (lz z) :: st)) : V0 E w nL m pc L (.int (iz y) :: .long (lz x) :: st) := fun H locs ls hP hS hl => by
  have k := k H locs ls hP hS hl
  exact lv_lshl C.1 C.2.1 hdg hz k
theorem u0_lcmp (C : Cx E w cc own nL R0) {x y : Int} (hx : -9223372036854775808 ≤ x ∧ x ≤ 9223372036854775807) (hy : -9223372036854775808 ≤ y ∧ y ≤ 9223372036854775807) (hdg : decode cc pc = .ok (.lcmp, 1)) (k : V0 E w nL m (pc + 1) L (.int (iz (if y < x then 1 else if x = y then 0 else -1)) :: st)) : V0 E w nL m pc L (.long (lz y) :: .long (lz x) :: st) := fun H locs ls hP hS hl => by
  have k := k H locs ls hP hS hl
  exact W.lcmp C.1 C.2.1 hdg (lg_lz hx hy ▸ k)
theorem u0_pop (C : Cx E w cc own nL R0) {v : Value} (hdg : decode cc pc = .ok (.pop, 1)) (hv : v.category = 1) (k : V0 E w nL m (pc + 1) L (st)) : V0 E w nL m pc L (v :: st) := fun H locs ls hP hS hl => by
  have k := k H locs ls hP hS hl
  exact lv_pop C.1 C.2.1 hdg hv k
theorem u0_dup (C : Cx E w cc own nL R0) {v : Value} (hdg : decode cc pc = .ok (.dup, 1)) (hv : v.category = 1) (k : V0 E w nL m (pc + 1) L (v :: v :: st)) : V0 E w nL m pc L (v :: st) := fun H locs ls hP hS hl => by
  have k := k H locs ls hP hS hl
  exact lv_dup C.1 C.2.1 hdg hv k
theorem u0_dup2 (C : Cx E w cc own nL R0) {v u : Value} (hdg : decode cc pc = .ok (.dup2, 1)) (hv : v.category = 1) (hu : u.category = 1) (k : V0 E w nL m (pc + 1) L (v :: u :: v :: u :: st)) : V0 E w nL m pc L (v :: u :: st) := fun H locs ls hP hS hl => by
  have k := k H locs ls hP hS hl
  exact lv_dup2_11 C.1 C.2.1 hdg hv hu k
theorem u0_goto (C : Cx E w cc own nL R0) {off : Int} {tgt : Nat} (hdg : decode cc pc = .ok (.goto off, 3)) (ht : (pc : Int) + off = (tgt : Int)) (k : V0 E w nL m tgt L (st)) : V0 E w nL m pc L (st) := fun H locs ls hP hS hl => by
  have k := k H locs ls hP hS hl
  exact lv_goto C.1 C.2.1 hdg ht k
theorem u0_ifnull (C : Cx E w cc own nL R0) {x : Nat} {off : Int} (hdg : decode cc pc = .ok (.ifnull off, 3)) (k : V0 E w nL m (pc + 3) L (st)) : V0 E w nL m pc L (.ref x :: st) := fun H locs ls hP hS hl => by
  have k := k H locs ls hP hS hl
  exact lv_ifnull C.1 C.2.1 hdg k
theorem u0_icmp_eq (C : Cx E w cc own nL R0) {x y off : Int} {tgt : Nat} (hdg : decode cc pc = .ok (.if_icmp .eq off, 3)) (ht : (pc : Int) + off = (tgt : Int)) (hx : -2147483648 ≤ x ∧ x ≤ 2147483647) (hy : -2147483648 ≤ y ∧ y ≤ 2147483647) (kt : x = y → V0 E w nL m tgt L st) (kf : x ≠ y → V0 E w nL m (pc + 3) L st) : V0 E w nL m pc L (.int (iz y) :: .int (iz x) :: st) := fun H locs ls hP hS hl => lv_icmp_eq C.1 C.2.1 hdg ht (fun h => kt ((iz_eq hx hy).mp h) H locs ls hP hS hl) (fun h => kf (fun q => h ((iz_eq hx hy).mpr q)) H locs ls hP hS hl)
theorem u0_if_eq (C : Cx E w cc own nL R0) {x off : Int} {tgt : Nat} (hdg : decode cc pc = .ok (.ifCond .eq off, 3)) (ht : (pc : Int) + off = (tgt : Int)) (hx : -2147483648 ≤ x ∧ x ≤ 2147483647) (kt : x = 0 → V0 E w nL m tgt L st) (kf : x ≠ 0 → V0 E w nL m (pc + 3) L st) : V0 E w nL m pc L (.int (iz x) :: st) := fun H locs ls hP hS hl => lv_if_eq C.1 C.2.1 hdg ht (fun h => kt ((iz_eq hx r0).mp h) H locs ls hP hS hl) (fun h => kf (fun q => h ((iz_eq hx r0).mpr q)) H locs ls hP hS hl)
theorem u0_icmp_ne (C : Cx E w cc own nL R0) {x y off : Int} {tgt : Nat} (hdg : decode cc pc = .ok (.if_icmp .ne off, 3)) (ht : (pc : Int) + off = (tgt : Int)) (hx : -2147483648 ≤ x ∧ x ≤ 2147483647) (hy : -2147483648 ≤ y ∧ y ≤ 2147483647) (kt : x ≠ y → V0 E w nL m tgt L st) (kf : x = y → V0 E w nL m (pc + 3) L st) : V0 E w nL m pc L (.int (iz y) :: .int (iz x) :: st) := fun H locs ls hP hS hl => lv_icmp_ne C.1 C.2.1 hdg ht (fun h => kt (fun q => h ((iz_eq hx hy).mpr q)) H locs ls hP hS hl) (fun h => kf ((iz_eq hx hy).mp h) H locs ls hP hS hl)
theorem u0_if_ne (C : Cx E w cc own nL R0) {x off : Int} {tgt : Nat} (hdg : decode cc pc = .ok (.ifCond .ne off, 3)) (ht : (pc : Int) + off = (tgt : Int)) (hx : -2147483648 ≤ x ∧ x ≤ 2147483647) (kt : x ≠ 0 → V0 E w nL m tgt L st) (kf : x = 0 → V0 E w nL m (pc + 3) L st) : V0 E w nL m pc L (.int (iz x) :: st) := fun H locs ls hP hS hl => lv_if_ne C.1 C.2.1 hdg ht (fun h => kt (fun q => h ((iz_eq hx r0).mpr q)) H locs ls hP hS hl) (fun h => kf ((iz_eq hx r0).mp h) H locs ls hP hS hl)
theorem u0_icmp_lt (C : Cx E w cc own nL R0) {x y off : Int} {tgt : Nat} (hdg : decode cc pc = .ok (.if_icmp .lt off, 3)) (ht : (pc : Int) + off = (tgt : Int)) (hx : -2147483648 ≤ x ∧ x ≤ 2147483647) (hy : -2147483648 ≤ y ∧ y ≤ 2147483647) (kt : x < y → V0 E w nL m tgt L st) (kf : y ≤ x → V0 E w nL m (pc + 3) L st) : V0 E w nL m pc L (.int (iz y) :: .int (iz x) :: st) := fun H locs ls hP hS hl => lv_icmp_lt C.1 C.2.1 hdg ht (fun h => kt ((iz_lt hx hy).mp h) H locs ls hP hS hl) (fun h => kf (Int.not_lt.mp (fun q => h ((iz_lt hx hy).mpr q))) H locs ls hP hS hl)
theorem u0_if_lt (C : Cx E w cc own nL R0) {x off : Int} {tgt : Nat} (hdg : decode cc pc = .ok (.ifCond .lt off, 3)) (ht : (pc : Int) + off = (tgt : Int)) (hx : -2147483648 ≤ x ∧ x ≤ 2147483647) (kt : x < 0 → V0 E w nL m tgt L st) (kf : 0 ≤ x → V0 E w nL m (pc + 3) L st) : V0 E w nL m pc L (.int (iz x) :: st) := fun H locs ls hP hS hl => lv_if_lt C.1 C.2.1 hdg ht (fun h => kt ((iz_lt hx r0).mp h) H locs ls hP hS hl) (fun h => kf (Int.not_lt.mp (fun q => h ((iz_lt hx r0).mpr q))) H locs ls hP hS hl)
theorem u0_icmp_ge (C : Cx E w cc own nL R0) {x y off : Int} {tgt : Nat} (hdg : decode cc pc = .ok (.if_icmp .ge off, 3)) (ht : (pc : Int) + off = (tgt : Int)) (hx : -2147483648 ≤ x ∧ x ≤ 2147483647) (hy : -2147483648 ≤ y ∧ y ≤ 2147483647) (kt : y ≤ x → V0 E w nL m tgt L st) (kf : x < y → V0 E w nL m (pc + 3) L st) : V0 E w nL m pc L (.int (iz y) :: .int (iz x) :: st) := fun H locs ls hP hS hl => lv_icmp_ge C.1 C.2.1 hdg ht (fun h => kt ((iz_le hy hx).mp h) H locs ls hP hS hl) (fun h => kf (Int.not_le.mp (fun q => h ((iz_le hy hx).mpr q))) H locs ls hP hS hl)
theorem u0_if_ge (C : Cx E w cc own nL R0) {x off : Int} {tgt : Nat} (hdg : decode cc pc = .ok (.ifCond .ge off, 3)) (ht : (pc : Int) + off = (tgt : Int)) (hx : -2147483648 ≤ x ∧ x ≤ 2147483647) (kt : 0 ≤ x → V0 E w nL m tgt L st) (kf : x < 0 → V0 E w nL m (pc + 3) L st) : V0 E w nL m pc L (.int (iz x) :: st) := fun H locs ls hP hS hl => lv_if_ge C.1 C.2.1 hdg ht (fun h => kt ((iz_le r0 hx).mp h) H locs ls hP hS hl) (fun h => kf (Int.not_le.mp (fun q => h ((iz_le r0 hx).mpr q))) H locs ls hP hS hl)
theorem u0_icmp_gt (C : Cx E w cc own nL R0) {x y off : Int} {tgt : Nat} (hdg : decode cc pc = .ok (.if_icmp .gt off, 3)) (ht : (pc : Int) + off = (tgt : Int)) (hx : -2147483648 ≤ x ∧ x ≤ 2147483647) (hy : -2147483648 ≤ y ∧ y ≤ 2147483647) (kt : y < x → V0 E w nL m tgt L st) (kf : x ≤ y → V0 E w nL m (pc + 3) L st) : V0 E w nL m pc L (.int (iz y) :: .int (iz x) :: st) := fun H locs ls hP hS hl => lv_icmp_gt C.1 C.2.1 hdg ht (fun h => kt ((iz_lt hy hx).mp h) H locs ls hP hS hl) (fun h => kf (Int.not_lt.mp (fun q => h ((iz_lt hy hx).mpr q))) H locs ls hP hS hl)
theorem u0_if_gt (C : Cx E w cc own nL R0) {x off : Int} {tgt : Nat} (hdg : decode cc pc = .ok (.ifCond .gt off, 3)) (ht : (pc : Int) + off = (tgt : Int)) (hx : -2147483648 ≤ x ∧ x ≤ 2147483647) (kt : 0 < x → V0 E w nL m tgt L st) (kf : x ≤ 0 → V0 E w nL m (pc + 3) L st) : V0 E w nL m pc L (.int (iz x) :: st) := fun H locs ls hP hS hl => lv_if_gt C.1 C.2.1 hdg ht (fun h => kt ((iz_lt r0 hx).mp h) H locs ls hP hS hl) (fun h => kf (Int.not_lt.mp (fun q => h ((iz_lt r0 hx).mpr q))) H locs ls hP hS hl)
theorem u0_icmp_le (C : Cx E w cc own nL R0) {x y off : Int} {tgt : Nat} (hdg : decode cc pc = .ok (.if_icmp .le off, 3)) (ht : (pc : Int) + off = (tgt : Int)) (hx : -2147483648 ≤ x ∧ x ≤ 2147483647) (hy : -2147483648 ≤ y ∧ y ≤ 2147483647) (kt : x ≤ y → V0 E w nL m tgt L st) (kf : y < x → V0 E w nL m (pc + 3) L st) : V0 E w nL m pc L (.int (iz y) :: .int (iz x) :: st) := fun H locs ls hP hS hl => lv_icmp_le C.1 C.2.1 hdg ht (fun h => kt ((iz_le hx hy).mp h) H locs ls hP hS hl) (fun h => kf (Int.not_le.mp (fun q => h ((iz_le hx hy).mpr q))) H locs ls hP hS hl)
theorem u0_if_le (C : Cx E w cc own nL R0) {x off : Int} {tgt : Nat} (hdg : decode cc pc = .ok (.ifCond .le off, 3)) (ht : (pc : Int) + off = (tgt : Int)) (hx : -2147483648 ≤ x ∧ x ≤ 2147483647) (kt : x ≤ 0 → V0 E w nL m tgt L st) (kf : 0 < x → V0 E w nL m (pc + 3) L st) : V0 E w nL m pc L (.int (iz x) :: st) := fun H locs ls hP hS hl => lv_if_le C.1 C.2.1 hdg ht (fun h => kt ((iz_le hx r0).mp h) H locs ls hP hS hl) (fun h => kf (Int.not_le.mp (fun q => h ((iz_le hx r0).mpr q))) H locs ls hP hS hl)
theorem u0_lc_eq (C : Cx E w cc own nL R0) {x y off : Int} {tgt : Nat} (hdg : decode cc pc = .ok (.lcmp, 1)) (hdg2 : decode cc (pc + 1) = .ok (.ifCond .eq off, 3)) (ht : ((pc + 1 : Nat) : Int) + off = (tgt : Int)) (hx : -9223372036854775808 ≤ x ∧ x ≤ 9223372036854775807) (hy : -9223372036854775808 ≤ y ∧ y ≤ 9223372036854775807) (kt : x = y → V0 E w nL m tgt L st) (kf : x ≠ y → V0 E w nL m (pc + 1 + 3) L st) : V0 E w nL m pc L (.long (lz y) :: .long (lz x) :: st) :=
  u0_lcmp C hx hy hdg (u0_if_eq C hdg2 ht (by split <;> (try split) <;> omega) (fun h => kt (by split at h <;> (try split at h) <;> omega)) (fun h => kf (by split at h <;> (try split at h) <;> omega)))
theorem u0_lc_ne (C : Cx E w cc own nL R0) {x y off : Int} {tgt : Nat} (hdg : decode cc pc = .ok (.lcmp, 1)) (hdg2 : decode cc (pc + 1) = .ok (.ifCond .ne off, 3)) (ht : ((pc + 1 : Nat) : Int) + off = (tgt : Int)) (hx : -9223372036854775808 ≤ x ∧ x ≤ 9223372036854775807) (hy : -9223372036854775808 ≤ y ∧ y ≤ 9223372036854775807) (kt : x ≠ y → V0 E w nL m tgt L st) (kf : x = y → V0 E w nL m (pc + 1 + 3) L st) : V0 E w nL m pc L (.long (lz y) :: .long (lz x) :: st) :=
  u0_lcmp C hx hy hdg (u0_if_ne C hdg2 ht (by split <;> (try split) <;> omega) (fun h => kt (by split at h <;> (try split at h) <;> omega)) (fun h => kf (by split at h <;> (try split at h) <;> omega)))
theorem u0_lc_le (C : Cx E w cc own nL R0) {x y off : Int} {tgt : Nat} (hdg : decode cc pc = .ok (.lcmp, 1)) (hdg2 : decode cc (pc + 1) = .ok (.ifCond .le off, 3)) (ht : ((pc + 1 : Nat) : Int) + off = (tgt : Int)) (hx : -9223372036854775808 ≤ x ∧ x ≤ 9223372036854775807) (hy : -9223372036854775808 ≤ y ∧ y ≤ 9223372036854775807) (kt : x ≤ y → V0 E w nL m tgt L st) (kf : y < x → V0 E w nL m (pc + 1 + 3) L st) : V0 E w nL m pc L (.long (lz y) :: .long (lz x) :: st) :=
  u0_lcmp C hx hy hdg (u0_if_le C hdg2 ht (by split <;> (try split) <;> omega) (fun h => kt (by split at h <;> (try split at h) <;> omega)) (fun h => kf (by split at h <;> (try split at h) <;> omega)))
theorem u0_lc_gt (C : Cx E w cc own nL R0) {x y off : Int} {tgt : Nat} (hdg : decode cc pc = .ok (.lcmp, 1)) (hdg2 : decode cc (pc + 1) = .ok (.ifCond .gt off, 3)) (ht : ((pc + 1 : Nat) : Int) + off = (tgt : Int)) (hx : -9223372036854775808 ≤ x ∧ x ≤ 9223372036854775807) (hy : -9223372036854775808 ≤ y ∧ y ≤ 9223372036854775807) (kt : y < x → V0 E w nL m tgt L st) (kf : x ≤ y → V0 E w nL m (pc + 1 + 3) L st) : V0 E w nL m pc L (.long (lz y) :: .long (lz x) :: st) :=
  u0_lcmp C hx hy hdg (u0_if_gt C hdg2 ht (by split <;> (try split) <;> omega) (fun h => kt (by split at h <;> (try split at h) <;> omega)) (fun h => kf (by split at h <;> (try split at h) <;> omega)))
theorem u0_lc_lt (C : Cx E w cc own nL R0) {x y off : Int} {tgt : Nat} (hdg : decode cc pc = .ok (.lcmp, 1)) (hdg2 : decode cc (pc + 1) = .ok (.ifCond .lt off, 3)) (ht : ((pc + 1 : Nat) : Int) + off = (tgt : Int)) (hx : -9223372036854775808 ≤ x ∧ x ≤ 9223372036854775807) (hy : -9223372036854775808 ≤ y ∧ y ≤ 9223372036854775807) (kt : x < y → V0 E w nL m tgt L st) (kf : y ≤ x → V0 E w nL m (pc + 1 + 3) L st) : V0 E w nL m pc L (.long (lz y) :: .long (lz x) :: st) :=
  u0_lcmp C hx hy hdg (u0_if_lt C hdg2 ht (by split <;> (try split) <;> omega) (fun h => kt (by split at h <;> (try split at h) <;> omega)) (fun h => kf (by split at h <;> (try split at h) <;> omega)))
theorem u0_lc_ge (C : Cx E w cc own nL R0) {x y off : Int} {tgt : Nat} (hdg : decode cc pc = .ok (.lcmp, 1)) (hdg2 : decode cc (pc + 1) = .ok (.ifCond .ge off, 3)) (ht : ((pc + 1 : Nat) : Int) + off = (tgt : Int)) (hx : -9223372036854775808 ≤ x ∧ x ≤ 9223372036854775807) (hy : -9223372036854775808 ≤ y ∧ y ≤ 9223372036854775807) (kt : y ≤ x → V0 E w nL m tgt L st) (kf : x < y → V0 E w nL m (pc + 1 + 3) L st) : V0 E w nL m pc L (.long (lz y) :: .long (lz x) :: st) :=
  u0_lcmp C hx hy hdg (u0_if_ge C hdg2 ht (by split <;> (try split) <;> omega) (fun h => kt (by split at h <;> (try split at h) <;> omega)) (fun h => kf (by split at h <;> (try split at h) <;> omega)))
theorem u0_table (C : Cx E w cc own nL R0) {dflt lo hi : Int} {offs : Array Int} {len : Nat} {x : Int} (hdg : decode cc pc = .ok (.tableswitch dflt lo hi offs, len)) (hx : -2147483648 ≤ x ∧ x ≤ 2147483647) (kout : ∀ tgt : Nat, (pc : Int) + dflt = (tgt : Int) → (x < lo ∨ hi < x) → V0 E w nL m tgt L st) (kin : ∀ (tgt : Nat) (off : Int), lo ≤ x → x ≤ hi → offs[(x - lo).toNat]? = some off → (pc : Int) + off = (tgt : Int) → V0 E w nL m tgt L st) (hd2 : ∃ tgt : Nat, (pc : Int) + dflt = (tgt : Int)) (hi2 : lo ≤ x → x ≤ hi → ∃ (tgt : Nat) (off : Int), offs[(x - lo).toNat]? = some off ∧ (pc : Int) + off = (tgt : Int)) : V0 E w nL m pc L (.int (iz x) :: st) := fun H locs ls hP hS hl => by
  by_cases h1 : x < lo
  · obtain ⟨tgt, ht⟩ := hd2
    exact lv_tableOut C.1 C.2.1 hdg (by rw [iz_toInt hx]; exact Or.inl h1) ht (kout tgt ht (Or.inl h1) H locs ls hP hS hl)
  · by_cases h2 : hi < x
    · obtain ⟨tgt, ht⟩ := hd2
      exact lv_tableOut C.1 C.2.1 hdg (by rw [iz_toInt hx]; exact Or.inr h2) ht (kout tgt ht (Or.inr h2) H locs ls hP hS hl)
    · obtain ⟨tgt, off, ho, ht⟩ := hi2 (by omega) (by omega)
      exact lv_tableIn C.1 C.2.1 hdg (by rw [iz_toInt hx]; exact h1) (by rw [iz_toInt hx]; exact h2) (by rw [iz_toInt hx]; exact ho) ht (kin tgt off (by omega) (by omega) ho ht H locs ls hP hS hl)
theorem u0_get (C : Cx E w cc own nL R0) {Cn : String} {T : u_T} {N ci index : Nat} {fs : List Value} (q : Nat) (j : Nat) (hq : q < w.2.2.2.1) (he : wE w q (m q) = .inr (ci, fs)) (hc : clsAll[ci]? = some (Cn, T, N)) (hin : ∀ y ∈ u_ws Cn T N, y ∈ lw_gd) (hj : j < N) {v : Value} (hv : fs[j]? = some v) (hlk : Cond.fieldLink own index (T j).1 (T j).2.1 (T j).2.2.1 ∈ lw_gd) (hdg : decode cc pc = .ok (.getfield index, 3)) (k : V0 E w nL m (pc + 3) L (v :: st)) : V0 E w nL m pc L (.ref (w.2.2.1 q) :: st) := fun H locs ls hP hS hl =>
  va_get (D := w.1) (cl := clsAll) (tys := wT w) C.1 C.2.1 C.2.2.2.2.1 hin C.2.2.2.1 C.2.2.2.2.2.1 hP q (by rw [wG_get hq, he]) hc j hj (C.2.2.2.2.1 _ hlk) (fun _ h => h) hv hdg (k H locs ls hP hS hl)
theorem u0_put (C : Cx E w cc own nL R0) {Cn : String} {T : u_T} {N ci index : Nat} {fs : List Value} (q : Nat) (j : Nat) (vj jz : Int) (hjz : (j : Int) = jz) (hq : q < w.2.2.2.1) (he : wE w q (m q) = .inr (ci, fs)) (hc : clsAll[ci]? = some (Cn, T, N)) (hin : ∀ y ∈ u_ws Cn T N, y ∈ lw_gd) (ty0 : Nat → FieldType) (hty : ∀ k, k < N → parseFieldDescriptor (T k).2.2.1 = some (ty0 k)) (hnm : ∀ a, a < N → ∀ b, b < N → a ≠ b → (T a).2.1 ≠ (T b).2.1) (hj : j < N) {v : Value} (hlk : Cond.fieldLink own index (T j).1 (T j).2.1 (T j).2.2.1 ∈ lw_gd) (hfin : (T j).2.2.2 = false) (hn : narrow (ty0 j) v = v) (hfit : fits (ty0 j) v = true) (hl2 : j < fs.length) (hset : wE w q (mup m q jz vj q) = .inr (ci, fs.set j v)) (hdg : decode cc pc = .ok (.putfield index, 3)) (k : ∀ m1 : Mem, m1 = mup m q jz vj → V0 E w nL m1 (pc + 3) L st) : V0 E w nL m pc L (v :: .ref (w.2.2.1 q) :: st) := fun H locs ls hP hS hl =>
  va_put (D := w.1) (cl := clsAll) (tys := wT w) (A := wA w E.2.2.2.2.1.heap.size) C.1 C.2.1 C.2.2.2.2.1 hin ty0 hty hnm C.2.2.2.1 C.2.2.2.2.2.1 hP (wD C.2.2.2.2.2.2.1 _ m) hS q (by rw [wG_get hq, he]) hc j hj (C.2.2.2.2.1 _ hlk) (fun _ h => h) hfin (hty j hj) hn hfit hl2 hdg
    (fun H1 locs1 hP1 hD1 hS1 => k _ rfl H1 locs1 ls (by rw [wG_set hq hset] at hP1; exact hP1) hS1 hl)
theorem u0_iald (C : Cx E w cc own nL R0) {n : Nat} {z : Int} (q : Nat) (hq : q < w.2.2.2.1) (he : wE w q (m q) = eI w.2.1 n (m q)) (hn : n < 2147483648) (hz : 0 ≤ z ∧ z < n) (hdg : decode cc pc = .ok (.iaload, 1)) (k : V0 E w nL m (pc + 1) L (.int (iz (m q z)) :: st)) : V0 E w nL m pc L (.int (iz z) :: .ref (w.2.2.1 q) :: st) := fun H locs ls hP hS hl => by
  have k := k H locs ls hP hS hl
  refine va_iald (s := E.2.2.2.2.1) (D := w.1) (cl := clsAll) (tys := wT w) C.1 C.2.1 C.2.2.2.2.2.1 hP q 0 (n := n) (f := fun j => iz (m q (j : Int))) (by rw [wG_get hq, he]) rfl (iz_in hz.1 hz.2 hn) hdg ?_
  rw [iz_clamp hz.1 (by omega), Int.toNat_of_nonneg hz.1]
  exact k
theorem u0_iast (C : Cx E w cc own nL R0) {n : Nat} {z v : Int} (q : Nat) (hq : q < w.2.2.2.1) (he : ∀ r, wE w q r = eI w.2.1 n r) (hn : n < 2147483648) (hz : 0 ≤ z ∧ z < n) (hdg : decode cc pc = .ok (.iastore, 1)) (k : ∀ m1 : Mem, m1 = mup m q z v → V0 E w nL m1 (pc + 1) L st) : V0 E w nL m pc L (.int (iz v) :: .int (iz z) :: .ref (w.2.2.1 q) :: st) := fun H locs ls hP hS hl => by
  refine va_iast (s := E.2.2.2.2.1) (D := w.1) (cl := clsAll) (tys := wT w) (A := wA w E.2.2.2.2.1.heap.size) C.1 C.2.1 C.2.2.2.2.2.1 hP (wD C.2.2.2.2.2.2.1 _ m) hS q 0 (n := n) (f := fun j => iz (m q (j : Int))) (by rw [wG_get hq, he]) rfl (iz_in hz.1 hz.2 hn) hdg (fun H1 locs1 hP1 hD1 hS1 => k _ rfl H1 locs1 ls ?_ hS1 hl)
  have hs : wE w q (mup m q z v q) = .inl (w.2.1 0, n, .inl (upd (fun j => iz (m q (j : Int))) (iz z).toNatClampNeg (iz v))) := by
    rw [he, mup_r]
    refine congrArg (fun f => (Sum.inl (w.2.1 0, n, Sum.inl f) : va_E)) (funext fun j => ?_)
    rw [iz_clamp hz.1 (by omega)]
    show iz (if (j : Int) = z then v else m q (j : Int)) = ite _ _ _
    by_cases h : (j : Int) = z
    · rw [if_pos (by omega : j = z.toNat), if_pos h]
    · rw [if_neg (by omega : ¬ j = z.toNat), if_neg h]
  rw [wG_set hq hs] at hP1
  exact hP1
theorem u0_bald (C : Cx E w cc own nL R0) {n : Nat} {z : Int} (q : Nat) (hq : q < w.2.2.2.1) (he : wE w q (m q) = eB w.2.1 n (m q)) (hn : n < 2147483648) (hz : 0 ≤ z ∧ z < n) (hdg : decode cc pc = .ok (.baload, 1)) (k : V0 E w nL m (pc + 1) L (.int (iz (m q z)) :: st)) : V0 E w nL m pc L (.int (iz z) :: .ref (w.2.2.1 q) :: st) := fun H locs ls hP hS hl => by
  have k := k H locs ls hP hS hl
  refine va_bald (s := E.2.2.2.2.1) (D := w.1) (cl := clsAll) (tys := wT w) C.1 C.2.1 C.2.2.2.2.2.1 hP q 2 (n := n) (f := fun j => iz (m q (j : Int))) (by rw [wG_get hq, he]) rfl (iz_in hz.1 hz.2 hn) hdg ?_
  rw [iz_clamp hz.1 (by omega), Int.toNat_of_nonneg hz.1]
  exact k
theorem u0_bast (C : Cx E w cc own nL R0) {n : Nat} {z v : Int} (q : Nat) (hq : q < w.2.2.2.1) (he : ∀ r, wE w q r = eB w.2.1 n r) (hn : n < 2147483648) (hz : 0 ≤ z ∧ z < n) (hv : vp_nar .byte (iz v) = iz v) (hdg : decode cc pc = .ok (.bastore, 1)) (k : ∀ m1 : Mem, m1 = mup m q z v → V0 E w nL m1 (pc + 1) L st) : V0 E w nL m pc L (.int (iz v) :: .int (iz z) :: .ref (w.2.2.1 q) :: st) := fun H locs ls hP hS hl => by
  refine va_bast (s := E.2.2.2.2.1) (D := w.1) (cl := clsAll) (tys := wT w) (A := wA w E.2.2.2.2.1.heap.size) C.1 C.2.1 C.2.2.2.2.2.1 hP (wD C.2.2.2.2.2.2.1 _ m) hS q 2 (n := n) (f := fun j => iz (m q (j : Int))) (by rw [wG_get hq, he]) rfl (iz_in hz.1 hz.2 hn) hdg (fun H1 locs1 hP1 hD1 hS1 => k _ rfl H1 locs1 ls ?_ hS1 hl)
  have hs : wE w q (mup m q z v q) = .inl (w.2.1 2, n, .inl (upd (fun j => iz (m q (j : Int))) (iz z).toNatClampNeg (vp_nar .byte (iz v)))) := by
    rw [he, mup_r]
    refine congrArg (fun f => (Sum.inl (w.2.1 2, n, Sum.inl f) : va_E)) (funext fun j => ?_)
    rw [iz_clamp hz.1 (by omega)]
    show iz (if (j : Int) = z then v else m q (j : Int)) = ite _ _ _
    by_cases h : (j : Int) = z
    · rw [if_pos (by omega : j = z.toNat), if_pos h]; exact hv.symm
    · rw [if_neg (by omega : ¬ j = z.toNat), if_neg h]
  rw [wG_set hq hs] at hP1
  exact hP1
theorem u0_zald (C : Cx E w cc own nL R0) {n : Nat} {z : Int} (q : Nat) (hq : q < w.2.2.2.1) (he : wE w q (m q) = eZ w.2.1 n (m q)) (hn : n < 2147483648) (hz : 0 ≤ z ∧ z < n) (hdg : decode cc pc = .ok (.baload, 1)) (k : V0 E w nL m (pc + 1) L (.int (iz (m q z)) :: st)) : V0 E w nL m pc L (.int (iz z) :: .ref (w.2.2.1 q) :: st) := fun H locs ls hP hS hl => by
  have k := k H locs ls hP hS hl
  refine va_zald (s := E.2.2.2.2.1) (D := w.1) (cl := clsAll) (tys := wT w) C.1 C.2.1 C.2.2.2.2.2.1 hP q 3 (n := n) (f := fun j => iz (m q (j : Int))) (by rw [wG_get hq, he]) rfl (iz_in hz.1 hz.2 hn) hdg ?_
  rw [iz_clamp hz.1 (by omega), Int.toNat_of_nonneg hz.1]
  exact k
theorem u0_zast (C : Cx E w cc own nL R0) {n : Nat} {z v : Int} (q : Nat) (hq : q < w.2.2.2.1) (he : ∀ r, wE w q r = eZ w.2.1 n r) (hn : n < 2147483648) (hz : 0 ≤ z ∧ z < n) (hv : vp_nar .boolean (iz v) = iz v) (hdg : decode cc pc = .ok (.bastore, 1)) (k : ∀ m1 : Mem, m1 = mup m q z v → V0 E w nL m1 (pc + 1) L st) : V0 E w nL m pc L (.int (iz v) :: .int (iz z) :: .ref (w.2.2.1 q) :: st) := fun H locs ls hP hS hl => by
  refine va_zast (s := E.2.2.2.2.1) (D := w.1) (cl := clsAll) (tys := wT w) (A := wA w E.2.2.2.2.1.heap.size) C.1 C.2.1 C.2.2.2.2.2.1 hP (wD C.2.2.2.2.2.2.1 _ m) hS q 3 (n := n) (f := fun j => iz (m q (j : Int))) (by rw [wG_get hq, he]) rfl (iz_in hz.1 hz.2 hn) hdg (fun H1 locs1 hP1 hD1 hS1 => k _ rfl H1 locs1 ls ?_ hS1 hl)
  have hs : wE w q (mup m q z v q) = .inl (w.2.1 3, n, .inl (upd (fun j => iz (m q (j : Int))) (iz z).toNatClampNeg (vp_nar .boolean (iz v)))) := by
    rw [he, mup_r]
    refine congrArg (fun f => (Sum.inl (w.2.1 3, n, Sum.inl f) : va_E)) (funext fun j => ?_)
    rw [iz_clamp hz.1 (by omega)]
    show iz (if (j : Int) = z then v else m q (j : Int)) = ite _ _ _
    by_cases h : (j : Int) = z
    · rw [if_pos (by omega : j = z.toNat), if_pos h]; exact hv.symm
    · rw [if_neg (by omega : ¬ j = z.toNat), if_neg h]
  rw [wG_set hq hs] at hP1
  exact hP1
theorem u0_lald (C : Cx E w cc own nL R0) {n : Nat} {z : Int} (q : Nat) (hq : q < w.2.2.2.1) (he : wE w q (m q) = eL w.2.1 n (m q)) (hn : n < 2147483648) (hz : 0 ≤ z ∧ z < n) (hdg : decode cc pc = .ok (.laload, 1)) (k : V0 E w nL m (pc + 1) L (.long (lz (m q z)) :: st)) : V0 E w nL m pc L (.int (iz z) :: .ref (w.2.2.1 q) :: st) := fun H locs ls hP hS hl => by
  have k := k H locs ls hP hS hl
  refine va_lald (s := E.2.2.2.2.1) (D := w.1) (cl := clsAll) (tys := wT w) C.1 C.2.1 C.2.2.2.2.2.1 hP q 1 (n := n) (f := fun j => lz (m q (j : Int))) (by rw [wG_get hq, he]) rfl (iz_in hz.1 hz.2 hn) hdg ?_
  rw [iz_clamp hz.1 (by omega), Int.toNat_of_nonneg hz.1]
  exact k
theorem u0_last (C : Cx E w cc own nL R0) {n : Nat} {z v : Int} (q : Nat) (hq : q < w.2.2.2.1) (he : ∀ r, wE w q r = eL w.2.1 n r) (hn : n < 2147483648) (hz : 0 ≤ z ∧ z < n) (hdg : decode cc pc = .ok (.lastore, 1)) (k : ∀ m1 : Mem, m1 = mup m q z v → V0 E w nL m1 (pc + 1) L st) : V0 E w nL m pc L (.long (lz v) :: .int (iz z) :: .ref (w.2.2.1 q) :: st) := fun H locs ls hP hS hl => by
  refine va_last (s := E.2.2.2.2.1) (D := w.1) (cl := clsAll) (tys := wT w) (A := wA w E.2.2.2.2.1.heap.size) C.1 C.2.1 C.2.2.2.2.2.1 hP (wD C.2.2.2.2.2.2.1 _ m) hS q 1 (n := n) (f := fun j => lz (m q (j : Int))) (by rw [wG_get hq, he]) rfl (iz_in hz.1 hz.2 hn) hdg (fun H1 locs1 hP1 hD1 hS1 => k _ rfl H1 locs1 ls ?_ hS1 hl)
  have hs : wE w q (mup m q z v q) = .inl (w.2.1 1, n, .inr (.inl (vp_updL (fun j => lz (m q (j : Int))) (iz z).toNatClampNeg (lz v)))) := by
    rw [he, mup_r]
    refine congrArg (fun f => (Sum.inl (w.2.1 1, n, Sum.inr (Sum.inl f)) : va_E)) (funext fun j => ?_)
    rw [iz_clamp hz.1 (by omega)]
    show lz (if (j : Int) = z then v else m q (j : Int)) = ite _ _ _
    by_cases h : (j : Int) = z
    · rw [if_pos (by omega : j = z.toNat), if_pos h]
    · rw [if_neg (by omega : ¬ j = z.toNat), if_neg h]
  rw [wG_set hq hs] at hP1
  exact hP1
theorem u0_alen (C : Cx E w cc own nL R0) {n : Nat} {x : (Nat → Int32) ⊕ (Nat → Int64) ⊕ (Nat → UInt32) ⊕ (Nat → UInt64) ⊕ (Nat → Option Nat)} {cA : ClassId} {ty : FieldType} (q t0 : Nat) (hq : q < w.2.2.2.1) (he : wE w q (m q) = .inl (cA, n, x)) (ht : (wT w)[t0]? = some (cA, ty)) (hdg : decode cc pc = .ok (.arraylength, 1)) (k : V0 E w nL m (pc + 1) L (.int (iz (n : Int)) :: st)) : V0 E w nL m pc L (.ref (w.2.2.1 q) :: st) := fun H locs ls hP hS hl =>
  va_alen (s := E.2.2.2.2.1) (D := w.1) (cl := clsAll) (tys := wT w) (x := (n, x)) C.1 C.2.1 C.2.2.2.2.2.1 hP q t0 (by rw [wG_get hq, he]) ht (by show Int32.ofNat n = iz (n : Int); unfold iz; exact (Int32.ofInt_eq_ofNat).symm) hdg (k H locs ls hP hS hl)
theorem u0_iret (C : Cx E w cc own nL R0) {Post : Option Value → Mem → Prop} {v : Int} {ty : FieldType} (X : Rx0 E w (some ty) Post) (hn : narrow ty (.int (iz v)) = .int (iz v)) (hdg : decode cc pc = .ok (.ireturn, 1)) (hpost : Post (some (.int (iz v))) m) : V0 E w nL m pc L [.int (iz v)] := fun H locs ls hP hS hl => by
  obtain ⟨hr, hlk, hQ⟩ := X
  rw [hQ]
  exact W.zret C.1 C.2.1 hr hn (fun t ht hW => ⟨⟨_, m, rfl, hpost, by rw [ht]; exact hP⟩, hS.F ht⟩) hS.2.2 hdg hlk
theorem u0_lret (C : Cx E w cc own nL R0) {Post : Option Value → Mem → Prop} {v : Int} (X : Rx0 E w (some .long) Post) (hdg : decode cc pc = .ok (.lreturn, 1)) (hpost : Post (some (.long (lz v))) m) : V0 E w nL m pc L [.long (lz v)] := fun H locs ls hP hS hl => by
  obtain ⟨hr, hlk, hQ⟩ := X
  rw [hQ]
  exact W.lret C.1 C.2.1 hr (fun t ht hW => ⟨⟨_, m, rfl, hpost, by rw [ht]; exact hP⟩, hS.F ht⟩) hS.2.2 hdg hlk
theorem u0_vret (C : Cx E w cc own nL R0) {Post : Option Value → Mem → Prop}  (X : Rx0 E w none Post) (hdg : decode cc pc = .ok (.return_, 1)) (hpost : Post none m) : V0 E w nL m pc L [] := fun H locs ls hP hS hl => by
  obtain ⟨hr, hlk, hQ⟩ := X
  rw [hQ]
  exact W.vret C.1 C.2.1 hr (fun t ht hW => ⟨⟨_, m, rfl, hpost, by rw [ht]; exact hP⟩, hS.F ht⟩) hS.2.2 hdg hlk
theorem u0_aret (C : Cx E w cc own nL R0) {Post : Option Value → Mem → Prop} {v : Nat} {ty : FieldType} (X : Rx0 E w (some ty) Post) (hty : (∃ n, ty = .object n) ∨ ∃ t, ty = .array t) (hdg : decode cc pc = .ok (.areturn, 1)) (hpost : Post (some (.ref v)) m) : V0 E w nL m pc L [.ref v] := fun H locs ls hP hS hl => by
  obtain ⟨hr, hlk, hQ⟩ := X
  rw [hQ]
  exact W.aret C.1 C.2.1 hr hty (Or.inr ⟨v, rfl⟩) (fun t ht hW => ⟨⟨_, m, rfl, hpost, by rw [ht]; exact hP⟩, hS.F ht⟩) hS.2.2 hdg hlk
theorem u0_mem {m1 : Mem} (h : m = m1) (k : V0 E w nL m1 pc L st) : V0 E w nL m pc L st := h ▸ k
theorem u0_sub {L1 : List (Nat × Value)} (ks : List Nat) (hL : lv_pick L ks = L1) (k : V0 E w nL m pc L1 st) : V0 E w nL m pc L st := fun H locs ls hP hS hl => k H locs ls hP hS (lv_sub hl ks hL)
theorem u0_st {st1 : List Value} (h : st = st1) (k : V0 E w nL m pc L st1) : V0 E w nL m pc L st := h ▸ k
theorem OX.call0 {U : State} {H : Heap} {locs : List Loc} (C : Cx E w cc own nL R0) (hW : E.2.2.2.2.1.WarmedH U.vm) (hU : U.heap = H) (hS : va_S (wA w E.2.2.2.2.1.heap.size) E.2.2.2.2.1.heap H locs) : OX w.2.2.2.2.2 (wA w H.size) U U.heap := by
  subst hU
  exact OX.to C.2.2.2.2.2.2.2.2 hW (fun a h1 h2 => hS.2.1 a h1 h2) (fun q hq => hq.elim (fun x => Or.inl x) (fun x => Or.inr (Nat.le_trans hS.1 x)))
theorem u0_after {rest st0 : List Value} {a : Array Value} {Post : Option Value → Mem → Prop} (hr : ∀ (H : Heap) (locs : List Loc) (ls : Array Slot), va_P w.1 clsAll (wG w m) H → va_S (wA w E.2.2.2.2.1.heap.size) E.2.2.2.2.1.heap H locs → lv_has ls nL L → va_Run E.1 E.2.1 E.2.2.1 E.2.2.2.1 E.2.2.2.2.1 E.2.2.2.2.2.1 E.2.2.2.2.2.2.1 E.2.2.2.2.2.2.2.1 E.2.2.2.2.2.2.2.2.1 E.2.2.2.2.2.2.2.2.2.1 H locs 0 0 0 0 (F0 E.2.2.2.2.2.1 pc ls st0) rest (QW w H.size Post a) (wA w H.size))
    (k : ∀ (r : Option Value) (m1 : Mem), Post r m1 → V0 E w nL m1 (pc + 3) L (r.toList ++ rest)) : V0 E w nL m pc L st0 := fun H locs ls hP hS hl => by
  intro T hT X
  obtain ⟨v, st₀, t, T', Lo, h0, X', hL, e1, e2, ⟨⟨r, m1, hv, hp, hP1⟩, hz, hk⟩, stp⟩ := hr H locs ls hP hS hl T hT X
  cases hv
  rw [h0] at hz hk
  rw [← e1] at hP1
  have hA : ∀ q, wA w H.size q → wA w E.2.2.2.2.1.heap.size q := fun q hq => hq.elim (fun x => Or.inl x) (fun x => Or.inr (Nat.le_trans hS.1 x))
  have hS1 : va_S (wA w E.2.2.2.2.1.heap.size) E.2.2.2.2.1.heap T'.heap (locs ++ Lo) := ⟨Nat.le_trans hS.1 (by rw [e1]; exact hz), fun q h1 h2 => by rw [e1, hk q (Nat.lt_of_lt_of_le h1 hS.1) (fun z => h2 (hA q z))]; exact hS.2.1 q h1 h2, fun q hq => by
      rcases List.mem_append.mp hq with h | h
      · exact hS.2.2 q h
      · exact hA _ (hL q h)⟩
  obtain ⟨t2, a1, b1⟩ := k v m1 hp T'.heap (locs ++ Lo) ls hP1 hS1 hl T' rfl X'
  exact ⟨t2, stp t2 a1, b1⟩
theorem u0_callV (C : Cx E w cc own nL R0) {y : MethodName} {bytes : ByteArray} {maxL index n : Nat} {ret : Option FieldType} {rm : Room} {Post : Option Value → Mem → Prop} {st0 : List Value} {q ci : Nat} {Cn : String} {T : u_T} {N : Nat} {fs : List Value} (As : List Value) (hM : MT0 E.2.1 w y bytes maxL ret rm m (.ref (w.2.2.1 q) :: As) Post) (hq : q < w.2.2.2.1) (he : wE w q (m q) = .inr (ci, fs)) (hc : clsAll[ci]? = some (Cn, T, N)) (hcode : Cond.code y bytes maxL ret ∈ lw_gd) (hini : Cond.initialized y.cls ∈ lw_gd) (hlk : Cond.methodLink own index y ∈ lw_gd) (hcz : rm.cells = 0) (hsz : rm.slots = 0) (hroom : rm.frames + 1 ≤ R0.frames ∧ 8 + (maxL + 11) + rm.locals ≤ R0.locals) (hnm : y.cls ≠ "java/lang/invoke/MethodHandle" ∧ y.cls ≠ "java/lang/invoke/VarHandle" ∧ (parseMethodDescriptor y.desc).map (fun d => d.parameters.length) = some n) (hinst : Cond.instanceMethod y ∈ lw_gd) (hsel : Cond.selects Cn y y ∈ lw_gd) (hn : As.length = n) (hst : st0 = As.reverse ++ .ref (w.2.2.1 q) :: st) (hcat : (st.map fun v => v.category).sum ≤ 8) (hdg : decode cc pc = .ok (.invokevirtual index, 3))
    (k : ∀ (r : Option Value) (m1 : Mem), Post r m1 → V0 E w nL m1 (pc + 3) L (r.toList ++ st)) : V0 E w nL m pc L st0 := by
  refine u0_after (a := (Value.ref (w.2.2.1 q) :: As).toArray) (fun H locs ls hP hS hl => ?_) k
  exact va_runV (nL := nL) (C := Cn) (Ts := lw_gd) (own := own) (n := n) (b := w.2.2.1 q) (As := As) (rest := st) ⟨C.1, C.2.1, C.2.2.1, C.2.2.2.1, C.2.2.2.2.1⟩ (hM H.size) ⟨(callB_of (Ts := lw_gd) n C.2.2.2.2.1 (good_ws hcode) rfl hcz hsz (C.2.2.2.2.1 _ hini) (C.2.2.2.2.1 _ hlk) hnm (by rw [C.2.2.2.2.2.2.2.1]; exact hroom)), C.2.2.2.2.1 _ hinst, C.2.2.2.2.1 _ hsel⟩
    ⟨BW_blind, va_recv (q := (Cn, T, N)) (va_K.moved (Vm.Alike.refl _) C.2.2.2.2.2.1) hP hc (by rw [wG_get hq, he]), fun U hU hW => ⟨rfl, by rw [hU], by rw [hU]; exact hP, va_K.moved hW.alike C.2.2.2.2.2.1, OX.call0 C hW hU hS⟩⟩ rfl hn hl.1 hst (lv_room (m := E.2.2.2.2.2.1) (pc := pc) (ls := ls) (rest := st0) hcat) hdg ⟨Nat.zero_le _, Nat.zero_le _⟩
theorem u0_callS (C : Cx E w cc own nL R0) {y : MethodName} {bytes : ByteArray} {maxL index n : Nat} {ret : Option FieldType} {rm : Room} {Post : Option Value → Mem → Prop} {st0 : List Value} (As : List Value) (hM : MT0 E.2.1 w y bytes maxL ret rm m As Post) (hcode : Cond.code y bytes maxL ret ∈ lw_gd) (hini : Cond.initialized y.cls ∈ lw_gd) (hlk : Cond.methodLink own index y ∈ lw_gd) (hcz : rm.cells = 0) (hsz : rm.slots = 0) (hroom : rm.frames + 1 ≤ R0.frames ∧ 8 + (maxL + 11) + rm.locals ≤ R0.locals) (hnm : y.cls ≠ "java/lang/invoke/MethodHandle" ∧ y.cls ≠ "java/lang/invoke/VarHandle" ∧ (parseMethodDescriptor y.desc).map (fun d => d.parameters.length) = some n) (hstat : Cond.static y ∈ lw_gd) (hn : As.length = n) (hst : st0 = As.reverse ++ st) (hcat : (st.map fun v => v.category).sum ≤ 8) (hdg : decode cc pc = .ok (.invokestatic index, 3))
    (k : ∀ (r : Option Value) (m1 : Mem), Post r m1 → V0 E w nL m1 (pc + 3) L (r.toList ++ st)) : V0 E w nL m pc L st0 := by
  refine u0_after (a := As.toArray) (fun H locs ls hP hS hl => ?_) k
  exact va_runS (nL := nL) (Ts := lw_gd) (own := own) (n := n) (As := As) (rest := st) ⟨C.1, C.2.1, C.2.2.1, C.2.2.2.1, C.2.2.2.2.1⟩ (hM H.size) ⟨(callB_of (Ts := lw_gd) n C.2.2.2.2.1 (good_ws hcode) rfl hcz hsz (C.2.2.2.2.1 _ hini) (C.2.2.2.2.1 _ hlk) hnm (by rw [C.2.2.2.2.2.2.2.1]; exact hroom)), C.2.2.2.2.1 _ hstat⟩
    ⟨BW_blind, fun U hU hW => ⟨rfl, by rw [hU], by rw [hU]; exact hP, va_K.moved hW.alike C.2.2.2.2.2.1, OX.call0 C hW hU hS⟩⟩ rfl hn hl.1 hst (lv_room (m := E.2.2.2.2.2.1) (pc := pc) (ls := ls) (rest := st0) hcat) hdg ⟨Nat.zero_le _, Nat.zero_le _⟩
theorem u0_callSN (C : Cx E w cc own nL R0) {y : MethodName} {bytes : ByteArray} {maxL index n : Nat} {ret : Option FieldType} {rm : Room} {Post : Option Value → Mem → Prop} {st0 : List Value} (As : List Value) (hM : MT0 E.2.1 w y bytes maxL ret rm m As Post) (hcode : Cond.code y bytes maxL ret ∈ lw_gd) (hini : Cond.initialized y.cls ∈ lw_gd) (host : String) (hlk : (own, index, y, host) ∈ nestS) (hcz : rm.cells = 0) (hsz : rm.slots = 0) (hroom : rm.frames + 1 ≤ R0.frames ∧ 8 + (maxL + 11) + rm.locals ≤ R0.locals) (hnm : y.cls ≠ "java/lang/invoke/MethodHandle" ∧ y.cls ≠ "java/lang/invoke/VarHandle" ∧ (parseMethodDescriptor y.desc).map (fun d => d.parameters.length) = some n) (hstat : Cond.static y ∈ lw_gd) (hn : As.length = n) (hst : st0 = As.reverse ++ st) (hcat : (st.map fun v => v.category).sum ≤ 8) (hdg : decode cc pc = .ok (.invokestatic index, 3))
    (k : ∀ (r : Option Value) (m1 : Mem), Post r m1 → V0 E w nL m1 (pc + 3) L (r.toList ++ st)) : V0 E w nL m pc L st0 := by
  refine u0_after (a := As.toArray) (fun H locs ls hP hS hl => ?_) k
  exact va_runSN (nL := nL) (Ts := lw_gd) (own := own) (host := host) (n := n) (As := As) (rest := st) ⟨C.1, C.2.1, C.2.2.1, C.2.2.2.1, C.2.2.2.2.1⟩ (hM H.size) ⟨(va_cnB (host := host) (Ts := lw_gd) n C.2.2.2.2.1 (good_ws hcode) rfl hcz hsz (va_Nw.same rfl rfl (C.2.2.2.2.2.2.2.2.2.2.2 _ hlk)) (C.2.2.2.2.1 _ hini) hnm (by rw [C.2.2.2.2.2.2.2.1]; exact hroom)), C.2.2.2.2.1 _ hstat, trivial⟩
    ⟨BW_blind, fun U hU hW => ⟨rfl, by rw [hU], by rw [hU]; exact hP, va_K.moved hW.alike C.2.2.2.2.2.1, OX.call0 C hW hU hS⟩⟩ rfl hn hl.1 hst (lv_room (m := E.2.2.2.2.2.1) (pc := pc) (ls := ls) (rest := st0) hcat) hdg ⟨Nat.zero_le _, Nat.zero_le _⟩
end VR0
