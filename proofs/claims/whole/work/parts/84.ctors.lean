/-! constructors: a world that grows; the judgement VB, its rows -/
def VB (E : Amb) (D : va_G) (A : Nat → Prop) (nL cells slots : Nat) (ws : va_W) (pc : Nat) (L : List (Nat × Value)) (st : List Value) : Prop :=
  ∀ (H : Heap) (locs : List Loc) (ls : Array Slot), va_P D clsAll ws H → va_D A ws → va_S A E.2.2.2.2.1.heap H locs → lv_has ls nL L →
    W E.1 E.2.1 E.2.2.1 E.2.2.2.1 E.2.2.2.2.1 E.2.2.2.2.2.1 E.2.2.2.2.2.2.1 E.2.2.2.2.2.2.2.1 E.2.2.2.2.2.2.2.2.1 E.2.2.2.2.2.2.2.2.2.1 H locs cells slots E.2.2.2.2.2.2.2.2.2.2 (F0 E.2.2.2.2.2.1 pc ls st)
abbrev tyB (cy : Nat → ClassId) : List (ClassId × FieldType) := [(cy 0, .int), (cy 1, .long), (cy 2, .byte), (cy 3, .boolean)]
def CB (E : Amb) (D : va_G) (cy : Nat → ClassId) (ad : Nat → Nat) (A : Nat → Prop) (cc : ByteArray) (own : String) (nL : Nat) (R0 : Room) : Prop :=
  E.1.tables.exec = Jvm.exec ∧ E.2.2.2.2.2.2.2.2.2.1.code = cc ∧ E.2.2.2.2.2.2.2.2.2.1.maxLocals = nL ∧ E.2.2.2.2.1.vm.findClass own = some E.2.2.2.2.2.1.cls ∧ (∀ q ∈ lw_gd, q.before E.2.2.2.2.2.2.1 E.2.2.2.2.1 = true) ∧ va_K D clsAll (tyB cy) E.2.2.2.2.1 ∧ (∀ q, E.2.2.2.2.1.heap.size ≤ q → A q) ∧ E.2.2.2.1 = R0 ∧ OX ad A E.2.2.2.2.1 E.2.2.2.2.1.heap
def QB (D : va_G) (A : Nat → Prop) (Pw : va_W → Prop) : Array Value → State → Outcome → State → Prop := fun _ st oc t => (oc = .returned none ∧ ∃ w1, Pw w1 ∧ va_P D clsAll w1 t.heap ∧ va_D A w1) ∧ va_F A st t
def BB (D : va_G) (cy : Nat → ClassId) (ad : Nat → Nat) (w0 : va_W) (sz : Nat) : State → Prop := fun U => U.heap.size = sz ∧ va_P D clsAll w0 U.heap ∧ va_K D clsAll (tyB cy) U ∧ va_D (fun _ => True) w0 ∧ OX ad (va_A w0 sz) U U.heap
/-- a constructor's contract: called on the worlds' cell w0, it leaves w1 in its place -/
def CT (l : Launch) (D : va_G) (cy : Nat → ClassId) (ad : Nat → Nat) (y : MethodName) (cc : ByteArray) (maxL : Nat) (rm : Room) (av : List Value) (w0 : va_W) (Pw : va_W → Prop) : Prop :=
  ∀ sz : Nat, Met l y (ws_ y cc maxL none) rm (va_Pc av (BB D cy ad w0 sz)) (QB D (va_A w0 sz) Pw) rm.cells rm.slots (va_A w0 sz)
theorem BB_blind {D : va_G} {cy : Nat → ClassId} {ad : Nat → Nat} {w0 : va_W} {sz : Nat} {av : List Value} : FrameBlind (va_Pc av (BB D cy ad w0 sz)) := fun a U g mk q => ⟨q.1, q.2.1, q.2.2.1, va_K.moved (u := U) (U := U.calling g mk a) (Vm.Alike.refl U.vm) q.2.2.2.1, q.2.2.2.2.1, OX.same rfl q.2.2.2.2.2⟩
theorem b_entry {l : Launch} {D : va_G} {cy : Nat → ClassId} {ad : Nat → Nat} {y : MethodName} {cc : ByteArray} {maxL : Nat} {rm : Room} {av : List Value} {w0 : va_W} {Pw : va_W → Prop} (own : String) (hy : plainName y.cls = true) (ho : y.cls = own) (hn : y.name = "<init>") (hlen : (lg_sl av).length ≤ maxL)
    (body : ∀ (E : Amb) (A : Nat → Prop), E.2.1 = l → CB E D cy ad A cc own maxL (headSpec (ws_ y cc maxL none) rm).room → E.2.2.2.2.2.2.2.2.1.name = "<init>" → E.2.2.2.2.2.2.2.2.1.sig.returnType = none → E.2.2.2.2.2.2.2.2.1.locks = false → E.2.2.2.2.2.2.2.2.2.2 = MQ E.2.2.2.2.2.2.2.1 (QB D A Pw) E.2.2.2.2.2.2.1 E.2.2.2.2.1 rm.cells rm.slots A → VB E D A maxL 0 0 w0 0 (lv_args 0 av) []) : CT l D cy ad y cc maxL rm av w0 Pw := by
  intro sz
  refine Met.ofW (cc := cc) (maxL := maxL) (ret := none) hy rfl ?_
  intro p e s mid args below meth c s₁ B hml hv
  obtain ⟨rfl, hsz, hP, hK, hD, hO⟩ := hv
  subst hsz
  have hts := atoms_spec (ws := ws_ y cc maxL none) B.pre
  have hts2 : ∀ q ∈ lw_gd, q.before av.toArray s = true := fun q h => hts q (List.mem_cons_of_mem _ h)
  have hown : s.vm.findClass own = some mid.cls := by rw [← ho]; exact findClass_of_methodNamed B.named
  have hin : meth.name = "<init>" := (name_of_methodNamed B.named B.method).1.trans hn
  have key := body (p, l, e, (headSpec (ws_ y cc maxL none) rm).room, s, mid, av.toArray, below, meth, c, MQ below (QB D (va_A w0 s.heap.size) Pw) av.toArray s rm.cells rm.slots (va_A w0 s.heap.size)) (va_A w0 s.heap.size) rfl ⟨B.exec, B.bytes, hml, hown, hts2, hK, fun q h => Or.inr h, rfl, hO⟩ hin B.returns B.notSynchronized rfl
  have hl := lv_entry av (n := maxL) hlen
  rw [lg_entry_eq]
  exact key s.heap [] _ hP hD.self va_S.rf hl
section VRB
variable {E : Amb} {D : va_G} {cy : Nat → ClassId} {ad : Nat → Nat} {A : Nat → Prop} {cc : ByteArray} {own : String} {nL cells slots : Nat} {R0 : Room} {ws : va_W} {pc : Nat} {L : List (Nat × Value)} {st : List Value}
theorem b_iconst (C : CB E D cy ad A cc own nL R0) {n z : Int} (hdg : decode cc pc = .ok (.iconst n, 1)) (hz : Int32.ofInt n = iz z) (k : VB E D A nL cells slots ws (pc + 1) L (.int (iz z) :: st)) : VB E D A nL cells slots ws pc L (st) := fun H locs ls hP hD hS hl => by
  have k := k H locs ls hP hD hS hl
  exact lv_iconst C.1 C.2.1 hdg hz k
theorem b_bipush (C : CB E D cy ad A cc own nL R0) {n z : Int} (hdg : decode cc pc = .ok (.bipush n, 2)) (hz : (Int8.ofInt n).toInt32 = iz z) (k : VB E D A nL cells slots ws (pc + 2) L (.int (iz z) :: st)) : VB E D A nL cells slots ws pc L (st) := fun H locs ls hP hD hS hl => by
  have k := k H locs ls hP hD hS hl
  exact lv_bipush C.1 C.2.1 hdg hz k
theorem b_sipush (C : CB E D cy ad A cc own nL R0) {n z : Int} (hdg : decode cc pc = .ok (.sipush n, 3)) (hz : (Int16.ofInt n).toInt32 = iz z) (k : VB E D A nL cells slots ws (pc + 3) L (.int (iz z) :: st)) : VB E D A nL cells slots ws pc L (st) := fun H locs ls hP hD hS hl => by
  have k := k H locs ls hP hD hS hl
  exact lv_sipush C.1 C.2.1 hdg hz k
theorem b_lconst (C : CB E D cy ad A cc own nL R0) {n : Fin 2} {z : Int} (hdg : decode cc pc = .ok (.lconst n, 1)) (hz : Int64.ofNat (n : Nat) = lz z) (k : VB E D A nL cells slots ws (pc + 1) L (.long (lz z) :: st)) : VB E D A nL cells slots ws pc L (st) := fun H locs ls hP hD hS hl => by
  have k := k H locs ls hP hD hS hl
  exact lv_lconst C.1 C.2.1 hdg hz k
theorem b_aload_n (C : CB E D cy ad A cc own nL R0) {n : Fin 4} {x : Nat} (q : Nat) (hdg : decode cc pc = .ok (.aload_n n, 1)) (hq : L[q]? = some ((n : Nat), .ref x)) (k : VB E D A nL cells slots ws (pc + 1) L (.ref x :: st)) : VB E D A nL cells slots ws pc L (st) := fun H locs ls hP hD hS hl => by
  have k := k H locs ls hP hD hS hl
  exact lv_aload_n C.1 C.2.1 hdg rfl (lv_at hl q hq) k
theorem b_dup (C : CB E D cy ad A cc own nL R0) {v : Value} (hdg : decode cc pc = .ok (.dup, 1)) (hv : v.category = 1) (k : VB E D A nL cells slots ws (pc + 1) L (v :: v :: st)) : VB E D A nL cells slots ws pc L (v :: st) := fun H locs ls hP hD hS hl => by
  have k := k H locs ls hP hD hS hl
  exact lv_dup C.1 C.2.1 hdg hv k
theorem b_objinit (C : CB E D cy ad A cc own nL R0) {idx : Nat} {a : Nat} (hlk : Cond.methodLink own idx Lib.objectInit ∈ lw_gd) (hin : Cond.instanceMethod Lib.objectInit ∈ lw_gd) (hco : Cond.code Lib.objectInit ⟨#[0xb1]⟩ 1 none ∈ lw_gd) (hR : 1 ≤ R0.frames ∧ 20 ≤ R0.locals) (hcat : (st.map fun v => v.category).sum ≤ 8) (hdg : decode cc pc = .ok (.invokespecial idx, 3)) (k : VB E D A nL cells slots ws (pc + 3) L st) : VB E D A nL cells slots ws pc L (.ref a :: st) := fun H locs ls hP hD hS hl =>
  W.objInit C.1 C.2.1 C.2.2.2.1 (C.2.2.2.2.1 _ hlk) (C.2.2.2.2.1 _ hin) (C.2.2.2.2.1 _ hco) rfl (by rw [C.2.2.1]; exact hl.1) rfl hdg (by rw [C.2.2.2.2.2.2.2.1]; exact hR.1) (by rw [C.2.2.2.2.2.2.2.1]; show 2 * 0 + _ + 12 ≤ _; omega) (W.eq (g2 := F0 E.2.2.2.2.2.1 (pc + 3) ls st) rfl (k H locs ls hP hD hS hl))
theorem ra_eq {U : State} {a b : ClassId} {t : FieldType} (ht : ∀ n, t ≠ .object n) (h1 : va_RA U a t) (h2 : va_RA U b t) : a = b := by
  cases t with
  | object n => exact absurd rfl (ht n)
  | byte | char | double | float | int | long | short | boolean | array => exact Option.some.inj (h1.symm.trans h2)
theorem b_newa (C : CB E D cy ad A cc own nL R0) (t0 : Nat) {atype : ArrayType} {ty : FieldType} {z : Int} {N : Nat} {a0 : vp_A} (ht0 : (tyB cy)[t0]? = some (cy t0, ty)) (hob : ∀ n, ty ≠ .object n) (harr : Cond.arrayClass (newarray.typeOf atype) ∈ lw_gd) (hty : newarray.typeOf atype = ty) (ha : ∀ cA : ClassId, vp_cell cA a0 = arrV cA N (fun _ => defaultValue ty)) (hz : 0 ≤ z ∧ z ≤ 10000) (hN : z.toNat = N) (hbytes : N * componentBytes ty ≤ 536870912) (hroom : cells + 1 ≤ R0.cells ∧ slots + N ≤ R0.slots) (hdg : decode cc pc = .ok (.newarray atype, 2)) (k : ∀ q : Nat, VB E D A nL (cells + 1) (slots + N) (ws ++ [(q, .inl (cy t0, a0))]) (pc + 2) L (.ref q :: st)) : VB E D A nL cells slots ws pc L (.int (iz z) :: st) := fun H locs ls hP hD hS hl => by
  refine va_newa C.1 C.2.1 (C.2.2.2.2.1 _ harr) hty C.2.2.2.2.2.1 hP hD hS C.2.2.2.2.2.2.1 ha (by rw [Int32.lt_iff_toInt_lt, iz_toInt ⟨by omega, by omega⟩]; show ¬ z < 0; omega) ((iz_clamp hz.1 (by omega)).trans hN) hbytes (by rw [C.2.2.2.2.2.2.2.1]; exact hroom.1) (by rw [C.2.2.2.2.2.2.2.1]; exact hroom.2) hdg (fun q cA H1 hK1 hP1 hD1 hS1 => ?_)
  have e : cA = cy t0 := ra_eq hob (hK1.2 (tyB cy).length (cA, ty) (by simp)).2 (C.2.2.2.2.2.1.2 t0 _ ht0).2
  subst e
  exact k q H1 locs ls hP1 hD1 hS1 hl
theorem b_new (C : CB E D cy ad A cc own nL R0) {Cn : String} {T : u_T} {N ci index : Nat} {fs : List Value} (hin : ∀ y ∈ u_ws Cn T N, y ∈ lw_gd) (ty0 : Nat → FieldType) (hty : ∀ k, k < N → parseFieldDescriptor (T k).2.2.1 = some (ty0 k)) (hcl : Cond.classLink own index Cn ∈ lw_gd) (hinst : Cond.instantiable Cn N ∈ lw_gd) (hini : Cond.initialized Cn ∈ lw_gd) (hc : clsAll[ci]? = some (Cn, T, N)) (hfs : ∀ j, j < N → defaultValue (ty0 j) = vp_V fs j) (hroom : cells + 1 ≤ R0.cells ∧ slots + N ≤ R0.slots) (hdg : decode cc pc = .ok (.new index, 3)) (k : ∀ q : Nat, VB E D A nL (cells + 1) (slots + N) (ws ++ [(q, .inr (ci, fs))]) (pc + 3) L (.ref q :: st)) : VB E D A nL cells slots ws pc L st := fun H locs ls hP hD hS hl =>
  va_new C.1 C.2.1 C.2.2.2.2.1 hin ty0 hty C.2.2.2.1 (C.2.2.2.2.1 _ hcl) (C.2.2.2.2.1 _ hinst) (C.2.2.2.2.1 _ hini) C.2.2.2.2.2.1 hP hD hS C.2.2.2.2.2.2.1 hc hfs (by rw [C.2.2.2.2.2.2.2.1]; exact hroom.1) (by rw [C.2.2.2.2.2.2.2.1]; exact hroom.2) hdg (fun q H1 hP1 hD1 hS1 => k q H1 locs ls hP1 hD1 hS1 hl)
theorem b_get (C : CB E D cy ad A cc own nL R0) {Cn : String} {T : u_T} {N ci index a : Nat} {fs : List Value} {wr : va_W} (j : Nat) (hc : clsAll[ci]? = some (Cn, T, N)) (hin : ∀ y ∈ u_ws Cn T N, y ∈ lw_gd) (hj : j < N) {v : Value} (hv : fs[j]? = some v) (hlk : Cond.fieldLink own index (T j).1 (T j).2.1 (T j).2.2.1 ∈ lw_gd) (hdg : decode cc pc = .ok (.getfield index, 3)) (k : VB E D A nL cells slots ((a, .inr (ci, fs)) :: wr) (pc + 3) L (v :: st)) : VB E D A nL cells slots ((a, .inr (ci, fs)) :: wr) pc L (.ref a :: st) := fun H locs ls hP hD hS hl =>
  va_get (cl := clsAll) C.1 C.2.1 C.2.2.2.2.1 hin C.2.2.2.1 C.2.2.2.2.2.1 hP 0 rfl hc j hj (C.2.2.2.2.1 _ hlk) (fun _ h => h) hv hdg (k H locs ls hP hD hS hl)
theorem b_put (C : CB E D cy ad A cc own nL R0) (hN : E.2.2.2.2.2.2.2.2.1.name = "<init>") {Cn : String} {T : u_T} {N ci index a : Nat} {fs fs1 : List Value} {wr : va_W} (j : Nat) (hc : clsAll[ci]? = some (Cn, T, N)) (hin : ∀ y ∈ u_ws Cn T N, y ∈ lw_gd) (ty0 : Nat → FieldType) (hty : ∀ k, k < N → parseFieldDescriptor (T k).2.2.1 = some (ty0 k)) (hnm : ∀ a, a < N → ∀ b, b < N → a ≠ b → (T a).2.1 ≠ (T b).2.1) (hj : j < N) {v : Value} (hlk : Cond.fieldLink own index (T j).1 (T j).2.1 (T j).2.2.1 ∈ lw_gd) (hdec : (T j).1 = own) (hn : narrow (ty0 j) v = v) (hfit : fits (ty0 j) v = true) (hl2 : j < fs.length) (hset : fs.set j v = fs1) (hdg : decode cc pc = .ok (.putfield index, 3)) (k : VB E D A nL cells slots ((a, .inr (ci, fs1)) :: wr) (pc + 3) L st) : VB E D A nL cells slots ((a, .inr (ci, fs)) :: wr) pc L (v :: .ref a :: st) := fun H locs ls hP hD hS hl => by
  subst hset
  by_cases hf : (T j).2.2.2 = true
  · exact va_putF (cl := clsAll) C.1 C.2.1 C.2.2.2.2.1 hin ty0 hty hnm C.2.2.2.1 C.2.2.2.2.2.1 hP hD hS 0 rfl hc j hj (C.2.2.2.2.1 _ hlk) (fun _ h => h) hf hN hdec (hty j hj) hn hfit hl2 hdg (fun H1 locs1 hP1 hD1 hS1 => k H1 locs1 ls hP1 hD1 hS1 hl)
  · exact va_put (cl := clsAll) C.1 C.2.1 C.2.2.2.2.1 hin ty0 hty hnm C.2.2.2.1 C.2.2.2.2.2.1 hP hD hS 0 rfl hc j hj (C.2.2.2.2.1 _ hlk) (fun _ h => h) (by simpa using hf) (hty j hj) hn hfit hl2 hdg (fun H1 locs1 hP1 hD1 hS1 => k H1 locs1 ls hP1 hD1 hS1 hl)
theorem b_ldcs (C : CB E D cy ad A cc own nL R0) {index : Nat} {tx : String} {bs : List Int32} (i : Nat) (hq : strS[i]? = some (own, index, tx, bs)) (hdg : decode cc pc = .ok (.ldc index, 2)) (k : VB E D A nL cells slots ws (pc + 2) L (.ref (ad (2 * i)) :: st)) : VB E D A nL cells slots ws pc L st := fun H locs ls hP hD hS hl =>
  va_ldcS C.1 C.2.1 C.2.2.2.1 (vk_R.same rfl (C.2.2.2.2.2.2.2.2.1 i _ hq).1) hdg (k H locs ls hP hD hS hl)
theorem b_ret (C : CB E D cy ad A cc own nL R0) {Pw : va_W → Prop} (hr : E.2.2.2.2.2.2.2.2.1.sig.returnType = none) (hlk : E.2.2.2.2.2.2.2.2.1.locks = false) {mc ms : Nat} (hQ : E.2.2.2.2.2.2.2.2.2.2 = MQ E.2.2.2.2.2.2.2.1 (QB D A Pw) E.2.2.2.2.2.2.1 E.2.2.2.2.1 mc ms A) (hdg : decode cc pc = .ok (.return_, 1)) (hpw : Pw ws) : VB E D A nL mc ms ws pc L [] := fun H locs ls hP hD hS hl => by
  rw [hQ]
  exact W.vret C.1 C.2.1 hr (fun t ht hW => ⟨⟨rfl, ws, hpw, by rw [ht]; exact hP, hD⟩, hS.F ht⟩) hS.2.2 hdg hlk
/-- a constructor called on the world's last cell -/
theorem b_init (C : CB E D cy ad A cc own nL R0) {y : MethodName} {bytes : ByteArray} {maxL index n a mc ms : Nat} {rm : Room} {e0 : va_E} {wr : va_W} {Pw : va_W → Prop} {st0 : List Value} (As : List Value) (hM : CT E.2.1 D cy ad y bytes maxL rm (.ref a :: As) [(a, e0)] Pw) (hcode : Cond.code y bytes maxL none ∈ lw_gd) (hini : Cond.initialized y.cls ∈ lw_gd) (hlk : Cond.methodLink own index y ∈ lw_gd) (hinst : Cond.instanceMethod y ∈ lw_gd) (hy1 : y.name = "<init>") (hrm : rm.cells = mc ∧ rm.slots = ms) (hroom : rm.frames + 1 ≤ R0.frames ∧ 8 + (maxL + 11) + rm.locals ≤ R0.locals) (hroom2 : cells + mc ≤ R0.cells ∧ slots + ms ≤ R0.slots) (hnm : y.cls ≠ "java/lang/invoke/MethodHandle" ∧ y.cls ≠ "java/lang/invoke/VarHandle" ∧ (parseMethodDescriptor y.desc).map (fun d => d.parameters.length) = some n) (hn : As.length = n) (hst : st0 = As.reverse ++ .ref a :: st) (hcat : (st.map fun v => v.category).sum ≤ 8) (hdg : decode cc pc = .ok (.invokespecial index, 3))
    (k : ∀ w1 : va_W, Pw w1 → VB E D A nL (cells + mc) (slots + ms) (wr ++ w1) (pc + 3) L st) : VB E D A nL cells slots (wr ++ [(a, e0)]) pc L st0 := fun H locs ls hP hD hS hl => by
  obtain ⟨rfl, rfl⟩ := hrm
  have hlast : (wr ++ [(a, e0)])[wr.length]? = some (a, e0) := get_app wr (a, e0)
  have hPc : va_P D clsAll [(a, e0)] H := fun i q hi => by
    have hz := (List.getElem?_eq_some_iff.mp hi).1
    simp at hz; subst hz; cases hi
    exact hP wr.length _ hlast
  have hF : ∀ q, va_A [(a, e0)] H.size q → A q := fun q h => by
    rcases h with ⟨i, e, h⟩ | h
    · have hz := (List.getElem?_eq_some_iff.mp h).1
      simp at hz; subst hz; cases h
      exact hD.2 wr.length _ hlast
    · exact C.2.2.2.2.2.2.1 q (Nat.le_trans hS.1 h)
  have hrun := va_runI (cells := cells) (slots := slots) (locs := locs) (H := H) (nL := nL) (Ts := lw_gd) (own := own) (n := n) (b := a) (As := As) (rest := st) (l := E.2.1) (e := E.2.2.1) (below := E.2.2.2.2.2.2.2.1) (meth := E.2.2.2.2.2.2.2.2.1) (g := F0 E.2.2.2.2.2.1 pc ls st0) (R := E.2.2.2.1) ⟨C.1, C.2.1, C.2.2.1, C.2.2.2.1, C.2.2.2.2.1⟩ (hM H.size) (cwI n C.2.2.2.2.1 (good_ws hcode) rfl rfl rfl (C.2.2.2.2.1 _ hini) (C.2.2.2.2.1 _ hlk) (C.2.2.2.2.1 _ hinst) hy1 hnm (by rw [C.2.2.2.2.2.2.2.1]; exact hroom))
    ⟨BB_blind, fun U hU hW => ⟨rfl, by rw [hU], by rw [hU]; exact hPc, va_K.moved hW.alike C.2.2.2.2.2.1, ⟨fun i j p q hi hj _ => by
      have h1 := (List.getElem?_eq_some_iff.mp hi).1
      have h2 := (List.getElem?_eq_some_iff.mp hj).1
      simp at h1 h2; omega, fun _ _ _ => trivial⟩, by rw [hU]; exact OX.to C.2.2.2.2.2.2.2.2 hW hS.2.1 hF⟩⟩ rfl hn hl.1 hst (lv_room (m := E.2.2.2.2.2.1) (pc := pc) (ls := ls) (rest := st0) hcat) hdg (by rw [C.2.2.2.2.2.2.2.1]; exact hroom2)
  intro T hT X
  obtain ⟨v, st₀, t, T', Lo, h0, X', hL, e1, e2, ⟨⟨hv, w1, hpw, hP1, hD1⟩, hz, hk⟩, stp⟩ := hrun T hT X
  cases hv
  rw [h0] at hz hk
  rw [← e1] at hz hk hP1
  have hS1 : va_S A E.2.2.2.2.1.heap T'.heap (locs ++ Lo) := ⟨Nat.le_trans hS.1 hz, fun q h1 h2 => by rw [hk q (Nat.lt_of_lt_of_le h1 hS.1) (fun h => h2 (hF q h))]; exact hS.2.1 q h1 h2, fun q hq => by
    rcases List.mem_append.mp hq with h | h
    · exact hS.2.2 q h
    · exact hF _ (hL q h)⟩
  have hPr : va_P D clsAll wr T'.heap := fun i q hi => by
    have hi2 : (wr ++ [(a, e0)])[i]? = some q := by rw [List.getElem?_append_left (List.getElem?_eq_some_iff.mp hi).1]; exact hi
    refine (hP i q hi2).kept (hk q.1 ((hP i q hi2).lt) (fun h => ?_))
    rcases h with ⟨j, e, h⟩ | h
    · have hz := (List.getElem?_eq_some_iff.mp h).1
      simp at hz; subst hz
      have h8 : (q.1, e) = (a, e0) := (Option.some.inj h).symm
      have h9 := hD.1 i wr.length q (a, e0) hi2 hlast (Prod.mk.inj h8).1
      have := (List.getElem?_eq_some_iff.mp hi).1
      omega
    · have := (hP i q hi2).lt; omega
  have hDr : va_D A wr := ⟨fun i j p q hi hj e => hD.1 i j p q (by rw [List.getElem?_append_left (List.getElem?_eq_some_iff.mp hi).1]; exact hi) (by rw [List.getElem?_append_left (List.getElem?_eq_some_iff.mp hj).1]; exact hj) e, fun i q hi => hD.2 i q (by rw [List.getElem?_append_left (List.getElem?_eq_some_iff.mp hi).1]; exact hi)⟩
  have hDn : va_D A (wr ++ w1) := hDr.app (hD1.weaken fun _ _ _ h => hF _ h) (fun i j p q hi hj e => by
    have hi2 : (wr ++ [(a, e0)])[i]? = some p := by rw [List.getElem?_append_left (List.getElem?_eq_some_iff.mp hi).1]; exact hi
    rcases hD1.2 j q hj with ⟨jj, ee, h⟩ | h
    · have hz := (List.getElem?_eq_some_iff.mp h).1
      simp at hz; subst hz
      have h8 : (q.1, ee) = (a, e0) := (Option.some.inj h).symm
      have h9 := hD.1 i wr.length p (a, e0) hi2 hlast (e.trans (Prod.mk.inj h8).1)
      have := (List.getElem?_eq_some_iff.mp hi).1
      omega
    · have := (hP i p hi2).lt; omega)
  obtain ⟨t2, a1, b1⟩ := k w1 hpw T'.heap (locs ++ Lo) ls (hPr.app hP1) hDn hS1 hl T' rfl X'
  exact ⟨t2, stp t2 a1, b1⟩
/-- the same, a private one of a nest mate -/
theorem b_initN (C : CB E D cy ad A cc own nL R0) {y : MethodName} {bytes : ByteArray} {maxL index n a mc ms : Nat} {rm : Room} {e0 : va_E} {wr : va_W} {Pw : va_W → Prop} {st0 : List Value} (As : List Value) (hM : CT E.2.1 D cy ad y bytes maxL rm (.ref a :: As) [(a, e0)] Pw) (hcode : Cond.code y bytes maxL none ∈ lw_gd) (hini : Cond.initialized y.cls ∈ lw_gd) (host : String) (hlk : (own, index, y, host) ∈ nestS) (hinst : Cond.instanceMethod y ∈ lw_gd) (hy1 : y.name = "<init>") (hrm : rm.cells = mc ∧ rm.slots = ms) (hroom : rm.frames + 1 ≤ R0.frames ∧ 8 + (maxL + 11) + rm.locals ≤ R0.locals) (hroom2 : cells + mc ≤ R0.cells ∧ slots + ms ≤ R0.slots) (hnm : y.cls ≠ "java/lang/invoke/MethodHandle" ∧ y.cls ≠ "java/lang/invoke/VarHandle" ∧ (parseMethodDescriptor y.desc).map (fun d => d.parameters.length) = some n) (hn : As.length = n) (hst : st0 = As.reverse ++ .ref a :: st) (hcat : (st.map fun v => v.category).sum ≤ 8) (hdg : decode cc pc = .ok (.invokespecial index, 3))
    (k : ∀ w1 : va_W, Pw w1 → VB E D A nL (cells + mc) (slots + ms) (wr ++ w1) (pc + 3) L st) : VB E D A nL cells slots (wr ++ [(a, e0)]) pc L st0 := fun H locs ls hP hD hS hl => by
  obtain ⟨rfl, rfl⟩ := hrm
  have hlast : (wr ++ [(a, e0)])[wr.length]? = some (a, e0) := get_app wr (a, e0)
  have hPc : va_P D clsAll [(a, e0)] H := fun i q hi => by
    have hz := (List.getElem?_eq_some_iff.mp hi).1
    simp at hz; subst hz; cases hi
    exact hP wr.length _ hlast
  have hF : ∀ q, va_A [(a, e0)] H.size q → A q := fun q h => by
    rcases h with ⟨i, e, h⟩ | h
    · have hz := (List.getElem?_eq_some_iff.mp h).1
      simp at hz; subst hz; cases h
      exact hD.2 wr.length _ hlast
    · exact C.2.2.2.2.2.2.1 q (Nat.le_trans hS.1 h)
  have hrun := va_runIN (host := host) (cells := cells) (slots := slots) (locs := locs) (H := H) (nL := nL) (Ts := lw_gd) (own := own) (n := n) (b := a) (As := As) (rest := st) (l := E.2.1) (e := E.2.2.1) (below := E.2.2.2.2.2.2.2.1) (meth := E.2.2.2.2.2.2.2.2.1) (g := F0 E.2.2.2.2.2.1 pc ls st0) (R := E.2.2.2.1) ⟨C.1, C.2.1, C.2.2.1, C.2.2.2.1, C.2.2.2.2.1⟩ (hM H.size) ⟨va_cnB (host := host) (Ts := lw_gd) n C.2.2.2.2.1 (good_ws hcode) rfl rfl rfl (C.2.2.2.2.2.2.2.2.2.2.2 _ hlk) (C.2.2.2.2.1 _ hini) hnm (by rw [C.2.2.2.2.2.2.2.1]; exact hroom), hy1, C.2.2.2.2.1 _ hinst⟩
    ⟨BB_blind, fun U hU hW => ⟨rfl, by rw [hU], by rw [hU]; exact hPc, va_K.moved hW.alike C.2.2.2.2.2.1, ⟨fun i j p q hi hj _ => by
      have h1 := (List.getElem?_eq_some_iff.mp hi).1
      have h2 := (List.getElem?_eq_some_iff.mp hj).1
      simp at h1 h2; omega, fun _ _ _ => trivial⟩, by rw [hU]; exact OX.to C.2.2.2.2.2.2.2.2 hW hS.2.1 hF⟩⟩ rfl hn hl.1 hst (lv_room (m := E.2.2.2.2.2.1) (pc := pc) (ls := ls) (rest := st0) hcat) hdg (by rw [C.2.2.2.2.2.2.2.1]; exact hroom2)
  intro T hT X
  obtain ⟨v, st₀, t, T', Lo, h0, X', hL, e1, e2, ⟨⟨hv, w1, hpw, hP1, hD1⟩, hz, hk⟩, stp⟩ := hrun T hT X
  cases hv
  rw [h0] at hz hk
  rw [← e1] at hz hk hP1
  have hS1 : va_S A E.2.2.2.2.1.heap T'.heap (locs ++ Lo) := ⟨Nat.le_trans hS.1 hz, fun q h1 h2 => by rw [hk q (Nat.lt_of_lt_of_le h1 hS.1) (fun h => h2 (hF q h))]; exact hS.2.1 q h1 h2, fun q hq => by
    rcases List.mem_append.mp hq with h | h
    · exact hS.2.2 q h
    · exact hF _ (hL q h)⟩
  have hPr : va_P D clsAll wr T'.heap := fun i q hi => by
    have hi2 : (wr ++ [(a, e0)])[i]? = some q := by rw [List.getElem?_append_left (List.getElem?_eq_some_iff.mp hi).1]; exact hi
    refine (hP i q hi2).kept (hk q.1 ((hP i q hi2).lt) (fun h => ?_))
    rcases h with ⟨j, e, h⟩ | h
    · have hz := (List.getElem?_eq_some_iff.mp h).1
      simp at hz; subst hz
      have h8 : (q.1, e) = (a, e0) := (Option.some.inj h).symm
      have h9 := hD.1 i wr.length q (a, e0) hi2 hlast (Prod.mk.inj h8).1
      have := (List.getElem?_eq_some_iff.mp hi).1
      omega
    · have := (hP i q hi2).lt; omega
  have hDr : va_D A wr := ⟨fun i j p q hi hj e => hD.1 i j p q (by rw [List.getElem?_append_left (List.getElem?_eq_some_iff.mp hi).1]; exact hi) (by rw [List.getElem?_append_left (List.getElem?_eq_some_iff.mp hj).1]; exact hj) e, fun i q hi => hD.2 i q (by rw [List.getElem?_append_left (List.getElem?_eq_some_iff.mp hi).1]; exact hi)⟩
  have hDn : va_D A (wr ++ w1) := hDr.app (hD1.weaken fun _ _ _ h => hF _ h) (fun i j p q hi hj e => by
    have hi2 : (wr ++ [(a, e0)])[i]? = some p := by rw [List.getElem?_append_left (List.getElem?_eq_some_iff.mp hi).1]; exact hi
    rcases hD1.2 j q hj with ⟨jj, ee, h⟩ | h
    · have hz := (List.getElem?_eq_some_iff.mp h).1
      simp at hz; subst hz
      have h8 : (q.1, ee) = (a, e0) := (Option.some.inj h).symm
      have h9 := hD.1 i wr.length p (a, e0) hi2 hlast (e.trans (Prod.mk.inj h8).1)
      have := (List.getElem?_eq_some_iff.mp hi).1
      omega
    · have := (hP i p hi2).lt; omega)
  obtain ⟨t2, a1, b1⟩ := k w1 hpw T'.heap (locs ++ Lo) ls (hPr.app hP1) hDn hS1 hl T' rfl X'
  exact ⟨t2, stp t2 a1, b1⟩
end VRB
