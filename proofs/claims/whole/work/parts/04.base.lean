/-! THE WALKS' OWN WORDS: a memory of whole numbers (cell, place), a world that is read off it, the judgement V over it, one row an instruction. -/
abbrev Mem : Type := Nat → Int → Int
def iz (z : Int) : Int32 := Int32.ofInt z
def lz (z : Int) : Int64 := Int64.ofInt z
def mup (m : Mem) (k : Nat) (j v : Int) : Mem := fun k' => if k' = k then (fun j' => if j' = j then v else m k j') else m k'
theorem mup_s (m : Mem) (k : Nat) (j v : Int) : mup m k j v k j = v := by simp [mup]
theorem mup_k (m : Mem) {k k' : Nat} (j v : Int) (h : k' ≠ k) : mup m k j v k' = m k' := by simp [mup, h]
theorem mup_j (m : Mem) {k : Nat} {j j' : Int} (v : Int) (h : j' ≠ j) : mup m k j v k j' = m k j' := by simp [mup, h]
theorem mup_r (m : Mem) (k : Nat) (j v : Int) : mup m k j v k = fun j' => if j' = j then v else m k j' := by simp [mup]
def in32 (z : Int) : Prop := -2147483648 ≤ z ∧ z ≤ 2147483647
def in64 (z : Int) : Prop := -9223372036854775808 ≤ z ∧ z ≤ 9223372036854775807
theorem iz_toInt {z : Int} (h : -2147483648 ≤ z ∧ z ≤ 2147483647) : (iz z).toInt = z := by
  unfold iz; rw [Int32.toInt_ofInt]; exact Int.bmod_eq_of_le (by show -((4294967296 : Int) / 2) ≤ z; omega) (by show z < ((4294967296 : Int) + 1) / 2; omega)
theorem lz_toInt {z : Int} (h : -9223372036854775808 ≤ z ∧ z ≤ 9223372036854775807) : (lz z).toInt = z := by
  unfold lz; rw [Int64.toInt_ofInt]; exact Int.bmod_eq_of_le (by show -((18446744073709551616 : Int) / 2) ≤ z; omega) (by show z < ((18446744073709551616 : Int) + 1) / 2; omega)
theorem iz_of (x : Int32) : iz x.toInt = x := by unfold iz; exact Int32.ofInt_toInt x
theorem lz_of (x : Int64) : lz x.toInt = x := by unfold lz; exact Int64.ofInt_toInt x
theorem iz_rng (x : Int32) : -2147483648 ≤ x.toInt ∧ x.toInt ≤ 2147483647 := by
  have h1 := x.le_toInt; have h2 := x.toInt_le; constructor
  · exact h1
  · exact h2
theorem iz_add (x y : Int) : iz (x + y) = iz x + iz y := by unfold iz; exact Int32.ofInt_add x y
theorem iz_sub (x y : Int) : iz (x - y) = iz x - iz y := by unfold iz; exact Int32.ofInt_sub x y
theorem iz_mul (x y : Int) : iz (x * y) = iz x * iz y := by unfold iz; exact Int32.ofInt_mul x y
theorem iz_neg (x : Int) : iz (-x) = - iz x := by unfold iz; exact Int32.ofInt_neg x
theorem lz_add (x y : Int) : lz (x + y) = lz x + lz y := by unfold lz; exact Int64.ofInt_add x y
theorem lz_sub (x y : Int) : lz (x - y) = lz x - lz y := by unfold lz; exact Int64.ofInt_sub x y
theorem lz_mul (x y : Int) : lz (x * y) = lz x * lz y := by unfold lz; exact Int64.ofInt_mul x y
theorem iz_lt {x y : Int} (hx : -2147483648 ≤ x ∧ x ≤ 2147483647) (hy : -2147483648 ≤ y ∧ y ≤ 2147483647) : iz x < iz y ↔ x < y := by
  rw [Int32.lt_iff_toInt_lt, iz_toInt hx, iz_toInt hy]
theorem iz_le {x y : Int} (hx : -2147483648 ≤ x ∧ x ≤ 2147483647) (hy : -2147483648 ≤ y ∧ y ≤ 2147483647) : iz x ≤ iz y ↔ x ≤ y := by
  rw [Int32.le_iff_toInt_le, iz_toInt hx, iz_toInt hy]
theorem iz_eq {x y : Int} (hx : -2147483648 ≤ x ∧ x ≤ 2147483647) (hy : -2147483648 ≤ y ∧ y ≤ 2147483647) : iz x = iz y ↔ x = y := by
  constructor
  · intro h; have := congrArg Int32.toInt h; rwa [iz_toInt hx, iz_toInt hy] at this
  · intro h; rw [h]
theorem lz_eq {x y : Int} (hx : -9223372036854775808 ≤ x ∧ x ≤ 9223372036854775807) (hy : -9223372036854775808 ≤ y ∧ y ≤ 9223372036854775807) : lz x = lz y ↔ x = y := by
  constructor
  · intro h; have := congrArg Int64.toInt h; rwa [lz_toInt hx, lz_toInt hy] at this
  · intro h; rw [h]
theorem lz_lt {x y : Int} (hx : -9223372036854775808 ≤ x ∧ x ≤ 9223372036854775807) (hy : -9223372036854775808 ≤ y ∧ y ≤ 9223372036854775807) : lz x < lz y ↔ x < y := by
  rw [Int64.lt_iff_toInt_lt, lz_toInt hx, lz_toInt hy]
theorem iz_clamp {z : Int} (h0 : 0 ≤ z) (h1 : z ≤ 2147483647) : (iz z).toNatClampNeg = z.toNat := by
  show (iz z).toInt.toNat = z.toNat
  rw [iz_toInt ⟨by omega, h1⟩]
theorem iz_in {z : Int} {n : Nat} (h0 : 0 ≤ z) (h1 : z < n) (hn : n < 2147483648) : vp_in (iz z) n := by
  rw [vp_in_iff, iz_toInt ⟨by omega, by omega⟩]; exact ⟨h0, h1⟩
-- the world
abbrev Wd : Type := va_G × (Nat → ClassId) × (Nat → Nat) × Nat × ((Nat → ClassId) → (Nat → Nat) → Nat → (Int → Int) → va_E) × (Nat → Nat)
def wE (w : Wd) (k : Nat) (r : Int → Int) : va_E := w.2.2.2.2.1 w.2.1 w.2.2.1 k r
def wG (w : Wd) (m : Mem) : va_W := (List.range w.2.2.2.1).map (fun k => (w.2.2.1 k, wE w k (m k)))
def wI (w : Wd) : Prop := ∀ i j, i < w.2.2.2.1 → j < w.2.2.2.1 → w.2.2.1 i = w.2.2.1 j → i = j
def wA (w : Wd) (sz : Nat) : Nat → Prop := fun q => (∃ k, k < w.2.2.2.1 ∧ q = w.2.2.1 k) ∨ sz ≤ q
abbrev wT (w : Wd) : List (ClassId × FieldType) := [(w.2.1 0, .int), (w.2.1 1, .long), (w.2.1 2, .byte), (w.2.1 3, .boolean)]
abbrev eI (cy : Nat → ClassId) (n : Nat) (r : Int → Int) : va_E := .inl (cy 0, n, .inl (fun j => iz (r (j : Int))))
abbrev eL (cy : Nat → ClassId) (n : Nat) (r : Int → Int) : va_E := .inl (cy 1, n, .inr (.inl (fun j => lz (r (j : Int)))))
abbrev eB (cy : Nat → ClassId) (n : Nat) (r : Int → Int) : va_E := .inl (cy 2, n, .inl (fun j => iz (r (j : Int))))
abbrev eZ (cy : Nat → ClassId) (n : Nat) (r : Int → Int) : va_E := .inl (cy 3, n, .inl (fun j => iz (r (j : Int))))
abbrev clsAll : List vw_C := [(RX0, TX0, 2), (RX1, TX1, 6), (RX2, TX2, 10), (RX3, TX3, 9), (RX4, TX4, 4), (RX5, TX5, 12), (RX6, TX6, 11), (RX7, TX7, 2), (RX8, TX8, 7), (RX9, TX9, 4), (RX10, TX10, 20), (RX11, TX11, 61)]
theorem wG_get {w : Wd} {m : Mem} {k : Nat} (hk : k < w.2.2.2.1) : (wG w m)[k]? = some (w.2.2.1 k, wE w k (m k)) := by
  simp [wG, hk]
theorem wG_set {w : Wd} {m : Mem} {k : Nat} {j v : Int} (hk : k < w.2.2.2.1) {e : va_E} (he : wE w k (mup m k j v k) = e) : (wG w m).set k (w.2.2.1 k, e) = wG w (mup m k j v) := by
  subst he
  apply List.ext_getElem?
  intro i
  rw [List.getElem?_set]
  by_cases h : k = i
  · subst h; simp [wG, hk]
  · rw [if_neg h]
    by_cases hi : i < w.2.2.2.1
    · rw [wG_get hi, wG_get hi, mup_k m j v (Ne.symm h)]
    · simp [wG, hi]
theorem wD {w : Wd} (h : wI w) (sz : Nat) (m : Mem) : va_D (wA w sz) (wG w m) := by
  refine ⟨fun i j p q hi hj he => ?_, fun k q hk => ?_⟩
  · by_cases h1 : i < w.2.2.2.1
    · by_cases h2 : j < w.2.2.2.1
      · rw [wG_get h1] at hi; rw [wG_get h2] at hj
        cases hi; cases hj
        exact h i j h1 h2 he
      · simp [wG, h2] at hj
    · simp [wG, h1] at hi
  · by_cases h1 : k < w.2.2.2.1
    · rw [wG_get h1] at hk; cases hk; exact Or.inl ⟨k, h1, rfl⟩
    · simp [wG, h1] at hk
-- what stays the same along a walk
abbrev Amb : Type := Program × Launch × Env × Room × State × MethodId × Array Value × List Frame × Method × Code × (State → Prop)
def V (E : Amb) (w : Wd) (nL : Nat) (m : Mem) (pc : Nat) (L : List (Nat × Value)) (st : List Value) : Prop :=
  ∀ (H : Heap) (locs : List Loc) (d0 : Drawn) (ls : Array Slot), E.2.2.2.2.1.drawn.sameBut d0 lw_cs → va_P w.1 clsAll (wG w m) H → va_S (wA w E.2.2.2.2.1.heap.size) E.2.2.2.2.1.heap H locs → lv_has ls nL L →
    W E.1 E.2.1 E.2.2.1 E.2.2.2.1 (E.2.2.2.2.1.setDrawn d0) E.2.2.2.2.2.1 E.2.2.2.2.2.2.1 E.2.2.2.2.2.2.2.1 E.2.2.2.2.2.2.2.2.1 E.2.2.2.2.2.2.2.2.2.1 H locs 0 0 E.2.2.2.2.2.2.2.2.2.2 (F0 E.2.2.2.2.2.1 pc ls st)
def Cx (E : Amb) (w : Wd) (cc : ByteArray) (own : String) (nL : Nat) (R0 : Room) : Prop :=
  E.1.tables.exec = Jvm.exec ∧ E.2.2.2.2.2.2.2.2.2.1.code = cc ∧ E.2.2.2.2.2.2.2.2.2.1.maxLocals = nL ∧ E.2.2.2.2.1.vm.findClass own = some E.2.2.2.2.2.1.cls ∧ (∀ q ∈ lw_gd, q.before E.2.2.2.2.2.2.1 E.2.2.2.2.1 = true) ∧ va_K w.1 clsAll (wT w) E.2.2.2.2.1 ∧ wI w ∧ E.2.2.2.1 = R0 ∧ OX w.2.2.2.2.2 (wA w E.2.2.2.2.1.heap.size) E.2.2.2.2.1 E.2.2.2.2.1.heap
def QW (w : Wd) (sz : Nat) (Post : Option Value → Mem → Prop) : Array Value → State → Outcome → State → Prop := fun _ st oc t => (∃ (r : Option Value) (m' : Mem), oc = .returned r ∧ Post r m' ∧ va_P w.1 clsAll (wG w m') t.heap) ∧ va_F (wA w sz) st t
def BW (w : Wd) (sz : Nat) (m : Mem) : State → Prop := fun U => U.heap.size = sz ∧ va_P w.1 clsAll (wG w m) U.heap ∧ va_K w.1 clsAll (wT w) U ∧ OX w.2.2.2.2.2 (wA w sz) U U.heap
def Rx (E : Amb) (w : Wd) (ret : Option FieldType) (Post : Option Value → Mem → Prop) : Prop :=
  E.2.2.2.2.2.2.2.2.1.sig.returnType = ret ∧ E.2.2.2.2.2.2.2.2.1.locks = false ∧ E.2.2.2.2.2.2.2.2.2.2 = MQD lw_cs E.2.2.2.2.2.2.2.1 (QW w E.2.2.2.2.1.heap.size Post) E.2.2.2.2.2.2.1 E.2.2.2.2.1 0 0 (wA w E.2.2.2.2.1.heap.size)
abbrev ws_ (y : MethodName) (cc : ByteArray) (maxL : Nat) (ret : Option FieldType) : List Cond := .code y cc maxL ret :: lw_gd
/-- a method's contract: from memory m, called with av, it comes back as Post says -/
def MT (l : Launch) (w : Wd) (y : MethodName) (cc : ByteArray) (maxL : Nat) (ret : Option FieldType) (rm : Room) (m : Mem) (av : List Value) (Post : Option Value → Mem → Prop) : Prop :=
  ∀ sz : Nat, MetD lw_cs l y (ws_ y cc maxL ret) rm (va_Pc av (BW w sz m)) (QW w sz Post) 0 0 (wA w sz)
/-- MT where the post is of the int that is answered -/
abbrev Pi (P : Int → Mem → Prop) : Option Value → Mem → Prop := fun r m' => ∃ z : Int, r = some (.int (iz z)) ∧ P z m'
abbrev Pl (P : Int → Mem → Prop) : Option Value → Mem → Prop := fun r m' => ∃ z : Int, r = some (.long (lz z)) ∧ P z m'
abbrev Pd (P : UInt64 → Mem → Prop) : Option Value → Mem → Prop := fun r m' => ∃ z : UInt64, r = some (.double z) ∧ P z m'
abbrev Pv (P : Mem → Prop) : Option Value → Mem → Prop := fun r m' => r = none ∧ P m'
abbrev Pr (P : Nat → Mem → Prop) : Option Value → Mem → Prop := fun r m' => ∃ z : Nat, r = some (.ref z) ∧ P z m'
theorem v_entry {l : Launch} {w : Wd} {y : MethodName} {cc : ByteArray} {maxL : Nat} {ret : Option FieldType} {rm : Room} {m : Mem} {av : List Value} {Post : Option Value → Mem → Prop} (hI : wI w) (own : String) (hy : plainName y.cls = true) (ho : y.cls = own) (hlen : (lg_sl av).length ≤ maxL)
    (body : ∀ E : Amb, E.2.1 = l → Cx E w cc own maxL (headSpec (ws_ y cc maxL ret) rm).room → Rx E w ret Post → V E w maxL m 0 (lv_args 0 av) []) : MT l w y cc maxL ret rm m av Post := by
  intro sz
  refine MetD.ofW (cc := cc) (maxL := maxL) (ret := ret) hy rfl ?_
  intro p e s mid args below meth c s₁ B hml hv hd0
  obtain ⟨rfl, hsz, hP, hK, hO⟩ := hv
  subst hsz
  have hts := atoms_spec (ws := ws_ y cc maxL ret) B.pre
  have hts2 : ∀ q ∈ lw_gd, q.before av.toArray s = true := fun q h => hts q (List.mem_cons_of_mem _ h)
  have hown : s.vm.findClass own = some mid.cls := by rw [← ho]; exact findClass_of_methodNamed B.named
  have key := body (p, l, e, (headSpec (ws_ y cc maxL ret) rm).room, s, mid, av.toArray, below, meth, c, MQD lw_cs below (QW w s.heap.size Post) av.toArray s 0 0 (wA w s.heap.size)) rfl ⟨B.exec, B.bytes, hml, hown, hts2, hK, hI, rfl, hO⟩ ⟨B.returns, B.notSynchronized, rfl⟩
  have hl := lv_entry av (n := maxL) hlen
  rw [lg_entry_eq]
  exact key s.heap [] s.drawn _ hd0 hP va_S.rf hl
