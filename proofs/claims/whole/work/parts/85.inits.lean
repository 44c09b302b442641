/-! constructors: each but the two that the law calls -/
def zM : Mem := fun _ _ => 0
section VS0
variable {E : Amb} {w : Wd} {cc : ByteArray} {own : String} {nL : Nat} {R0 : Room} {m : Mem} {pc : Nat} {L : List (Nat × Value)} {st : List Value}
theorem ox_s0 (C : Cx E w cc own nL R0) {i : Nat} {q : String × Nat × String × List Int32} (hq : strS[i]? = some q) : vk_S 1 [q.2.2.2.length] [q.2.2.2] (fun _ => w.2.2.2.2.2 (2 * i)) (fun _ => w.2.2.2.2.2 (2 * i + 1)) (wA w E.2.2.2.2.1.heap.size) E.2.2.2.2.1 E.2.2.2.2.1.heap := vk_S.moved (Vm.Alike.refl _) (C.2.2.2.2.2.2.2.2.1 i q hq).2
theorem u0_ldcs (C : Cx E w cc own nL R0) {index : Nat} {tx : String} {bs : List Int32} (i : Nat) (hq : strS[i]? = some (own, index, tx, bs)) (hdg : decode cc pc = .ok (.ldc index, 2)) (k : V0 E w nL m (pc + 2) L (.ref (w.2.2.2.2.2 (2 * i)) :: st)) : V0 E w nL m pc L st := fun H locs ls hP hS hl => by
  have k := k H locs ls hP hS hl
  exact va_ldcS C.1 C.2.1 C.2.2.2.1 (vk_R.same rfl (C.2.2.2.2.2.2.2.2.1 i _ hq).1) hdg k
theorem u0_xval (C : Cx E w cc own nL R0) {index : Nat} {q : String × Nat × String × List Int32} (i : Nat) (hq : strS[i]? = some q) (hlk : Cond.fieldLink own index "java/lang/String" "value" "[B" ∈ lw_gd) (hdg : decode cc pc = .ok (.getfield index, 3)) (k : V0 E w nL m (pc + 3) L (.ref (w.2.2.2.2.2 (2 * i + 1)) :: st)) : V0 E w nL m pc L (.ref (w.2.2.2.2.2 (2 * i)) :: st) := fun H locs ls hP hS hl => by
  have k := k H locs ls hP hS hl
  exact vk_getf (s := E.2.2.2.2.1) C.1 C.2.1 (((ox_s0 C hq).1 0 (by decide)).2.2.1) hS C.2.2.2.1 (C.2.2.2.2.1 _ hlk) (fun x h => h) hdg k
theorem u0_xcod (C : Cx E w cc own nL R0) {index : Nat} {q : String × Nat × String × List Int32} (i : Nat) (hq : strS[i]? = some q) (hlk : Cond.fieldLink own index "java/lang/String" "coder" "B" ∈ lw_gd) (hdg : decode cc pc = .ok (.getfield index, 3)) (k : V0 E w nL m (pc + 3) L (.int (iz 0) :: st)) : V0 E w nL m pc L (.ref (w.2.2.2.2.2 (2 * i)) :: st) := fun H locs ls hP hS hl => by
  have k := k H locs ls hP hS hl
  exact vk_getf (s := E.2.2.2.2.1) C.1 C.2.1 (((ox_s0 C hq).1 0 (by decide)).2.1) hS C.2.2.2.1 (C.2.2.2.2.1 _ hlk) (fun x h => h) hdg k
theorem u0_xlen (C : Cx E w cc own nL R0) {q : String × Nat × String × List Int32} (i : Nat) (hq : strS[i]? = some q) (hdg : decode cc pc = .ok (.arraylength, 1)) (k : V0 E w nL m (pc + 1) L (.int (iz (q.2.2.2.length : Nat)) :: st)) : V0 E w nL m pc L (.ref (w.2.2.2.2.2 (2 * i + 1)) :: st) := fun H locs ls hP hS hl => by
  have k := k H locs ls hP hS hl
  exact va_tlen (s := E.2.2.2.2.1) C.1 C.2.1 (((ox_s0 C hq).1 0 (by decide)).2.2.2) hS rfl hdg k
theorem u0_xald (C : Cx E w cc own nL R0) {q : String × Nat × String × List Int32} {z : Int} (i : Nat) (hq : strS[i]? = some q) (hz : 0 ≤ z ∧ z < q.2.2.2.length) (hdg : decode cc pc = .ok (.baload, 1)) (k : V0 E w nL m (pc + 1) L (.int (iz (chZ q.2.2.2 z)) :: st)) : V0 E w nL m pc L (.int (iz z) :: .ref (w.2.2.2.2.2 (2 * i + 1)) :: st) := fun H locs ls hP hS hl => by
  have k := k H locs ls hP hS hl
  have hl7 := (strS_ok q (List.mem_of_getElem? hq)).1
  refine va_tb (s := E.2.2.2.2.1) C.1 C.2.1 (((ox_s0 C hq).1 0 (by decide)).2.2.2) hS (iz_in hz.1 hz.2 (by show q.2.2.2.length < _; omega)) ?_ hdg k
  show Value.int (q.2.2.2.getD (iz z).toNatClampNeg 0) = .int (iz (chZ q.2.2.2 z))
  rw [iz_clamp hz.1 (by omega)]; unfold chZ; rw [iz_of]
theorem u0_gcs (C : Cx E w cc own nL R0) {index : Nat} (hlk : Cond.fieldLink own index "java/lang/String" "COMPACT_STRINGS" "Z" ∈ lw_gd) (hdg : decode cc pc = .ok (.getstatic index, 3)) (k : V0 E w nL m (pc + 3) L (.int (iz 1) :: st)) : V0 E w nL m pc L st := fun H locs ls hP hS hl => by
  have k := k H locs ls hP hS hl
  exact va_gets (s := E.2.2.2.2.1) C.1 C.2.1 (va_Z.moved (Vm.Alike.refl _) C.2.2.2.2.2.2.2.2.2.1) hS C.2.2.2.1 (C.2.2.2.2.1 _ hlk) (fun x h => h) hdg k
theorem u0_gsf (C : Cx E w cc own nL R0) {index : Nat} (hlk : Cond.fieldLink own index "jdk/internal/util/Preconditions" "SIOOBE_FORMATTER" "Ljava/util/function/BiFunction;" ∈ lw_gd) (hdg : decode cc pc = .ok (.getstatic index, 3)) (k : ∀ v : Value, (v = .null ∨ ∃ t : Nat, v = .ref t) → V0 E w nL m (pc + 3) L (v :: st)) : V0 E w nL m pc L st := fun H locs ls hP hS hl => by
  rcases C.2.2.2.2.2.2.2.2.2.2.1 with ht | ⟨t, ht⟩
  · have k := k .null (Or.inl rfl) H locs ls hP hS hl
    exact va_gets (s := E.2.2.2.2.1) C.1 C.2.1 (va_Z.moved (Vm.Alike.refl _) ht) hS C.2.2.2.1 (C.2.2.2.2.1 _ hlk) (fun x h => h) hdg k
  · have k := k (.ref t) (Or.inr ⟨t, rfl⟩) H locs ls hP hS hl
    exact va_gets (s := E.2.2.2.2.1) C.1 C.2.1 (va_Z.moved (Vm.Alike.refl _) ht) hS C.2.2.2.1 (C.2.2.2.2.1 _ hlk) (fun x h => h) hdg k
theorem u0_i2c (C : Cx E w cc own nL R0) {x z : Int} (hz : ((iz x).toUInt32 % 65536).toInt32 = iz z) (hdg : decode cc pc = .ok (.i2c, 1)) (k : V0 E w nL m (pc + 1) L (.int (iz z) :: st)) : V0 E w nL m pc L (.int (iz x) :: st) := fun H locs ls hP hS hl => by
  have k := k H locs ls hP hS hl
  exact lv_i2c C.1 C.2.1 hdg hz k
theorem u0_callO (C : Cx E w cc own nL R0) {y : MethodName} {bytes : ByteArray} {maxL index n : Nat} {ret : Option FieldType} {rm : Room} {Post : Option Value → Mem → Prop} {st0 : List Value} {q : String × Nat × String × List Int32} (i : Nat) (hq : strS[i]? = some q) (As : List Value) (hM : MT0 E.2.1 w y bytes maxL ret rm m (.ref (w.2.2.2.2.2 (2 * i)) :: As) Post) (hcode : Cond.code y bytes maxL ret ∈ lw_gd) (hini : Cond.initialized y.cls ∈ lw_gd) (hlk : Cond.methodLink own index y ∈ lw_gd) (hcz : rm.cells = 0) (hsz : rm.slots = 0) (hroom : rm.frames + 1 ≤ R0.frames ∧ 8 + (maxL + 11) + rm.locals ≤ R0.locals) (hnm : y.cls ≠ "java/lang/invoke/MethodHandle" ∧ y.cls ≠ "java/lang/invoke/VarHandle" ∧ (parseMethodDescriptor y.desc).map (fun d => d.parameters.length) = some n) (hinst : Cond.instanceMethod y ∈ lw_gd) (hsel : Cond.selects "java/lang/String" y y ∈ lw_gd) (hn : As.length = n) (hst : st0 = As.reverse ++ .ref (w.2.2.2.2.2 (2 * i)) :: st) (hcat : (st.map fun v => v.category).sum ≤ 8) (hdg : decode cc pc = .ok (.invokevirtual index, 3))
    (k : ∀ (r : Option Value) (m1 : Mem), Post r m1 → V0 E w nL m1 (pc + 3) L (r.toList ++ st)) : V0 E w nL m pc L st0 := by
  refine u0_after (a := (Value.ref (w.2.2.2.2.2 (2 * i)) :: As).toArray) (fun H locs ls hP hS hl => ?_) k
  exact va_runV (nL := nL) (C := "java/lang/String") (Ts := lw_gd) (own := own) (n := n) (b := w.2.2.2.2.2 (2 * i)) (As := As) (rest := st) ⟨C.1, C.2.1, C.2.2.1, C.2.2.2.1, C.2.2.2.2.1⟩ (hM H.size) ⟨(callB_of (Ts := lw_gd) n C.2.2.2.2.1 (good_ws hcode) rfl hcz hsz (C.2.2.2.2.1 _ hini) (C.2.2.2.2.1 _ hlk) hnm (by rw [C.2.2.2.2.2.2.2.1]; exact hroom)), C.2.2.2.2.1 _ hinst, C.2.2.2.2.1 _ hsel⟩
    ⟨BW_blind, vk_recv (s := E.2.2.2.2.1) (N := 1) (adK := fun _ => w.2.2.2.2.2 (2 * i)) (i := 0) (ox_s0 C hq) (by decide) hS, fun U hU hW => ⟨rfl, by rw [hU], by rw [hU]; exact hP, va_K.moved hW.alike C.2.2.2.2.2.1, OX.call0 C hW hU hS⟩⟩ rfl hn hl.1 hst (lv_room (m := E.2.2.2.2.2.1) (pc := pc) (ls := ls) (rest := st0) hcat) hdg ⟨Nat.zero_le _, Nat.zero_le _⟩
end VS0
theorem s0_coder {lau : Launch} {w : Wd} (hI : wI w) (m : Mem) (i : Nat) (q : String × Nat × String × List Int32) (hq : strS[i]? = some q) : MT0 lau w yJ0_coder_7d493 cJ0_coder_7d493 1 (some .byte) ({ frames := 0, cells := 0, slots := 0, locals := 0 } : Room) m [.ref (w.2.2.2.2.2 (2 * i))] (Pi (fun z m' => 0 = z ∧ m = m')) := by
  refine u0_entry hI RJ0 (by decide) rfl (Nat.le_of_ble_eq_true rfl) (fun E hE C X => ?_)
  subst hE
  show V0 E w 1 m 0 [(0, .ref (w.2.2.2.2.2 (2 * i)))] []
  refine u0_gcs C qw81 dJ0_coder_7d493_0 ?_
  refine u0_if_eq (tgt := 13) C dJ0_coder_7d493_3 (by decide) (by omega) (fun h => absurd h (by decide)) (fun _ => ?_)
  refine u0_aload_n C 0 dJ0_coder_7d493_6 rfl ?_
  refine u0_xcod C i hq qw1764 dJ0_coder_7d493_7 ?_
  refine u0_goto (tgt := 14) C dJ0_coder_7d493_10 (by decide) ?_
  exact u0_iret C X rfl dJ0_coder_7d493_14 ⟨0, rfl, rfl, rfl⟩
theorem s0_length {lau : Launch} {w : Wd} (hI : wI w) (m : Mem) (i : Nat) (q : String × Nat × String × List Int32) (hq : strS[i]? = some q) : MT0 lau w yJ0_length_8abf5 cJ0_length_8abf5 1 (some .int) ({ frames := 1, cells := 0, slots := 0, locals := 20 } : Room) m [.ref (w.2.2.2.2.2 (2 * i))] (Pi (fun z m' => ((q.2.2.2.length : Nat) : Int) = z ∧ m = m')) := by
  refine u0_entry hI RJ0 (by decide) rfl (Nat.le_of_ble_eq_true rfl) (fun E hE C X => ?_)
  subst hE
  show V0 E w 1 m 0 [(0, .ref (w.2.2.2.2.2 (2 * i)))] []
  refine u0_aload_n C 0 dJ0_length_8abf5_0 rfl ?_
  refine u0_xval C i hq qw1763 dJ0_length_8abf5_1 ?_
  refine u0_xlen C i hq dJ0_length_8abf5_4 ?_
  refine u0_aload_n C 0 dJ0_length_8abf5_5 rfl ?_
  refine u0_callO (st := [.int (iz (q.2.2.2.length : Nat))]) (n := 0) C i hq [] (s0_coder hI m i q hq) qw80 qw4 qw77 rfl rfl ⟨Nat.le_of_ble_eq_true rfl, Nat.le_of_ble_eq_true rfl⟩ (by decide +kernel) qw78 qw79 rfl rfl (Nat.le_of_ble_eq_true rfl) dJ0_length_8abf5_6 (fun r m2 hq2 => ?_)
  obtain ⟨z2, rfl, rfl, rfl⟩ := hq2
  show V0 E w 1 m 9 [(0, .ref (w.2.2.2.2.2 (2 * i)))] [.int (iz 0), .int (iz (q.2.2.2.length : Nat))]
  refine u0_ishr (z := (q.2.2.2.length : Nat)) C ?_ dJ0_length_8abf5_9 ?_
  · have e : iz 0 &&& 31 = 0 := by decide
    rw [e]; exact Int32.shiftRight_zero
  · exact u0_iret C X rfl dJ0_length_8abf5_10 ⟨_, rfl, rfl, rfl⟩
theorem s0_isLatin1 {lau : Launch} {w : Wd} (hI : wI w) (m : Mem) (i : Nat) (q : String × Nat × String × List Int32) (hq : strS[i]? = some q) : MT0 lau w yJ0_isLatin1_aae02 cJ0_isLatin1_aae02 1 (some .boolean) ({ frames := 0, cells := 0, slots := 0, locals := 0 } : Room) m [.ref (w.2.2.2.2.2 (2 * i))] (Pi (fun z m' => 1 = z ∧ m = m')) := by
  refine u0_entry hI RJ0 (by decide) rfl (Nat.le_of_ble_eq_true rfl) (fun E hE C X => ?_)
  subst hE
  show V0 E w 1 m 0 [(0, .ref (w.2.2.2.2.2 (2 * i)))] []
  refine u0_gcs C qw81 dJ0_isLatin1_aae02_0 ?_
  refine u0_if_eq (tgt := 17) C dJ0_isLatin1_aae02_3 (by decide) (by omega) (fun h => absurd h (by decide)) (fun _ => ?_)
  refine u0_aload_n C 0 dJ0_isLatin1_aae02_6 rfl ?_
  refine u0_xcod C i hq qw1764 dJ0_isLatin1_aae02_7 ?_
  refine u0_if_ne (tgt := 17) C dJ0_isLatin1_aae02_10 (by decide) (by omega) (fun h => absurd rfl h) (fun _ => ?_)
  refine u0_iconst (z := 1) C dJ0_isLatin1_aae02_13 rfl ?_
  refine u0_goto (tgt := 18) C dJ0_isLatin1_aae02_14 (by decide) ?_
  exact u0_iret C X (by decide) dJ0_isLatin1_aae02_18 ⟨1, rfl, rfl, rfl⟩
theorem s0_pre {lau : Launch} {w : Wd} (hI : wI w) (m : Mem) (x n : Int) (t : Nat) (hx : 0 ≤ x ∧ x < n) (hn : n ≤ 2147483647) : MT0 lau w yJ3_checkIndex_8e157 cJ3_checkIndex_8e157 3 (some .int) ({ frames := 0, cells := 0, slots := 0, locals := 0 } : Room) m [.int (iz x), .int (iz n), .ref t] (Pi (fun z m' => x = z ∧ m = m')) := by
  refine u0_entry hI RJ3 (by decide) rfl (Nat.le_of_ble_eq_true rfl) (fun E hE C X => ?_)
  subst hE
  show V0 E w 3 m 0 [(0, .int (iz x)), (1, .int (iz n)), (2, .ref t)] []
  refine u0_iload_n C 0 dJ3_checkIndex_8e157_0 rfl ?_
  refine u0_if_lt (tgt := 9) C dJ3_checkIndex_8e157_1 (by decide) (by omega) (fun h => by omega) (fun _ => ?_)
  refine u0_iload_n C 0 dJ3_checkIndex_8e157_4 rfl ?_
  refine u0_iload_n C 1 dJ3_checkIndex_8e157_5 rfl ?_
  refine u0_icmp_lt (tgt := 16) C dJ3_checkIndex_8e157_6 (by decide) (by omega) (by omega) (fun _ => ?_) (fun h => by omega)
  refine u0_iload_n C 0 dJ3_checkIndex_8e157_16 rfl ?_
  exact u0_iret C X rfl dJ3_checkIndex_8e157_17 ⟨_, rfl, rfl, rfl⟩
theorem s0_preN {lau : Launch} {w : Wd} (hI : wI w) (m : Mem) (x n : Int) (hx : 0 ≤ x ∧ x < n) (hn : n ≤ 2147483647) : MT0 lau w yJ3_checkIndex_8e157 cJ3_checkIndex_8e157 3 (some .int) ({ frames := 0, cells := 0, slots := 0, locals := 0 } : Room) m [.int (iz x), .int (iz n), .null] (Pi (fun z m' => x = z ∧ m = m')) := by
  refine u0_entry hI RJ3 (by decide) rfl (Nat.le_of_ble_eq_true rfl) (fun E hE C X => ?_)
  subst hE
  show V0 E w 3 m 0 [(0, .int (iz x)), (1, .int (iz n)), (2, .null)] []
  refine u0_iload_n C 0 dJ3_checkIndex_8e157_0 rfl ?_
  refine u0_if_lt (tgt := 9) C dJ3_checkIndex_8e157_1 (by decide) (by omega) (fun h => by omega) (fun _ => ?_)
  refine u0_iload_n C 0 dJ3_checkIndex_8e157_4 rfl ?_
  refine u0_iload_n C 1 dJ3_checkIndex_8e157_5 rfl ?_
  refine u0_icmp_lt (tgt := 16) C dJ3_checkIndex_8e157_6 (by decide) (by omega) (by omega) (fun _ => ?_) (fun h => by omega)
  refine u0_iload_n C 0 dJ3_checkIndex_8e157_16 rfl ?_
  exact u0_iret C X rfl dJ3_checkIndex_8e157_17 ⟨_, rfl, rfl, rfl⟩
theorem s0_check {lau : Launch} {w : Wd} (hI : wI w) (m : Mem) (x n : Int) (hx : 0 ≤ x ∧ x < n) (hn : n ≤ 2147483647) : MT0 lau w yJ0_checkIndex_df160 cJ0_checkIndex_df160 2 none ({ frames := 1, cells := 0, slots := 0, locals := 22 } : Room) m [.int (iz x), .int (iz n)] (Pv (fun m' => m = m')) := by
  refine u0_entry hI RJ0 (by decide) rfl (Nat.le_of_ble_eq_true rfl) (fun E hE C X => ?_)
  subst hE
  show V0 E w 2 m 0 [(0, .int (iz x)), (1, .int (iz n))] []
  refine u0_iload_n C 0 dJ0_checkIndex_df160_0 rfl ?_
  refine u0_iload_n C 1 dJ0_checkIndex_df160_1 rfl ?_
  refine u0_gsf C qw97 dJ0_checkIndex_df160_2 (fun v hv => ?_)
  rcases hv with rfl | ⟨t, rfl⟩
  · refine u0_callS (st := []) (n := 3) C [.int (iz x), .int (iz n), .null] (s0_preN hI m x n hx hn) qw101 qw6 qw99 rfl rfl ⟨Nat.le_of_ble_eq_true rfl, Nat.le_of_ble_eq_true rfl⟩ (by decide +kernel) qw100 rfl rfl (Nat.le_of_ble_eq_true rfl) dJ0_checkIndex_df160_5 (fun r m2 hq2 => ?_)
    obtain ⟨z2, rfl, rfl, rfl⟩ := hq2
    show V0 E w 2 m 8 [(0, .int (iz x)), (1, .int (iz n))] [.int (iz x)]
    refine u0_pop C dJ0_checkIndex_df160_8 rfl ?_
    exact u0_vret C X dJ0_checkIndex_df160_9 ⟨rfl, rfl⟩
  · refine u0_callS (st := []) (n := 3) C [.int (iz x), .int (iz n), .ref t] (s0_pre hI m x n t hx hn) qw101 qw6 qw99 rfl rfl ⟨Nat.le_of_ble_eq_true rfl, Nat.le_of_ble_eq_true rfl⟩ (by decide +kernel) qw100 rfl rfl (Nat.le_of_ble_eq_true rfl) dJ0_checkIndex_df160_5 (fun r m2 hq2 => ?_)
    obtain ⟨z2, rfl, rfl, rfl⟩ := hq2
    show V0 E w 2 m 8 [(0, .int (iz x)), (1, .int (iz n))] [.int (iz x)]
    refine u0_pop C dJ0_checkIndex_df160_8 rfl ?_
    exact u0_vret C X dJ0_checkIndex_df160_9 ⟨rfl, rfl⟩
theorem s0_char1 {lau : Launch} {w : Wd} (hI : wI w) (m : Mem) (i : Nat) (q : String × Nat × String × List Int32) (hq : strS[i]? = some q) (x : Int) (hx : 0 ≤ x ∧ x < q.2.2.2.length) : MT0 lau w yJ1_charAt_3b067 cJ1_charAt_3b067 2 (some .char) ({ frames := 2, cells := 0, slots := 0, locals := 43 } : Room) m [.ref (w.2.2.2.2.2 (2 * i + 1)), .int (iz x)] (Pi (fun z m' => chZ q.2.2.2 x = z ∧ m = m')) := by
  have hl7 := (strS_ok q (List.mem_of_getElem? hq)).1
  have hcr := chZ_rng hq hx.1 hx.2
  have hasc := asc_1 (z := chZ q.2.2.2 x) (by omega) (by omega)
  refine u0_entry hI RJ1 (by decide) rfl (Nat.le_of_ble_eq_true rfl) (fun E hE C X => ?_)
  subst hE
  show V0 E w 2 m 0 [(0, .ref (w.2.2.2.2.2 (2 * i + 1))), (1, .int (iz x))] []
  refine u0_iload_n C 1 dJ1_charAt_3b067_0 rfl ?_
  refine u0_aload_n C 0 dJ1_charAt_3b067_1 rfl ?_
  refine u0_xlen C i hq dJ1_charAt_3b067_2 ?_
  refine u0_callS (st := []) (n := 2) C [.int (iz x), .int (iz (q.2.2.2.length : Nat))] (s0_check hI m x (q.2.2.2.length : Nat) hx (by omega)) qw96 qw4 qw94 rfl rfl ⟨Nat.le_of_ble_eq_true rfl, Nat.le_of_ble_eq_true rfl⟩ (by decide +kernel) qw95 rfl rfl (Nat.le_of_ble_eq_true rfl) dJ1_charAt_3b067_3 (fun r m2 hq2 => ?_)
  obtain ⟨rfl, rfl⟩ := hq2
  show V0 E w 2 m 6 [(0, .ref (w.2.2.2.2.2 (2 * i + 1))), (1, .int (iz x))] []
  refine u0_aload_n C 0 dJ1_charAt_3b067_6 rfl ?_
  refine u0_iload_n C 1 dJ1_charAt_3b067_7 rfl ?_
  refine u0_xald C i hq hx dJ1_charAt_3b067_8 ?_
  refine u0_sipush (z := 255) C dJ1_charAt_3b067_9 (by decide) ?_
  refine u0_iand (z := chZ q.2.2.2 x) C hasc.1 dJ1_charAt_3b067_12 ?_
  refine u0_i2c (z := chZ q.2.2.2 x) C hasc.2 dJ1_charAt_3b067_13 ?_
  exact u0_iret C X (asc_2 (by omega) (by omega)) dJ1_charAt_3b067_14 ⟨_, rfl, rfl, rfl⟩
theorem s0_charAt {lau : Launch} {w : Wd} (hI : wI w) (m : Mem) (i : Nat) (q : String × Nat × String × List Int32) (hq : strS[i]? = some q) (x : Int) (hx : 0 ≤ x ∧ x < q.2.2.2.length) : MT0 lau w yJ0_charAt_5068e cJ0_charAt_5068e 2 (some .char) ({ frames := 3, cells := 0, slots := 0, locals := 64 } : Room) m [.ref (w.2.2.2.2.2 (2 * i)), .int (iz x)] (Pi (fun z m' => chZ q.2.2.2 x = z ∧ m = m')) := by
  refine u0_entry hI RJ0 (by decide) rfl (Nat.le_of_ble_eq_true rfl) (fun E hE C X => ?_)
  subst hE
  show V0 E w 2 m 0 [(0, .ref (w.2.2.2.2.2 (2 * i))), (1, .int (iz x))] []
  refine u0_aload_n C 0 dJ0_charAt_5068e_0 rfl ?_
  refine u0_callO (st := []) (n := 0) C i hq [] (s0_isLatin1 hI m i q hq) qw90 qw4 qw87 rfl rfl ⟨Nat.le_of_ble_eq_true rfl, Nat.le_of_ble_eq_true rfl⟩ (by decide +kernel) qw88 qw89 rfl rfl (Nat.le_of_ble_eq_true rfl) dJ0_charAt_5068e_1 (fun r m2 hq2 => ?_)
  obtain ⟨z2, rfl, rfl, rfl⟩ := hq2
  show V0 E w 2 m 4 [(0, .ref (w.2.2.2.2.2 (2 * i))), (1, .int (iz x))] [.int (iz 1)]
  refine u0_if_eq (tgt := 16) C dJ0_charAt_5068e_4 (by decide) (by omega) (fun h => absurd h (by decide)) (fun _ => ?_)
  refine u0_aload_n C 0 dJ0_charAt_5068e_7 rfl ?_
  refine u0_xval C i hq qw1763 dJ0_charAt_5068e_8 ?_
  refine u0_iload_n C 1 dJ0_charAt_5068e_11 rfl ?_
  refine u0_callS (st := []) (n := 2) C [.ref (w.2.2.2.2.2 (2 * i + 1)), .int (iz x)] (s0_char1 hI m i q hq x hx) qw93 qw5 qw91 rfl rfl ⟨Nat.le_of_ble_eq_true rfl, Nat.le_of_ble_eq_true rfl⟩ (by decide +kernel) qw92 rfl rfl (Nat.le_of_ble_eq_true rfl) dJ0_charAt_5068e_12 (fun r m2 hq2 => ?_)
  obtain ⟨z2, rfl, rfl, rfl⟩ := hq2
  show V0 E w 2 m 15 [(0, .ref (w.2.2.2.2.2 (2 * i))), (1, .int (iz x))] [.int (iz (chZ q.2.2.2 x))]
  have hcr := chZ_rng hq hx.1 hx.2
  exact u0_iret C X (asc_2 (by omega) (by omega)) dJ0_charAt_5068e_15 ⟨_, rfl, rfl, rfl⟩

set_option maxHeartbeats 4000000 in
set_option maxRecDepth 100000 in
theorem c0_Tape_withLetter {lau : Launch} {w : Wd} (hI : wI w) (m : Mem) (v c : Int) (hc : -2147483648 ≤ c ∧ c ≤ 2147483647) (hc2 : 0 ≤ c) : MT0 lau w yX8_withLetter cX8_withLetter 3 (some .long) ({ frames := 0, cells := 0, slots := 0, locals := 0 } : Room) m [.long (lz (v)), .int (iz (c))] (Pl (fun z m' => v * 27 + (c - 97 + 1) = z ∧ m = m')) := by
  refine u0_entry hI RX8 (by decide) rfl (Nat.le_of_ble_eq_true rfl) (fun E hE C X => ?_)
  subst hE
  show V0 E w 3 m 0 [(0, .long (lz (v))), (2, .int (iz (c)))] []
  refine u0_lload_n C 0 dX8_withLetter_0 rfl ?_
  refine u0_ldc2 (z := 27) C qw124 dX8_withLetter_1 rfl ?_
  refine u0_lmul C dX8_withLetter_4 ?_
  refine u0_iload_n C 1 dX8_withLetter_5 rfl ?_
  refine u0_bipush (z := 97) C dX8_withLetter_6 (by decide) ?_
  refine u0_isub C dX8_withLetter_8 ?_
  refine u0_iconst (z := 1) C dX8_withLetter_9 rfl ?_
  refine u0_iadd C dX8_withLetter_10 ?_
  refine u0_i2l C (by omega) dX8_withLetter_11 ?_
  refine u0_ladd C dX8_withLetter_12 ?_
  refine u0_lret C X dX8_withLetter_13 ⟨_, rfl, ?_, ?_⟩
  · rfl
  · rfl

set_option maxHeartbeats 4000000 in
set_option maxRecDepth 100000 in
theorem c0_Tape_numberOf {lau : Launch} {w : Wd} (hI : wI w) (m : Mem) (i9 : Nat) (own : String) (ix : Nat) (tx : String) (bs : List Int32) (hqs : strS[i9]? = some (own, ix, tx, bs)) : MT0 lau w yX8_numberOf cX8_numberOf 4 (some .long) ({ frames := 4, cells := 0, slots := 0, locals := 85 } : Room) m [.ref (w.2.2.2.2.2 (2 * i9))] (Pl (fun z m' => enZ 27 96 (wdC bs) = z ∧ m = m')) := by
  refine u0_entry hI RX8 (by decide) rfl (Nat.le_of_ble_eq_true rfl) (fun E hE C X => ?_)
  subst hE
  show V0 E w 4 m 0 [(0, .ref (w.2.2.2.2.2 (2 * i9)))] []
  have hle7 : bs.length ≤ 7 := (strS_ok _ (List.mem_of_getElem? hqs)).1
  refine u0_lconst (z := 0) C dX8_numberOf_0 rfl ?_
  refine u0_lstore_n (L1 := [(1, .long (lz (0))), (0, .ref (w.2.2.2.2.2 (2 * i9)))]) C dX8_numberOf_1 (by decide) rfl ?_
  refine u0_iconst (z := 0) C dX8_numberOf_2 rfl ?_
  refine u0_istore_n (L1 := [(3, .int (iz (0))), (1, .long (lz (0))), (0, .ref (w.2.2.2.2.2 (2 * i9)))]) C dX8_numberOf_3 (by decide) rfl ?_
  have K4 : ∀ (nK : Nat) (v : Int) (k : Int) (hk : 0 ≤ k ∧ k ≤ bs.length) (hv : v = enZ 27 96 (wdC (bs.take k.toNat))), ((bs.length : Int) - k).toNat < nK → V0 E w 4 m 4 [(0, .ref (w.2.2.2.2.2 (2 * i9))), (1, .long (lz (v))), (3, .int (iz (k)))] [] := by
    intro nK
    induction nK with
    | zero => intro v k  hk hv hn; exact absurd hn (Nat.not_lt_zero _)
    | succ nK ih4 =>
      intro v k  hk hv hn4
      refine u0_iload_n C 2 dX8_numberOf_4 rfl ?_
      refine u0_aload_n C 0 dX8_numberOf_5 rfl ?_
      refine u0_callO (st := [.int (iz (k))]) (n := 0) C (i9) (hqs) [] (s0_length C.2.2.2.2.2.2.1 m (i9) _ (hqs)) qw76 qw4 qw73 rfl rfl ⟨Nat.le_of_ble_eq_true rfl, Nat.le_of_ble_eq_true rfl⟩ (by decide +kernel) qw74 qw75 rfl rfl (Nat.le_of_ble_eq_true rfl) dX8_numberOf_6 (fun r m1 hq1 => ?_)
      obtain ⟨z1, rfl, rfl, rfl⟩ := hq1
      show V0 E w 4 m 9 [(0, .ref (w.2.2.2.2.2 (2 * i9))), (1, .long (lz (v))), (3, .int (iz (k)))] [.int (iz (((List.length bs : Nat) : Int))), .int (iz (k))]
      refine u0_icmp_ge (tgt := 28) C dX8_numberOf_9 (by decide) (by omega) (by omega) (fun c2 => ?_) (fun c2 => ?_)
      · refine u0_lload_n C 1 dX8_numberOf_28 rfl ?_
        refine u0_lret C X dX8_numberOf_29 ⟨_, rfl, ?_, ?_⟩
        · rw [hv, enC_e (by omega)]
        · rfl
      · refine u0_lload_n C 1 dX8_numberOf_12 rfl ?_
        refine u0_aload_n C 0 dX8_numberOf_13 rfl ?_
        refine u0_iload_n C 2 dX8_numberOf_14 rfl ?_
        refine u0_callO (st := [.long (lz (v))]) (n := 1) C (i9) (hqs) [.int (iz (k))] (s0_charAt C.2.2.2.2.2.2.1 m (i9) _ (hqs) (k) (by exact ⟨hk.1, by show k < bs.length; omega⟩)) qw86 qw4 qw83 rfl rfl ⟨Nat.le_of_ble_eq_true rfl, Nat.le_of_ble_eq_true rfl⟩ (by decide +kernel) qw84 qw85 rfl rfl (Nat.le_of_ble_eq_true rfl) dX8_numberOf_15 (fun r m3 hq3 => ?_)
        obtain ⟨z3, rfl, rfl, rfl⟩ := hq3
        show V0 E w 4 m 18 [(0, .ref (w.2.2.2.2.2 (2 * i9))), (1, .long (lz (v))), (3, .int (iz (k)))] [.int (iz (chZ bs (k))), .long (lz (v))]
        have hcr := chZ_rng hqs hk.1 (by show k < bs.length; omega)
        refine u0_callS (st := []) (n := 2) C [.long (lz (v)), .int (iz (chZ bs (k)))] (c0_Tape_withLetter C.2.2.2.2.2.2.1 m (v) (chZ bs (k)) (by show -2147483648 ≤ chZ bs k ∧ chZ bs k ≤ 2147483647; have y : 97 ≤ chZ bs k ∧ chZ bs k ≤ 122 := hcr; omega) (by have y : 97 ≤ chZ bs k ∧ chZ bs k ≤ 122 := hcr; omega)) qw123 qw2 qw121 rfl rfl ⟨Nat.le_of_ble_eq_true rfl, Nat.le_of_ble_eq_true rfl⟩ (by decide +kernel) qw122 rfl rfl (Nat.le_of_ble_eq_true rfl) dX8_numberOf_18 (fun r m4 hq4 => ?_)
        obtain ⟨z4, rfl, rfl, rfl⟩ := hq4
        show V0 E w 4 m 21 [(0, .ref (w.2.2.2.2.2 (2 * i9))), (1, .long (lz (v))), (3, .int (iz (k)))] [.long (lz (v * 27 + ((chZ bs (k)) - 97 + 1)))]
        refine u0_lstore_n (L1 := [(1, .long (lz (v * 27 + ((chZ bs (k)) - 97 + 1)))), (0, .ref (w.2.2.2.2.2 (2 * i9))), (3, .int (iz (k)))]) C dX8_numberOf_21 (by decide) rfl ?_
        refine u0_iinc (L1 := [(3, .int (iz (k + 1))), (1, .long (lz (v * 27 + ((chZ bs (k)) - 97 + 1)))), (0, .ref (w.2.2.2.2.2 (2 * i9)))]) C 2 dX8_numberOf_22 rfl (by decide) rfl ?_
        refine u0_goto (tgt := 4) C dX8_numberOf_25 (by decide) ?_
        refine u0_sub [2, 1, 0] rfl ?_
        exact ih4 (v * 27 + ((chZ bs (k)) - 97 + 1)) (k + 1)  (by omega) (by rw [enC_s hk.1 (by omega), ← hv]; omega) (by omega)
  refine u0_sub [2, 1, 0] rfl ?_
  exact K4 _ (0) (0)  (by omega) (by show (0 : Int) = enZ 27 96 (wdC (bs.take 0)); rw [List.take_zero]; rfl) (Nat.lt_succ_self _)

section VRS
variable {E : Amb} {D : va_G} {cy : Nat → ClassId} {ad : Nat → Nat} {A : Nat → Prop} {cc : ByteArray} {own : String} {nL cells slots : Nat} {R0 : Room} {ws : va_W} {pc : Nat} {L : List (Nat × Value)} {st : List Value}
/-- a world of no cells -/
abbrev w0C (D : va_G) (cy : Nat → ClassId) (aa ad : Nat → Nat) : Wd := (D, cy, aa, 0, cFC, ad)
/-- a static method that needs no cell at all -/
theorem b_callS (C : CB E D cy ad A cc own nL R0) (hq : True) {y : MethodName} {bytes : ByteArray} {maxL index n : Nat} {ret : Option FieldType} {rm : Room} {Post : Option Value → Mem → Prop} {st0 : List Value} (As : List Value) (hM : ∀ aa : Nat → Nat, wI (w0C D cy aa ad) → MT0 E.2.1 (w0C D cy aa ad) y bytes maxL ret rm zM As Post) (hcode : Cond.code y bytes maxL ret ∈ lw_gd) (hini : Cond.initialized y.cls ∈ lw_gd) (hlk : Cond.methodLink own index y ∈ lw_gd) (hcz : rm.cells = 0) (hsz : rm.slots = 0) (hroom : rm.frames + 1 ≤ R0.frames ∧ 8 + (maxL + 11) + rm.locals ≤ R0.locals) (hnm : y.cls ≠ "java/lang/invoke/MethodHandle" ∧ y.cls ≠ "java/lang/invoke/VarHandle" ∧ (parseMethodDescriptor y.desc).map (fun d => d.parameters.length) = some n) (hstat : Cond.static y ∈ lw_gd) (hn : As.length = n) (hst : st0 = As.reverse ++ st) (hcat : (st.map fun v => v.category).sum ≤ 8) (hdg : decode cc pc = .ok (.invokestatic index, 3))
    (hrr : cells + 0 ≤ R0.cells ∧ slots + 0 ≤ R0.slots) (k : ∀ r : Option Value, (∃ m1, Post r m1) → VB E D A nL cells slots ws (pc + 3) L (r.toList ++ st)) : VB E D A nL cells slots ws pc L st0 := fun H locs ls hP hD hS hl => by
  have hI : wI (w0C D cy (fun _ => 0) ad) := fun i j hi => absurd hi (Nat.not_lt_zero i)
  have hW0 : ∀ sz q, wA (w0C D cy (fun _ => 0) ad) sz q → sz ≤ q := fun sz q h => h.elim (fun ⟨k, hk, _⟩ => absurd hk (Nat.not_lt_zero k)) id
  have hA : ∀ q, wA (w0C D cy (fun _ => 0) ad) H.size q → A q := fun q h => C.2.2.2.2.2.2.1 q (Nat.le_trans hS.1 (hW0 _ q h))
  have hrun := va_runS (cells := cells) (slots := slots) (locs := locs) (H := H) (nL := nL) (Ts := lw_gd) (own := own) (n := n) (As := As) (rest := st) (l := E.2.1) (e := E.2.2.1) (below := E.2.2.2.2.2.2.2.1) (meth := E.2.2.2.2.2.2.2.2.1) (g := F0 E.2.2.2.2.2.1 pc ls st0) (R := E.2.2.2.1) ⟨C.1, C.2.1, C.2.2.1, C.2.2.2.1, C.2.2.2.2.1⟩ (hM (fun _ => 0) hI H.size) ⟨callB_of (Ts := lw_gd) n C.2.2.2.2.1 (good_ws hcode) rfl hcz hsz (C.2.2.2.2.1 _ hini) (C.2.2.2.2.1 _ hlk) hnm (by rw [C.2.2.2.2.2.2.2.1]; exact hroom), C.2.2.2.2.1 _ hstat⟩
    ⟨BW_blind, fun U hU hW => ⟨rfl, by rw [hU], (fun i q hi => by simp [wG] at hi), va_K.moved hW.alike C.2.2.2.2.2.1, by rw [hU]; exact OX.to C.2.2.2.2.2.2.2.2 hW hS.2.1 hA⟩⟩ rfl hn hl.1 hst (lv_room (m := E.2.2.2.2.2.1) (pc := pc) (ls := ls) (rest := st0) hcat) hdg (by rw [C.2.2.2.2.2.2.2.1]; exact hrr)
  intro T hT X
  obtain ⟨v, st₀, t, T', Lo, h0, X', hL, e1, e2, ⟨⟨r, m1, hv, hp, -⟩, hz, hk⟩, stp⟩ := hrun T hT X
  cases hv
  rw [h0] at hz hk
  rw [← e1] at hz hk
  have hk2 : ∀ q : Nat, q < H.size → T'.heap[q]? = H[q]? := fun q h1 => hk q h1 (fun h => by have := hW0 _ q h; omega)
  have hS1 : va_S A E.2.2.2.2.1.heap T'.heap (locs ++ Lo) := ⟨Nat.le_trans hS.1 hz, fun q h1 h2 => by rw [hk2 q (Nat.lt_of_lt_of_le h1 hS.1)]; exact hS.2.1 q h1 h2, fun q hq => by
    rcases List.mem_append.mp hq with h | h
    · exact hS.2.2 q h
    · exact hA _ (hL q h)⟩
  obtain ⟨t2, a1, b1⟩ := k v ⟨m1, hp⟩ T'.heap (locs ++ Lo) ls (hP.kept fun i q hi => hk2 q.1 ((hP i q hi).lt)) hD hS1 hl T' rfl X'
  exact ⟨t2, stp t2 a1, b1⟩
end VRS
set_option maxHeartbeats 4000000 in
set_option maxRecDepth 100000 in
theorem ct_Tape_init {lau : Launch} {D : va_G} {cy : Nat → ClassId} {ad : Nat → Nat} {hq : True} (a0 : Nat) : CT lau D cy ad yX8_init cX8_init 1 ({ frames := 1, cells := 1, slots := 700, locals := 20 } : Room) [.ref a0] [(a0, .inr (8, [.null, .int (iz 0), .int (iz 0), .int (iz 0), .long (lz 0), .int (iz 0), .int (iz 0)]))] (fun w1 => ∃ f1 : Nat, w1 = [(a0, .inr (8, [.ref f1, .int (iz 0), .int (iz 0), .int (iz 0), .long (lz 0), .int (iz 0), .int (iz 0)])), (f1, .inl (cy 0, 700, .inl (fun _ => iz 0)))]) := by
  refine b_entry RX8 (by decide) rfl rfl (Nat.le_of_ble_eq_true rfl) (fun E A hE C hN hr hlk hQ => ?_)
  subst hE
  show VB E D A 1 0 0 ((a0, .inr (8, [.null, .int (iz 0), .int (iz 0), .int (iz 0), .long (lz 0), .int (iz 0), .int (iz 0)])) :: []) 0 [(0, .ref a0)] []
  refine b_aload_n C 0 dX8_init_0 rfl ?_
  refine b_objinit C qw35 qw28 qw29 ⟨Nat.le_of_ble_eq_true rfl, Nat.le_of_ble_eq_true rfl⟩ (Nat.le_of_ble_eq_true rfl) dX8_init_1 ?_
  refine b_aload_n C 0 dX8_init_4 rfl ?_
  refine b_sipush (z := 700) C dX8_init_5 (by decide) ?_
  refine b_newa (atype := .int) (a0 := (700, .inl (fun _ => iz 0))) C 0 rfl (fun _ h => by cases h) qw62 rfl (fun _ => rfl) (by decide) rfl (by decide) ⟨Nat.le_of_ble_eq_true rfl, Nat.le_of_ble_eq_true rfl⟩ dX8_init_8 (fun f1 => ?_)
  show VB E D A 1 1 700 ((a0, .inr (8, [.null, .int (iz 0), .int (iz 0), .int (iz 0), .long (lz 0), .int (iz 0), .int (iz 0)])) :: [(f1, .inl (cy 0, 700, .inl (fun _ => iz 0)))]) 10 [(0, .ref a0)] [.ref f1, .ref a0]
  refine b_put (fs1 := [.ref f1, .int (iz 0), .int (iz 0), .int (iz 0), .long (lz 0), .int (iz 0), .int (iz 0)]) C hN 0 rfl inX8 tyX8 tyX8_ok nmX8 (Nat.le_of_ble_eq_true rfl) qw36 rfl rfl rfl (Nat.le_of_ble_eq_true rfl) rfl dX8_init_10 ?_
  refine b_aload_n C 0 dX8_init_13 rfl ?_
  refine b_iconst (z := 0) C dX8_init_14 rfl ?_
  refine b_put (fs1 := [.ref f1, .int (iz 0), .int (iz 0), .int (iz 0), .long (lz 0), .int (iz 0), .int (iz 0)]) C hN 1 rfl inX8 tyX8 tyX8_ok nmX8 (Nat.le_of_ble_eq_true rfl) qw37 rfl rfl rfl (Nat.le_of_ble_eq_true rfl) rfl dX8_init_15 ?_
  refine b_aload_n C 0 dX8_init_18 rfl ?_
  refine b_iconst (z := 0) C dX8_init_19 rfl ?_
  refine b_put (fs1 := [.ref f1, .int (iz 0), .int (iz 0), .int (iz 0), .long (lz 0), .int (iz 0), .int (iz 0)]) C hN 2 rfl inX8 tyX8 tyX8_ok nmX8 (Nat.le_of_ble_eq_true rfl) qw39 rfl rfl rfl (Nat.le_of_ble_eq_true rfl) rfl dX8_init_20 ?_
  refine b_aload_n C 0 dX8_init_23 rfl ?_
  refine b_iconst (z := 0) C dX8_init_24 rfl ?_
  refine b_put (fs1 := [.ref f1, .int (iz 0), .int (iz 0), .int (iz 0), .long (lz 0), .int (iz 0), .int (iz 0)]) C hN 3 rfl inX8 tyX8 tyX8_ok nmX8 (Nat.le_of_ble_eq_true rfl) qw41 rfl rfl rfl (Nat.le_of_ble_eq_true rfl) rfl dX8_init_25 ?_
  refine b_aload_n C 0 dX8_init_28 rfl ?_
  refine b_lconst (z := 0) C dX8_init_29 rfl ?_
  refine b_put (fs1 := [.ref f1, .int (iz 0), .int (iz 0), .int (iz 0), .long (lz 0), .int (iz 0), .int (iz 0)]) C hN 4 rfl inX8 tyX8 tyX8_ok nmX8 (Nat.le_of_ble_eq_true rfl) qw43 rfl rfl rfl (Nat.le_of_ble_eq_true rfl) rfl dX8_init_30 ?_
  refine b_aload_n C 0 dX8_init_33 rfl ?_
  refine b_iconst (z := 0) C dX8_init_34 rfl ?_
  refine b_put (fs1 := [.ref f1, .int (iz 0), .int (iz 0), .int (iz 0), .long (lz 0), .int (iz 0), .int (iz 0)]) C hN 5 rfl inX8 tyX8 tyX8_ok nmX8 (Nat.le_of_ble_eq_true rfl) qw45 rfl rfl rfl (Nat.le_of_ble_eq_true rfl) rfl dX8_init_35 ?_
  refine b_aload_n C 0 dX8_init_38 rfl ?_
  refine b_iconst (z := 0) C dX8_init_39 rfl ?_
  refine b_put (fs1 := [.ref f1, .int (iz 0), .int (iz 0), .int (iz 0), .long (lz 0), .int (iz 0), .int (iz 0)]) C hN 6 rfl inX8 tyX8 tyX8_ok nmX8 (Nat.le_of_ble_eq_true rfl) qw46 rfl rfl rfl (Nat.le_of_ble_eq_true rfl) rfl dX8_init_40 ?_
  exact b_ret C hr hlk hQ dX8_init_43 ⟨f1, rfl⟩

set_option maxHeartbeats 4000000 in
set_option maxRecDepth 100000 in
theorem ct_Reader_init {lau : Launch} {D : va_G} {cy : Nat → ClassId} {ad : Nat → Nat} {hq : True} (a0 t1 : Nat) : CT lau D cy ad yX5_init cX5_init 2 ({ frames := 5, cells := 1, slots := 3, locals := 108 } : Room) [.ref a0, .ref t1] [(a0, .inr (5, [.null, .null, .long (lz 0), .long (lz 0), .long (lz 0), .long (lz 0), .long (lz 0), .long (lz 0), .int (iz 0), .int (iz 0), .int (iz 0), .int (iz 0)]))] (fun w1 => ∃ f1 : Nat, w1 = [(a0, .inr (5, [.ref t1, .ref f1, .long (lz (enZ 27 96 (wdC w_rocket))), .long (lz (enZ 27 96 (wdC w_stage))), .long (lz (enZ 27 96 (wdC w_fail))), .long (lz (enZ 27 96 (wdC w_solid))), .long (lz (enZ 27 96 (wdC w_oil))), .long (lz (enZ 27 96 (wdC w_gas))), .int (iz 0), .int (iz 0), .int (iz 0), .int (iz 0)])), (f1, .inl (cy 1, 3, .inr (.inl (fun _ => lz 0))))]) := by
  refine b_entry RX5 (by decide) rfl rfl (Nat.le_of_ble_eq_true rfl) (fun E A hE C hN hr hlk hQ => ?_)
  subst hE
  show VB E D A 2 0 0 ((a0, .inr (5, [.null, .null, .long (lz 0), .long (lz 0), .long (lz 0), .long (lz 0), .long (lz 0), .long (lz 0), .int (iz 0), .int (iz 0), .int (iz 0), .int (iz 0)])) :: []) 0 [(0, .ref a0), (1, .ref t1)] []
  refine b_aload_n C 0 dX5_init_0 rfl ?_
  refine b_objinit C qw68 qw28 qw29 ⟨Nat.le_of_ble_eq_true rfl, Nat.le_of_ble_eq_true rfl⟩ (Nat.le_of_ble_eq_true rfl) dX5_init_1 ?_
  refine b_aload_n C 0 dX5_init_4 rfl ?_
  refine b_iconst (z := 3) C dX5_init_5 rfl ?_
  refine b_newa (atype := .long) (a0 := (3, .inr (.inl (fun _ => lz 0)))) C 1 rfl (fun _ h => by cases h) qw169 rfl (fun _ => rfl) (by decide) rfl (by decide) ⟨Nat.le_of_ble_eq_true rfl, Nat.le_of_ble_eq_true rfl⟩ dX5_init_6 (fun f1 => ?_)
  show VB E D A 2 1 3 ((a0, .inr (5, [.null, .null, .long (lz 0), .long (lz 0), .long (lz 0), .long (lz 0), .long (lz 0), .long (lz 0), .int (iz 0), .int (iz 0), .int (iz 0), .int (iz 0)])) :: [(f1, .inl (cy 1, 3, .inr (.inl (fun _ => lz 0))))]) 8 [(0, .ref a0), (1, .ref t1)] [.ref f1, .ref a0]
  refine b_put (fs1 := [.null, .ref f1, .long (lz 0), .long (lz 0), .long (lz 0), .long (lz 0), .long (lz 0), .long (lz 0), .int (iz 0), .int (iz 0), .int (iz 0), .int (iz 0)]) C hN 1 rfl inX5 tyX5 tyX5_ok nmX5 (Nat.le_of_ble_eq_true rfl) qw131 rfl rfl rfl (Nat.le_of_ble_eq_true rfl) rfl dX5_init_8 ?_
  refine b_aload_n C 0 dX5_init_11 rfl ?_
  refine b_ldcs C 0 rfl dX5_init_12 ?_
  refine b_callS (n := 1) (st := [.ref a0]) C hq [.ref (ad (2 * 0))] (fun aa hI => c0_Tape_numberOf hI zM 0 "StageRatios$Reader" 15 "rocket" w_rocket rfl) qw72 qw2 qw70 rfl rfl ⟨Nat.le_of_ble_eq_true rfl, Nat.le_of_ble_eq_true rfl⟩ (by decide +kernel) qw71 rfl rfl (Nat.le_of_ble_eq_true rfl) dX5_init_14 ⟨Nat.le_of_ble_eq_true rfl, Nat.le_of_ble_eq_true rfl⟩ (fun r hr => ?_)
  obtain ⟨_, _, rfl, rfl, -⟩ := hr
  show VB E D A 2 1 3 ((a0, .inr (5, [.null, .ref f1, .long (lz 0), .long (lz 0), .long (lz 0), .long (lz 0), .long (lz 0), .long (lz 0), .int (iz 0), .int (iz 0), .int (iz 0), .int (iz 0)])) :: [(f1, .inl (cy 1, 3, .inr (.inl (fun _ => lz 0))))]) 17 [(0, .ref a0), (1, .ref t1)] [.long (lz (enZ 27 96 (wdC w_rocket))), .ref a0]
  refine b_put (fs1 := [.null, .ref f1, .long (lz (enZ 27 96 (wdC w_rocket))), .long (lz 0), .long (lz 0), .long (lz 0), .long (lz 0), .long (lz 0), .int (iz 0), .int (iz 0), .int (iz 0), .int (iz 0)]) C hN 2 rfl inX5 tyX5 tyX5_ok nmX5 (Nat.le_of_ble_eq_true rfl) qw132 rfl rfl rfl (Nat.le_of_ble_eq_true rfl) rfl dX5_init_17 ?_
  refine b_aload_n C 0 dX5_init_20 rfl ?_
  refine b_ldcs C 1 rfl dX5_init_21 ?_
  refine b_callS (n := 1) (st := [.ref a0]) C hq [.ref (ad (2 * 1))] (fun aa hI => c0_Tape_numberOf hI zM 1 "StageRatios$Reader" 27 "stage" w_stage rfl) qw72 qw2 qw70 rfl rfl ⟨Nat.le_of_ble_eq_true rfl, Nat.le_of_ble_eq_true rfl⟩ (by decide +kernel) qw71 rfl rfl (Nat.le_of_ble_eq_true rfl) dX5_init_23 ⟨Nat.le_of_ble_eq_true rfl, Nat.le_of_ble_eq_true rfl⟩ (fun r hr => ?_)
  obtain ⟨_, _, rfl, rfl, -⟩ := hr
  show VB E D A 2 1 3 ((a0, .inr (5, [.null, .ref f1, .long (lz (enZ 27 96 (wdC w_rocket))), .long (lz 0), .long (lz 0), .long (lz 0), .long (lz 0), .long (lz 0), .int (iz 0), .int (iz 0), .int (iz 0), .int (iz 0)])) :: [(f1, .inl (cy 1, 3, .inr (.inl (fun _ => lz 0))))]) 26 [(0, .ref a0), (1, .ref t1)] [.long (lz (enZ 27 96 (wdC w_stage))), .ref a0]
  refine b_put (fs1 := [.null, .ref f1, .long (lz (enZ 27 96 (wdC w_rocket))), .long (lz (enZ 27 96 (wdC w_stage))), .long (lz 0), .long (lz 0), .long (lz 0), .long (lz 0), .int (iz 0), .int (iz 0), .int (iz 0), .int (iz 0)]) C hN 3 rfl inX5 tyX5 tyX5_ok nmX5 (Nat.le_of_ble_eq_true rfl) qw133 rfl rfl rfl (Nat.le_of_ble_eq_true rfl) rfl dX5_init_26 ?_
  refine b_aload_n C 0 dX5_init_29 rfl ?_
  refine b_ldcs C 2 rfl dX5_init_30 ?_
  refine b_callS (n := 1) (st := [.ref a0]) C hq [.ref (ad (2 * 2))] (fun aa hI => c0_Tape_numberOf hI zM 2 "StageRatios$Reader" 32 "fail" w_fail rfl) qw72 qw2 qw70 rfl rfl ⟨Nat.le_of_ble_eq_true rfl, Nat.le_of_ble_eq_true rfl⟩ (by decide +kernel) qw71 rfl rfl (Nat.le_of_ble_eq_true rfl) dX5_init_32 ⟨Nat.le_of_ble_eq_true rfl, Nat.le_of_ble_eq_true rfl⟩ (fun r hr => ?_)
  obtain ⟨_, _, rfl, rfl, -⟩ := hr
  show VB E D A 2 1 3 ((a0, .inr (5, [.null, .ref f1, .long (lz (enZ 27 96 (wdC w_rocket))), .long (lz (enZ 27 96 (wdC w_stage))), .long (lz 0), .long (lz 0), .long (lz 0), .long (lz 0), .int (iz 0), .int (iz 0), .int (iz 0), .int (iz 0)])) :: [(f1, .inl (cy 1, 3, .inr (.inl (fun _ => lz 0))))]) 35 [(0, .ref a0), (1, .ref t1)] [.long (lz (enZ 27 96 (wdC w_fail))), .ref a0]
  refine b_put (fs1 := [.null, .ref f1, .long (lz (enZ 27 96 (wdC w_rocket))), .long (lz (enZ 27 96 (wdC w_stage))), .long (lz (enZ 27 96 (wdC w_fail))), .long (lz 0), .long (lz 0), .long (lz 0), .int (iz 0), .int (iz 0), .int (iz 0), .int (iz 0)]) C hN 4 rfl inX5 tyX5 tyX5_ok nmX5 (Nat.le_of_ble_eq_true rfl) qw134 rfl rfl rfl (Nat.le_of_ble_eq_true rfl) rfl dX5_init_35 ?_
  refine b_aload_n C 0 dX5_init_38 rfl ?_
  refine b_ldcs C 3 rfl dX5_init_39 ?_
  refine b_callS (n := 1) (st := [.ref a0]) C hq [.ref (ad (2 * 3))] (fun aa hI => c0_Tape_numberOf hI zM 3 "StageRatios$Reader" 37 "solid" w_solid rfl) qw72 qw2 qw70 rfl rfl ⟨Nat.le_of_ble_eq_true rfl, Nat.le_of_ble_eq_true rfl⟩ (by decide +kernel) qw71 rfl rfl (Nat.le_of_ble_eq_true rfl) dX5_init_41 ⟨Nat.le_of_ble_eq_true rfl, Nat.le_of_ble_eq_true rfl⟩ (fun r hr => ?_)
  obtain ⟨_, _, rfl, rfl, -⟩ := hr
  show VB E D A 2 1 3 ((a0, .inr (5, [.null, .ref f1, .long (lz (enZ 27 96 (wdC w_rocket))), .long (lz (enZ 27 96 (wdC w_stage))), .long (lz (enZ 27 96 (wdC w_fail))), .long (lz 0), .long (lz 0), .long (lz 0), .int (iz 0), .int (iz 0), .int (iz 0), .int (iz 0)])) :: [(f1, .inl (cy 1, 3, .inr (.inl (fun _ => lz 0))))]) 44 [(0, .ref a0), (1, .ref t1)] [.long (lz (enZ 27 96 (wdC w_solid))), .ref a0]
  refine b_put (fs1 := [.null, .ref f1, .long (lz (enZ 27 96 (wdC w_rocket))), .long (lz (enZ 27 96 (wdC w_stage))), .long (lz (enZ 27 96 (wdC w_fail))), .long (lz (enZ 27 96 (wdC w_solid))), .long (lz 0), .long (lz 0), .int (iz 0), .int (iz 0), .int (iz 0), .int (iz 0)]) C hN 5 rfl inX5 tyX5 tyX5_ok nmX5 (Nat.le_of_ble_eq_true rfl) qw135 rfl rfl rfl (Nat.le_of_ble_eq_true rfl) rfl dX5_init_44 ?_
  refine b_aload_n C 0 dX5_init_47 rfl ?_
  refine b_ldcs C 4 rfl dX5_init_48 ?_
  refine b_callS (n := 1) (st := [.ref a0]) C hq [.ref (ad (2 * 4))] (fun aa hI => c0_Tape_numberOf hI zM 4 "StageRatios$Reader" 42 "oil" w_oil rfl) qw72 qw2 qw70 rfl rfl ⟨Nat.le_of_ble_eq_true rfl, Nat.le_of_ble_eq_true rfl⟩ (by decide +kernel) qw71 rfl rfl (Nat.le_of_ble_eq_true rfl) dX5_init_50 ⟨Nat.le_of_ble_eq_true rfl, Nat.le_of_ble_eq_true rfl⟩ (fun r hr => ?_)
  obtain ⟨_, _, rfl, rfl, -⟩ := hr
  show VB E D A 2 1 3 ((a0, .inr (5, [.null, .ref f1, .long (lz (enZ 27 96 (wdC w_rocket))), .long (lz (enZ 27 96 (wdC w_stage))), .long (lz (enZ 27 96 (wdC w_fail))), .long (lz (enZ 27 96 (wdC w_solid))), .long (lz 0), .long (lz 0), .int (iz 0), .int (iz 0), .int (iz 0), .int (iz 0)])) :: [(f1, .inl (cy 1, 3, .inr (.inl (fun _ => lz 0))))]) 53 [(0, .ref a0), (1, .ref t1)] [.long (lz (enZ 27 96 (wdC w_oil))), .ref a0]
  refine b_put (fs1 := [.null, .ref f1, .long (lz (enZ 27 96 (wdC w_rocket))), .long (lz (enZ 27 96 (wdC w_stage))), .long (lz (enZ 27 96 (wdC w_fail))), .long (lz (enZ 27 96 (wdC w_solid))), .long (lz (enZ 27 96 (wdC w_oil))), .long (lz 0), .int (iz 0), .int (iz 0), .int (iz 0), .int (iz 0)]) C hN 6 rfl inX5 tyX5 tyX5_ok nmX5 (Nat.le_of_ble_eq_true rfl) qw136 rfl rfl rfl (Nat.le_of_ble_eq_true rfl) rfl dX5_init_53 ?_
  refine b_aload_n C 0 dX5_init_56 rfl ?_
  refine b_ldcs C 5 rfl dX5_init_57 ?_
  refine b_callS (n := 1) (st := [.ref a0]) C hq [.ref (ad (2 * 5))] (fun aa hI => c0_Tape_numberOf hI zM 5 "StageRatios$Reader" 47 "gas" w_gas rfl) qw72 qw2 qw70 rfl rfl ⟨Nat.le_of_ble_eq_true rfl, Nat.le_of_ble_eq_true rfl⟩ (by decide +kernel) qw71 rfl rfl (Nat.le_of_ble_eq_true rfl) dX5_init_59 ⟨Nat.le_of_ble_eq_true rfl, Nat.le_of_ble_eq_true rfl⟩ (fun r hr => ?_)
  obtain ⟨_, _, rfl, rfl, -⟩ := hr
  show VB E D A 2 1 3 ((a0, .inr (5, [.null, .ref f1, .long (lz (enZ 27 96 (wdC w_rocket))), .long (lz (enZ 27 96 (wdC w_stage))), .long (lz (enZ 27 96 (wdC w_fail))), .long (lz (enZ 27 96 (wdC w_solid))), .long (lz (enZ 27 96 (wdC w_oil))), .long (lz 0), .int (iz 0), .int (iz 0), .int (iz 0), .int (iz 0)])) :: [(f1, .inl (cy 1, 3, .inr (.inl (fun _ => lz 0))))]) 62 [(0, .ref a0), (1, .ref t1)] [.long (lz (enZ 27 96 (wdC w_gas))), .ref a0]
  refine b_put (fs1 := [.null, .ref f1, .long (lz (enZ 27 96 (wdC w_rocket))), .long (lz (enZ 27 96 (wdC w_stage))), .long (lz (enZ 27 96 (wdC w_fail))), .long (lz (enZ 27 96 (wdC w_solid))), .long (lz (enZ 27 96 (wdC w_oil))), .long (lz (enZ 27 96 (wdC w_gas))), .int (iz 0), .int (iz 0), .int (iz 0), .int (iz 0)]) C hN 7 rfl inX5 tyX5 tyX5_ok nmX5 (Nat.le_of_ble_eq_true rfl) qw137 rfl rfl rfl (Nat.le_of_ble_eq_true rfl) rfl dX5_init_62 ?_
  refine b_aload_n C 0 dX5_init_65 rfl ?_
  refine b_iconst (z := 0) C dX5_init_66 rfl ?_
  refine b_put (fs1 := [.null, .ref f1, .long (lz (enZ 27 96 (wdC w_rocket))), .long (lz (enZ 27 96 (wdC w_stage))), .long (lz (enZ 27 96 (wdC w_fail))), .long (lz (enZ 27 96 (wdC w_solid))), .long (lz (enZ 27 96 (wdC w_oil))), .long (lz (enZ 27 96 (wdC w_gas))), .int (iz 0), .int (iz 0), .int (iz 0), .int (iz 0)]) C hN 8 rfl inX5 tyX5 tyX5_ok nmX5 (Nat.le_of_ble_eq_true rfl) qw138 rfl (by decide) rfl (Nat.le_of_ble_eq_true rfl) rfl dX5_init_67 ?_
  refine b_aload_n C 0 dX5_init_70 rfl ?_
  refine b_iconst (z := 0) C dX5_init_71 rfl ?_
  refine b_put (fs1 := [.null, .ref f1, .long (lz (enZ 27 96 (wdC w_rocket))), .long (lz (enZ 27 96 (wdC w_stage))), .long (lz (enZ 27 96 (wdC w_fail))), .long (lz (enZ 27 96 (wdC w_solid))), .long (lz (enZ 27 96 (wdC w_oil))), .long (lz (enZ 27 96 (wdC w_gas))), .int (iz 0), .int (iz 0), .int (iz 0), .int (iz 0)]) C hN 9 rfl inX5 tyX5 tyX5_ok nmX5 (Nat.le_of_ble_eq_true rfl) qw139 rfl rfl rfl (Nat.le_of_ble_eq_true rfl) rfl dX5_init_72 ?_
  refine b_aload_n C 0 dX5_init_75 rfl ?_
  refine b_iconst (z := 0) C dX5_init_76 rfl ?_
  refine b_put (fs1 := [.null, .ref f1, .long (lz (enZ 27 96 (wdC w_rocket))), .long (lz (enZ 27 96 (wdC w_stage))), .long (lz (enZ 27 96 (wdC w_fail))), .long (lz (enZ 27 96 (wdC w_solid))), .long (lz (enZ 27 96 (wdC w_oil))), .long (lz (enZ 27 96 (wdC w_gas))), .int (iz 0), .int (iz 0), .int (iz 0), .int (iz 0)]) C hN 10 rfl inX5 tyX5 tyX5_ok nmX5 (Nat.le_of_ble_eq_true rfl) qw140 rfl rfl rfl (Nat.le_of_ble_eq_true rfl) rfl dX5_init_77 ?_
  refine b_aload_n C 0 dX5_init_80 rfl ?_
  refine b_iconst (z := 0) C dX5_init_81 rfl ?_
  refine b_put (fs1 := [.null, .ref f1, .long (lz (enZ 27 96 (wdC w_rocket))), .long (lz (enZ 27 96 (wdC w_stage))), .long (lz (enZ 27 96 (wdC w_fail))), .long (lz (enZ 27 96 (wdC w_solid))), .long (lz (enZ 27 96 (wdC w_oil))), .long (lz (enZ 27 96 (wdC w_gas))), .int (iz 0), .int (iz 0), .int (iz 0), .int (iz 0)]) C hN 11 rfl inX5 tyX5 tyX5_ok nmX5 (Nat.le_of_ble_eq_true rfl) qw142 rfl rfl rfl (Nat.le_of_ble_eq_true rfl) rfl dX5_init_82 ?_
  refine b_aload_n C 0 dX5_init_85 rfl ?_
  refine b_aload_n C 1 dX5_init_86 rfl ?_
  refine b_put (fs1 := [.ref t1, .ref f1, .long (lz (enZ 27 96 (wdC w_rocket))), .long (lz (enZ 27 96 (wdC w_stage))), .long (lz (enZ 27 96 (wdC w_fail))), .long (lz (enZ 27 96 (wdC w_solid))), .long (lz (enZ 27 96 (wdC w_oil))), .long (lz (enZ 27 96 (wdC w_gas))), .int (iz 0), .int (iz 0), .int (iz 0), .int (iz 0)]) C hN 0 rfl inX5 tyX5 tyX5_ok nmX5 (Nat.le_of_ble_eq_true rfl) qw130 rfl rfl rfl (Nat.le_of_ble_eq_true rfl) rfl dX5_init_87 ?_
  exact b_ret C hr hlk hQ dX5_init_90 ⟨f1, rfl⟩

set_option maxHeartbeats 4000000 in
set_option maxRecDepth 100000 in
theorem ct_Weights_init {lau : Launch} {D : va_G} {cy : Nat → ClassId} {ad : Nat → Nat} {hq : True} (a0 : Nat) : CT lau D cy ad yX9_init cX9_init 1 ({ frames := 1, cells := 3, slots := 9, locals := 20 } : Room) [.ref a0] [(a0, .inr (9, [.null, .null, .null, .int (iz 0)]))] (fun w1 => ∃ f1 f2 f3 : Nat, w1 = [(a0, .inr (9, [.ref f1, .ref f2, .ref f3, .int (iz 0)])), (f1, .inl (cy 0, 3, .inl (fun _ => iz 0))), (f2, .inl (cy 0, 3, .inl (fun _ => iz 0))), (f3, .inl (cy 0, 3, .inl (fun _ => iz 0)))]) := by
  refine b_entry RX9 (by decide) rfl rfl (Nat.le_of_ble_eq_true rfl) (fun E A hE C hN hr hlk hQ => ?_)
  subst hE
  show VB E D A 1 0 0 ((a0, .inr (9, [.null, .null, .null, .int (iz 0)])) :: []) 0 [(0, .ref a0)] []
  refine b_aload_n C 0 dX9_init_0 rfl ?_
  refine b_objinit C qw176 qw28 qw29 ⟨Nat.le_of_ble_eq_true rfl, Nat.le_of_ble_eq_true rfl⟩ (Nat.le_of_ble_eq_true rfl) dX9_init_1 ?_
  refine b_aload_n C 0 dX9_init_4 rfl ?_
  refine b_iconst (z := 3) C dX9_init_5 rfl ?_
  refine b_newa (atype := .int) (a0 := (3, .inl (fun _ => iz 0))) C 0 rfl (fun _ h => by cases h) qw62 rfl (fun _ => rfl) (by decide) rfl (by decide) ⟨Nat.le_of_ble_eq_true rfl, Nat.le_of_ble_eq_true rfl⟩ dX9_init_6 (fun f1 => ?_)
  show VB E D A 1 1 3 ((a0, .inr (9, [.null, .null, .null, .int (iz 0)])) :: [(f1, .inl (cy 0, 3, .inl (fun _ => iz 0)))]) 8 [(0, .ref a0)] [.ref f1, .ref a0]
  refine b_put (fs1 := [.ref f1, .null, .null, .int (iz 0)]) C hN 0 rfl inX9 tyX9 tyX9_ok nmX9 (Nat.le_of_ble_eq_true rfl) qw177 rfl rfl rfl (Nat.le_of_ble_eq_true rfl) rfl dX9_init_8 ?_
  refine b_aload_n C 0 dX9_init_11 rfl ?_
  refine b_iconst (z := 3) C dX9_init_12 rfl ?_
  refine b_newa (atype := .int) (a0 := (3, .inl (fun _ => iz 0))) C 0 rfl (fun _ h => by cases h) qw62 rfl (fun _ => rfl) (by decide) rfl (by decide) ⟨Nat.le_of_ble_eq_true rfl, Nat.le_of_ble_eq_true rfl⟩ dX9_init_13 (fun f2 => ?_)
  show VB E D A 1 2 6 ((a0, .inr (9, [.ref f1, .null, .null, .int (iz 0)])) :: [(f1, .inl (cy 0, 3, .inl (fun _ => iz 0))), (f2, .inl (cy 0, 3, .inl (fun _ => iz 0)))]) 15 [(0, .ref a0)] [.ref f2, .ref a0]
  refine b_put (fs1 := [.ref f1, .ref f2, .null, .int (iz 0)]) C hN 1 rfl inX9 tyX9 tyX9_ok nmX9 (Nat.le_of_ble_eq_true rfl) qw181 rfl rfl rfl (Nat.le_of_ble_eq_true rfl) rfl dX9_init_15 ?_
  refine b_aload_n C 0 dX9_init_18 rfl ?_
  refine b_iconst (z := 3) C dX9_init_19 rfl ?_
  refine b_newa (atype := .int) (a0 := (3, .inl (fun _ => iz 0))) C 0 rfl (fun _ h => by cases h) qw62 rfl (fun _ => rfl) (by decide) rfl (by decide) ⟨Nat.le_of_ble_eq_true rfl, Nat.le_of_ble_eq_true rfl⟩ dX9_init_20 (fun f3 => ?_)
  show VB E D A 1 3 9 ((a0, .inr (9, [.ref f1, .ref f2, .null, .int (iz 0)])) :: [(f1, .inl (cy 0, 3, .inl (fun _ => iz 0))), (f2, .inl (cy 0, 3, .inl (fun _ => iz 0))), (f3, .inl (cy 0, 3, .inl (fun _ => iz 0)))]) 22 [(0, .ref a0)] [.ref f3, .ref a0]
  refine b_put (fs1 := [.ref f1, .ref f2, .ref f3, .int (iz 0)]) C hN 2 rfl inX9 tyX9 tyX9_ok nmX9 (Nat.le_of_ble_eq_true rfl) qw184 rfl rfl rfl (Nat.le_of_ble_eq_true rfl) rfl dX9_init_22 ?_
  refine b_aload_n C 0 dX9_init_25 rfl ?_
  refine b_iconst (z := 0) C dX9_init_26 rfl ?_
  refine b_put (fs1 := [.ref f1, .ref f2, .ref f3, .int (iz 0)]) C hN 3 rfl inX9 tyX9 tyX9_ok nmX9 (Nat.le_of_ble_eq_true rfl) qw186 rfl rfl rfl (Nat.le_of_ble_eq_true rfl) rfl dX9_init_27 ?_
  exact b_ret C hr hlk hQ dX9_init_30 ⟨f1, f2, f3, rfl⟩

set_option maxHeartbeats 4000000 in
set_option maxRecDepth 100000 in
theorem ct_Ratio_init {lau : Launch} {D : va_G} {cy : Nat → ClassId} {ad : Nat → Nat} {hq : True} (a0 : Nat) : CT lau D cy ad yX4_init cX4_init 1 ({ frames := 1, cells := 3, slots := 24, locals := 20 } : Room) [.ref a0] [(a0, .inr (4, [.null, .null, .null, .int (iz 0)]))] (fun w1 => ∃ f1 f2 f3 : Nat, w1 = [(a0, .inr (4, [.ref f1, .ref f2, .ref f3, .int (iz 0)])), (f1, .inl (cy 0, 8, .inl (fun _ => iz 0))), (f2, .inl (cy 0, 8, .inl (fun _ => iz 0))), (f3, .inl (cy 0, 8, .inl (fun _ => iz 0)))]) := by
  refine b_entry RX4 (by decide) rfl rfl (Nat.le_of_ble_eq_true rfl) (fun E A hE C hN hr hlk hQ => ?_)
  subst hE
  show VB E D A 1 0 0 ((a0, .inr (4, [.null, .null, .null, .int (iz 0)])) :: []) 0 [(0, .ref a0)] []
  refine b_aload_n C 0 dX4_init_0 rfl ?_
  refine b_objinit C qw203 qw28 qw29 ⟨Nat.le_of_ble_eq_true rfl, Nat.le_of_ble_eq_true rfl⟩ (Nat.le_of_ble_eq_true rfl) dX4_init_1 ?_
  refine b_aload_n C 0 dX4_init_4 rfl ?_
  refine b_bipush (z := 8) C dX4_init_5 (by decide) ?_
  refine b_newa (atype := .int) (a0 := (8, .inl (fun _ => iz 0))) C 0 rfl (fun _ h => by cases h) qw62 rfl (fun _ => rfl) (by decide) rfl (by decide) ⟨Nat.le_of_ble_eq_true rfl, Nat.le_of_ble_eq_true rfl⟩ dX4_init_7 (fun f1 => ?_)
  show VB E D A 1 1 8 ((a0, .inr (4, [.null, .null, .null, .int (iz 0)])) :: [(f1, .inl (cy 0, 8, .inl (fun _ => iz 0)))]) 9 [(0, .ref a0)] [.ref f1, .ref a0]
  refine b_put (fs1 := [.ref f1, .null, .null, .int (iz 0)]) C hN 0 rfl inX4 tyX4 tyX4_ok nmX4 (Nat.le_of_ble_eq_true rfl) qw204 rfl rfl rfl (Nat.le_of_ble_eq_true rfl) rfl dX4_init_9 ?_
  refine b_aload_n C 0 dX4_init_12 rfl ?_
  refine b_bipush (z := 8) C dX4_init_13 (by decide) ?_
  refine b_newa (atype := .int) (a0 := (8, .inl (fun _ => iz 0))) C 0 rfl (fun _ h => by cases h) qw62 rfl (fun _ => rfl) (by decide) rfl (by decide) ⟨Nat.le_of_ble_eq_true rfl, Nat.le_of_ble_eq_true rfl⟩ dX4_init_15 (fun f2 => ?_)
  show VB E D A 1 2 16 ((a0, .inr (4, [.ref f1, .null, .null, .int (iz 0)])) :: [(f1, .inl (cy 0, 8, .inl (fun _ => iz 0))), (f2, .inl (cy 0, 8, .inl (fun _ => iz 0)))]) 17 [(0, .ref a0)] [.ref f2, .ref a0]
  refine b_put (fs1 := [.ref f1, .ref f2, .null, .int (iz 0)]) C hN 1 rfl inX4 tyX4 tyX4_ok nmX4 (Nat.le_of_ble_eq_true rfl) qw205 rfl rfl rfl (Nat.le_of_ble_eq_true rfl) rfl dX4_init_17 ?_
  refine b_aload_n C 0 dX4_init_20 rfl ?_
  refine b_bipush (z := 8) C dX4_init_21 (by decide) ?_
  refine b_newa (atype := .int) (a0 := (8, .inl (fun _ => iz 0))) C 0 rfl (fun _ h => by cases h) qw62 rfl (fun _ => rfl) (by decide) rfl (by decide) ⟨Nat.le_of_ble_eq_true rfl, Nat.le_of_ble_eq_true rfl⟩ dX4_init_23 (fun f3 => ?_)
  show VB E D A 1 3 24 ((a0, .inr (4, [.ref f1, .ref f2, .null, .int (iz 0)])) :: [(f1, .inl (cy 0, 8, .inl (fun _ => iz 0))), (f2, .inl (cy 0, 8, .inl (fun _ => iz 0))), (f3, .inl (cy 0, 8, .inl (fun _ => iz 0)))]) 25 [(0, .ref a0)] [.ref f3, .ref a0]
  refine b_put (fs1 := [.ref f1, .ref f2, .ref f3, .int (iz 0)]) C hN 2 rfl inX4 tyX4 tyX4_ok nmX4 (Nat.le_of_ble_eq_true rfl) qw206 rfl rfl rfl (Nat.le_of_ble_eq_true rfl) rfl dX4_init_25 ?_
  refine b_aload_n C 0 dX4_init_28 rfl ?_
  refine b_iconst (z := 0) C dX4_init_29 rfl ?_
  refine b_put (fs1 := [.ref f1, .ref f2, .ref f3, .int (iz 0)]) C hN 3 rfl inX4 tyX4 tyX4_ok nmX4 (Nat.le_of_ble_eq_true rfl) qw207 rfl rfl rfl (Nat.le_of_ble_eq_true rfl) rfl dX4_init_30 ?_
  exact b_ret C hr hlk hQ dX4_init_33 ⟨f1, f2, f3, rfl⟩

set_option maxHeartbeats 4000000 in
set_option maxRecDepth 100000 in
theorem ct_Big_init {lau : Launch} {D : va_G} {cy : Nat → ClassId} {ad : Nat → Nat} {hq : True} (a0 : Nat) : CT lau D cy ad yX0_init cX0_init 1 ({ frames := 1, cells := 1, slots := 16, locals := 20 } : Room) [.ref a0] [(a0, .inr (0, [.null, .int (iz 0)]))] (fun w1 => ∃ f1 : Nat, w1 = [(a0, .inr (0, [.ref f1, .int (iz 0)])), (f1, .inl (cy 1, 16, .inr (.inl (fun _ => lz 0))))]) := by
  refine b_entry RX0 (by decide) rfl rfl (Nat.le_of_ble_eq_true rfl) (fun E A hE C hN hr hlk hQ => ?_)
  subst hE
  show VB E D A 1 0 0 ((a0, .inr (0, [.null, .int (iz 0)])) :: []) 0 [(0, .ref a0)] []
  refine b_aload_n C 0 dX0_init_0 rfl ?_
  refine b_objinit C qw228 qw28 qw29 ⟨Nat.le_of_ble_eq_true rfl, Nat.le_of_ble_eq_true rfl⟩ (Nat.le_of_ble_eq_true rfl) dX0_init_1 ?_
  refine b_aload_n C 0 dX0_init_4 rfl ?_
  refine b_bipush (z := 16) C dX0_init_5 (by decide) ?_
  refine b_newa (atype := .long) (a0 := (16, .inr (.inl (fun _ => lz 0)))) C 1 rfl (fun _ h => by cases h) qw169 rfl (fun _ => rfl) (by decide) rfl (by decide) ⟨Nat.le_of_ble_eq_true rfl, Nat.le_of_ble_eq_true rfl⟩ dX0_init_7 (fun f1 => ?_)
  show VB E D A 1 1 16 ((a0, .inr (0, [.null, .int (iz 0)])) :: [(f1, .inl (cy 1, 16, .inr (.inl (fun _ => lz 0))))]) 9 [(0, .ref a0)] [.ref f1, .ref a0]
  refine b_put (fs1 := [.ref f1, .int (iz 0)]) C hN 0 rfl inX0 tyX0 tyX0_ok nmX0 (Nat.le_of_ble_eq_true rfl) qw229 rfl rfl rfl (Nat.le_of_ble_eq_true rfl) rfl dX0_init_9 ?_
  refine b_aload_n C 0 dX0_init_12 rfl ?_
  refine b_iconst (z := 0) C dX0_init_13 rfl ?_
  refine b_put (fs1 := [.ref f1, .int (iz 0)]) C hN 1 rfl inX0 tyX0 tyX0_ok nmX0 (Nat.le_of_ble_eq_true rfl) qw230 rfl rfl rfl (Nat.le_of_ble_eq_true rfl) rfl dX0_init_14 ?_
  exact b_ret C hr hlk hQ dX0_init_17 ⟨f1, rfl⟩

set_option maxHeartbeats 4000000 in
set_option maxRecDepth 100000 in
theorem ct_Scale_init {lau : Launch} {D : va_G} {cy : Nat → ClassId} {ad : Nat → Nat} {hq : True} (a0 : Nat) : CT lau D cy ad yX7_init cX7_init 1 ({ frames := 2, cells := 4, slots := 36, locals := 40 } : Room) [.ref a0] [(a0, .inr (7, [.null, .null]))] (fun w1 => ∃ q1 g2 q3 g4 : Nat, w1 = [(a0, .inr (7, [.ref q1, .ref q3])), (q1, .inr (0, [.ref g2, .int (iz 0)])), (g2, .inl (cy 1, 16, .inr (.inl (fun _ => lz 0)))), (q3, .inr (0, [.ref g4, .int (iz 0)])), (g4, .inl (cy 1, 16, .inr (.inl (fun _ => lz 0))))]) := by
  refine b_entry RX7 (by decide) rfl rfl (Nat.le_of_ble_eq_true rfl) (fun E A hE C hN hr hlk hQ => ?_)
  subst hE
  show VB E D A 1 0 0 ((a0, .inr (7, [.null, .null])) :: []) 0 [(0, .ref a0)] []
  refine b_aload_n C 0 dX7_init_0 rfl ?_
  refine b_objinit C qw222 qw28 qw29 ⟨Nat.le_of_ble_eq_true rfl, Nat.le_of_ble_eq_true rfl⟩ (Nat.le_of_ble_eq_true rfl) dX7_init_1 ?_
  refine b_aload_n C 0 dX7_init_4 rfl ?_
  refine b_new (fs := [.null, .int (iz 0)]) (ci := 0) C inX0 tyX0 tyX0_ok qw223 qw224 qw11 rfl (by decide +kernel) ⟨Nat.le_of_ble_eq_true rfl, Nat.le_of_ble_eq_true rfl⟩ dX7_init_5 (fun q1 => ?_)
  show VB E D A 1 1 2 ((a0, .inr (7, [.null, .null])) :: [(q1, .inr (0, [.null, .int (iz 0)]))]) 8 [(0, .ref a0)] [.ref q1, .ref a0]
  refine b_dup C dX7_init_8 rfl ?_
  refine b_initN (cells := 1) (slots := 2) (wr := ((a0, .inr (7, [.null, .null])) :: [])) (e0 := .inr (0, [.null, .int (iz 0)])) (a := q1) (n := 0) (st := [.ref q1, .ref a0]) C [] (ct_Big_init (hq := hq) q1) qw227 qw11 "StageRatios" (by decide +kernel) qw226 rfl ⟨rfl, rfl⟩ ⟨Nat.le_of_ble_eq_true rfl, Nat.le_of_ble_eq_true rfl⟩ ⟨Nat.le_of_ble_eq_true rfl, Nat.le_of_ble_eq_true rfl⟩ (by decide +kernel) rfl rfl (Nat.le_of_ble_eq_true rfl) dX7_init_9 (fun w1 hw1 => ?_)
  obtain ⟨g2, rfl⟩ := hw1
  show VB E D A 1 2 18 ((a0, .inr (7, [.null, .null])) :: [(q1, .inr (0, [.ref g2, .int (iz 0)])), (g2, .inl (cy 1, 16, .inr (.inl (fun _ => lz 0))))]) 12 [(0, .ref a0)] [.ref q1, .ref a0]
  refine b_put (fs1 := [.ref q1, .null]) C hN 0 rfl inX7 tyX7 tyX7_ok nmX7 (Nat.le_of_ble_eq_true rfl) qw236 rfl rfl rfl (Nat.le_of_ble_eq_true rfl) rfl dX7_init_12 ?_
  refine b_aload_n C 0 dX7_init_15 rfl ?_
  refine b_new (fs := [.null, .int (iz 0)]) (ci := 0) C inX0 tyX0 tyX0_ok qw223 qw224 qw11 rfl (by decide +kernel) ⟨Nat.le_of_ble_eq_true rfl, Nat.le_of_ble_eq_true rfl⟩ dX7_init_16 (fun q3 => ?_)
  show VB E D A 1 3 20 ((a0, .inr (7, [.ref q1, .null])) :: [(q1, .inr (0, [.ref g2, .int (iz 0)])), (g2, .inl (cy 1, 16, .inr (.inl (fun _ => lz 0)))), (q3, .inr (0, [.null, .int (iz 0)]))]) 19 [(0, .ref a0)] [.ref q3, .ref a0]
  refine b_dup C dX7_init_19 rfl ?_
  refine b_initN (cells := 3) (slots := 20) (wr := ((a0, .inr (7, [.ref q1, .null])) :: [(q1, .inr (0, [.ref g2, .int (iz 0)])), (g2, .inl (cy 1, 16, .inr (.inl (fun _ => lz 0))))])) (e0 := .inr (0, [.null, .int (iz 0)])) (a := q3) (n := 0) (st := [.ref q3, .ref a0]) C [] (ct_Big_init (hq := hq) q3) qw227 qw11 "StageRatios" (by decide +kernel) qw226 rfl ⟨rfl, rfl⟩ ⟨Nat.le_of_ble_eq_true rfl, Nat.le_of_ble_eq_true rfl⟩ ⟨Nat.le_of_ble_eq_true rfl, Nat.le_of_ble_eq_true rfl⟩ (by decide +kernel) rfl rfl (Nat.le_of_ble_eq_true rfl) dX7_init_20 (fun w1 hw1 => ?_)
  obtain ⟨g4, rfl⟩ := hw1
  show VB E D A 1 4 36 ((a0, .inr (7, [.ref q1, .null])) :: [(q1, .inr (0, [.ref g2, .int (iz 0)])), (g2, .inl (cy 1, 16, .inr (.inl (fun _ => lz 0)))), (q3, .inr (0, [.ref g4, .int (iz 0)])), (g4, .inl (cy 1, 16, .inr (.inl (fun _ => lz 0))))]) 23 [(0, .ref a0)] [.ref q3, .ref a0]
  refine b_put (fs1 := [.ref q1, .ref q3]) C hN 1 rfl inX7 tyX7 tyX7_ok nmX7 (Nat.le_of_ble_eq_true rfl) qw237 rfl rfl rfl (Nat.le_of_ble_eq_true rfl) rfl dX7_init_23 ?_
  exact b_ret C hr hlk hQ dX7_init_26 ⟨q1, g2, q3, g4, rfl⟩

set_option maxHeartbeats 4000000 in
set_option maxRecDepth 100000 in
theorem ct_Choice_init {lau : Launch} {D : va_G} {cy : Nat → ClassId} {ad : Nat → Nat} {hq : True} (a0 t1 : Nat) : CT lau D cy ad yX1_init cX1_init 2 ({ frames := 2, cells := 7, slots := 4947, locals := 40 } : Room) [.ref a0, .ref t1] [(a0, .inr (1, [.null, .null, .null, .null, .null, .int (iz 0)]))] (fun w1 => ∃ f1 f2 f3 q4 g5 g6 g7 : Nat, w1 = [(a0, .inr (1, [.ref f1, .ref f2, .ref f3, .ref q4, .ref t1, .int (iz 0)])), (f1, .inl (cy 0, 4913, .inl (fun _ => iz 0))), (f2, .inl (cy 0, 3, .inl (fun _ => iz 0))), (f3, .inl (cy 0, 3, .inl (fun _ => iz 0))), (q4, .inr (4, [.ref g5, .ref g6, .ref g7, .int (iz 0)])), (g5, .inl (cy 0, 8, .inl (fun _ => iz 0))), (g6, .inl (cy 0, 8, .inl (fun _ => iz 0))), (g7, .inl (cy 0, 8, .inl (fun _ => iz 0)))]) := by
  refine b_entry RX1 (by decide) rfl rfl (Nat.le_of_ble_eq_true rfl) (fun E A hE C hN hr hlk hQ => ?_)
  subst hE
  show VB E D A 2 0 0 ((a0, .inr (1, [.null, .null, .null, .null, .null, .int (iz 0)])) :: []) 0 [(0, .ref a0), (1, .ref t1)] []
  refine b_aload_n C 0 dX1_init_0 rfl ?_
  refine b_objinit C qw248 qw28 qw29 ⟨Nat.le_of_ble_eq_true rfl, Nat.le_of_ble_eq_true rfl⟩ (Nat.le_of_ble_eq_true rfl) dX1_init_1 ?_
  refine b_aload_n C 0 dX1_init_4 rfl ?_
  refine b_sipush (z := 4913) C dX1_init_5 (by decide) ?_
  refine b_newa (atype := .int) (a0 := (4913, .inl (fun _ => iz 0))) C 0 rfl (fun _ h => by cases h) qw62 rfl (fun _ => rfl) (by decide) rfl (by decide) ⟨Nat.le_of_ble_eq_true rfl, Nat.le_of_ble_eq_true rfl⟩ dX1_init_8 (fun f1 => ?_)
  show VB E D A 2 1 4913 ((a0, .inr (1, [.null, .null, .null, .null, .null, .int (iz 0)])) :: [(f1, .inl (cy 0, 4913, .inl (fun _ => iz 0)))]) 10 [(0, .ref a0), (1, .ref t1)] [.ref f1, .ref a0]
  refine b_put (fs1 := [.ref f1, .null, .null, .null, .null, .int (iz 0)]) C hN 0 rfl inX1 tyX1 tyX1_ok nmX1 (Nat.le_of_ble_eq_true rfl) qw251 rfl rfl rfl (Nat.le_of_ble_eq_true rfl) rfl dX1_init_10 ?_
  refine b_aload_n C 0 dX1_init_13 rfl ?_
  refine b_iconst (z := 3) C dX1_init_14 rfl ?_
  refine b_newa (atype := .int) (a0 := (3, .inl (fun _ => iz 0))) C 0 rfl (fun _ h => by cases h) qw62 rfl (fun _ => rfl) (by decide) rfl (by decide) ⟨Nat.le_of_ble_eq_true rfl, Nat.le_of_ble_eq_true rfl⟩ dX1_init_15 (fun f2 => ?_)
  show VB E D A 2 2 4916 ((a0, .inr (1, [.ref f1, .null, .null, .null, .null, .int (iz 0)])) :: [(f1, .inl (cy 0, 4913, .inl (fun _ => iz 0))), (f2, .inl (cy 0, 3, .inl (fun _ => iz 0)))]) 17 [(0, .ref a0), (1, .ref t1)] [.ref f2, .ref a0]
  refine b_put (fs1 := [.ref f1, .ref f2, .null, .null, .null, .int (iz 0)]) C hN 1 rfl inX1 tyX1 tyX1_ok nmX1 (Nat.le_of_ble_eq_true rfl) qw252 rfl rfl rfl (Nat.le_of_ble_eq_true rfl) rfl dX1_init_17 ?_
  refine b_aload_n C 0 dX1_init_20 rfl ?_
  refine b_iconst (z := 3) C dX1_init_21 rfl ?_
  refine b_newa (atype := .int) (a0 := (3, .inl (fun _ => iz 0))) C 0 rfl (fun _ h => by cases h) qw62 rfl (fun _ => rfl) (by decide) rfl (by decide) ⟨Nat.le_of_ble_eq_true rfl, Nat.le_of_ble_eq_true rfl⟩ dX1_init_22 (fun f3 => ?_)
  show VB E D A 2 3 4919 ((a0, .inr (1, [.ref f1, .ref f2, .null, .null, .null, .int (iz 0)])) :: [(f1, .inl (cy 0, 4913, .inl (fun _ => iz 0))), (f2, .inl (cy 0, 3, .inl (fun _ => iz 0))), (f3, .inl (cy 0, 3, .inl (fun _ => iz 0)))]) 24 [(0, .ref a0), (1, .ref t1)] [.ref f3, .ref a0]
  refine b_put (fs1 := [.ref f1, .ref f2, .ref f3, .null, .null, .int (iz 0)]) C hN 2 rfl inX1 tyX1 tyX1_ok nmX1 (Nat.le_of_ble_eq_true rfl) qw253 rfl rfl rfl (Nat.le_of_ble_eq_true rfl) rfl dX1_init_24 ?_
  refine b_aload_n C 0 dX1_init_27 rfl ?_
  refine b_new (fs := [.null, .null, .null, .int (iz 0)]) (ci := 4) C inX4 tyX4 tyX4_ok qw249 qw199 qw9 rfl (by decide +kernel) ⟨Nat.le_of_ble_eq_true rfl, Nat.le_of_ble_eq_true rfl⟩ dX1_init_28 (fun q4 => ?_)
  show VB E D A 2 4 4923 ((a0, .inr (1, [.ref f1, .ref f2, .ref f3, .null, .null, .int (iz 0)])) :: [(f1, .inl (cy 0, 4913, .inl (fun _ => iz 0))), (f2, .inl (cy 0, 3, .inl (fun _ => iz 0))), (f3, .inl (cy 0, 3, .inl (fun _ => iz 0))), (q4, .inr (4, [.null, .null, .null, .int (iz 0)]))]) 31 [(0, .ref a0), (1, .ref t1)] [.ref q4, .ref a0]
  refine b_dup C dX1_init_31 rfl ?_
  refine b_initN (cells := 4) (slots := 4923) (wr := ((a0, .inr (1, [.ref f1, .ref f2, .ref f3, .null, .null, .int (iz 0)])) :: [(f1, .inl (cy 0, 4913, .inl (fun _ => iz 0))), (f2, .inl (cy 0, 3, .inl (fun _ => iz 0))), (f3, .inl (cy 0, 3, .inl (fun _ => iz 0)))])) (e0 := .inr (4, [.null, .null, .null, .int (iz 0)])) (a := q4) (n := 0) (st := [.ref q4, .ref a0]) C [] (ct_Ratio_init (hq := hq) q4) qw202 qw9 "StageRatios" (by decide +kernel) qw201 rfl ⟨rfl, rfl⟩ ⟨Nat.le_of_ble_eq_true rfl, Nat.le_of_ble_eq_true rfl⟩ ⟨Nat.le_of_ble_eq_true rfl, Nat.le_of_ble_eq_true rfl⟩ (by decide +kernel) rfl rfl (Nat.le_of_ble_eq_true rfl) dX1_init_32 (fun w1 hw1 => ?_)
  obtain ⟨g5, g6, g7, rfl⟩ := hw1
  show VB E D A 2 7 4947 ((a0, .inr (1, [.ref f1, .ref f2, .ref f3, .null, .null, .int (iz 0)])) :: [(f1, .inl (cy 0, 4913, .inl (fun _ => iz 0))), (f2, .inl (cy 0, 3, .inl (fun _ => iz 0))), (f3, .inl (cy 0, 3, .inl (fun _ => iz 0))), (q4, .inr (4, [.ref g5, .ref g6, .ref g7, .int (iz 0)])), (g5, .inl (cy 0, 8, .inl (fun _ => iz 0))), (g6, .inl (cy 0, 8, .inl (fun _ => iz 0))), (g7, .inl (cy 0, 8, .inl (fun _ => iz 0)))]) 35 [(0, .ref a0), (1, .ref t1)] [.ref q4, .ref a0]
  refine b_put (fs1 := [.ref f1, .ref f2, .ref f3, .ref q4, .null, .int (iz 0)]) C hN 3 rfl inX1 tyX1 tyX1_ok nmX1 (Nat.le_of_ble_eq_true rfl) qw254 rfl rfl rfl (Nat.le_of_ble_eq_true rfl) rfl dX1_init_35 ?_
  refine b_aload_n C 0 dX1_init_38 rfl ?_
  refine b_iconst (z := 0) C dX1_init_39 rfl ?_
  refine b_put (fs1 := [.ref f1, .ref f2, .ref f3, .ref q4, .null, .int (iz 0)]) C hN 5 rfl inX1 tyX1 tyX1_ok nmX1 (Nat.le_of_ble_eq_true rfl) qw256 rfl rfl rfl (Nat.le_of_ble_eq_true rfl) rfl dX1_init_40 ?_
  refine b_aload_n C 0 dX1_init_43 rfl ?_
  refine b_aload_n C 1 dX1_init_44 rfl ?_
  refine b_put (fs1 := [.ref f1, .ref f2, .ref f3, .ref q4, .ref t1, .int (iz 0)]) C hN 4 rfl inX1 tyX1 tyX1_ok nmX1 (Nat.le_of_ble_eq_true rfl) qw255 rfl rfl rfl (Nat.le_of_ble_eq_true rfl) rfl dX1_init_45 ?_
  exact b_ret C hr hlk hQ dX1_init_48 ⟨f1, f2, f3, q4, g5, g6, g7, rfl⟩

set_option maxHeartbeats 4000000 in
set_option maxRecDepth 100000 in
theorem ct_Front_init {lau : Launch} {D : va_G} {cy : Nat → ClassId} {ad : Nat → Nat} {hq : True} (a0 t1 t2 : Nat) : CT lau D cy ad yX3_init cX3_init 3 ({ frames := 2, cells := 14, slots := 869, locals := 40 } : Room) [.ref a0, .ref t1, .ref t2] [(a0, .inr (3, [.null, .null, .int (iz 0), .int (iz 0), .null, .null, .null, .null, .null]))] (fun w1 => ∃ f1 f2 q3 g4 g5 g6 q7 g8 g9 g10 q11 g12 g13 g14 : Nat, w1 = [(a0, .inr (3, [.ref f1, .ref f2, .int (iz 0), .int (iz 0), .ref t1, .ref t2, .ref q3, .ref q7, .ref q11])), (f1, .inl (cy 0, 400, .inl (fun _ => iz 0))), (f2, .inl (cy 0, 400, .inl (fun _ => iz 0))), (q3, .inr (9, [.ref g4, .ref g5, .ref g6, .int (iz 0)])), (g4, .inl (cy 0, 3, .inl (fun _ => iz 0))), (g5, .inl (cy 0, 3, .inl (fun _ => iz 0))), (g6, .inl (cy 0, 3, .inl (fun _ => iz 0))), (q7, .inr (4, [.ref g8, .ref g9, .ref g10, .int (iz 0)])), (g8, .inl (cy 0, 8, .inl (fun _ => iz 0))), (g9, .inl (cy 0, 8, .inl (fun _ => iz 0))), (g10, .inl (cy 0, 8, .inl (fun _ => iz 0))), (q11, .inr (4, [.ref g12, .ref g13, .ref g14, .int (iz 0)])), (g12, .inl (cy 0, 8, .inl (fun _ => iz 0))), (g13, .inl (cy 0, 8, .inl (fun _ => iz 0))), (g14, .inl (cy 0, 8, .inl (fun _ => iz 0)))]) := by
  refine b_entry RX3 (by decide) rfl rfl (Nat.le_of_ble_eq_true rfl) (fun E A hE C hN hr hlk hQ => ?_)
  subst hE
  show VB E D A 3 0 0 ((a0, .inr (3, [.null, .null, .int (iz 0), .int (iz 0), .null, .null, .null, .null, .null])) :: []) 0 [(0, .ref a0), (1, .ref t1), (2, .ref t2)] []
  refine b_aload_n C 0 dX3_init_0 rfl ?_
  refine b_objinit C qw275 qw28 qw29 ⟨Nat.le_of_ble_eq_true rfl, Nat.le_of_ble_eq_true rfl⟩ (Nat.le_of_ble_eq_true rfl) dX3_init_1 ?_
  refine b_aload_n C 0 dX3_init_4 rfl ?_
  refine b_sipush (z := 400) C dX3_init_5 (by decide) ?_
  refine b_newa (atype := .int) (a0 := (400, .inl (fun _ => iz 0))) C 0 rfl (fun _ h => by cases h) qw62 rfl (fun _ => rfl) (by decide) rfl (by decide) ⟨Nat.le_of_ble_eq_true rfl, Nat.le_of_ble_eq_true rfl⟩ dX3_init_8 (fun f1 => ?_)
  show VB E D A 3 1 400 ((a0, .inr (3, [.null, .null, .int (iz 0), .int (iz 0), .null, .null, .null, .null, .null])) :: [(f1, .inl (cy 0, 400, .inl (fun _ => iz 0)))]) 10 [(0, .ref a0), (1, .ref t1), (2, .ref t2)] [.ref f1, .ref a0]
  refine b_put (fs1 := [.ref f1, .null, .int (iz 0), .int (iz 0), .null, .null, .null, .null, .null]) C hN 0 rfl inX3 tyX3 tyX3_ok nmX3 (Nat.le_of_ble_eq_true rfl) qw280 rfl rfl rfl (Nat.le_of_ble_eq_true rfl) rfl dX3_init_10 ?_
  refine b_aload_n C 0 dX3_init_13 rfl ?_
  refine b_sipush (z := 400) C dX3_init_14 (by decide) ?_
  refine b_newa (atype := .int) (a0 := (400, .inl (fun _ => iz 0))) C 0 rfl (fun _ h => by cases h) qw62 rfl (fun _ => rfl) (by decide) rfl (by decide) ⟨Nat.le_of_ble_eq_true rfl, Nat.le_of_ble_eq_true rfl⟩ dX3_init_17 (fun f2 => ?_)
  show VB E D A 3 2 800 ((a0, .inr (3, [.ref f1, .null, .int (iz 0), .int (iz 0), .null, .null, .null, .null, .null])) :: [(f1, .inl (cy 0, 400, .inl (fun _ => iz 0))), (f2, .inl (cy 0, 400, .inl (fun _ => iz 0)))]) 19 [(0, .ref a0), (1, .ref t1), (2, .ref t2)] [.ref f2, .ref a0]
  refine b_put (fs1 := [.ref f1, .ref f2, .int (iz 0), .int (iz 0), .null, .null, .null, .null, .null]) C hN 1 rfl inX3 tyX3 tyX3_ok nmX3 (Nat.le_of_ble_eq_true rfl) qw281 rfl rfl rfl (Nat.le_of_ble_eq_true rfl) rfl dX3_init_19 ?_
  refine b_aload_n C 0 dX3_init_22 rfl ?_
  refine b_iconst (z := 0) C dX3_init_23 rfl ?_
  refine b_put (fs1 := [.ref f1, .ref f2, .int (iz 0), .int (iz 0), .null, .null, .null, .null, .null]) C hN 2 rfl inX3 tyX3 tyX3_ok nmX3 (Nat.le_of_ble_eq_true rfl) qw283 rfl rfl rfl (Nat.le_of_ble_eq_true rfl) rfl dX3_init_24 ?_
  refine b_aload_n C 0 dX3_init_27 rfl ?_
  refine b_iconst (z := 0) C dX3_init_28 rfl ?_
  refine b_put (fs1 := [.ref f1, .ref f2, .int (iz 0), .int (iz 0), .null, .null, .null, .null, .null]) C hN 3 rfl inX3 tyX3 tyX3_ok nmX3 (Nat.le_of_ble_eq_true rfl) qw285 rfl rfl rfl (Nat.le_of_ble_eq_true rfl) rfl dX3_init_29 ?_
  refine b_aload_n C 0 dX3_init_32 rfl ?_
  refine b_new (fs := [.null, .null, .null, .int (iz 0)]) (ci := 9) C inX9 tyX9 tyX9_ok qw276 qw172 qw8 rfl (by decide +kernel) ⟨Nat.le_of_ble_eq_true rfl, Nat.le_of_ble_eq_true rfl⟩ dX3_init_33 (fun q3 => ?_)
  show VB E D A 3 3 804 ((a0, .inr (3, [.ref f1, .ref f2, .int (iz 0), .int (iz 0), .null, .null, .null, .null, .null])) :: [(f1, .inl (cy 0, 400, .inl (fun _ => iz 0))), (f2, .inl (cy 0, 400, .inl (fun _ => iz 0))), (q3, .inr (9, [.null, .null, .null, .int (iz 0)]))]) 36 [(0, .ref a0), (1, .ref t1), (2, .ref t2)] [.ref q3, .ref a0]
  refine b_dup C dX3_init_36 rfl ?_
  refine b_initN (cells := 3) (slots := 804) (wr := ((a0, .inr (3, [.ref f1, .ref f2, .int (iz 0), .int (iz 0), .null, .null, .null, .null, .null])) :: [(f1, .inl (cy 0, 400, .inl (fun _ => iz 0))), (f2, .inl (cy 0, 400, .inl (fun _ => iz 0)))])) (e0 := .inr (9, [.null, .null, .null, .int (iz 0)])) (a := q3) (n := 0) (st := [.ref q3, .ref a0]) C [] (ct_Weights_init (hq := hq) q3) qw175 qw8 "StageRatios" (by decide +kernel) qw174 rfl ⟨rfl, rfl⟩ ⟨Nat.le_of_ble_eq_true rfl, Nat.le_of_ble_eq_true rfl⟩ ⟨Nat.le_of_ble_eq_true rfl, Nat.le_of_ble_eq_true rfl⟩ (by decide +kernel) rfl rfl (Nat.le_of_ble_eq_true rfl) dX3_init_37 (fun w1 hw1 => ?_)
  obtain ⟨g4, g5, g6, rfl⟩ := hw1
  show VB E D A 3 6 813 ((a0, .inr (3, [.ref f1, .ref f2, .int (iz 0), .int (iz 0), .null, .null, .null, .null, .null])) :: [(f1, .inl (cy 0, 400, .inl (fun _ => iz 0))), (f2, .inl (cy 0, 400, .inl (fun _ => iz 0))), (q3, .inr (9, [.ref g4, .ref g5, .ref g6, .int (iz 0)])), (g4, .inl (cy 0, 3, .inl (fun _ => iz 0))), (g5, .inl (cy 0, 3, .inl (fun _ => iz 0))), (g6, .inl (cy 0, 3, .inl (fun _ => iz 0)))]) 40 [(0, .ref a0), (1, .ref t1), (2, .ref t2)] [.ref q3, .ref a0]
  refine b_put (fs1 := [.ref f1, .ref f2, .int (iz 0), .int (iz 0), .null, .null, .ref q3, .null, .null]) C hN 6 rfl inX3 tyX3 tyX3_ok nmX3 (Nat.le_of_ble_eq_true rfl) qw288 rfl rfl rfl (Nat.le_of_ble_eq_true rfl) rfl dX3_init_40 ?_
  refine b_aload_n C 0 dX3_init_43 rfl ?_
  refine b_new (fs := [.null, .null, .null, .int (iz 0)]) (ci := 4) C inX4 tyX4 tyX4_ok qw278 qw199 qw9 rfl (by decide +kernel) ⟨Nat.le_of_ble_eq_true rfl, Nat.le_of_ble_eq_true rfl⟩ dX3_init_44 (fun q7 => ?_)
  show VB E D A 3 7 817 ((a0, .inr (3, [.ref f1, .ref f2, .int (iz 0), .int (iz 0), .null, .null, .ref q3, .null, .null])) :: [(f1, .inl (cy 0, 400, .inl (fun _ => iz 0))), (f2, .inl (cy 0, 400, .inl (fun _ => iz 0))), (q3, .inr (9, [.ref g4, .ref g5, .ref g6, .int (iz 0)])), (g4, .inl (cy 0, 3, .inl (fun _ => iz 0))), (g5, .inl (cy 0, 3, .inl (fun _ => iz 0))), (g6, .inl (cy 0, 3, .inl (fun _ => iz 0))), (q7, .inr (4, [.null, .null, .null, .int (iz 0)]))]) 47 [(0, .ref a0), (1, .ref t1), (2, .ref t2)] [.ref q7, .ref a0]
  refine b_dup C dX3_init_47 rfl ?_
  refine b_initN (cells := 7) (slots := 817) (wr := ((a0, .inr (3, [.ref f1, .ref f2, .int (iz 0), .int (iz 0), .null, .null, .ref q3, .null, .null])) :: [(f1, .inl (cy 0, 400, .inl (fun _ => iz 0))), (f2, .inl (cy 0, 400, .inl (fun _ => iz 0))), (q3, .inr (9, [.ref g4, .ref g5, .ref g6, .int (iz 0)])), (g4, .inl (cy 0, 3, .inl (fun _ => iz 0))), (g5, .inl (cy 0, 3, .inl (fun _ => iz 0))), (g6, .inl (cy 0, 3, .inl (fun _ => iz 0)))])) (e0 := .inr (4, [.null, .null, .null, .int (iz 0)])) (a := q7) (n := 0) (st := [.ref q7, .ref a0]) C [] (ct_Ratio_init (hq := hq) q7) qw202 qw9 "StageRatios" (by decide +kernel) qw201 rfl ⟨rfl, rfl⟩ ⟨Nat.le_of_ble_eq_true rfl, Nat.le_of_ble_eq_true rfl⟩ ⟨Nat.le_of_ble_eq_true rfl, Nat.le_of_ble_eq_true rfl⟩ (by decide +kernel) rfl rfl (Nat.le_of_ble_eq_true rfl) dX3_init_48 (fun w1 hw1 => ?_)
  obtain ⟨g8, g9, g10, rfl⟩ := hw1
  show VB E D A 3 10 841 ((a0, .inr (3, [.ref f1, .ref f2, .int (iz 0), .int (iz 0), .null, .null, .ref q3, .null, .null])) :: [(f1, .inl (cy 0, 400, .inl (fun _ => iz 0))), (f2, .inl (cy 0, 400, .inl (fun _ => iz 0))), (q3, .inr (9, [.ref g4, .ref g5, .ref g6, .int (iz 0)])), (g4, .inl (cy 0, 3, .inl (fun _ => iz 0))), (g5, .inl (cy 0, 3, .inl (fun _ => iz 0))), (g6, .inl (cy 0, 3, .inl (fun _ => iz 0))), (q7, .inr (4, [.ref g8, .ref g9, .ref g10, .int (iz 0)])), (g8, .inl (cy 0, 8, .inl (fun _ => iz 0))), (g9, .inl (cy 0, 8, .inl (fun _ => iz 0))), (g10, .inl (cy 0, 8, .inl (fun _ => iz 0)))]) 51 [(0, .ref a0), (1, .ref t1), (2, .ref t2)] [.ref q7, .ref a0]
  refine b_put (fs1 := [.ref f1, .ref f2, .int (iz 0), .int (iz 0), .null, .null, .ref q3, .ref q7, .null]) C hN 7 rfl inX3 tyX3 tyX3_ok nmX3 (Nat.le_of_ble_eq_true rfl) qw289 rfl rfl rfl (Nat.le_of_ble_eq_true rfl) rfl dX3_init_51 ?_
  refine b_aload_n C 0 dX3_init_54 rfl ?_
  refine b_new (fs := [.null, .null, .null, .int (iz 0)]) (ci := 4) C inX4 tyX4 tyX4_ok qw278 qw199 qw9 rfl (by decide +kernel) ⟨Nat.le_of_ble_eq_true rfl, Nat.le_of_ble_eq_true rfl⟩ dX3_init_55 (fun q11 => ?_)
  show VB E D A 3 11 845 ((a0, .inr (3, [.ref f1, .ref f2, .int (iz 0), .int (iz 0), .null, .null, .ref q3, .ref q7, .null])) :: [(f1, .inl (cy 0, 400, .inl (fun _ => iz 0))), (f2, .inl (cy 0, 400, .inl (fun _ => iz 0))), (q3, .inr (9, [.ref g4, .ref g5, .ref g6, .int (iz 0)])), (g4, .inl (cy 0, 3, .inl (fun _ => iz 0))), (g5, .inl (cy 0, 3, .inl (fun _ => iz 0))), (g6, .inl (cy 0, 3, .inl (fun _ => iz 0))), (q7, .inr (4, [.ref g8, .ref g9, .ref g10, .int (iz 0)])), (g8, .inl (cy 0, 8, .inl (fun _ => iz 0))), (g9, .inl (cy 0, 8, .inl (fun _ => iz 0))), (g10, .inl (cy 0, 8, .inl (fun _ => iz 0))), (q11, .inr (4, [.null, .null, .null, .int (iz 0)]))]) 58 [(0, .ref a0), (1, .ref t1), (2, .ref t2)] [.ref q11, .ref a0]
  refine b_dup C dX3_init_58 rfl ?_
  refine b_initN (cells := 11) (slots := 845) (wr := ((a0, .inr (3, [.ref f1, .ref f2, .int (iz 0), .int (iz 0), .null, .null, .ref q3, .ref q7, .null])) :: [(f1, .inl (cy 0, 400, .inl (fun _ => iz 0))), (f2, .inl (cy 0, 400, .inl (fun _ => iz 0))), (q3, .inr (9, [.ref g4, .ref g5, .ref g6, .int (iz 0)])), (g4, .inl (cy 0, 3, .inl (fun _ => iz 0))), (g5, .inl (cy 0, 3, .inl (fun _ => iz 0))), (g6, .inl (cy 0, 3, .inl (fun _ => iz 0))), (q7, .inr (4, [.ref g8, .ref g9, .ref g10, .int (iz 0)])), (g8, .inl (cy 0, 8, .inl (fun _ => iz 0))), (g9, .inl (cy 0, 8, .inl (fun _ => iz 0))), (g10, .inl (cy 0, 8, .inl (fun _ => iz 0)))])) (e0 := .inr (4, [.null, .null, .null, .int (iz 0)])) (a := q11) (n := 0) (st := [.ref q11, .ref a0]) C [] (ct_Ratio_init (hq := hq) q11) qw202 qw9 "StageRatios" (by decide +kernel) qw201 rfl ⟨rfl, rfl⟩ ⟨Nat.le_of_ble_eq_true rfl, Nat.le_of_ble_eq_true rfl⟩ ⟨Nat.le_of_ble_eq_true rfl, Nat.le_of_ble_eq_true rfl⟩ (by decide +kernel) rfl rfl (Nat.le_of_ble_eq_true rfl) dX3_init_59 (fun w1 hw1 => ?_)
  obtain ⟨g12, g13, g14, rfl⟩ := hw1
  show VB E D A 3 14 869 ((a0, .inr (3, [.ref f1, .ref f2, .int (iz 0), .int (iz 0), .null, .null, .ref q3, .ref q7, .null])) :: [(f1, .inl (cy 0, 400, .inl (fun _ => iz 0))), (f2, .inl (cy 0, 400, .inl (fun _ => iz 0))), (q3, .inr (9, [.ref g4, .ref g5, .ref g6, .int (iz 0)])), (g4, .inl (cy 0, 3, .inl (fun _ => iz 0))), (g5, .inl (cy 0, 3, .inl (fun _ => iz 0))), (g6, .inl (cy 0, 3, .inl (fun _ => iz 0))), (q7, .inr (4, [.ref g8, .ref g9, .ref g10, .int (iz 0)])), (g8, .inl (cy 0, 8, .inl (fun _ => iz 0))), (g9, .inl (cy 0, 8, .inl (fun _ => iz 0))), (g10, .inl (cy 0, 8, .inl (fun _ => iz 0))), (q11, .inr (4, [.ref g12, .ref g13, .ref g14, .int (iz 0)])), (g12, .inl (cy 0, 8, .inl (fun _ => iz 0))), (g13, .inl (cy 0, 8, .inl (fun _ => iz 0))), (g14, .inl (cy 0, 8, .inl (fun _ => iz 0)))]) 62 [(0, .ref a0), (1, .ref t1), (2, .ref t2)] [.ref q11, .ref a0]
  refine b_put (fs1 := [.ref f1, .ref f2, .int (iz 0), .int (iz 0), .null, .null, .ref q3, .ref q7, .ref q11]) C hN 8 rfl inX3 tyX3 tyX3_ok nmX3 (Nat.le_of_ble_eq_true rfl) qw290 rfl rfl rfl (Nat.le_of_ble_eq_true rfl) rfl dX3_init_62 ?_
  refine b_aload_n C 0 dX3_init_65 rfl ?_
  refine b_aload_n C 1 dX3_init_66 rfl ?_
  refine b_put (fs1 := [.ref f1, .ref f2, .int (iz 0), .int (iz 0), .ref t1, .null, .ref q3, .ref q7, .ref q11]) C hN 4 rfl inX3 tyX3 tyX3_ok nmX3 (Nat.le_of_ble_eq_true rfl) qw286 rfl rfl rfl (Nat.le_of_ble_eq_true rfl) rfl dX3_init_67 ?_
  refine b_aload_n C 0 dX3_init_70 rfl ?_
  refine b_aload_n C 2 dX3_init_71 rfl ?_
  refine b_put (fs1 := [.ref f1, .ref f2, .int (iz 0), .int (iz 0), .ref t1, .ref t2, .ref q3, .ref q7, .ref q11]) C hN 5 rfl inX3 tyX3 tyX3_ok nmX3 (Nat.le_of_ble_eq_true rfl) qw287 rfl rfl rfl (Nat.le_of_ble_eq_true rfl) rfl dX3_init_72 ?_
  exact b_ret C hr hlk hQ dX3_init_75 ⟨f1, f2, q3, g4, g5, g6, q7, g8, g9, g10, q11, g12, g13, g14, rfl⟩

set_option maxHeartbeats 4000000 in
set_option maxRecDepth 100000 in
theorem ct_Flight_init {lau : Launch} {D : va_G} {cy : Nat → ClassId} {ad : Nat → Nat} {hq : True} (a0 : Nat) : CT lau D cy ad yX2_init cX2_init 1 ({ frames := 2, cells := 10, slots := 334, locals := 40 } : Room) [.ref a0] [(a0, .inr (2, [.null, .null, .null, .null, .null, .null, .null, .int (iz 0), .int (iz 0), .int (iz 0)]))] (fun w1 => ∃ f1 f2 f3 f4 f5 f6 q7 g8 g9 g10 : Nat, w1 = [(a0, .inr (2, [.ref f1, .ref f2, .ref f3, .ref f4, .ref f5, .ref f6, .ref q7, .int (iz 0), .int (iz 0), .int (iz 0)])), (f1, .inl (cy 0, 51, .inl (fun _ => iz 0))), (f2, .inl (cy 0, 51, .inl (fun _ => iz 0))), (f3, .inl (cy 0, 51, .inl (fun _ => iz 0))), (f4, .inl (cy 0, 51, .inl (fun _ => iz 0))), (f5, .inl (cy 0, 51, .inl (fun _ => iz 0))), (f6, .inl (cy 0, 51, .inl (fun _ => iz 0))), (q7, .inr (4, [.ref g8, .ref g9, .ref g10, .int (iz 0)])), (g8, .inl (cy 0, 8, .inl (fun _ => iz 0))), (g9, .inl (cy 0, 8, .inl (fun _ => iz 0))), (g10, .inl (cy 0, 8, .inl (fun _ => iz 0)))]) := by
  refine b_entry RX2 (by decide) rfl rfl (Nat.le_of_ble_eq_true rfl) (fun E A hE C hN hr hlk hQ => ?_)
  subst hE
  show VB E D A 1 0 0 ((a0, .inr (2, [.null, .null, .null, .null, .null, .null, .null, .int (iz 0), .int (iz 0), .int (iz 0)])) :: []) 0 [(0, .ref a0)] []
  refine b_aload_n C 0 dX2_init_0 rfl ?_
  refine b_objinit C qw315 qw28 qw29 ⟨Nat.le_of_ble_eq_true rfl, Nat.le_of_ble_eq_true rfl⟩ (Nat.le_of_ble_eq_true rfl) dX2_init_1 ?_
  refine b_aload_n C 0 dX2_init_4 rfl ?_
  refine b_bipush (z := 51) C dX2_init_5 (by decide) ?_
  refine b_newa (atype := .int) (a0 := (51, .inl (fun _ => iz 0))) C 0 rfl (fun _ h => by cases h) qw62 rfl (fun _ => rfl) (by decide) rfl (by decide) ⟨Nat.le_of_ble_eq_true rfl, Nat.le_of_ble_eq_true rfl⟩ dX2_init_7 (fun f1 => ?_)
  show VB E D A 1 1 51 ((a0, .inr (2, [.null, .null, .null, .null, .null, .null, .null, .int (iz 0), .int (iz 0), .int (iz 0)])) :: [(f1, .inl (cy 0, 51, .inl (fun _ => iz 0)))]) 9 [(0, .ref a0)] [.ref f1, .ref a0]
  refine b_put (fs1 := [.ref f1, .null, .null, .null, .null, .null, .null, .int (iz 0), .int (iz 0), .int (iz 0)]) C hN 0 rfl inX2 tyX2 tyX2_ok nmX2 (Nat.le_of_ble_eq_true rfl) qw318 rfl rfl rfl (Nat.le_of_ble_eq_true rfl) rfl dX2_init_9 ?_
  refine b_aload_n C 0 dX2_init_12 rfl ?_
  refine b_bipush (z := 51) C dX2_init_13 (by decide) ?_
  refine b_newa (atype := .int) (a0 := (51, .inl (fun _ => iz 0))) C 0 rfl (fun _ h => by cases h) qw62 rfl (fun _ => rfl) (by decide) rfl (by decide) ⟨Nat.le_of_ble_eq_true rfl, Nat.le_of_ble_eq_true rfl⟩ dX2_init_15 (fun f2 => ?_)
  show VB E D A 1 2 102 ((a0, .inr (2, [.ref f1, .null, .null, .null, .null, .null, .null, .int (iz 0), .int (iz 0), .int (iz 0)])) :: [(f1, .inl (cy 0, 51, .inl (fun _ => iz 0))), (f2, .inl (cy 0, 51, .inl (fun _ => iz 0)))]) 17 [(0, .ref a0)] [.ref f2, .ref a0]
  refine b_put (fs1 := [.ref f1, .ref f2, .null, .null, .null, .null, .null, .int (iz 0), .int (iz 0), .int (iz 0)]) C hN 1 rfl inX2 tyX2 tyX2_ok nmX2 (Nat.le_of_ble_eq_true rfl) qw320 rfl rfl rfl (Nat.le_of_ble_eq_true rfl) rfl dX2_init_17 ?_
  refine b_aload_n C 0 dX2_init_20 rfl ?_
  refine b_bipush (z := 51) C dX2_init_21 (by decide) ?_
  refine b_newa (atype := .int) (a0 := (51, .inl (fun _ => iz 0))) C 0 rfl (fun _ h => by cases h) qw62 rfl (fun _ => rfl) (by decide) rfl (by decide) ⟨Nat.le_of_ble_eq_true rfl, Nat.le_of_ble_eq_true rfl⟩ dX2_init_23 (fun f3 => ?_)
  show VB E D A 1 3 153 ((a0, .inr (2, [.ref f1, .ref f2, .null, .null, .null, .null, .null, .int (iz 0), .int (iz 0), .int (iz 0)])) :: [(f1, .inl (cy 0, 51, .inl (fun _ => iz 0))), (f2, .inl (cy 0, 51, .inl (fun _ => iz 0))), (f3, .inl (cy 0, 51, .inl (fun _ => iz 0)))]) 25 [(0, .ref a0)] [.ref f3, .ref a0]
  refine b_put (fs1 := [.ref f1, .ref f2, .ref f3, .null, .null, .null, .null, .int (iz 0), .int (iz 0), .int (iz 0)]) C hN 2 rfl inX2 tyX2 tyX2_ok nmX2 (Nat.le_of_ble_eq_true rfl) qw322 rfl rfl rfl (Nat.le_of_ble_eq_true rfl) rfl dX2_init_25 ?_
  refine b_aload_n C 0 dX2_init_28 rfl ?_
  refine b_bipush (z := 51) C dX2_init_29 (by decide) ?_
  refine b_newa (atype := .int) (a0 := (51, .inl (fun _ => iz 0))) C 0 rfl (fun _ h => by cases h) qw62 rfl (fun _ => rfl) (by decide) rfl (by decide) ⟨Nat.le_of_ble_eq_true rfl, Nat.le_of_ble_eq_true rfl⟩ dX2_init_31 (fun f4 => ?_)
  show VB E D A 1 4 204 ((a0, .inr (2, [.ref f1, .ref f2, .ref f3, .null, .null, .null, .null, .int (iz 0), .int (iz 0), .int (iz 0)])) :: [(f1, .inl (cy 0, 51, .inl (fun _ => iz 0))), (f2, .inl (cy 0, 51, .inl (fun _ => iz 0))), (f3, .inl (cy 0, 51, .inl (fun _ => iz 0))), (f4, .inl (cy 0, 51, .inl (fun _ => iz 0)))]) 33 [(0, .ref a0)] [.ref f4, .ref a0]
  refine b_put (fs1 := [.ref f1, .ref f2, .ref f3, .ref f4, .null, .null, .null, .int (iz 0), .int (iz 0), .int (iz 0)]) C hN 3 rfl inX2 tyX2 tyX2_ok nmX2 (Nat.le_of_ble_eq_true rfl) qw324 rfl rfl rfl (Nat.le_of_ble_eq_true rfl) rfl dX2_init_33 ?_
  refine b_aload_n C 0 dX2_init_36 rfl ?_
  refine b_bipush (z := 51) C dX2_init_37 (by decide) ?_
  refine b_newa (atype := .int) (a0 := (51, .inl (fun _ => iz 0))) C 0 rfl (fun _ h => by cases h) qw62 rfl (fun _ => rfl) (by decide) rfl (by decide) ⟨Nat.le_of_ble_eq_true rfl, Nat.le_of_ble_eq_true rfl⟩ dX2_init_39 (fun f5 => ?_)
  show VB E D A 1 5 255 ((a0, .inr (2, [.ref f1, .ref f2, .ref f3, .ref f4, .null, .null, .null, .int (iz 0), .int (iz 0), .int (iz 0)])) :: [(f1, .inl (cy 0, 51, .inl (fun _ => iz 0))), (f2, .inl (cy 0, 51, .inl (fun _ => iz 0))), (f3, .inl (cy 0, 51, .inl (fun _ => iz 0))), (f4, .inl (cy 0, 51, .inl (fun _ => iz 0))), (f5, .inl (cy 0, 51, .inl (fun _ => iz 0)))]) 41 [(0, .ref a0)] [.ref f5, .ref a0]
  refine b_put (fs1 := [.ref f1, .ref f2, .ref f3, .ref f4, .ref f5, .null, .null, .int (iz 0), .int (iz 0), .int (iz 0)]) C hN 4 rfl inX2 tyX2 tyX2_ok nmX2 (Nat.le_of_ble_eq_true rfl) qw326 rfl rfl rfl (Nat.le_of_ble_eq_true rfl) rfl dX2_init_41 ?_
  refine b_aload_n C 0 dX2_init_44 rfl ?_
  refine b_bipush (z := 51) C dX2_init_45 (by decide) ?_
  refine b_newa (atype := .int) (a0 := (51, .inl (fun _ => iz 0))) C 0 rfl (fun _ h => by cases h) qw62 rfl (fun _ => rfl) (by decide) rfl (by decide) ⟨Nat.le_of_ble_eq_true rfl, Nat.le_of_ble_eq_true rfl⟩ dX2_init_47 (fun f6 => ?_)
  show VB E D A 1 6 306 ((a0, .inr (2, [.ref f1, .ref f2, .ref f3, .ref f4, .ref f5, .null, .null, .int (iz 0), .int (iz 0), .int (iz 0)])) :: [(f1, .inl (cy 0, 51, .inl (fun _ => iz 0))), (f2, .inl (cy 0, 51, .inl (fun _ => iz 0))), (f3, .inl (cy 0, 51, .inl (fun _ => iz 0))), (f4, .inl (cy 0, 51, .inl (fun _ => iz 0))), (f5, .inl (cy 0, 51, .inl (fun _ => iz 0))), (f6, .inl (cy 0, 51, .inl (fun _ => iz 0)))]) 49 [(0, .ref a0)] [.ref f6, .ref a0]
  refine b_put (fs1 := [.ref f1, .ref f2, .ref f3, .ref f4, .ref f5, .ref f6, .null, .int (iz 0), .int (iz 0), .int (iz 0)]) C hN 5 rfl inX2 tyX2 tyX2_ok nmX2 (Nat.le_of_ble_eq_true rfl) qw328 rfl rfl rfl (Nat.le_of_ble_eq_true rfl) rfl dX2_init_49 ?_
  refine b_aload_n C 0 dX2_init_52 rfl ?_
  refine b_new (fs := [.null, .null, .null, .int (iz 0)]) (ci := 4) C inX4 tyX4 tyX4_ok qw316 qw199 qw9 rfl (by decide +kernel) ⟨Nat.le_of_ble_eq_true rfl, Nat.le_of_ble_eq_true rfl⟩ dX2_init_53 (fun q7 => ?_)
  show VB E D A 1 7 310 ((a0, .inr (2, [.ref f1, .ref f2, .ref f3, .ref f4, .ref f5, .ref f6, .null, .int (iz 0), .int (iz 0), .int (iz 0)])) :: [(f1, .inl (cy 0, 51, .inl (fun _ => iz 0))), (f2, .inl (cy 0, 51, .inl (fun _ => iz 0))), (f3, .inl (cy 0, 51, .inl (fun _ => iz 0))), (f4, .inl (cy 0, 51, .inl (fun _ => iz 0))), (f5, .inl (cy 0, 51, .inl (fun _ => iz 0))), (f6, .inl (cy 0, 51, .inl (fun _ => iz 0))), (q7, .inr (4, [.null, .null, .null, .int (iz 0)]))]) 56 [(0, .ref a0)] [.ref q7, .ref a0]
  refine b_dup C dX2_init_56 rfl ?_
  refine b_initN (cells := 7) (slots := 310) (wr := ((a0, .inr (2, [.ref f1, .ref f2, .ref f3, .ref f4, .ref f5, .ref f6, .null, .int (iz 0), .int (iz 0), .int (iz 0)])) :: [(f1, .inl (cy 0, 51, .inl (fun _ => iz 0))), (f2, .inl (cy 0, 51, .inl (fun _ => iz 0))), (f3, .inl (cy 0, 51, .inl (fun _ => iz 0))), (f4, .inl (cy 0, 51, .inl (fun _ => iz 0))), (f5, .inl (cy 0, 51, .inl (fun _ => iz 0))), (f6, .inl (cy 0, 51, .inl (fun _ => iz 0)))])) (e0 := .inr (4, [.null, .null, .null, .int (iz 0)])) (a := q7) (n := 0) (st := [.ref q7, .ref a0]) C [] (ct_Ratio_init (hq := hq) q7) qw202 qw9 "StageRatios" (by decide +kernel) qw201 rfl ⟨rfl, rfl⟩ ⟨Nat.le_of_ble_eq_true rfl, Nat.le_of_ble_eq_true rfl⟩ ⟨Nat.le_of_ble_eq_true rfl, Nat.le_of_ble_eq_true rfl⟩ (by decide +kernel) rfl rfl (Nat.le_of_ble_eq_true rfl) dX2_init_57 (fun w1 hw1 => ?_)
  obtain ⟨g8, g9, g10, rfl⟩ := hw1
  show VB E D A 1 10 334 ((a0, .inr (2, [.ref f1, .ref f2, .ref f3, .ref f4, .ref f5, .ref f6, .null, .int (iz 0), .int (iz 0), .int (iz 0)])) :: [(f1, .inl (cy 0, 51, .inl (fun _ => iz 0))), (f2, .inl (cy 0, 51, .inl (fun _ => iz 0))), (f3, .inl (cy 0, 51, .inl (fun _ => iz 0))), (f4, .inl (cy 0, 51, .inl (fun _ => iz 0))), (f5, .inl (cy 0, 51, .inl (fun _ => iz 0))), (f6, .inl (cy 0, 51, .inl (fun _ => iz 0))), (q7, .inr (4, [.ref g8, .ref g9, .ref g10, .int (iz 0)])), (g8, .inl (cy 0, 8, .inl (fun _ => iz 0))), (g9, .inl (cy 0, 8, .inl (fun _ => iz 0))), (g10, .inl (cy 0, 8, .inl (fun _ => iz 0)))]) 60 [(0, .ref a0)] [.ref q7, .ref a0]
  refine b_put (fs1 := [.ref f1, .ref f2, .ref f3, .ref f4, .ref f5, .ref f6, .ref q7, .int (iz 0), .int (iz 0), .int (iz 0)]) C hN 6 rfl inX2 tyX2 tyX2_ok nmX2 (Nat.le_of_ble_eq_true rfl) qw330 rfl rfl rfl (Nat.le_of_ble_eq_true rfl) rfl dX2_init_60 ?_
  refine b_aload_n C 0 dX2_init_63 rfl ?_
  refine b_iconst (z := 0) C dX2_init_64 rfl ?_
  refine b_put (fs1 := [.ref f1, .ref f2, .ref f3, .ref f4, .ref f5, .ref f6, .ref q7, .int (iz 0), .int (iz 0), .int (iz 0)]) C hN 7 rfl inX2 tyX2 tyX2_ok nmX2 (Nat.le_of_ble_eq_true rfl) qw332 rfl rfl rfl (Nat.le_of_ble_eq_true rfl) rfl dX2_init_65 ?_
  refine b_aload_n C 0 dX2_init_68 rfl ?_
  refine b_iconst (z := 0) C dX2_init_69 rfl ?_
  refine b_put (fs1 := [.ref f1, .ref f2, .ref f3, .ref f4, .ref f5, .ref f6, .ref q7, .int (iz 0), .int (iz 0), .int (iz 0)]) C hN 8 rfl inX2 tyX2 tyX2_ok nmX2 (Nat.le_of_ble_eq_true rfl) qw334 rfl rfl rfl (Nat.le_of_ble_eq_true rfl) rfl dX2_init_70 ?_
  refine b_aload_n C 0 dX2_init_73 rfl ?_
  refine b_iconst (z := 0) C dX2_init_74 rfl ?_
  refine b_put (fs1 := [.ref f1, .ref f2, .ref f3, .ref f4, .ref f5, .ref f6, .ref q7, .int (iz 0), .int (iz 0), .int (iz 0)]) C hN 9 rfl inX2 tyX2 tyX2_ok nmX2 (Nat.le_of_ble_eq_true rfl) qw336 rfl rfl rfl (Nat.le_of_ble_eq_true rfl) rfl dX2_init_75 ?_
  exact b_ret C hr hlk hQ dX2_init_78 ⟨f1, f2, f3, f4, f5, f6, q7, g8, g9, g10, rfl⟩

set_option maxHeartbeats 4000000 in
set_option maxRecDepth 100000 in
theorem ct_Rocket_init {lau : Launch} {D : va_G} {cy : Nat → ClassId} {ad : Nat → Nat} {hq : True} (a0 : Nat) : CT lau D cy ad yX6_init cX6_init 1 ({ frames := 1, cells := 4, slots := 45, locals := 20 } : Room) [.ref a0] [(a0, .inr (6, [.int (iz 0), .int (iz 0), .int (iz 0), .int (iz 0), .int (iz 0), .int (iz 0), .int (iz 0), .null, .null, .null, .null]))] (fun w1 => ∃ f1 f2 f3 f4 : Nat, w1 = [(a0, .inr (6, [.int (iz 1), .int (iz 1), .int (iz 2), .int (iz 1), .int (iz 0), .int (iz 0), .int (iz 0), .ref f1, .ref f2, .ref f3, .ref f4])), (f1, .inl (cy 0, 27, .inl (fun _ => iz 0))), (f2, .inl (cy 0, 6, .inl (fun _ => iz 0))), (f3, .inl (cy 0, 6, .inl (fun _ => iz 0))), (f4, .inl (cy 0, 6, .inl (fun _ => iz 0)))]) := by
  refine b_entry RX6 (by decide) rfl rfl (Nat.le_of_ble_eq_true rfl) (fun E A hE C hN hr hlk hQ => ?_)
  subst hE
  show VB E D A 1 0 0 ((a0, .inr (6, [.int (iz 0), .int (iz 0), .int (iz 0), .int (iz 0), .int (iz 0), .int (iz 0), .int (iz 0), .null, .null, .null, .null])) :: []) 0 [(0, .ref a0)] []
  refine b_aload_n C 0 dX6_init_0 rfl ?_
  refine b_objinit C qw364 qw28 qw29 ⟨Nat.le_of_ble_eq_true rfl, Nat.le_of_ble_eq_true rfl⟩ (Nat.le_of_ble_eq_true rfl) dX6_init_1 ?_
  refine b_aload_n C 0 dX6_init_4 rfl ?_
  refine b_iconst (z := 1) C dX6_init_5 rfl ?_
  refine b_put (fs1 := [.int (iz 1), .int (iz 0), .int (iz 0), .int (iz 0), .int (iz 0), .int (iz 0), .int (iz 0), .null, .null, .null, .null]) C hN 0 rfl inX6 tyX6 tyX6_ok nmX6 (Nat.le_of_ble_eq_true rfl) qw365 rfl rfl rfl (Nat.le_of_ble_eq_true rfl) rfl dX6_init_6 ?_
  refine b_aload_n C 0 dX6_init_9 rfl ?_
  refine b_iconst (z := 1) C dX6_init_10 rfl ?_
  refine b_put (fs1 := [.int (iz 1), .int (iz 1), .int (iz 0), .int (iz 0), .int (iz 0), .int (iz 0), .int (iz 0), .null, .null, .null, .null]) C hN 1 rfl inX6 tyX6 tyX6_ok nmX6 (Nat.le_of_ble_eq_true rfl) qw368 rfl rfl rfl (Nat.le_of_ble_eq_true rfl) rfl dX6_init_11 ?_
  refine b_aload_n C 0 dX6_init_14 rfl ?_
  refine b_iconst (z := 2) C dX6_init_15 rfl ?_
  refine b_put (fs1 := [.int (iz 1), .int (iz 1), .int (iz 2), .int (iz 0), .int (iz 0), .int (iz 0), .int (iz 0), .null, .null, .null, .null]) C hN 2 rfl inX6 tyX6 tyX6_ok nmX6 (Nat.le_of_ble_eq_true rfl) qw371 rfl rfl rfl (Nat.le_of_ble_eq_true rfl) rfl dX6_init_16 ?_
  refine b_aload_n C 0 dX6_init_19 rfl ?_
  refine b_iconst (z := 1) C dX6_init_20 rfl ?_
  refine b_put (fs1 := [.int (iz 1), .int (iz 1), .int (iz 2), .int (iz 1), .int (iz 0), .int (iz 0), .int (iz 0), .null, .null, .null, .null]) C hN 3 rfl inX6 tyX6 tyX6_ok nmX6 (Nat.le_of_ble_eq_true rfl) qw375 rfl rfl rfl (Nat.le_of_ble_eq_true rfl) rfl dX6_init_21 ?_
  refine b_aload_n C 0 dX6_init_24 rfl ?_
  refine b_iconst (z := 0) C dX6_init_25 rfl ?_
  refine b_put (fs1 := [.int (iz 1), .int (iz 1), .int (iz 2), .int (iz 1), .int (iz 0), .int (iz 0), .int (iz 0), .null, .null, .null, .null]) C hN 4 rfl inX6 tyX6 tyX6_ok nmX6 (Nat.le_of_ble_eq_true rfl) qw379 rfl rfl rfl (Nat.le_of_ble_eq_true rfl) rfl dX6_init_26 ?_
  refine b_aload_n C 0 dX6_init_29 rfl ?_
  refine b_iconst (z := 0) C dX6_init_30 rfl ?_
  refine b_put (fs1 := [.int (iz 1), .int (iz 1), .int (iz 2), .int (iz 1), .int (iz 0), .int (iz 0), .int (iz 0), .null, .null, .null, .null]) C hN 5 rfl inX6 tyX6 tyX6_ok nmX6 (Nat.le_of_ble_eq_true rfl) qw383 rfl rfl rfl (Nat.le_of_ble_eq_true rfl) rfl dX6_init_31 ?_
  refine b_aload_n C 0 dX6_init_34 rfl ?_
  refine b_iconst (z := 0) C dX6_init_35 rfl ?_
  refine b_put (fs1 := [.int (iz 1), .int (iz 1), .int (iz 2), .int (iz 1), .int (iz 0), .int (iz 0), .int (iz 0), .null, .null, .null, .null]) C hN 6 rfl inX6 tyX6 tyX6_ok nmX6 (Nat.le_of_ble_eq_true rfl) qw389 rfl rfl rfl (Nat.le_of_ble_eq_true rfl) rfl dX6_init_36 ?_
  refine b_aload_n C 0 dX6_init_39 rfl ?_
  refine b_bipush (z := 27) C dX6_init_40 (by decide) ?_
  refine b_newa (atype := .int) (a0 := (27, .inl (fun _ => iz 0))) C 0 rfl (fun _ h => by cases h) qw62 rfl (fun _ => rfl) (by decide) rfl (by decide) ⟨Nat.le_of_ble_eq_true rfl, Nat.le_of_ble_eq_true rfl⟩ dX6_init_42 (fun f1 => ?_)
  show VB E D A 1 1 27 ((a0, .inr (6, [.int (iz 1), .int (iz 1), .int (iz 2), .int (iz 1), .int (iz 0), .int (iz 0), .int (iz 0), .null, .null, .null, .null])) :: [(f1, .inl (cy 0, 27, .inl (fun _ => iz 0)))]) 44 [(0, .ref a0)] [.ref f1, .ref a0]
  refine b_put (fs1 := [.int (iz 1), .int (iz 1), .int (iz 2), .int (iz 1), .int (iz 0), .int (iz 0), .int (iz 0), .ref f1, .null, .null, .null]) C hN 7 rfl inX6 tyX6 tyX6_ok nmX6 (Nat.le_of_ble_eq_true rfl) qw392 rfl rfl rfl (Nat.le_of_ble_eq_true rfl) rfl dX6_init_44 ?_
  refine b_aload_n C 0 dX6_init_47 rfl ?_
  refine b_bipush (z := 6) C dX6_init_48 (by decide) ?_
  refine b_newa (atype := .int) (a0 := (6, .inl (fun _ => iz 0))) C 0 rfl (fun _ h => by cases h) qw62 rfl (fun _ => rfl) (by decide) rfl (by decide) ⟨Nat.le_of_ble_eq_true rfl, Nat.le_of_ble_eq_true rfl⟩ dX6_init_50 (fun f2 => ?_)
  show VB E D A 1 2 33 ((a0, .inr (6, [.int (iz 1), .int (iz 1), .int (iz 2), .int (iz 1), .int (iz 0), .int (iz 0), .int (iz 0), .ref f1, .null, .null, .null])) :: [(f1, .inl (cy 0, 27, .inl (fun _ => iz 0))), (f2, .inl (cy 0, 6, .inl (fun _ => iz 0)))]) 52 [(0, .ref a0)] [.ref f2, .ref a0]
  refine b_put (fs1 := [.int (iz 1), .int (iz 1), .int (iz 2), .int (iz 1), .int (iz 0), .int (iz 0), .int (iz 0), .ref f1, .ref f2, .null, .null]) C hN 8 rfl inX6 tyX6 tyX6_ok nmX6 (Nat.le_of_ble_eq_true rfl) qw393 rfl rfl rfl (Nat.le_of_ble_eq_true rfl) rfl dX6_init_52 ?_
  refine b_aload_n C 0 dX6_init_55 rfl ?_
  refine b_bipush (z := 6) C dX6_init_56 (by decide) ?_
  refine b_newa (atype := .int) (a0 := (6, .inl (fun _ => iz 0))) C 0 rfl (fun _ h => by cases h) qw62 rfl (fun _ => rfl) (by decide) rfl (by decide) ⟨Nat.le_of_ble_eq_true rfl, Nat.le_of_ble_eq_true rfl⟩ dX6_init_58 (fun f3 => ?_)
  show VB E D A 1 3 39 ((a0, .inr (6, [.int (iz 1), .int (iz 1), .int (iz 2), .int (iz 1), .int (iz 0), .int (iz 0), .int (iz 0), .ref f1, .ref f2, .null, .null])) :: [(f1, .inl (cy 0, 27, .inl (fun _ => iz 0))), (f2, .inl (cy 0, 6, .inl (fun _ => iz 0))), (f3, .inl (cy 0, 6, .inl (fun _ => iz 0)))]) 60 [(0, .ref a0)] [.ref f3, .ref a0]
  refine b_put (fs1 := [.int (iz 1), .int (iz 1), .int (iz 2), .int (iz 1), .int (iz 0), .int (iz 0), .int (iz 0), .ref f1, .ref f2, .ref f3, .null]) C hN 9 rfl inX6 tyX6 tyX6_ok nmX6 (Nat.le_of_ble_eq_true rfl) qw394 rfl rfl rfl (Nat.le_of_ble_eq_true rfl) rfl dX6_init_60 ?_
  refine b_aload_n C 0 dX6_init_63 rfl ?_
  refine b_bipush (z := 6) C dX6_init_64 (by decide) ?_
  refine b_newa (atype := .int) (a0 := (6, .inl (fun _ => iz 0))) C 0 rfl (fun _ h => by cases h) qw62 rfl (fun _ => rfl) (by decide) rfl (by decide) ⟨Nat.le_of_ble_eq_true rfl, Nat.le_of_ble_eq_true rfl⟩ dX6_init_66 (fun f4 => ?_)
  show VB E D A 1 4 45 ((a0, .inr (6, [.int (iz 1), .int (iz 1), .int (iz 2), .int (iz 1), .int (iz 0), .int (iz 0), .int (iz 0), .ref f1, .ref f2, .ref f3, .null])) :: [(f1, .inl (cy 0, 27, .inl (fun _ => iz 0))), (f2, .inl (cy 0, 6, .inl (fun _ => iz 0))), (f3, .inl (cy 0, 6, .inl (fun _ => iz 0))), (f4, .inl (cy 0, 6, .inl (fun _ => iz 0)))]) 68 [(0, .ref a0)] [.ref f4, .ref a0]
  refine b_put (fs1 := [.int (iz 1), .int (iz 1), .int (iz 2), .int (iz 1), .int (iz 0), .int (iz 0), .int (iz 0), .ref f1, .ref f2, .ref f3, .ref f4]) C hN 10 rfl inX6 tyX6 tyX6_ok nmX6 (Nat.le_of_ble_eq_true rfl) qw395 rfl rfl rfl (Nat.le_of_ble_eq_true rfl) rfl dX6_init_68 ?_
  exact b_ret C hr hlk hQ dX6_init_71 ⟨f1, f2, f3, f4, rfl⟩
