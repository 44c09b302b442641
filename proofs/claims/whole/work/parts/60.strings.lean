/-! texts: the JDK's length and charAt over a String constant; both worlds -/
theorem iz_n (n : Nat) : Int32.ofNat n = iz (n : Int) := rfl
def chZ (l : List Int32) (j : Int) : Int := (l.getD j.toNat 0).toInt
theorem asc_all : ∀ n : Fin 128, iz (n : Nat) &&& iz 255 = iz (n : Nat) ∧ ((iz (n : Nat)).toUInt32 % 65536).toInt32 = iz (n : Nat) := by decide +kernel
theorem asc_c : ∀ n : Fin 128, narrow .char (.int (iz (n : Nat))) = .int (iz (n : Nat)) := by decide +kernel
theorem asc_2 {z : Int} (h0 : 0 ≤ z) (h1 : z < 128) : narrow .char (.int (iz z)) = .int (iz z) := by
  have a := asc_c ⟨z.toNat, by omega⟩
  rwa [show ((⟨z.toNat, by omega⟩ : Fin 128) : Nat) = z.toNat from rfl, show ((z.toNat : Nat) : Int) = z by omega] at a
theorem asc_1 {z : Int} (h0 : 0 ≤ z) (h1 : z < 128) : iz z &&& iz 255 = iz z ∧ ((iz z).toUInt32 % 65536).toInt32 = iz z := by
  have a := asc_all ⟨z.toNat, by omega⟩
  rwa [show ((⟨z.toNat, by omega⟩ : Fin 128) : Nat) = z.toNat from rfl, show ((z.toNat : Nat) : Int) = z by omega] at a
theorem strS_ok : ∀ q ∈ strS, q.2.2.2.length ≤ 7 ∧ ∀ x ∈ q.2.2.2, 97 ≤ x.toInt ∧ x.toInt ≤ 122 := by decide +kernel
theorem chZ_rng {i : Nat} {q : String × Nat × String × List Int32} (hq : strS[i]? = some q) {j : Int} (h0 : 0 ≤ j) (h1 : j < q.2.2.2.length) : 97 ≤ chZ q.2.2.2 j ∧ chZ q.2.2.2 j ≤ 122 := by
  have a := (strS_ok q (List.mem_of_getElem? hq)).2
  unfold chZ
  have e : q.2.2.2.getD j.toNat 0 = q.2.2.2[j.toNat]'(by omega) := by rw [List.getD_eq_getElem?_getD, List.getElem?_eq_getElem (by omega)]; rfl
  rw [e]
  exact a _ (List.getElem_mem _)
section VS
variable {E : Amb} {w : Wd} {cc : ByteArray} {own : String} {nL : Nat} {R0 : Room} {m : Mem} {pc : Nat} {L : List (Nat × Value)} {st : List Value}
theorem ox_s (C : Cx E w cc own nL R0) {d0 : Drawn} {i : Nat} {q : String × Nat × String × List Int32} (hq : strS[i]? = some q) : vk_S 1 [q.2.2.2.length] [q.2.2.2] (fun _ => w.2.2.2.2.2 (2 * i)) (fun _ => w.2.2.2.2.2 (2 * i + 1)) (wA w E.2.2.2.2.1.heap.size) (E.2.2.2.2.1.setDrawn d0) E.2.2.2.2.1.heap := vk_S.moved (Vm.Alike.refl _) (C.2.2.2.2.2.2.2.2.1 i q hq).2
theorem v_ldcs (C : Cx E w cc own nL R0) {index : Nat} {tx : String} {bs : List Int32} (i : Nat) (hq : strS[i]? = some (own, index, tx, bs)) (hdg : decode cc pc = .ok (.ldc index, 2)) (k : V E w nL m (pc + 2) L (.ref (w.2.2.2.2.2 (2 * i)) :: st)) : V E w nL m pc L st := fun H locs d0 ls hd hP hS hl => by
  have k := k H locs d0 ls hd hP hS hl
  exact va_ldcS C.1 C.2.1 C.2.2.2.1 (vk_R.same rfl (C.2.2.2.2.2.2.2.2.1 i _ hq).1) hdg k
theorem v_xval (C : Cx E w cc own nL R0) {index : Nat} {q : String × Nat × String × List Int32} (i : Nat) (hq : strS[i]? = some q) (hlk : Cond.fieldLink own index "java/lang/String" "value" "[B" ∈ lw_gd) (hdg : decode cc pc = .ok (.getfield index, 3)) (k : V E w nL m (pc + 3) L (.ref (w.2.2.2.2.2 (2 * i + 1)) :: st)) : V E w nL m pc L (.ref (w.2.2.2.2.2 (2 * i)) :: st) := fun H locs d0 ls hd hP hS hl => by
  have k := k H locs d0 ls hd hP hS hl
  exact vk_getf (s := E.2.2.2.2.1.setDrawn d0) C.1 C.2.1 (((ox_s C hq).1 0 (by decide)).2.2.1) hS C.2.2.2.1 (dr_words C.2.2.2.2.1 d0 _ hlk) (fun x h => h) hdg k
theorem v_xcod (C : Cx E w cc own nL R0) {index : Nat} {q : String × Nat × String × List Int32} (i : Nat) (hq : strS[i]? = some q) (hlk : Cond.fieldLink own index "java/lang/String" "coder" "B" ∈ lw_gd) (hdg : decode cc pc = .ok (.getfield index, 3)) (k : V E w nL m (pc + 3) L (.int (iz 0) :: st)) : V E w nL m pc L (.ref (w.2.2.2.2.2 (2 * i)) :: st) := fun H locs d0 ls hd hP hS hl => by
  have k := k H locs d0 ls hd hP hS hl
  exact vk_getf (s := E.2.2.2.2.1.setDrawn d0) C.1 C.2.1 (((ox_s C hq).1 0 (by decide)).2.1) hS C.2.2.2.1 (dr_words C.2.2.2.2.1 d0 _ hlk) (fun x h => h) hdg k
theorem v_xlen (C : Cx E w cc own nL R0) {q : String × Nat × String × List Int32} (i : Nat) (hq : strS[i]? = some q) (hdg : decode cc pc = .ok (.arraylength, 1)) (k : V E w nL m (pc + 1) L (.int (iz (q.2.2.2.length : Nat)) :: st)) : V E w nL m pc L (.ref (w.2.2.2.2.2 (2 * i + 1)) :: st) := fun H locs d0 ls hd hP hS hl => by
  have k := k H locs d0 ls hd hP hS hl
  exact va_tlen (s := E.2.2.2.2.1.setDrawn d0) C.1 C.2.1 (((ox_s C hq).1 0 (by decide)).2.2.2) hS rfl hdg k
theorem v_xald (C : Cx E w cc own nL R0) {q : String × Nat × String × List Int32} {z : Int} (i : Nat) (hq : strS[i]? = some q) (hz : 0 ≤ z ∧ z < q.2.2.2.length) (hdg : decode cc pc = .ok (.baload, 1)) (k : V E w nL m (pc + 1) L (.int (iz (chZ q.2.2.2 z)) :: st)) : V E w nL m pc L (.int (iz z) :: .ref (w.2.2.2.2.2 (2 * i + 1)) :: st) := fun H locs d0 ls hd hP hS hl => by
  have k := k H locs d0 ls hd hP hS hl
  have hl7 := (strS_ok q (List.mem_of_getElem? hq)).1
  refine va_tb (s := E.2.2.2.2.1.setDrawn d0) C.1 C.2.1 (((ox_s C hq).1 0 (by decide)).2.2.2) hS (iz_in hz.1 hz.2 (by show q.2.2.2.length < _; omega)) ?_ hdg k
  show Value.int (q.2.2.2.getD (iz z).toNatClampNeg 0) = .int (iz (chZ q.2.2.2 z))
  rw [iz_clamp hz.1 (by omega)]; unfold chZ; rw [iz_of]
theorem v_gcs (C : Cx E w cc own nL R0) {index : Nat} (hlk : Cond.fieldLink own index "java/lang/String" "COMPACT_STRINGS" "Z" ∈ lw_gd) (hdg : decode cc pc = .ok (.getstatic index, 3)) (k : V E w nL m (pc + 3) L (.int (iz 1) :: st)) : V E w nL m pc L st := fun H locs d0 ls hd hP hS hl => by
  have k := k H locs d0 ls hd hP hS hl
  exact va_gets (s := E.2.2.2.2.1.setDrawn d0) C.1 C.2.1 (va_Z.moved (Vm.Alike.refl _) C.2.2.2.2.2.2.2.2.2.1) hS C.2.2.2.1 (dr_words C.2.2.2.2.1 d0 _ hlk) (fun x h => h) hdg k
theorem v_gsf (C : Cx E w cc own nL R0) {index : Nat} (hlk : Cond.fieldLink own index "jdk/internal/util/Preconditions" "SIOOBE_FORMATTER" "Ljava/util/function/BiFunction;" ∈ lw_gd) (hdg : decode cc pc = .ok (.getstatic index, 3)) (k : ∀ v : Value, (v = .null ∨ ∃ t : Nat, v = .ref t) → V E w nL m (pc + 3) L (v :: st)) : V E w nL m pc L st := fun H locs d0 ls hd hP hS hl => by
  rcases C.2.2.2.2.2.2.2.2.2.2.1 with ht | ⟨t, ht⟩
  · have k := k .null (Or.inl rfl) H locs d0 ls hd hP hS hl
    exact va_gets (s := E.2.2.2.2.1.setDrawn d0) C.1 C.2.1 (va_Z.moved (Vm.Alike.refl _) ht) hS C.2.2.2.1 (dr_words C.2.2.2.2.1 d0 _ hlk) (fun x h => h) hdg k
  · have k := k (.ref t) (Or.inr ⟨t, rfl⟩) H locs d0 ls hd hP hS hl
    exact va_gets (s := E.2.2.2.2.1.setDrawn d0) C.1 C.2.1 (va_Z.moved (Vm.Alike.refl _) ht) hS C.2.2.2.1 (dr_words C.2.2.2.2.1 d0 _ hlk) (fun x h => h) hdg k
theorem v_i2c (C : Cx E w cc own nL R0) {x z : Int} (hz : ((iz x).toUInt32 % 65536).toInt32 = iz z) (hdg : decode cc pc = .ok (.i2c, 1)) (k : V E w nL m (pc + 1) L (.int (iz z) :: st)) : V E w nL m pc L (.int (iz x) :: st) := fun H locs d0 ls hd hP hS hl => by
  have k := k H locs d0 ls hd hP hS hl
  exact lv_i2c C.1 C.2.1 hdg hz k
theorem v_callO (C : Cx E w cc own nL R0) {y : MethodName} {bytes : ByteArray} {maxL index n : Nat} {ret : Option FieldType} {rm : Room} {Post : Option Value → Mem → Prop} {st0 : List Value} {q : String × Nat × String × List Int32} (i : Nat) (hq : strS[i]? = some q) (As : List Value) (hM : MT E.2.1 w y bytes maxL ret rm m (.ref (w.2.2.2.2.2 (2 * i)) :: As) Post) (hcode : Cond.code y bytes maxL ret ∈ lw_gd) (hini : Cond.initialized y.cls ∈ lw_gd) (hlk : Cond.methodLink own index y ∈ lw_gd) (hcz : rm.cells = 0) (hsz : rm.slots = 0) (hroom : rm.frames + 1 ≤ R0.frames ∧ 8 + (maxL + 11) + rm.locals ≤ R0.locals) (hnm : y.cls ≠ "java/lang/invoke/MethodHandle" ∧ y.cls ≠ "java/lang/invoke/VarHandle" ∧ (parseMethodDescriptor y.desc).map (fun d => d.parameters.length) = some n) (hinst : Cond.instanceMethod y ∈ lw_gd) (hsel : Cond.selects "java/lang/String" y y ∈ lw_gd) (hn : As.length = n) (hst : st0 = As.reverse ++ .ref (w.2.2.2.2.2 (2 * i)) :: st) (hcat : (st.map fun v => v.category).sum ≤ 8) (hdg : decode cc pc = .ok (.invokevirtual index, 3))
    (k : ∀ (r : Option Value) (m1 : Mem), Post r m1 → V E w nL m1 (pc + 3) L (r.toList ++ st)) : V E w nL m pc L st0 := by
  refine v_after (a := (Value.ref (w.2.2.2.2.2 (2 * i)) :: As).toArray) (fun H locs d0 ls hd hP hS hl => ?_) k
  exact va_runV_D (cs := lw_cs) (nL := nL) (C := "java/lang/String") (Ts := lw_gd) (own := own) (n := n) (b := w.2.2.2.2.2 (2 * i)) (As := As) (rest := st) ⟨C.1, C.2.1, C.2.2.1, C.2.2.2.1, dr_words C.2.2.2.2.1 d0⟩ (hM H.size) ⟨(callB_of (Ts := lw_gd) n (dr_words C.2.2.2.2.1 d0) (good_ws hcode) rfl hcz hsz (dr_words C.2.2.2.2.1 d0 _ hini) (dr_words C.2.2.2.2.1 d0 _ hlk) hnm (by rw [C.2.2.2.2.2.2.2.1]; exact hroom)), dr_words C.2.2.2.2.1 d0 _ hinst, dr_words C.2.2.2.2.1 d0 _ hsel⟩
    ⟨BW_blind, vk_recv (s := E.2.2.2.2.1.setDrawn d0) (N := 1) (adK := fun _ => w.2.2.2.2.2 (2 * i)) (i := 0) (ox_s C hq) (by decide) hS, fun U hU hW => ⟨rfl, by rw [hU], by rw [hU]; exact hP, va_K.moved hW.alike C.2.2.2.2.2.1, OX.call C hW hU hS⟩⟩ rfl hn hl.1 hst (lv_room (m := E.2.2.2.2.2.1) (pc := pc) (ls := ls) (rest := st0) hcat) hdg ⟨Nat.zero_le _, Nat.zero_le _⟩
end VS
theorem cs_coder {lau : Launch} {w : Wd} (hI : wI w) (m : Mem) (i : Nat) (q : String × Nat × String × List Int32) (hq : strS[i]? = some q) : MT lau w yJ0_coder_7d493 cJ0_coder_7d493 1 (some .byte) ({ frames := 0, cells := 0, slots := 0, locals := 0 } : Room) m [.ref (w.2.2.2.2.2 (2 * i))] (Pi (fun z m' => 0 = z ∧ m = m')) := by
  refine v_entry hI RJ0 (by decide) rfl (Nat.le_of_ble_eq_true rfl) (fun E hE C X => ?_)
  subst hE
  show V E w 1 m 0 [(0, .ref (w.2.2.2.2.2 (2 * i)))] []
  refine v_gcs C qw81 dJ0_coder_7d493_0 ?_
  refine v_if_eq (tgt := 13) C dJ0_coder_7d493_3 (by decide) (by omega) (fun h => absurd h (by decide)) (fun _ => ?_)
  refine v_aload_n C 0 dJ0_coder_7d493_6 rfl ?_
  refine v_xcod C i hq qw1764 dJ0_coder_7d493_7 ?_
  refine v_goto (tgt := 14) C dJ0_coder_7d493_10 (by decide) ?_
  exact v_iret C X rfl dJ0_coder_7d493_14 ⟨0, rfl, rfl, rfl⟩
theorem cs_length {lau : Launch} {w : Wd} (hI : wI w) (m : Mem) (i : Nat) (q : String × Nat × String × List Int32) (hq : strS[i]? = some q) : MT lau w yJ0_length_8abf5 cJ0_length_8abf5 1 (some .int) ({ frames := 1, cells := 0, slots := 0, locals := 20 } : Room) m [.ref (w.2.2.2.2.2 (2 * i))] (Pi (fun z m' => ((q.2.2.2.length : Nat) : Int) = z ∧ m = m')) := by
  refine v_entry hI RJ0 (by decide) rfl (Nat.le_of_ble_eq_true rfl) (fun E hE C X => ?_)
  subst hE
  show V E w 1 m 0 [(0, .ref (w.2.2.2.2.2 (2 * i)))] []
  refine v_aload_n C 0 dJ0_length_8abf5_0 rfl ?_
  refine v_xval C i hq qw1763 dJ0_length_8abf5_1 ?_
  refine v_xlen C i hq dJ0_length_8abf5_4 ?_
  refine v_aload_n C 0 dJ0_length_8abf5_5 rfl ?_
  refine v_callO (st := [.int (iz (q.2.2.2.length : Nat))]) (n := 0) C i hq [] (cs_coder hI m i q hq) qw80 qw4 qw77 rfl rfl ⟨Nat.le_of_ble_eq_true rfl, Nat.le_of_ble_eq_true rfl⟩ (by decide +kernel) qw78 qw79 rfl rfl (Nat.le_of_ble_eq_true rfl) dJ0_length_8abf5_6 (fun r m2 hq2 => ?_)
  obtain ⟨z2, rfl, rfl, rfl⟩ := hq2
  show V E w 1 m 9 [(0, .ref (w.2.2.2.2.2 (2 * i)))] [.int (iz 0), .int (iz (q.2.2.2.length : Nat))]
  refine v_ishr (z := (q.2.2.2.length : Nat)) C ?_ dJ0_length_8abf5_9 ?_
  · have e : iz 0 &&& 31 = 0 := by decide
    rw [e]; exact Int32.shiftRight_zero
  · exact v_iret C X rfl dJ0_length_8abf5_10 ⟨_, rfl, rfl, rfl⟩
theorem cs_isLatin1 {lau : Launch} {w : Wd} (hI : wI w) (m : Mem) (i : Nat) (q : String × Nat × String × List Int32) (hq : strS[i]? = some q) : MT lau w yJ0_isLatin1_aae02 cJ0_isLatin1_aae02 1 (some .boolean) ({ frames := 0, cells := 0, slots := 0, locals := 0 } : Room) m [.ref (w.2.2.2.2.2 (2 * i))] (Pi (fun z m' => 1 = z ∧ m = m')) := by
  refine v_entry hI RJ0 (by decide) rfl (Nat.le_of_ble_eq_true rfl) (fun E hE C X => ?_)
  subst hE
  show V E w 1 m 0 [(0, .ref (w.2.2.2.2.2 (2 * i)))] []
  refine v_gcs C qw81 dJ0_isLatin1_aae02_0 ?_
  refine v_if_eq (tgt := 17) C dJ0_isLatin1_aae02_3 (by decide) (by omega) (fun h => absurd h (by decide)) (fun _ => ?_)
  refine v_aload_n C 0 dJ0_isLatin1_aae02_6 rfl ?_
  refine v_xcod C i hq qw1764 dJ0_isLatin1_aae02_7 ?_
  refine v_if_ne (tgt := 17) C dJ0_isLatin1_aae02_10 (by decide) (by omega) (fun h => absurd rfl h) (fun _ => ?_)
  refine v_iconst (z := 1) C dJ0_isLatin1_aae02_13 rfl ?_
  refine v_goto (tgt := 18) C dJ0_isLatin1_aae02_14 (by decide) ?_
  exact v_iret C X (by decide) dJ0_isLatin1_aae02_18 ⟨1, rfl, rfl, rfl⟩
theorem cs_pre {lau : Launch} {w : Wd} (hI : wI w) (m : Mem) (x n : Int) (t : Nat) (hx : 0 ≤ x ∧ x < n) (hn : n ≤ 2147483647) : MT lau w yJ3_checkIndex_8e157 cJ3_checkIndex_8e157 3 (some .int) ({ frames := 0, cells := 0, slots := 0, locals := 0 } : Room) m [.int (iz x), .int (iz n), .ref t] (Pi (fun z m' => x = z ∧ m = m')) := by
  refine v_entry hI RJ3 (by decide) rfl (Nat.le_of_ble_eq_true rfl) (fun E hE C X => ?_)
  subst hE
  show V E w 3 m 0 [(0, .int (iz x)), (1, .int (iz n)), (2, .ref t)] []
  refine v_iload_n C 0 dJ3_checkIndex_8e157_0 rfl ?_
  refine v_if_lt (tgt := 9) C dJ3_checkIndex_8e157_1 (by decide) (by omega) (fun h => by omega) (fun _ => ?_)
  refine v_iload_n C 0 dJ3_checkIndex_8e157_4 rfl ?_
  refine v_iload_n C 1 dJ3_checkIndex_8e157_5 rfl ?_
  refine v_icmp_lt (tgt := 16) C dJ3_checkIndex_8e157_6 (by decide) (by omega) (by omega) (fun _ => ?_) (fun h => by omega)
  refine v_iload_n C 0 dJ3_checkIndex_8e157_16 rfl ?_
  exact v_iret C X rfl dJ3_checkIndex_8e157_17 ⟨_, rfl, rfl, rfl⟩
theorem cs_preN {lau : Launch} {w : Wd} (hI : wI w) (m : Mem) (x n : Int) (hx : 0 ≤ x ∧ x < n) (hn : n ≤ 2147483647) : MT lau w yJ3_checkIndex_8e157 cJ3_checkIndex_8e157 3 (some .int) ({ frames := 0, cells := 0, slots := 0, locals := 0 } : Room) m [.int (iz x), .int (iz n), .null] (Pi (fun z m' => x = z ∧ m = m')) := by
  refine v_entry hI RJ3 (by decide) rfl (Nat.le_of_ble_eq_true rfl) (fun E hE C X => ?_)
  subst hE
  show V E w 3 m 0 [(0, .int (iz x)), (1, .int (iz n)), (2, .null)] []
  refine v_iload_n C 0 dJ3_checkIndex_8e157_0 rfl ?_
  refine v_if_lt (tgt := 9) C dJ3_checkIndex_8e157_1 (by decide) (by omega) (fun h => by omega) (fun _ => ?_)
  refine v_iload_n C 0 dJ3_checkIndex_8e157_4 rfl ?_
  refine v_iload_n C 1 dJ3_checkIndex_8e157_5 rfl ?_
  refine v_icmp_lt (tgt := 16) C dJ3_checkIndex_8e157_6 (by decide) (by omega) (by omega) (fun _ => ?_) (fun h => by omega)
  refine v_iload_n C 0 dJ3_checkIndex_8e157_16 rfl ?_
  exact v_iret C X rfl dJ3_checkIndex_8e157_17 ⟨_, rfl, rfl, rfl⟩
theorem cs_check {lau : Launch} {w : Wd} (hI : wI w) (m : Mem) (x n : Int) (hx : 0 ≤ x ∧ x < n) (hn : n ≤ 2147483647) : MT lau w yJ0_checkIndex_df160 cJ0_checkIndex_df160 2 none ({ frames := 1, cells := 0, slots := 0, locals := 22 } : Room) m [.int (iz x), .int (iz n)] (Pv (fun m' => m = m')) := by
  refine v_entry hI RJ0 (by decide) rfl (Nat.le_of_ble_eq_true rfl) (fun E hE C X => ?_)
  subst hE
  show V E w 2 m 0 [(0, .int (iz x)), (1, .int (iz n))] []
  refine v_iload_n C 0 dJ0_checkIndex_df160_0 rfl ?_
  refine v_iload_n C 1 dJ0_checkIndex_df160_1 rfl ?_
  refine v_gsf C qw97 dJ0_checkIndex_df160_2 (fun v hv => ?_)
  rcases hv with rfl | ⟨t, rfl⟩
  · refine v_callS (st := []) (n := 3) C [.int (iz x), .int (iz n), .null] (cs_preN hI m x n hx hn) qw101 qw6 qw99 rfl rfl ⟨Nat.le_of_ble_eq_true rfl, Nat.le_of_ble_eq_true rfl⟩ (by decide +kernel) qw100 rfl rfl (Nat.le_of_ble_eq_true rfl) dJ0_checkIndex_df160_5 (fun r m2 hq2 => ?_)
    obtain ⟨z2, rfl, rfl, rfl⟩ := hq2
    show V E w 2 m 8 [(0, .int (iz x)), (1, .int (iz n))] [.int (iz x)]
    refine v_pop C dJ0_checkIndex_df160_8 rfl ?_
    exact v_vret C X dJ0_checkIndex_df160_9 ⟨rfl, rfl⟩
  · refine v_callS (st := []) (n := 3) C [.int (iz x), .int (iz n), .ref t] (cs_pre hI m x n t hx hn) qw101 qw6 qw99 rfl rfl ⟨Nat.le_of_ble_eq_true rfl, Nat.le_of_ble_eq_true rfl⟩ (by decide +kernel) qw100 rfl rfl (Nat.le_of_ble_eq_true rfl) dJ0_checkIndex_df160_5 (fun r m2 hq2 => ?_)
    obtain ⟨z2, rfl, rfl, rfl⟩ := hq2
    show V E w 2 m 8 [(0, .int (iz x)), (1, .int (iz n))] [.int (iz x)]
    refine v_pop C dJ0_checkIndex_df160_8 rfl ?_
    exact v_vret C X dJ0_checkIndex_df160_9 ⟨rfl, rfl⟩
theorem cs_char1 {lau : Launch} {w : Wd} (hI : wI w) (m : Mem) (i : Nat) (q : String × Nat × String × List Int32) (hq : strS[i]? = some q) (x : Int) (hx : 0 ≤ x ∧ x < q.2.2.2.length) : MT lau w yJ1_charAt_3b067 cJ1_charAt_3b067 2 (some .char) ({ frames := 2, cells := 0, slots := 0, locals := 43 } : Room) m [.ref (w.2.2.2.2.2 (2 * i + 1)), .int (iz x)] (Pi (fun z m' => chZ q.2.2.2 x = z ∧ m = m')) := by
  have hl7 := (strS_ok q (List.mem_of_getElem? hq)).1
  have hcr := chZ_rng hq hx.1 hx.2
  have hasc := asc_1 (z := chZ q.2.2.2 x) (by omega) (by omega)
  refine v_entry hI RJ1 (by decide) rfl (Nat.le_of_ble_eq_true rfl) (fun E hE C X => ?_)
  subst hE
  show V E w 2 m 0 [(0, .ref (w.2.2.2.2.2 (2 * i + 1))), (1, .int (iz x))] []
  refine v_iload_n C 1 dJ1_charAt_3b067_0 rfl ?_
  refine v_aload_n C 0 dJ1_charAt_3b067_1 rfl ?_
  refine v_xlen C i hq dJ1_charAt_3b067_2 ?_
  refine v_callS (st := []) (n := 2) C [.int (iz x), .int (iz (q.2.2.2.length : Nat))] (cs_check hI m x (q.2.2.2.length : Nat) hx (by omega)) qw96 qw4 qw94 rfl rfl ⟨Nat.le_of_ble_eq_true rfl, Nat.le_of_ble_eq_true rfl⟩ (by decide +kernel) qw95 rfl rfl (Nat.le_of_ble_eq_true rfl) dJ1_charAt_3b067_3 (fun r m2 hq2 => ?_)
  obtain ⟨rfl, rfl⟩ := hq2
  show V E w 2 m 6 [(0, .ref (w.2.2.2.2.2 (2 * i + 1))), (1, .int (iz x))] []
  refine v_aload_n C 0 dJ1_charAt_3b067_6 rfl ?_
  refine v_iload_n C 1 dJ1_charAt_3b067_7 rfl ?_
  refine v_xald C i hq hx dJ1_charAt_3b067_8 ?_
  refine v_sipush (z := 255) C dJ1_charAt_3b067_9 (by decide) ?_
  refine v_iand (z := chZ q.2.2.2 x) C hasc.1 dJ1_charAt_3b067_12 ?_
  refine v_i2c (z := chZ q.2.2.2 x) C hasc.2 dJ1_charAt_3b067_13 ?_
  exact v_iret C X (asc_2 (by omega) (by omega)) dJ1_charAt_3b067_14 ⟨_, rfl, rfl, rfl⟩
theorem cs_charAt {lau : Launch} {w : Wd} (hI : wI w) (m : Mem) (i : Nat) (q : String × Nat × String × List Int32) (hq : strS[i]? = some q) (x : Int) (hx : 0 ≤ x ∧ x < q.2.2.2.length) : MT lau w yJ0_charAt_5068e cJ0_charAt_5068e 2 (some .char) ({ frames := 3, cells := 0, slots := 0, locals := 64 } : Room) m [.ref (w.2.2.2.2.2 (2 * i)), .int (iz x)] (Pi (fun z m' => chZ q.2.2.2 x = z ∧ m = m')) := by
  refine v_entry hI RJ0 (by decide) rfl (Nat.le_of_ble_eq_true rfl) (fun E hE C X => ?_)
  subst hE
  show V E w 2 m 0 [(0, .ref (w.2.2.2.2.2 (2 * i))), (1, .int (iz x))] []
  refine v_aload_n C 0 dJ0_charAt_5068e_0 rfl ?_
  refine v_callO (st := []) (n := 0) C i hq [] (cs_isLatin1 hI m i q hq) qw90 qw4 qw87 rfl rfl ⟨Nat.le_of_ble_eq_true rfl, Nat.le_of_ble_eq_true rfl⟩ (by decide +kernel) qw88 qw89 rfl rfl (Nat.le_of_ble_eq_true rfl) dJ0_charAt_5068e_1 (fun r m2 hq2 => ?_)
  obtain ⟨z2, rfl, rfl, rfl⟩ := hq2
  show V E w 2 m 4 [(0, .ref (w.2.2.2.2.2 (2 * i))), (1, .int (iz x))] [.int (iz 1)]
  refine v_if_eq (tgt := 16) C dJ0_charAt_5068e_4 (by decide) (by omega) (fun h => absurd h (by decide)) (fun _ => ?_)
  refine v_aload_n C 0 dJ0_charAt_5068e_7 rfl ?_
  refine v_xval C i hq qw1763 dJ0_charAt_5068e_8 ?_
  refine v_iload_n C 1 dJ0_charAt_5068e_11 rfl ?_
  refine v_callS (st := []) (n := 2) C [.ref (w.2.2.2.2.2 (2 * i + 1)), .int (iz x)] (cs_char1 hI m i q hq x hx) qw93 qw5 qw91 rfl rfl ⟨Nat.le_of_ble_eq_true rfl, Nat.le_of_ble_eq_true rfl⟩ (by decide +kernel) qw92 rfl rfl (Nat.le_of_ble_eq_true rfl) dJ0_charAt_5068e_12 (fun r m2 hq2 => ?_)
  obtain ⟨z2, rfl, rfl, rfl⟩ := hq2
  show V E w 2 m 15 [(0, .ref (w.2.2.2.2.2 (2 * i))), (1, .int (iz x))] [.int (iz (chZ q.2.2.2 x))]
  have hcr := chZ_rng hq hx.1 hx.2
  exact v_iret C X (asc_2 (by omega) (by omega)) dJ0_charAt_5068e_15 ⟨_, rfl, rfl, rfl⟩
