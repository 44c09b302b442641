section VC
variable {E : Amb} {w : Wd} {cc : ByteArray} {own : String} {nL : Nat} {R0 : Room} {m : Mem} {pc : Nat} {L : List (Nat × Value)} {st : List Value}
theorem good_tbl : ∀ q ∈ lw_gd, (q.onTables && q.keeps) = true ∨ ∃ ty, q = .arrayClass ty := fun q h => good_of_word (lw_gdg h)
theorem good_ws {y : MethodName} {cc : ByteArray} {n : Nat} {r : Option FieldType} (h : Cond.code y cc n r ∈ lw_gd) : GoodIn lw_gd (ws_ y cc n r) := fun q hq => by
  rcases List.mem_cons.mp hq with rfl | hq
  · exact ⟨h, good_tbl _ h⟩
  · exact ⟨hq, good_tbl _ hq⟩
theorem BW_blind {w : Wd} {sz : Nat} {m : Mem} {av : List Value} : FrameBlind (va_Pc av (BW w sz m)) := fun a U g mk q => ⟨q.1, q.2.1, q.2.2.1, va_K.moved (u := U) (U := U.calling g mk a) (Vm.Alike.refl U.vm) q.2.2.2.1, OX.same rfl q.2.2.2.2⟩
theorem OX.call {d0 : Drawn} {U : State} {H : Heap} {locs : List Loc} (C : Cx E w cc own nL R0) (hW : (E.2.2.2.2.1.setDrawn d0).WarmedH U.vm) (hU : U.heap = H) (hS : va_S (wA w E.2.2.2.2.1.heap.size) E.2.2.2.2.1.heap H locs) : OX w.2.2.2.2.2 (wA w H.size) U U.heap := by
  subst hU
  exact OX.to C.2.2.2.2.2.2.2.2 hW (fun a h1 h2 => hS.2.1 a h1 h2) (fun q hq => hq.elim (fun x => Or.inl x) (fun x => Or.inr (Nat.le_trans hS.1 x)))
theorem v_after {rest st0 : List Value} {a : Array Value} {Post : Option Value → Mem → Prop} (hr : ∀ (H : Heap) (locs : List Loc) (d0 : Drawn) (ls : Array Slot), E.2.2.2.2.1.drawn.sameBut d0 lw_cs → va_P w.1 clsAll (wG w m) H → va_S (wA w E.2.2.2.2.1.heap.size) E.2.2.2.2.1.heap H locs → lv_has ls nL L → va_RunD lw_cs E.1 E.2.1 E.2.2.1 E.2.2.2.1 (E.2.2.2.2.1.setDrawn d0) E.2.2.2.2.2.1 E.2.2.2.2.2.2.1 E.2.2.2.2.2.2.2.1 E.2.2.2.2.2.2.2.2.1 E.2.2.2.2.2.2.2.2.2.1 H locs 0 0 0 0 (F0 E.2.2.2.2.2.1 pc ls st0) rest (QW w H.size Post a) (wA w H.size))
    (k : ∀ (r : Option Value) (m1 : Mem), Post r m1 → V E w nL m1 (pc + 3) L (r.toList ++ rest)) : V E w nL m pc L st0 := fun H locs d0 ls hd hP hS hl => by
  intro T hT X
  obtain ⟨v, st₀, t, T', Lo, d', hd', h0, X', hL, e1, e2, ⟨⟨r, m1, hv, hp, hP1⟩, hz, hk⟩, stp⟩ := hr H locs d0 ls hd hP hS hl T hT X
  cases hv
  rw [h0] at hz hk
  rw [← e1] at hP1
  have hd2 : E.2.2.2.2.1.drawn.sameBut d' lw_cs := hd.trans hd'
  have hA : ∀ q, wA w H.size q → wA w E.2.2.2.2.1.heap.size q := fun q hq => hq.elim (fun x => Or.inl x) (fun x => Or.inr (Nat.le_trans hS.1 x))
  have hS1 : va_S (wA w E.2.2.2.2.1.heap.size) E.2.2.2.2.1.heap T'.heap (locs ++ Lo) := ⟨Nat.le_trans hS.1 (by rw [e1]; exact hz), fun q h1 h2 => by rw [e1, hk q (Nat.lt_of_lt_of_le h1 hS.1) (fun z => h2 (hA q z))]; exact hS.2.1 q h1 h2, fun q hq => by
      rcases List.mem_append.mp hq with h | h
      · exact hS.2.2 q h
      · exact hA _ (hL q h)⟩
  obtain ⟨t2, a1, b1⟩ := k v m1 hp T'.heap (locs ++ Lo) d' ls hd2 hP1 hS1 hl T' rfl X'
  exact ⟨t2, stp t2 a1, b1⟩
theorem v_callV (C : Cx E w cc own nL R0) {y : MethodName} {bytes : ByteArray} {maxL index n : Nat} {ret : Option FieldType} {rm : Room} {Post : Option Value → Mem → Prop} {st0 : List Value} {q ci : Nat} {Cn : String} {T : u_T} {N : Nat} {fs : List Value} (As : List Value) (hM : MT E.2.1 w y bytes maxL ret rm m (.ref (w.2.2.1 q) :: As) Post) (hq : q < w.2.2.2.1) (he : wE w q (m q) = .inr (ci, fs)) (hc : clsAll[ci]? = some (Cn, T, N)) (hcode : Cond.code y bytes maxL ret ∈ lw_gd) (hini : Cond.initialized y.cls ∈ lw_gd) (hlk : Cond.methodLink own index y ∈ lw_gd) (hcz : rm.cells = 0) (hsz : rm.slots = 0) (hroom : rm.frames + 1 ≤ R0.frames ∧ 8 + (maxL + 11) + rm.locals ≤ R0.locals) (hnm : y.cls ≠ "java/lang/invoke/MethodHandle" ∧ y.cls ≠ "java/lang/invoke/VarHandle" ∧ (parseMethodDescriptor y.desc).map (fun d => d.parameters.length) = some n) (hinst : Cond.instanceMethod y ∈ lw_gd) (hsel : Cond.selects Cn y y ∈ lw_gd) (hn : As.length = n) (hst : st0 = As.reverse ++ .ref (w.2.2.1 q) :: st) (hcat : (st.map fun v => v.category).sum ≤ 8) (hdg : decode cc pc = .ok (.invokevirtual index, 3))
    (k : ∀ (r : Option Value) (m1 : Mem), Post r m1 → V E w nL m1 (pc + 3) L (r.toList ++ st)) : V E w nL m pc L st0 := by
  refine v_after (a := (Value.ref (w.2.2.1 q) :: As).toArray) (fun H locs d0 ls hd hP hS hl => ?_) k
  exact va_runV_D (cs := lw_cs) (nL := nL) (C := Cn) (Ts := lw_gd) (own := own) (n := n) (b := w.2.2.1 q) (As := As) (rest := st) ⟨C.1, C.2.1, C.2.2.1, C.2.2.2.1, dr_words C.2.2.2.2.1 d0⟩ (hM H.size) ⟨(callB_of (Ts := lw_gd) n (dr_words C.2.2.2.2.1 d0) (good_ws hcode) rfl hcz hsz (dr_words C.2.2.2.2.1 d0 _ hini) (dr_words C.2.2.2.2.1 d0 _ hlk) hnm (by rw [C.2.2.2.2.2.2.2.1]; exact hroom)), dr_words C.2.2.2.2.1 d0 _ hinst, dr_words C.2.2.2.2.1 d0 _ hsel⟩
    ⟨BW_blind, va_recv (q := (Cn, T, N)) (va_K.moved (Vm.Alike.refl _) C.2.2.2.2.2.1) hP hc (by rw [wG_get hq, he]), fun U hU hW => ⟨rfl, by rw [hU], by rw [hU]; exact hP, va_K.moved hW.alike C.2.2.2.2.2.1, OX.call C hW hU hS⟩⟩ rfl hn hl.1 hst (lv_room (m := E.2.2.2.2.2.1) (pc := pc) (ls := ls) (rest := st0) hcat) hdg ⟨Nat.zero_le _, Nat.zero_le _⟩
theorem v_callS (C : Cx E w cc own nL R0) {y : MethodName} {bytes : ByteArray} {maxL index n : Nat} {ret : Option FieldType} {rm : Room} {Post : Option Value → Mem → Prop} {st0 : List Value} (As : List Value) (hM : MT E.2.1 w y bytes maxL ret rm m As Post) (hcode : Cond.code y bytes maxL ret ∈ lw_gd) (hini : Cond.initialized y.cls ∈ lw_gd) (hlk : Cond.methodLink own index y ∈ lw_gd) (hcz : rm.cells = 0) (hsz : rm.slots = 0) (hroom : rm.frames + 1 ≤ R0.frames ∧ 8 + (maxL + 11) + rm.locals ≤ R0.locals) (hnm : y.cls ≠ "java/lang/invoke/MethodHandle" ∧ y.cls ≠ "java/lang/invoke/VarHandle" ∧ (parseMethodDescriptor y.desc).map (fun d => d.parameters.length) = some n) (hstat : Cond.static y ∈ lw_gd) (hn : As.length = n) (hst : st0 = As.reverse ++ st) (hcat : (st.map fun v => v.category).sum ≤ 8) (hdg : decode cc pc = .ok (.invokestatic index, 3))
    (k : ∀ (r : Option Value) (m1 : Mem), Post r m1 → V E w nL m1 (pc + 3) L (r.toList ++ st)) : V E w nL m pc L st0 := by
  refine v_after (a := As.toArray) (fun H locs d0 ls hd hP hS hl => ?_) k
  exact va_runS_D (cs := lw_cs) (nL := nL) (Ts := lw_gd) (own := own) (n := n) (As := As) (rest := st) ⟨C.1, C.2.1, C.2.2.1, C.2.2.2.1, dr_words C.2.2.2.2.1 d0⟩ (hM H.size) ⟨(callB_of (Ts := lw_gd) n (dr_words C.2.2.2.2.1 d0) (good_ws hcode) rfl hcz hsz (dr_words C.2.2.2.2.1 d0 _ hini) (dr_words C.2.2.2.2.1 d0 _ hlk) hnm (by rw [C.2.2.2.2.2.2.2.1]; exact hroom)), dr_words C.2.2.2.2.1 d0 _ hstat⟩
    ⟨BW_blind, fun U hU hW => ⟨rfl, by rw [hU], by rw [hU]; exact hP, va_K.moved hW.alike C.2.2.2.2.2.1, OX.call C hW hU hS⟩⟩ rfl hn hl.1 hst (lv_room (m := E.2.2.2.2.2.1) (pc := pc) (ls := ls) (rest := st0) hcat) hdg ⟨Nat.zero_le _, Nat.zero_le _⟩
end VC
