/-! weak of the law: it catches what the class throws -/
theorem dlw_0 : decode method_3_code 0 = .ok (.aload_n 2, 1) := by decide +kernel
theorem dlw_1 : decode method_3_code 1 = .ok (.iconst 0, 1) := by decide +kernel
theorem dlw_2 : decode method_3_code 2 = .ok (.aload_n 0, 1) := by decide +kernel
theorem dlw_3 : decode method_3_code 3 = .ok (.iload_n 1, 1) := by decide +kernel
theorem dlw_4 : decode method_3_code 4 = .ok (.invokevirtual 7, 3) := by decide +kernel
theorem dlw_7 : decode method_3_code 7 = .ok (.i2l, 1) := by decide +kernel
theorem dlw_8 : decode method_3_code 8 = .ok (.lastore, 1) := by decide +kernel
theorem dlw_9 : decode method_3_code 9 = .ok (.goto 6, 3) := by decide +kernel
theorem dlw_12 : decode method_3_code 12 = .ok (.astore_n 3, 1) := by decide +kernel
theorem dlw_13 : decode method_3_code 13 = .ok (.iconst 1, 1) := by decide +kernel
theorem dlw_14 : decode method_3_code 14 = .ok (.ireturn, 1) := by decide +kernel
theorem dlw_15 : decode method_3_code 15 = .ok (.iconst 0, 1) := by decide +kernel
theorem dlw_16 : decode method_3_code 16 = .ok (.ireturn, 1) := by decide +kernel
abbrev ylw : MethodName := ({ cls := "StageRatiosLaw", name := "weak", desc := "(LStageRatios;I[J)I" } : Jvm.MethodName)
/-- the law's own row of one long -/
abbrev eO (cy : Nat → ClassId) (f : Nat → Int64) : va_E := .inl (cy 1, 1, .inr (.inl f))
def AL (w : Wd) (sz ao : Nat) : Nat → Prop := fun q => wA w sz q ∨ q = ao
def BL (w : Wd) (sz : Nat) (m : Mem) (ao : Nat) (f : Nat → Int64) : State → Prop := fun U => BX w sz m U ∧ va_P w.1 clsAll [(ao, eO w.2.1 f)] U.heap
def QL (w : Wd) (sz ao : Nat) (P : Int → Mem → (Nat → Int64) → Prop) : Array Value → State → Outcome → State → Prop := fun _ st oc t => (∃ (z : Int) (m' : Mem) (f : Nat → Int64), oc = .returned (some (.int (iz z))) ∧ P z m' f ∧ va_P w.1 clsAll (wG w m') t.heap ∧ va_P w.1 clsAll [(ao, eO w.2.1 f)] t.heap) ∧ va_F (AL w sz ao) st t
theorem wG_len (w : Wd) (m : Mem) : (wG w m).length = w.2.2.2.1 := by unfold wG; rw [List.length_map, List.length_range]
theorem wG_mem {w : Wd} {m : Mem} {k : Nat} {q : Nat × va_E} (h : (wG w m)[k]? = some q) : k < w.2.2.2.1 ∧ q.1 = w.2.2.1 k := by
  by_cases c : k < w.2.2.2.1
  · rw [wG_get c] at h; cases h; exact ⟨c, rfl⟩
  · simp [wG, c] at h
theorem set_app {α : Type} (l : List α) (x y : α) : (l ++ [x]).set l.length y = l ++ [y] := by simp
theorem get_app {α : Type} (l : List α) (x : α) : (l ++ [x])[l.length]? = some x := by simp
def lwP (m : Mem) (kf k : Nat) (i z : Int) (m' : Mem) (f : Nat → Int64) : Prop := ((z = 0 ∧ ∃ r : Int, f 0 = lz r ∧ 0 ≤ r ∧ r ≤ 2 ∧ qWek (m 0 15) (m kf) (m k) (m 5) i r) ∨ (z = 1 ∧ qWek (m 0 15) (m kf) (m k) (m 5) i (-1))) ∧ ∀ q, (q < 15 ∨ 73 ≤ q) → m' q = m q
theorem BL_blind {w : Wd} {sz : Nat} {m : Mem} {ao : Nat} {f : Nat → Int64} {av : List Value} : FrameBlind (va_Pc av (BL w sz m ao f)) := fun a U g mk q => ⟨q.1, (BX_blind (av := av) a U g mk ⟨q.1, q.2.1⟩).2, q.2.2⟩
set_option maxHeartbeats 4000000 in
set_option maxRecDepth 100000 in
theorem ct_lweak {lau : Launch} (hst : lau.stackTraces = false) {D : va_G} {cy : Nat → ClassId} {aa ad : Nat → Nat} (hI : wI (wC D cy aa ad)) (m : Mem) (k kf ks kt kc : Nat) (i : Int) (hci : CI m k kf ks kt kc) (hi : -2147483648 ≤ i ∧ i ≤ 2147483647) (ao : Nat) (hao : ∀ j, j < 83 → aa j ≠ ao) (f : Nat → Int64) (sz : Nat) :
    Met lau ylw (Cond.codeWith ylw method_3_code 4 (some .int) [(0, 9, 12, 13)] :: lw_gd) ({ frames := 7, cells := 1, slots := 6, locals := 137 } : Room) (va_Pc [.ref (aa 0), .int (iz i), .ref ao] (BL (wC D cy aa ad) sz m ao f))
      (QL (wC D cy aa ad) sz ao (lwP m kf k i)) 1 6 (AL (wC D cy aa ad) sz ao) := by
  refine va_MetW (cc := method_3_code) (maxL := 4) (ret := some .int) (hh := [(0, 9, 12, 13)]) (by decide) rfl ?_
  intro p e s mid args below meth c s₁ B hml hv
  obtain ⟨rfl, ⟨⟨hsz, hP, hK, hO⟩, hZ, hXW⟩, hPo⟩ := hv
  subst hsz
  have hts := atoms_spec (ws := (Cond.codeWith ylw method_3_code 4 (some .int) [(0, 9, 12, 13)] :: lw_gd)) B.pre
  have hts2 : ∀ q ∈ lw_gd, q.before [Value.ref (aa 0), .int (iz i), .ref ao].toArray s = true := fun q h => hts q (List.mem_cons_of_mem _ h)
  have hown : s.vm.findClass "StageRatiosLaw" = some mid.cls := findClass_of_methodNamed B.named
  have htab := vx_table (x := ylw) B (hts _ List.mem_cons_self)
  have hl := lv_entry [Value.ref (aa 0), .int (iz i), .ref ao] (n := 4) (Nat.le_of_ble_eq_true rfl)
  rw [lg_entry_eq]
  generalize (lg_sl ([.ref (aa 0), .int (iz i), .ref ao]) ++ List.replicate (4 - (lg_sl ([.ref (aa 0), .int (iz i), .ref ao])).length) Slot.unset).toArray = ls at hl ⊢
  have hl : lv_has ls 4 [(0, .ref (aa 0)), (1, .int (iz i)), (2, .ref ao)] := hl
  have hx := B.exec
  have hb := B.bytes
  have haoL : ao < s.heap.size := (hPo 0 _ rfl).lt
  have hDo : ∀ m1 : Mem, va_D (AL (wC D cy aa ad) s.heap.size ao) (wG (wC D cy aa ad) m1 ++ [(ao, eO cy f)]) := fun m1 => by
    refine va_D.app ((wD hI s.heap.size m1).weaken fun _ _ _ h => Or.inl h) ⟨fun a b x y h1 h2 _ => ?_, fun a x h1 => ?_⟩ (fun a b x y h1 h2 => ?_)
    · have ha := (List.getElem?_eq_some_iff.mp h1).1
      have hb2 := (List.getElem?_eq_some_iff.mp h2).1
      simp at ha hb2; omega
    · have ha := (List.getElem?_eq_some_iff.mp h1).1
      simp at ha; subst ha; cases h1; exact Or.inr rfl
    · have ha := (List.getElem?_eq_some_iff.mp h2).1
      simp at ha; subst ha; cases h2
      rw [(wG_mem h1).2]; exact hao a (wG_mem h1).1
  refine lv_aload_n hx hb dlw_0 rfl (lv_at hl 2 rfl) ?_
  refine lv_iconst (v := iz 0) hx hb dlw_1 rfl ?_
  refine lv_aload_n hx hb dlw_2 rfl (lv_at hl 0 rfl) ?_
  refine lv_iload_n hx hb dlw_3 rfl (lv_at hl 1 rfl) ?_
  have hrun := vx_runV (cells := 0) (slots := 0) (locs := []) (H := s.heap) (nL := 4) (C := RX10) (Ts := lw_gd) (own := "StageRatiosLaw") (n := 1) (b := aa 0) (As := [.int (iz i)]) (rest := [.int (iz 0), .ref ao]) (l := lau) (e := e) (below := below) (meth := meth) (g := F0 mid 4 ls [.int (iz i), .ref (aa 0), .int (iz 0), .ref ao]) ⟨hx, hb, hml, hown, hts2⟩ (ct_weak hst hI m k kf ks kt kc i hci hi s.heap.size) (R := ({ frames := 7, cells := 1, slots := 6, locals := 137 } : Room)) ⟨callB_of (Ts := lw_gd) 1 hts2 (good_ws qw1068) rfl rfl rfl (hts2 _ qw1) (hts2 _ qw1065) (by decide +kernel) ⟨Nat.le_of_ble_eq_true rfl, Nat.le_of_ble_eq_true rfl⟩, hts2 _ qw1066, hts2 _ qw1067⟩
    ⟨BX_blind, va_recv (q := (RX10, TX10, 20)) hK hP rfl (by rw [wG_get lC0, eC0]), fun U hU hW => ⟨rfl, ⟨by rw [hU], by rw [hU]; exact hP, va_K.moved hW.alike hK, by rw [hU]; exact OX.to hO hW (fun a h1 h2 => rfl) (fun q hq => hq)⟩, by rw [hU]; exact ZQ.moved hW.alike hZ, XWd.moved hW.alike hXW⟩⟩ rfl rfl hl.1 rfl (lv_room (Nat.le_of_ble_eq_true rfl)) dlw_4 ⟨Nat.le_of_ble_eq_true rfl, Nat.le_of_ble_eq_true rfl⟩
  intro T hT X
  rcases hrun T hT X with ⟨v, st₀, t, T', Lo, h0, X', hL, e1, e2, ⟨⟨r, m1, hv, ⟨z, rfl, hz0, hz2, hqw, hfr⟩, hP1⟩, hz, hk⟩, stp⟩ | ⟨q9, st₀, t, T', Lo, En, ce, h0, X', hL, e1, e2, ⟨rfl, ⟨m1, ⟨hqw, hfr⟩, hP1⟩, hz, hk⟩, hce, hcv, hcl, stp⟩
  · cases hv
    rw [h0] at hz hk
    rw [← e1] at hz hk hP1
    have hS1 : va_S (AL (wC D cy aa ad) s.heap.size ao) s.heap T'.heap ([] ++ Lo) := ⟨hz, fun q h1 h2 => hk q h1 (fun h => h2 (Or.inl h)), fun q hq => Or.inl (hL q hq)⟩
    have hPo1 : va_P D clsAll [(ao, eO cy f)] T'.heap := hPo.kept (fun a x h1 => by
      have ha := (List.getElem?_eq_some_iff.mp h1).1
      simp at ha; subst ha; cases h1
      exact hk ao haoL (fun h => h.elim (fun ⟨j, hj, e⟩ => hao j hj e.symm) (fun h => by omega)))
    have hP2 := hP1.app hPo1
    have go : W p lau e ({ frames := 7, cells := 1, slots := 6, locals := 137 } : Room) s mid [Value.ref (aa 0), .int (iz i), .ref ao].toArray below meth c T'.heap ([] ++ Lo) (0 + 1) (0 + 6) (MQ below (QL (wC D cy aa ad) s.heap.size ao (lwP m kf k i)) [Value.ref (aa 0), .int (iz i), .ref ao].toArray s 1 6 (AL (wC D cy aa ad) s.heap.size ao)) (F0 mid 7 ls [.int (iz z), .int (iz 0), .ref ao]) := by
      refine lv_i2l hx hb dlw_7 (iz_l ⟨by omega, by omega⟩) ?_
      refine va_last hx hb hK hP2 (hDo m1) hS1 83 1 (cA := cy 1) (n := 1) (f := f) (by have := get_app (wG (wC D cy aa ad) m1) (ao, eO cy f); rw [wG_len] at this; exact this) rfl (iz_in (by decide) (by decide) (by decide)) dlw_8 (fun H1 locs1 hP3 hD3 hS3 => ?_)
      have hset := set_app (wG (wC D cy aa ad) m1) (ao, eO cy f) (ao, eO cy (vp_updL f (iz 0).toNatClampNeg (lz z)))
      rw [wG_len] at hset
      rw [show (wG (wC D cy aa ad) m1 ++ [(ao, eO cy f)]).set 83 (ao, eO cy (vp_updL f (iz 0).toNatClampNeg (lz z))) = _ from hset] at hP3
      refine lv_goto (tgt := 15) hx hb dlw_9 (by decide) ?_
      refine lv_iconst (v := iz 0) hx hb dlw_15 rfl ?_
      refine W.iret (v := iz 0) hx hb B.returns (fun t2 ht hW => ⟨⟨0, m1, vp_updL f (iz 0).toNatClampNeg (lz z), rfl, ⟨Or.inl ⟨rfl, z, rfl, hz0, hz2, hqw⟩, hfr⟩, ?_, ?_⟩, hS3.F ht⟩) hS3.2.2 dlw_16
      · rw [ht]
        exact fun a x h1 => hP3 a x (by rw [List.getElem?_append_left (List.getElem?_eq_some_iff.mp h1).1]; exact h1)
      · rw [ht]
        refine fun a x h1 => hP3 83 x ?_
        have ha := (List.getElem?_eq_some_iff.mp h1).1
        simp at ha; subst ha
        have := get_app (wG (wC D cy aa ad) m1) (ao, eO cy (vp_updL f (iz 0).toNatClampNeg (lz z)))
        rw [wG_len] at this
        exact this.trans h1
    obtain ⟨t2, a1, b1⟩ := go T' rfl X'
    exact ⟨t2, stp t2 a1, b1⟩
  · rw [h0] at hz hk
    rw [← e1] at hz hk hP1 hce
    have hS1 : va_S (AL (wC D cy aa ad) s.heap.size ao) s.heap T'.heap ([] ++ Lo) := ⟨hz, fun q h1 h2 => hk q h1 (fun h => h2 (Or.inl h)), fun q hq => Or.inl (hL q hq)⟩
    have hPo1 : va_P D clsAll [(ao, eO cy f)] T'.heap := hPo.kept (fun a x h1 => by
      have ha := (List.getElem?_eq_some_iff.mp h1).1
      simp at ha; subst ha; cases h1
      exact hk ao haoL (fun h => h.elim (fun ⟨j, hj, e⟩ => hao j hj e.symm) (fun h => by omega)))
    have go : vx_W p lau e ({ frames := 7, cells := 1, slots := 6, locals := 137 } : Room) s mid [Value.ref (aa 0), .int (iz i), .ref ao].toArray below meth c T'.heap ([] ++ Lo) (0 + 1) (0 + 6) (MQ below (QL (wC D cy aa ad) s.heap.size ao (lwP m kf k i)) [Value.ref (aa 0), .int (iz i), .ref ao].toArray s 1 6 (AL (wC D cy aa ad) s.heap.size ao)) (F0 mid 4 ls [.int (iz 0), .ref ao]) q9 := by
      refine vx_catch (own := "StageRatiosLaw") (name := "java/util/NoSuchElementException") (E := "java/util/NoSuchElementException") hown [] ⟨0, 9, 12, 13⟩ [] htab (fun z hz => by cases hz) (by decide) (by decide) (hts2 _ qw1064) (va_any rfl (hXW _ (by decide +kernel))) hce hcv hcl ?_
      refine lv_astore_n hx hb dlw_12 rfl hl (by decide) (show _ = [(3, Value.ref q9), (0, .ref (aa 0)), (1, .int (iz i)), (2, .ref ao)] from rfl) (fun ls1 h1 => ?_)
      refine lv_iconst (v := iz 1) hx hb dlw_13 rfl ?_
      exact W.iret (v := iz 1) hx hb B.returns (fun t2 ht hW => ⟨⟨1, m1, f, rfl, ⟨Or.inr ⟨rfl, hqw⟩, hfr⟩, by rw [ht]; exact hP1, by rw [ht]; exact hPo1⟩, hS1.F ht⟩) hS1.2.2 dlw_14
    obtain ⟨t2, a1, b1⟩ := go T' rfl X'
    exact ⟨t2, stp.trans a1, b1⟩
