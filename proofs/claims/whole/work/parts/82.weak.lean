/-! weak: the class's, that throws; the law's, that catches -/
def XW0 : List Cond := [.declares (Bundle.init0 "java/lang/RuntimeException"), .declares (Bundle.init0 "java/lang/Exception"), .declares (Bundle.init0 "java/lang/Throwable"), .castable "java/util/NoSuchElementException" "java/util/NoSuchElementException"]
theorem xw_in : ∀ w ∈ (vx_at0 RX10 339 "java/util/NoSuchElementException" ["java/lang/RuntimeException", "java/lang/Exception"]).filter goodWord, w ∈ lw_gd := fun w hw => by
  have h := goodIn_r (big := tables_1) ((vx_at0 RX10 339 "java/util/NoSuchElementException" ["java/lang/RuntimeException", "java/lang/Exception"]).filter goodWord) [18, 1095, 1104, 1106, 1109, 1111, 1096, 1097, 28, 29, 1098, 1103, 1107, 1123, 1085, 1124, 1087, 1125, 1089, 1099, 1101, 1091, 1113, 1114, 1115, 1116, 1116, 1117, 1118, 1119, 1119, 1120, 1121, 1096, 1112, 1074, 1082, 1083, 1084, 1086, 1088, 1090, 1094, 1093, 1092] (by decide +kernel) (by decide +kernel) w hw
  exact lw_gdi (List.mem_append_right _ h.1) (List.mem_filter.mp hw).2
theorem xw_no : (vx_at0 RX10 339 "java/util/NoSuchElementException" ["java/lang/RuntimeException", "java/lang/Exception"]).filter (fun w => !goodWord w) = XW0 := by decide +kernel
/-- the words of a throw that warm tables don't keep by themselves -/
def XWd (U : State) : Prop := ∀ w ∈ XW0, w.before #[] U = true
theorem XWd.moved {u U : State} (hvm : u.vm.Alike U.vm) (h : XWd u) : XWd U := fun w hw => by
  have h0 := h w hw
  have hot : w.onTables = true := List.all_eq_true.mp (show XW0.all (fun w => w.onTables) = true by decide +kernel) w hw
  have h1 : w.before #[] (u.setVm U.vm) = true := by
    rcases List.mem_cons.mp hw with e | hw
    · subst e; rw [Cond.declares_setVm hvm]; exact h0
    rcases List.mem_cons.mp hw with e | hw
    · subst e; rw [Cond.declares_setVm hvm]; exact h0
    rcases List.mem_cons.mp hw with e | hw
    · subst e; rw [Cond.declares_setVm hvm]; exact h0
    rcases List.mem_cons.mp hw with e | hw
    · subst e; rw [Cond.castable_setVm hvm]; exact h0
    · cases hw
  have e := Cond.onTables_vm (A := #[]) (A' := #[]) (U := u) (U' := U) U.vm w hot
  have hU : U.setVm U.vm = U := rfl
  rw [hU] at e
  rw [← e]; exact h1
theorem xw_ot : ∀ w ∈ Cond.classLink RX10 337 "java/util/NoSuchElementException" :: Cond.initialized "java/util/NoSuchElementException" :: vx_at0 RX10 339 "java/util/NoSuchElementException" ["java/lang/RuntimeException", "java/lang/Exception"], vx_ot w = true := List.all_eq_true.mp (by decide +kernel)
/-- Throwable's two statics lie outside -/
def ZQ (A : Nat → Prop) (U : State) (H : Heap) : Prop := vx_Zq Bundle.tN "UNASSIGNED_STACK" Bundle.steD A U H ∧ vx_Zq Bundle.tN "SUPPRESSED_SENTINEL" Bundle.listD A U H
theorem ZQ.moved {A : Nat → Prop} {u U : State} {H : Heap} (hvm : u.vm.Alike U.vm) (h : ZQ A u H) : ZQ A U H := ⟨vx_Zq.moved hvm h.1, vx_Zq.moved hvm h.2⟩
theorem ZQ.kept {A : Nat → Prop} {U : State} {H H1 : Heap} (h : ZQ A U H) (hq : ∀ a : Nat, a < H.size → ¬ A a → H1[a]? = H[a]?) : ZQ A U H1 := ⟨vx_Zq.kept h.1 hq, vx_Zq.kept h.2 hq⟩
theorem ZQ.narrow {A B : Nat → Prop} {U : State} {H : Heap} (h : ZQ A U H) (hAB : ∀ q, B q → A q) : ZQ B U H := ⟨vx_Zq.narrow h.1 hAB, vx_Zq.narrow h.2 hAB⟩
def BX (w : Wd) (sz : Nat) (m : Mem) : State → Prop := fun U => BW w sz m U ∧ ZQ (wA w sz) U U.heap ∧ XWd U
theorem BX_blind {w : Wd} {sz : Nat} {m : Mem} {av : List Value} : FrameBlind (va_Pc av (BX w sz m)) := fun a U g mk q => ⟨q.1, (BW_blind (av := av) a U g mk ⟨q.1, q.2.1⟩).2, ZQ.moved (u := U) (U := U.calling g mk a) (Vm.Alike.refl U.vm) q.2.2.1, XWd.moved (u := U) (U := U.calling g mk a) (Vm.Alike.refl U.vm) q.2.2.2⟩
/-- weak of the class throws where nothing is found -/
def XWk (w : Wd) (sz : Nat) (P : Mem → Prop) : String → State → State → Prop := fun E st t => E = "java/util/NoSuchElementException" ∧ (∃ m' : Mem, P m' ∧ va_P w.1 clsAll (wG w m') t.heap) ∧ va_F (wA w sz) st t
theorem ct_weak {lau : Launch} (hst : lau.stackTraces = false) {D : va_G} {cy : Nat → ClassId} {aa ad : Nat → Nat} (hI : wI (wC D cy aa ad)) (m : Mem) (k kf ks kt kc : Nat) (i : Int) (hci : CI m k kf ks kt kc) (hi : -2147483648 ≤ i ∧ i ≤ 2147483647) (sz : Nat) :
    vx_Met lau yX10_weak (ws_ yX10_weak cX10_weak 3 (some .int)) ({ frames := 6, cells := 1, slots := 6, locals := 115 } : Room) (va_Pc [.ref (aa 0), .int (iz i)] (BX (wC D cy aa ad) sz m))
      (QW (wC D cy aa ad) sz (Pi fun z m' => 0 ≤ z ∧ z ≤ 2 ∧ qWek (m 0 15) (m kf) (m k) (m 5) i z ∧ ∀ q, (q < 15 ∨ 73 ≤ q) → m' q = m q)) (XWk (wC D cy aa ad) sz fun m' => qWek (m 0 15) (m kf) (m k) (m 5) i (-1) ∧ ∀ q, (q < 15 ∨ 73 ≤ q) → m' q = m q) 1 6 (wA (wC D cy aa ad) sz) := by
  refine vx_ofW (cc := cX10_weak) (maxL := 3) (ret := some .int) (by decide) rfl ?_
  intro p e s mid args below meth c s₁ B hml htb hv
  obtain ⟨rfl, ⟨hsz, hP, hK, hO⟩, hZ, hXW⟩ := hv
  subst hsz
  have hts := atoms_spec (ws := (ws_ yX10_weak cX10_weak 3 (some .int))) B.pre
  have hts2 : ∀ q ∈ lw_gd, q.before [Value.ref (aa 0), .int (iz i)].toArray s = true := fun q h => hts q (List.mem_cons_of_mem _ h)
  have hown : s.vm.findClass RX10 = some mid.cls := findClass_of_methodNamed B.named
  have hl := lv_entry [Value.ref (aa 0), .int (iz i)] (n := 3) (Nat.le_of_ble_eq_true rfl)
  rw [lg_entry_eq]
  obtain ⟨E, hE⟩ : ∃ E : Amb, E = (p, lau, e, (headSpec (ws_ yX10_weak cX10_weak 3 (some .int)) ({ frames := 6, cells := 1, slots := 6, locals := 115 } : Room)).room, s, mid, [Value.ref (aa 0), .int (iz i)].toArray, below, meth, c, vx_MQ below (QW (wC D cy aa ad) s.heap.size (Pi fun z m' => 0 ≤ z ∧ z ≤ 2 ∧ qWek (m 0 15) (m kf) (m k) (m 5) i z ∧ ∀ q, (q < 15 ∨ 73 ≤ q) → m' q = m q)) (XWk (wC D cy aa ad) s.heap.size fun m' => qWek (m 0 15) (m kf) (m k) (m 5) i (-1) ∧ ∀ q, (q < 15 ∨ 73 ≤ q) → m' q = m q) [Value.ref (aa 0), .int (iz i)].toArray s 1 6 (wA (wC D cy aa ad) s.heap.size)) := ⟨_, rfl⟩
  have C : Cx E (wC D cy aa ad) cX10_weak RX10 3 ({ frames := 6, cells := 1, slots := 6, locals := 115 } : Room) := by rw [hE]; exact ⟨B.exec, B.bytes, hml, hown, hts2, hK, hI, rfl, hO⟩
  have key : V0 E (wC D cy aa ad) 3 m 0 [(0, .ref (aa 0)), (1, .int (iz i))] [] := by
    refine u0_aload_n C 0 dX10_weak_0 rfl ?_
    refine u0_iload_n C 1 dX10_weak_1 rfl ?_
    refine u0_callV (st := []) (n := 1) (q := 0) C [.int (iz i)] (c0_StageRatios_weakest C.2.2.2.2.2.2.1 m k kf ks kt kc i hci hi) lC0 (eC0 _) rfl qw1072 qw1 qw1069 rfl rfl ⟨Nat.le_of_ble_eq_true rfl, Nat.le_of_ble_eq_true rfl⟩ (by decide +kernel) qw1071 qp34 rfl rfl (Nat.le_of_ble_eq_true rfl) dX10_weak_2 (fun r m1 hq1 => ?_)
    obtain ⟨z2, rfl, hq2, hm2⟩ := hq1
    show V0 E (wC D cy aa ad) 3 m1 5 [(0, .ref (aa 0)), (1, .int (iz i))] [.int (iz z2)]
    refine u0_istore_n (L1 := [(2, .int (iz z2)), (0, .ref (aa 0)), (1, .int (iz i))]) C dX10_weak_5 (by decide) rfl ?_
    refine u0_iload_n C 0 dX10_weak_6 rfl ?_
    refine u0_if_ge (tgt := 18) C dX10_weak_7 (by decide) (by omega) (fun c3 => ?_) (fun c3 => ?_)
    · refine u0_iload_n C 0 dX10_weak_18 rfl ?_
      intro H locs ls hP hS hl
      subst hE
      refine W.widen (k := 1) (n := 6) (by omega) (by omega) ?_
      refine vx_ret ?_
      exact W.iret (v := iz z2) B.exec B.bytes B.returns (fun t ht hW => ⟨⟨_, m1, rfl, ⟨z2, rfl, c3, hq2.2.2, hq2.1, hm2⟩, by rw [ht]; exact hP⟩, hS.F ht⟩) hS.2.2 dX10_weak_19
    · intro H locs ls hP hS hl
      have hz : z2 = -1 := by omega
      rw [hz] at hq2
      subst hE
      exact vx_throw0 (cc := cX10_weak) (pc := 10) (A := wA (wC D cy aa ad) s.heap.size) (own := RX10) (cls := "java/util/NoSuchElementException") (names := ["java/lang/RuntimeException", "java/lang/Exception"]) (ik := 337) (ic := 339) B.exec B.bytes hst hown (by decide +kernel) (by decide +kernel) (hts2 _ qw1073) (hts2 _ qw21) (vx_hat (fun w hw => hts2 w (xw_in w hw)) (fun w hw => by rw [xw_no] at hw; exact hw) (fun w hw => va_any (List.all_eq_true.mp (show XW0.all (fun w => w.onTables) = true by decide +kernel) w hw) (hXW w hw))) xw_ot hZ.1 hZ.2 hS (hl.1.trans hml.symm)
        dX10_weak_10 dX10_weak_13 dX10_weak_14 dX10_weak_17 (fun x hx => (htb x hx).elim) (Nat.le_of_ble_eq_true rfl) (Nat.le_of_ble_eq_true rfl) (Nat.le_of_ble_eq_true rfl) (Nat.le_of_ble_eq_true rfl) B.notSynchronized
        (fun t hvm hsz hq => ⟨rfl, ⟨m1, ⟨hq2.1, hm2⟩, hP.kept (fun k x hx => hq x.1 ((hP k x hx).lt))⟩, ⟨Nat.le_trans hS.1 hsz, fun q h1 h2 => (hq q (Nat.lt_of_lt_of_le h1 hS.1)).trans (hS.2.1 q h1 h2)⟩⟩)
        hS.2.2 (by decide) (by decide)
  subst hE
  exact key s.heap [] _ hP va_S.rf hl