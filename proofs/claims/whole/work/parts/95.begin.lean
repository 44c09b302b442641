/-! the law from its entry to its loop -/
theorem b_astore_n {E : Amb} {D : va_G} {cy : Nat → ClassId} {ad : Nat → Nat} {A : Nat → Prop} {cc : ByteArray} {own : String} {nL cells slots : Nat} {R0 : Room} {ws : va_W} {pc : Nat} {L : List (Nat × Value)} {st : List Value} (C : CB E D cy ad A cc own nL R0) {n : Fin 4} {x : Nat} {L1 : List (Nat × Value)} (hdg : decode cc pc = .ok (.astore_n n, 1)) (hn : (n : Nat) < nL) (hL : ((n : Nat), (.ref x : Value)) :: L.filter (fun q => !(q.1 == (n : Nat)) && !(q.1 + 1 == (n : Nat) && q.2.category == 2)) = L1) (k : VB E D A nL cells slots ws (pc + 1) L1 st) : VB E D A nL cells slots ws pc L (.ref x :: st) := fun H locs ls hP hD hS hl => lv_astore_n C.1 C.2.1 hdg rfl hl hn hL (fun ls1 h1 => k H locs ls1 hP hD hS h1)
def XF (E : Amb) (b Ln : Nat) (xs : Nat → Int32) : Prop := ZQ (fun q => E.2.2.2.2.1.heap.size ≤ q) E.2.2.2.2.1 E.2.2.2.2.1.heap ∧ XWd E.2.2.2.2.1 ∧ E.2.1.stackTraces = false ∧ va_X b Ln xs E.2.2.2.2.1 E.2.2.2.2.1.heap ∧ b < E.2.2.2.2.1.heap.size ∧ Ln ≤ 3072 ∧ E.2.2.2.2.2.2.2.2.1.sig.returnType = ret ∧ E.2.2.2.2.2.2.2.2.1.locks = false ∧ E.2.2.2.2.2.2.1 = #[Value.ref b] ∧ E.2.2.2.2.2.2.2.2.2.2 = lw_Z E.2.2.2.2.2.2.2.1 #[Value.ref b] E.2.2.2.2.1
theorem law_enter {E : Amb} {D : va_G} {cy : Nat → ClassId} {ad : Nat → Nat} {b Ln : Nat} {xs : Nat → Int32} {ce sl : Nat} (C : CB E D cy ad (fun q => E.2.2.2.2.1.heap.size ≤ q) cL_law "StageRatiosLaw" 7 room_1) (F : XF E b Ln xs) {w1 w2 : va_W} {aa ab : Nat → Nat} {ao : Nat} (l1 : w1.length = 83) (l2 : w2.length = 26) (h1 : ∀ k, k < 83 → w1[lw_pl.getD k 0]? = some (aa k, wE (wC D cy aa ad) k (mC0 k))) (h2 : ∀ k, k < 26 → w2[k]? = some (ab k, wE (wR D cy ab ad) k (mR0 k))) (hcs : ce ≤ 111 ∧ sl ≤ 17555) : VB E D (fun q => E.2.2.2.2.1.heap.size ≤ q) 7 ce sl ((w1 ++ w2) ++ [(ao, .inl (cy 1, 1, .inr (.inl (fun _ => lz 0))))]) 20 [(3, .ref ao), (2, .ref (ab 0)), (1, .ref (aa 0)), (0, .ref b)] [] := fun H locs ls hP hD hS hl => by
  obtain ⟨F1, F2, F3, F4, F5, F6, F7, F8, F9, F10⟩ := F
  have hC : ∀ k, k < (wC D cy aa ad).2.2.2.1 → ((w1 ++ w2) ++ [(ao, .inl (cy 1, 1, .inr (.inl (fun _ => lz 0))))] : va_W)[lw_pl.getD k 0]? = some ((wC D cy aa ad).2.2.1 k, wE (wC D cy aa ad) k (mC0 k)) := fun k hk => by
    have := lw_pl83 k hk
    rw [List.getElem?_append_left (by rw [List.length_append]; omega), List.getElem?_append_left (by omega)]; exact h1 k hk
  have hR : ∀ k, k < (wR D cy ab ad).2.2.2.1 → ((w1 ++ w2) ++ [(ao, .inl (cy 1, 1, .inr (.inl (fun _ => lz 0))))] : va_W)[83 + k]? = some ((wR D cy ab ad).2.2.1 k, wE (wR D cy ab ad) k (mR0 k)) := fun k hk => by
    have hk : k < 26 := hk
    rw [List.getElem?_append_left (by rw [List.length_append]; omega), List.getElem?_append_right (by omega), l1, show 83 + k - 83 = k by omega]; exact h2 k hk
  have hO : ((w1 ++ w2) ++ [(ao, .inl (cy 1, 1, .inr (.inl (fun _ => lz 0))))] : va_W)[109]? = some (ao, .inl (cy 1, 1, .inr (.inl (fun _ => lz 0)))) := by
    rw [List.getElem?_append_right (by rw [List.length_append]; omega), List.length_append, l1, l2]; rfl
  have CQ : CQx E (D, cy, aa, ab, ad, ao) b Ln xs cL_law := by
    refine ⟨C.1, C.2.1, C.2.2.1, C.2.2.2.1, C.2.2.2.2.1, C.2.2.2.2.2.1, C.2.2.2.2.2.2.2.1, ⟨pl_I (w := wC D cy aa ad) _ hC (fun i j hi hj e => ?_) hD, pl_I (w := wR D cy ab ad) _ hR (fun i j hi hj e => by omega) hD, fun i j hi hj e => ?_, fun i hi e => ?_, fun j hj e => ?_⟩, ⟨fun i hi => hD.2 _ _ (hC i hi), fun j hj => hD.2 _ _ (hR j hj), hD.2 _ _ hO⟩, C.2.2.2.2.2.2.2.2, F1, F2, F3, F4, F5, F6⟩
    · have a := lw_plor i hi
      have b := lw_plor j hj
      rw [e] at a
      exact a.symm.trans b
    · have := hD.1 _ _ _ _ (hC i hi) (hR j hj) e
      have := lw_pl83 i hi
      omega
    · have := hD.1 _ _ _ _ (hC i hi) hO e
      have := lw_pl83 i hi
      omega
    · have hj : j < 26 := hj
      have := hD.1 _ _ _ _ (hR j hj) hO e
      omega
  have K := law_loop CQ F7 F8 F9 F10 512 0 (mC0, mR0, fun _ => lz 0) ce sl ⟨by omega, by omega⟩ (by omega) lk_0 (by omega)
  have K2 : VQ E (D, cy, aa, ab, ad, ao) ce sl (mC0, mR0, fun _ => lz 0) 20 [(3, .ref ao), (2, .ref (ab 0)), (1, .ref (aa 0)), (0, .ref b)] [] := z_iconst (z := 0) CQ dL_law_20 rfl (z_istore (L1 := Lz (D, cy, aa, ab, ad, ao) b 0) CQ dL_law_21 (by decide) rfl K)
  refine W.base ?_
  exact K2 H locs _ ls (Drawn.sameBut.refl _ _) ⟨pl_P (w := wC D cy aa ad) _ hC hP, pl_P (w := wR D cy ab ad) _ hR hP, fun k q hk => hP 109 q (by rw [one_mem hk]; exact hO)⟩ hS hl
set_option maxRecDepth 100000 in
set_option maxHeartbeats 8000000 in
theorem law_begin {E : Amb} {D : va_G} {cy : Nat → ClassId} {ad : Nat → Nat} {b Ln : Nat} {xs : Nat → Int32} (C : CB E D cy ad (fun q => E.2.2.2.2.1.heap.size ≤ q) cL_law "StageRatiosLaw" 7 room_1) (F : XF E b Ln xs) : VB E D (fun q => E.2.2.2.2.1.heap.size ≤ q) 7 0 0 [] 0 [(0, .ref b)] [] := by
  refine b_new (fs := [.null, .null, .null, .null, .null, .null, .null, .null, .null, .null, .null, .null, .null, .null, .null, .int (iz 0), .int (iz 0), .int (iz 0), .int (iz 0), .int (iz 0)]) (ci := 10) C inX10 tyX10 tyX10_ok qw22 qw23 qw1 rfl (by decide +kernel) ⟨Nat.le_of_ble_eq_true rfl, Nat.le_of_ble_eq_true rfl⟩ dL_law_0 (fun a0 => ?_)
  refine b_dup C dL_law_3 rfl ?_
  refine b_init (cells := 1) (slots := 20) (wr := []) (e0 := .inr (10, [.null, .null, .null, .null, .null, .null, .null, .null, .null, .null, .null, .null, .null, .null, .null, .int (iz 0), .int (iz 0), .int (iz 0), .int (iz 0), .int (iz 0)])) (a := a0) (n := 0) (st := [.ref a0]) C [] (ct_StageRatios_init (hq := trivial) a0) qw26 qw1 qw24 qw25 rfl ⟨rfl, rfl⟩ ⟨Nat.le_of_ble_eq_true rfl, Nat.le_of_ble_eq_true rfl⟩ ⟨Nat.le_of_ble_eq_true rfl, Nat.le_of_ble_eq_true rfl⟩ (by decide +kernel) rfl rfl (Nat.le_of_ble_eq_true rfl) dL_law_4 (fun w1 hw1 => ?_)
  refine b_astore_n (L1 := [(1, .ref a0), (0, .ref b)]) C dL_law_7 (by decide) rfl ?_
  refine b_new (fs := [.int (iz 0), .int (iz 0), .int (iz 0), .null, .null, .null, .null, .null, .int (iz 0), .int (iz 0), .int (iz 0), .int (iz 0), .int (iz 0), .int (iz 0), .int (iz 0), .int (iz 0), .int (iz 0), .int (iz 0), .int (iz 0), .int (iz 0), .int (iz 0), .null, .null, .int (iz 0), .null, .int (iz 0), .int (iz 0), .int (iz 0), .int (iz 0), .int (iz 0), .int (iz 0), .int (iz 0), .long (lz 0), .null, .int (iz 0), .null, .null, .int (iz 0), .int (iz 0), .null, .null, .null, .null, .int (iz 0), .int (iz 0), .int (iz 0), .int (iz 0), .null, .null, .null, .null, .int (iz 0), .null, .null, .null, .null, .null, .null, .int (iz 0), .int (iz 0), .int (iz 0)]) (ci := 11) C inX11 tyX11 tyX11_ok qw1134 qw1135 qw16 rfl (by decide +kernel) ⟨Nat.le_of_ble_eq_true rfl, Nat.le_of_ble_eq_true rfl⟩ dL_law_8 (fun b0 => ?_)
  refine b_dup C dL_law_11 rfl ?_
  refine b_init (cells := 84) (slots := 7675) (wr := [] ++ w1) (e0 := .inr (11, [.int (iz 0), .int (iz 0), .int (iz 0), .null, .null, .null, .null, .null, .int (iz 0), .int (iz 0), .int (iz 0), .int (iz 0), .int (iz 0), .int (iz 0), .int (iz 0), .int (iz 0), .int (iz 0), .int (iz 0), .int (iz 0), .int (iz 0), .int (iz 0), .null, .null, .int (iz 0), .null, .int (iz 0), .int (iz 0), .int (iz 0), .int (iz 0), .int (iz 0), .int (iz 0), .int (iz 0), .long (lz 0), .null, .int (iz 0), .null, .null, .int (iz 0), .int (iz 0), .null, .null, .null, .null, .int (iz 0), .int (iz 0), .int (iz 0), .int (iz 0), .null, .null, .null, .null, .int (iz 0), .null, .null, .null, .null, .null, .null, .int (iz 0), .int (iz 0), .int (iz 0)])) (a := b0) (n := 0) (st := [.ref b0]) C [] (ct_StageRatiosModel_init (hq := trivial) b0) qw1138 qw16 qw1136 qw1137 rfl ⟨rfl, rfl⟩ ⟨Nat.le_of_ble_eq_true rfl, Nat.le_of_ble_eq_true rfl⟩ ⟨Nat.le_of_ble_eq_true rfl, Nat.le_of_ble_eq_true rfl⟩ (by decide +kernel) rfl rfl (Nat.le_of_ble_eq_true rfl) dL_law_12 (fun w2 hw2 => ?_)
  refine b_astore_n (L1 := [(2, .ref b0), (1, .ref a0), (0, .ref b)]) C dL_law_15 (by decide) rfl ?_
  refine b_iconst (z := 1) C dL_law_16 rfl ?_
  refine b_newa (atype := .long) (a0 := (1, .inr (.inl (fun _ => lz 0)))) C 1 rfl (fun _ h => by cases h) qw169 rfl (fun _ => rfl) (by decide) rfl (by decide) ⟨Nat.le_of_ble_eq_true rfl, Nat.le_of_ble_eq_true rfl⟩ dL_law_17 (fun ao => ?_)
  refine b_astore_n (L1 := [(3, .ref ao), (2, .ref b0), (1, .ref a0), (0, .ref b)]) C dL_law_19 (by decide) rfl ?_
  obtain ⟨q1, g2, q3, g4, f5, f6, q7, g8, g9, g10, q11, g12, g13, g14, q15, g16, g17, g18, q19, g20, g21, g22, q23, g24, g25, g26, g27, q28, g29, g30, g31, g32, g33, g34, g35, q36, g37, g38, g39, g40, g41, g42, g43, g44, g45, g46, g47, g48, g49, g50, q51, g52, g53, g54, g55, g56, g57, g58, g59, g60, g61, q62, g63, g64, g65, g66, g67, g68, g69, g70, g71, g72, q73, g74, g75, g76, g77, q78, g79, g80, g81, g82, rfl⟩ := hw1
  obtain ⟨f1, f2, f3, f4, f5, f6, f7, f8, f9, f10, f11, f12, f13, f14, f15, f16, f17, f18, f19, f20, f21, f22, f23, f24, f25, rfl⟩ := hw2
  exact law_enter (ce := 110) (sl := 12429) (b := b) (ao := ao) C F rfl rfl (lw_wsC a0 q1 g2 q3 g4 f5 f6 q7 g8 g9 g10 q11 g12 g13 g14 q15 g16 g17 g18 q19 g20 g21 g22 q23 g24 g25 g26 g27 q28 g29 g30 g31 g32 g33 g34 g35 q36 g37 g38 g39 g40 g41 g42 g43 g44 g45 g46 g47 g48 g49 g50 q51 g52 g53 g54 g55 g56 g57 g58 g59 g60 g61 q62 g63 g64 g65 g66 g67 g68 g69 g70 g71 g72 q73 g74 g75 g76 g77 q78 g79 g80 g81 g82) (lw_wsR b0 f1 f2 f3 f4 f5 f6 f7 f8 f9 f10 f11 f12 f13 f14 f15 f16 f17 f18 f19 f20 f21 f22 f23 f24 f25) ⟨by decide, by decide⟩
