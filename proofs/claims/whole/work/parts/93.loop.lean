/-! the law's loop -/
theorem law_ret {E : Amb} {zl : Lw} {b Ln : Nat} {xs : Nat → Int32} {ce sl : Nat} {m : Mq} {L : List (Nat × Value)} (C : CQx E zl b Ln xs cL_law) (hr : E.2.2.2.2.2.2.2.2.1.sig.returnType = ret) (hlk : E.2.2.2.2.2.2.2.2.1.locks = false) (hargs : E.2.2.2.2.2.2.1 = #[Value.ref b]) (hQ : E.2.2.2.2.2.2.2.2.2.2 = lw_Z E.2.2.2.2.2.2.2.1 #[Value.ref b] E.2.2.2.2.1) (hcs : ce ≤ 1135 ∧ sl ≤ 20627) : VQ E zl ce sl m 1394 L [] := by
  refine z_iconst (z := 1) C dL_law_1394 rfl ?_
  obtain ⟨p, l, e, R, s, mm, args, below, meth, c, Q⟩ := E
  obtain rfl : R = room_1 := C.2.2.2.2.2.2.1
  obtain rfl : args = #[Value.ref b] := hargs
  obtain rfl : Q = lw_Z below #[Value.ref b] s := hQ
  intro H locs d0 ls hd hP hS hl
  refine va_forget (fun q hq => hS.2.2 q hq) ?_
  refine W.widen (k := 1135) (n := 20627) hcs.1 hcs.2 ?_
  exact lw_ret hd C.1 C.2.1 hr hlk dL_law_1395
def lw_tg : List Nat := [220, 293, 318, 331, 344, 369, 406, 443, 480, 505, 518, 543, 556, 597, 610, 647, 672, 709, 722, 735, 760, 773, 810, 823, 876, 941, 966, 991, 1028, 1065, 1078, 1091, 1132, 1181, 1218, 1231, 1256, 1281, 1294, 1350, 1375]
theorem lw_tab : ∀ v : Nat, v < 41 → (#[180, 253, 278, 291, 304, 329, 366, 403, 440, 465, 478, 503, 516, 557, 570, 607, 632, 669, 682, 695, 720, 733, 770, 783, 836, 901, 926, 951, 988, 1025, 1038, 1051, 1092, 1141, 1178, 1191, 1216, 1241, 1254, 1310, 1335] : Array Int)[v]? = some ((lw_tg.getD v 0 : Nat) - (40 : Int)) := by decide +kernel
set_option maxHeartbeats 8000000 in
set_option maxRecDepth 100000 in
theorem law_loop {E : Amb} {zl : Lw} {b Ln : Nat} {xs : Nat → Int32} (C : CQx E zl b Ln xs cL_law) (hr : E.2.2.2.2.2.2.2.2.1.sig.returnType = ret) (hlk : E.2.2.2.2.2.2.2.2.1.locks = false) (hargs : E.2.2.2.2.2.2.1 = #[Value.ref b]) (hQ : E.2.2.2.2.2.2.2.2.2.2 = lw_Z E.2.2.2.2.2.2.2.1 #[Value.ref b] E.2.2.2.2.1) : ∀ (n : Nat) (i : Int) (m : Mq) (ce sl : Nat), (0 ≤ i ∧ i ≤ 3072) → (Ln : Int) - i < 6 * n + 6 → LK i m.1 m.2.1 → (6 * (ce : Int) ≤ 666 + i ∧ (sl : Int) ≤ 17555 + i) → VQ E zl ce sl m 23 (Lz zl b i) [] := by
  have hLn : Ln ≤ 3072 := C.2.2.2.2.2.2.2.2.2.2.2.2.2.2.2
  intro n
  induction n with
  | zero =>
    intro i m ce sl hi hm hL hcs
    refine z_iload C 0 dL_law_23 rfl ?_
    refine z_aload_n C 4 dL_law_25 rfl ?_
    refine z_slen C dL_law_26 ?_
    refine z_bipush (z := 6) C dL_law_27 rfl ?_
    refine z_isub C dL_law_29 ?_
    refine z_icmp_gt (tgt := 1394) C dL_law_30 (by decide) (by omega) (by omega) (fun _ => law_ret C hr hlk hargs hQ ⟨by omega, by omega⟩) (fun h => ?_)
    omega
  | succ n ih =>
    intro i m ce sl hi hm hL hcs
    refine z_iload C 0 dL_law_23 rfl ?_
    refine z_aload_n C 4 dL_law_25 rfl ?_
    refine z_slen C dL_law_26 ?_
    refine z_bipush (z := 6) C dL_law_27 rfl ?_
    refine z_isub C dL_law_29 ?_
    refine z_icmp_gt (tgt := 1394) C dL_law_30 (by decide) (by omega) (by omega) (fun _ => law_ret C hr hlk hargs hQ ⟨by omega, by omega⟩) (fun h => ?_)
    have next : ∀ (m1 : Mq) (ce1 sl1 : Nat), LK (i + 1) m1.1 m1.2.1 → ((ce ≤ ce1 ∧ ce1 ≤ ce + 1) ∧ sl ≤ sl1 ∧ sl1 ≤ sl + 6) → VQ E zl ce1 sl1 m1 1388 (Lz zl b i) [] := fun m1 ce1 sl1 hK hb => z_iinc (L1 := Lz zl b (i + 6)) C 0 dL_law_1388 rfl (by decide) rfl (z_goto (tgt := 23) C dL_law_1391 (by decide) (ih (i + 6) m1 ce1 sl1 (by omega) (by omega) (hK.mono (by omega)) (by omega)))
    refine z_aload_n C 4 dL_law_33 rfl ?_
    refine z_iload C 0 dL_law_34 rfl ?_
    refine z_sld C (i := i) (by omega) dL_law_36 ?_
    refine z_bipush (z := 63) C dL_law_37 rfl ?_
    refine z_iand63 C dL_law_39 ?_
    generalize (xs i.toNat).toInt = x
    obtain ⟨mC, mR, fo⟩ := m
    have hcs1 : ce + 1 ≤ 1135 ∧ sl + 6 ≤ 20627 := ⟨by omega, by omega⟩
    refine z_table C dL_law_40 (by omega) (fun tgt ht hx => ?_) (fun tgt off h0 h1 ho ht => ?_) ⟨1388, by decide⟩ (fun h0 h1 => ?_)
    · obtain rfl : tgt = 1388 := by omega
      exact next (mC, mR, fo) ce sl (hL.mono (by omega)) ⟨⟨by omega, by omega⟩, by omega, by omega⟩
    · have e := Option.some.inj (ho.symm.trans (lw_tab (x % 64 - 0).toNat (by omega)))
      obtain rfl : tgt = lw_tg.getD (x % 64 - 0).toNat 0 := by omega
      clear ho ht e off
      rcases (show x % 64 = 0 ∨ x % 64 = 1 ∨ x % 64 = 2 ∨ x % 64 = 3 ∨ x % 64 = 4 ∨ x % 64 = 5 ∨ x % 64 = 6 ∨ x % 64 = 7 ∨ x % 64 = 8 ∨ x % 64 = 9 ∨ x % 64 = 10 ∨ x % 64 = 11 ∨ x % 64 = 12 ∨ x % 64 = 13 ∨ x % 64 = 14 ∨ x % 64 = 15 ∨ x % 64 = 16 ∨ x % 64 = 17 ∨ x % 64 = 18 ∨ x % 64 = 19 ∨ x % 64 = 20 ∨ x % 64 = 21 ∨ x % 64 = 22 ∨ x % 64 = 23 ∨ x % 64 = 24 ∨ x % 64 = 25 ∨ x % 64 = 26 ∨ x % 64 = 27 ∨ x % 64 = 28 ∨ x % 64 = 29 ∨ x % 64 = 30 ∨ x % 64 = 31 ∨ x % 64 = 32 ∨ x % 64 = 33 ∨ x % 64 = 34 ∨ x % 64 = 35 ∨ x % 64 = 36 ∨ x % 64 = 37 ∨ x % 64 = 38 ∨ x % 64 = 39 ∨ x % 64 = 40 by omega) with y | y | y | y | y | y | y | y | y | y | y | y | y | y | y | y | y | y | y | y | y | y | y | y | y | y | y | y | y | y | y | y | y | y | y | y | y | y | y | y | y
      · rw [y]; exact law_0 C ⟨hi.1, by omega⟩ (by omega) hL hcs1 next
      · rw [y]; exact law_1 C ⟨hi.1, by omega⟩ (by omega) hL hcs1 next
      · rw [y]; exact law_2 C ⟨hi.1, by omega⟩ (by omega) hL hcs1 next
      · rw [y]; exact law_3 C ⟨hi.1, by omega⟩ (by omega) hL hcs1 next
      · rw [y]; exact law_4 C ⟨hi.1, by omega⟩ (by omega) hL hcs1 next
      · rw [y]; exact law_5 C ⟨hi.1, by omega⟩ (by omega) hL hcs1 next
      · rw [y]; exact law_6 C ⟨hi.1, by omega⟩ (by omega) hL hcs1 next
      · rw [y]; exact law_7 C ⟨hi.1, by omega⟩ (by omega) hL hcs1 next
      · rw [y]; exact law_8 C ⟨hi.1, by omega⟩ (by omega) hL hcs1 next
      · rw [y]; exact law_9 C ⟨hi.1, by omega⟩ (by omega) hL hcs1 next
      · rw [y]; exact law_10 C ⟨hi.1, by omega⟩ (by omega) hL hcs1 next
      · rw [y]; exact law_11 C ⟨hi.1, by omega⟩ (by omega) hL hcs1 next
      · rw [y]; exact law_12 C ⟨hi.1, by omega⟩ (by omega) hL hcs1 next
      · rw [y]; exact law_13 C ⟨hi.1, by omega⟩ (by omega) hL hcs1 next
      · rw [y]; exact law_14 C ⟨hi.1, by omega⟩ (by omega) hL hcs1 next
      · rw [y]; exact law_15 C ⟨hi.1, by omega⟩ (by omega) hL hcs1 next
      · rw [y]; exact law_16 C ⟨hi.1, by omega⟩ (by omega) hL hcs1 next
      · rw [y]; exact law_17 C ⟨hi.1, by omega⟩ (by omega) hL hcs1 next
      · rw [y]; exact law_18 C ⟨hi.1, by omega⟩ (by omega) hL hcs1 next
      · rw [y]; exact law_19 C ⟨hi.1, by omega⟩ (by omega) hL hcs1 next
      · rw [y]; exact law_20 C ⟨hi.1, by omega⟩ (by omega) hL hcs1 next
      · rw [y]; exact law_21 C ⟨hi.1, by omega⟩ (by omega) hL hcs1 next
      · rw [y]; exact law_22 C ⟨hi.1, by omega⟩ (by omega) hL hcs1 next
      · rw [y]; exact law_23 C ⟨hi.1, by omega⟩ (by omega) hL hcs1 next
      · rw [y]; exact law_24 C ⟨hi.1, by omega⟩ (by omega) hL hcs1 next
      · rw [y]; exact law_25 C ⟨hi.1, by omega⟩ (by omega) hL hcs1 next
      · rw [y]; exact law_26 C ⟨hi.1, by omega⟩ (by omega) hL hcs1 next
      · rw [y]; exact law_27 C ⟨hi.1, by omega⟩ (by omega) hL hcs1 next
      · rw [y]; exact law_28 C ⟨hi.1, by omega⟩ (by omega) hL hcs1 next
      · rw [y]; exact law_29 C ⟨hi.1, by omega⟩ (by omega) hL hcs1 next
      · rw [y]; exact law_30 C ⟨hi.1, by omega⟩ (by omega) hL hcs1 next
      · rw [y]; exact law_31 C ⟨hi.1, by omega⟩ (by omega) hL hcs1 next
      · rw [y]; exact law_32 C ⟨hi.1, by omega⟩ (by omega) hL hcs1 next
      · rw [y]; exact law_33 C ⟨hi.1, by omega⟩ (by omega) hL hcs1 next
      · rw [y]; exact law_34 C ⟨hi.1, by omega⟩ (by omega) hL hcs1 next
      · rw [y]; exact law_35 C ⟨hi.1, by omega⟩ (by omega) hL hcs1 next
      · rw [y]; exact law_36 C ⟨hi.1, by omega⟩ (by omega) hL hcs1 next
      · rw [y]; exact law_37 C ⟨hi.1, by omega⟩ (by omega) hL hcs1 next
      · rw [y]; exact law_38 C ⟨hi.1, by omega⟩ (by omega) hL hcs1 next
      · rw [y]; exact law_39 C ⟨hi.1, by omega⟩ (by omega) hL hcs1 next
      · rw [y]; exact law_40 C ⟨hi.1, by omega⟩ (by omega) hL hcs1 next
    · exact ⟨lw_tg.getD (x % 64 - 0).toNat 0, _, lw_tab (x % 64 - 0).toNat (by omega), by omega⟩
