/-! what the Statement gives of the start -/
theorem st_t {s : State} {args : Array Value} (hts : ∀ w ∈ lw_tbl, w.before args s = true) : ∀ w ∈ lw_gd, w.before args s = true := fun w h => hts w (lw_gdt h)
theorem st_1 {s : State} {args : Array Value} (hts : ∀ w ∈ lw_tbl, w.before args s = true) : ∀ w ∈ tables_1, w.before args s = true := fun w h => hts w (List.mem_append_right _ h)
theorem st_A {s : State} {args : Array Value} {ty : FieldType} (h : (Cond.arrayClass ty).before args s = true) (hob : ∀ n, ty ≠ .object n) : ∃ cA, ArrOfT s cA ty ∧ va_RA s cA ty := by
  obtain ⟨cA, kA, comp, h1, h2, h3⟩ := Cond.arrayClass_spec h
  refine ⟨cA, fun n z => ⟨fun k e => (by cases e), kA, h2, comp, h3⟩, ?_⟩
  cases ty with
  | object C => exact absurd rfl (hob C)
  | _ => exact h1
set_option maxHeartbeats 4000000 in
theorem st_K {s : State} {args : Array Value} (hts : ∀ w ∈ lw_gd, w.before args s = true) : ∃ (D : va_G) (cy : Nat → ClassId), va_K D clsAll (tyB cy) s := by
  obtain ⟨c0, i0, k0⟩ := u_known (C := RX0) (T := TX0) (N := 2) (n := 2) hts inX0 (hts _ qw224)
  obtain ⟨c1, i1, k1⟩ := u_known (C := RX1) (T := TX1) (N := 6) (n := 6) hts inX1 (hts _ qw244)
  obtain ⟨c2, i2, k2⟩ := u_known (C := RX2) (T := TX2) (N := 10) (n := 10) hts inX2 (hts _ qw311)
  obtain ⟨c3, i3, k3⟩ := u_known (C := RX3) (T := TX3) (N := 9) (n := 9) hts inX3 (hts _ qw271)
  obtain ⟨c4, i4, k4⟩ := u_known (C := RX4) (T := TX4) (N := 4) (n := 4) hts inX4 (hts _ qw199)
  obtain ⟨c5, i5, k5⟩ := u_known (C := RX5) (T := TX5) (N := 12) (n := 12) hts inX5 (hts _ qw64)
  obtain ⟨c6, i6, k6⟩ := u_known (C := RX6) (T := TX6) (N := 11) (n := 11) hts inX6 (hts _ qw360)
  obtain ⟨c7, i7, k7⟩ := u_known (C := RX7) (T := TX7) (N := 2) (n := 2) hts inX7 (hts _ qw218)
  obtain ⟨c8, i8, k8⟩ := u_known (C := RX8) (T := TX8) (N := 7) (n := 7) hts inX8 (hts _ qw31)
  obtain ⟨c9, i9, k9⟩ := u_known (C := RX9) (T := TX9) (N := 4) (n := 4) hts inX9 (hts _ qw172)
  obtain ⟨c10, i10, k10⟩ := u_known (C := RX10) (T := TX10) (N := 20) (n := 20) hts inX10 (hts _ qw23)
  obtain ⟨c11, i11, k11⟩ := u_known (C := RX11) (T := TX11) (N := 61) (n := 61) hts inX11 (hts _ qw1135)
  obtain ⟨y0, a0⟩ := st_A (hts _ qw62) (fun n h => by cases h)
  obtain ⟨y1, a1⟩ := st_A (hts _ qw169) (fun n h => by cases h)
  obtain ⟨y2, a2⟩ := st_A (hts _ qw170) (fun n h => by cases h)
  obtain ⟨y3, a3⟩ := st_A (hts _ qw1324) (fun n h => by cases h)
  refine ⟨(fun k => match k with | 0 => c0 | 1 => c1 | 2 => c2 | 3 => c3 | 4 => c4 | 5 => c5 | 6 => c6 | 7 => c7 | 8 => c8 | 9 => c9 | 10 => c10 | _ => c11, fun k => match k with | 0 => i0 | 1 => i1 | 2 => i2 | 3 => i3 | 4 => i4 | 5 => i5 | 6 => i6 | 7 => i7 | 8 => i8 | 9 => i9 | 10 => i10 | _ => i11), fun k => match k with | 0 => y0 | 1 => y1 | 2 => y2 | _ => y3, fun c q hq => ?_, fun k q hk => ?_⟩
  · match c, hq with
    | 0, hq => cases hq; exact k0
    | 1, hq => cases hq; exact k1
    | 2, hq => cases hq; exact k2
    | 3, hq => cases hq; exact k3
    | 4, hq => cases hq; exact k4
    | 5, hq => cases hq; exact k5
    | 6, hq => cases hq; exact k6
    | 7, hq => cases hq; exact k7
    | 8, hq => cases hq; exact k8
    | 9, hq => cases hq; exact k9
    | 10, hq => cases hq; exact k10
    | 11, hq => cases hq; exact k11
    | c + 12, hq => simp at hq
  · match k, hk with
    | 0, hk => cases hk; exact a0
    | 1, hk => cases hk; exact a1
    | 2, hk => cases hk; exact a2
    | 3, hk => cases hk; exact a3
    | k + 4, hk => simp at hk
def st_c : Cond := Jvm.Cond.and given_1 narrow_1
/-- what the Statement tells of one text -/
def st_F (own : String) (k : Nat) (bs : List Int32) : List Cond := [.exactly (.string own k) "java/lang/String", .eq (.field (.string own k) "java/lang/String" "coder" "B") (.int 0), .arrayOf (.field (.string own k) "java/lang/String" "value" "[B") .byte, .eq (.length (.field (.string own k) "java/lang/String" "value" "[B")) (.int (Int32.ofNat bs.length))] ++ (List.range bs.length).map (fun j => .eq (.elem (.field (.string own k) "java/lang/String" "value" "[B") (.int (Int32.ofNat j))) (.int (bs.getD j 0)))
def st_off : List Nat := [23, 33, 42, 50, 59, 66, 73, 84, 92, 98, 107, 115, 122, 130, 138, 149, 159, 167, 176, 183, 194, 206, 215, 222, 232, 241, 251, 260, 270, 278, 286, 294, 303, 312, 324, 335, 344, 354]
theorem st_in : ∀ i, i < 38 → ∀ w ∈ st_F (strS.getD i ("", 0, "", [])).1 (strS.getD i ("", 0, "", [])).2.1 (strS.getD i ("", 0, "", [])).2.2.2, w ∈ (flatC st_c) := by
  have h : ((List.range 38).all (fun i => decide (((flatC st_c).drop (st_off.getD i 0)).take (st_F (strS.getD i ("", 0, "", [])).1 (strS.getD i ("", 0, "", [])).2.1 (strS.getD i ("", 0, "", [])).2.2.2).length = st_F (strS.getD i ("", 0, "", [])).1 (strS.getD i ("", 0, "", [])).2.1 (strS.getD i ("", 0, "", [])).2.2.2))) = true := by decide +kernel
  intro i hi w hw
  have h1 := of_decide_eq_true (List.all_eq_true.mp h i (List.mem_range.mpr hi))
  rw [← h1] at hw
  exact List.mem_of_mem_drop (List.mem_of_mem_take hw)
theorem st_len : ∀ q ∈ strS, q.2.2.2.length < 2 ^ 31 := by decide +kernel
theorem st_ref : ∀ q ∈ strS, Cond.stringRef q.1 q.2.1 q.2.2.1 ∈ tables_1 := by decide +kernel
theorem st_nest : ∀ q ∈ nestS, Cond.methodLinkNest q.1 q.2.1 q.2.2.1 q.2.2.2 ∈ tables_1 := by decide +kernel
theorem st_XW : ∀ w ∈ XW0, w ∈ tables_1 := by decide +kernel
theorem st_XWo : ∀ w ∈ XW0, w.onTables = true := by decide +kernel
theorem st_S {s : State} {args : Array Value} {own tx : String} {k : Nat} {bs : List Int32} (hl : bs.length < 2 ^ 31) (h1 : (Cond.stringRef own k tx).before args s = true) (h2 : ∀ w ∈ st_F own k bs, w.before args s = true) {A : Nat → Prop} (hA : ∀ a : Nat, a < s.heap.size → ¬ A a) : ∃ p : Nat × Nat, vk_R own k tx p.1 s ∧ vk_S 1 [bs.length] [bs] (fun _ => p.1) (fun _ => p.2) A s s.heap := by
  have z : ∀ i : Nat, i < 1 → i = 0 := fun i hi => by omega
  obtain ⟨adK, adV, hS, hE⟩ := vk_Sof (args := args) (s := s) (N := 1) (tm := fun _ => .string own k) (len := [bs.length]) (byt := [bs]) (A := A) (fun i hi => by rw [z i hi]; exact hl) (fun i hi => h2 _ (by simp [st_F])) (fun i hi => h2 _ (by simp [st_F])) (fun i hi => h2 _ (by simp [st_F])) (fun i hi => by rw [z i hi]; exact h2 _ (by simp [st_F])) (fun i hi j hj => by
    rw [z i hi] at hj ⊢
    exact h2 _ (List.mem_append_right _ (List.mem_map.mpr ⟨j, List.mem_range.mpr hj, rfl⟩))) (fun i j hi hj h => absurd ((z i hi).trans (z j hj).symm) h) hA
  exact ⟨(adK 0, adV 0), vk_R.of h1 (hE 0 (by decide)), fun i hi => by rw [z i hi]; exact hS.1 0 (by decide), fun i j hi hj _ => (z i hi).trans (z j hj).symm⟩
theorem st_O {s : State} {args : Array Value} (hts : ∀ w ∈ lw_tbl, w.before args s = true) (hgv : (Jvm.Cond.and given_1 narrow_1).before args s = true) : (∃ ad, OX ad (fun q => s.heap.size ≤ q) s s.heap) ∧ ZQ (fun q => s.heap.size ≤ q) s s.heap ∧ XWd s := by
  have hs := flat_of_before _ hgv
  have hA : ∀ a : Nat, a < s.heap.size → ¬ (fun q : Nat => s.heap.size ≤ q) a := fun a h => Nat.not_le.mpr h
  have ht := st_1 hts
  have hS : ∀ i : Nat, ∃ p : Nat × Nat, ∀ q : String × Nat × String × List Int32, strS[i]? = some q → vk_R q.1 q.2.1 q.2.2.1 p.1 s ∧ vk_S 1 [q.2.2.2.length] [q.2.2.2] (fun _ => p.1) (fun _ => p.2) (fun q => s.heap.size ≤ q) s s.heap := fun i => by
    cases e : strS[i]? with
    | none => exact ⟨(0, 0), fun q h => by cases h⟩
    | some q =>
      have hm := List.mem_of_getElem? e
      have hi : i < 38 := (List.getElem?_eq_some_iff.mp e).1
      have hq : strS.getD i ("", 0, "", []) = q := by rw [List.getD_eq_getElem?_getD, e]; rfl
      have hin := st_in i hi
      rw [hq] at hin
      obtain ⟨p, h⟩ := st_S (s := s) (args := args) (own := q.1) (k := q.2.1) (tx := q.2.2.1) (st_len q hm) (ht _ (st_ref q hm)) (fun w hw => hs w (hin w hw)) hA
      exact ⟨p, fun q1 h1 => by cases h1; exact h⟩
  refine ⟨?_, ⟨vx_Zqof (ht _ (by decide +kernel)) (ht _ (by decide +kernel)) (hs _ (by decide +kernel)) hA, vx_Zqof (ht _ (by decide +kernel)) (ht _ (by decide +kernel)) (hs _ (by decide +kernel)) hA⟩, fun w hw => va_any (st_XWo w hw) (ht w (st_XW w hw))⟩
  obtain ⟨f, hf⟩ : ∃ f : Nat → Nat × Nat, ∀ i q, strS[i]? = some q → vk_R q.1 q.2.1 q.2.2.1 (f i).1 s ∧ vk_S 1 [q.2.2.2.length] [q.2.2.2] (fun _ => (f i).1) (fun _ => (f i).2) (fun q => s.heap.size ≤ q) s s.heap := ⟨fun i => (hS i).choose, fun i => (hS i).choose_spec⟩
  refine ⟨fun n => if n % 2 = 0 then (f (n / 2)).1 else (f (n / 2)).2, fun i q hq => ?_, va_Zof (ht _ (by decide +kernel)) (ht _ (by decide +kernel)) (va_eqt (hs (.eq (.static "java/lang/String" "COMPACT_STRINGS" "Z") (.int 1)) (by decide +kernel))) hA, va_Zqof (ht _ (by decide +kernel)) (ht _ (by decide +kernel)) (hs _ (by decide +kernel)) hA, fun q hq => va_Nw.of rfl (ht _ (st_nest q hq))⟩
  have e1 : (if 2 * i % 2 = 0 then (f (2 * i / 2)).1 else (f (2 * i / 2)).2) = (f i).1 := by rw [if_pos (by omega), show 2 * i / 2 = i by omega]
  have e2 : (if (2 * i + 1) % 2 = 0 then (f ((2 * i + 1) / 2)).1 else (f ((2 * i + 1) / 2)).2) = (f i).2 := by rw [if_neg (by omega), show (2 * i + 1) / 2 = i by omega]
  have h := hf i q hq
  rw [← e1, ← e2] at h
  exact h
theorem st_fl {l : Launch} (h : l.flags = flags0) : l.stackTraces = false := by
  unfold Launch.stackTraces
  rw [h]
  decide
