/-! the class's words; a byte more on the tape -/
def wiS (w : Int) : Nat := if w = 1 then 11 else if w = 2 then 12 else if w = 3 then 13 else if w = 4 then 14 else if w = 5 then 15 else if w = 6 then 16 else if w = 7 then 17 else 18
theorem wiS_q {w : Int} (h : 1 ≤ w ∧ w ≤ 8) : ∃ (ix : Nat) (tx : String), strS[wiS w]? = some ("StageRatios$Rocket", ix, tx, wdS w) := by
  rcases (show w = 1 ∨ w = 2 ∨ w = 3 ∨ w = 4 ∨ w = 5 ∨ w = 6 ∨ w = 7 ∨ w = 8 by omega) with rfl | rfl | rfl | rfl | rfl | rfl | rfl | rfl <;> exact ⟨_, _, rfl⟩
theorem enC_s {bs : List Int32} {k : Int} (h0 : 0 ≤ k) (h : k < bs.length) (B D : Int) : enZ B D (wdC (bs.take (k + 1).toNat)) = enZ B D (wdC (bs.take k.toNat)) * B + (chZ bs k - D) := by
  rw [show (k + 1).toNat = k.toNat + 1 by omega, wdC_s (by omega), show ((k.toNat : Nat) : Int) = k by omega]; rfl
theorem enC_e {bs : List Int32} {k : Int} (h : ¬ k < bs.length) : wdC (bs.take k.toNat) = wdC bs := by rw [List.take_of_length_le (by omega)]
set_option maxHeartbeats 4000000 in
set_option maxRecDepth 100000 in
theorem ct_Tape_numberOf {lau : Launch} {D : va_G} {cy : Nat → ClassId} {aa ad : Nat → Nat} (hI : wI (wC D cy aa ad)) (m : Mem) (i9 : Nat) (own : String) (ix : Nat) (tx : String) (bs : List Int32) (hqs : strS[i9]? = some (own, ix, tx, bs)) : MT lau (wC D cy aa ad) yX8_numberOf cX8_numberOf 4 (some .long) ({ frames := 4, cells := 0, slots := 0, locals := 85 } : Room) m [.ref (ad (2 * i9))] (Pl (fun z m' => enZ 27 96 (wdC bs) = z ∧ m = m')) := by
  refine v_entry hI RX8 (by decide) rfl (Nat.le_of_ble_eq_true rfl) (fun E hE C X => ?_)
  subst hE
  show V E (wC D cy aa ad) 4 m 0 [(0, .ref (ad (2 * i9)))] []
  have hle7 : bs.length ≤ 7 := (strS_ok _ (List.mem_of_getElem? hqs)).1
  refine v_lconst (z := 0) C dX8_numberOf_0 rfl ?_
  refine v_lstore_n (L1 := [(1, .long (lz (0))), (0, .ref (ad (2 * i9)))]) C dX8_numberOf_1 (by decide) rfl ?_
  refine v_iconst (z := 0) C dX8_numberOf_2 rfl ?_
  refine v_istore_n (L1 := [(3, .int (iz (0))), (1, .long (lz (0))), (0, .ref (ad (2 * i9)))]) C dX8_numberOf_3 (by decide) rfl ?_
  have K4 : ∀ (nK : Nat) (v : Int) (k : Int) (hk : 0 ≤ k ∧ k ≤ bs.length) (hv : v = enZ 27 96 (wdC (bs.take k.toNat))), ((bs.length : Int) - k).toNat < nK → V E (wC D cy aa ad) 4 m 4 [(0, .ref (ad (2 * i9))), (1, .long (lz (v))), (3, .int (iz (k)))] [] := by
    intro nK
    induction nK with
    | zero => intro v k  hk hv hn; exact absurd hn (Nat.not_lt_zero _)
    | succ nK ih4 =>
      intro v k  hk hv hn4
      refine v_iload_n C 2 dX8_numberOf_4 rfl ?_
      refine v_aload_n C 0 dX8_numberOf_5 rfl ?_
      refine v_callO (st := [.int (iz (k))]) (n := 0) C (i9) (hqs) [] (cs_length C.2.2.2.2.2.2.1 m (i9) _ (hqs)) qw76 qw4 qw73 rfl rfl ⟨Nat.le_of_ble_eq_true rfl, Nat.le_of_ble_eq_true rfl⟩ (by decide +kernel) qw74 qw75 rfl rfl (Nat.le_of_ble_eq_true rfl) dX8_numberOf_6 (fun r m1 hq1 => ?_)
      obtain ⟨z1, rfl, rfl, rfl⟩ := hq1
      show V E (wC D cy aa ad) 4 m 9 [(0, .ref (ad (2 * i9))), (1, .long (lz (v))), (3, .int (iz (k)))] [.int (iz (((List.length bs : Nat) : Int))), .int (iz (k))]
      refine v_icmp_ge (tgt := 28) C dX8_numberOf_9 (by decide) (by omega) (by omega) (fun c2 => ?_) (fun c2 => ?_)
      · refine v_lload_n C 1 dX8_numberOf_28 rfl ?_
        refine v_lret C X dX8_numberOf_29 ⟨_, rfl, ?_, ?_⟩
        · rw [hv, enC_e (by omega)]
        · rfl
      · refine v_lload_n C 1 dX8_numberOf_12 rfl ?_
        refine v_aload_n C 0 dX8_numberOf_13 rfl ?_
        refine v_iload_n C 2 dX8_numberOf_14 rfl ?_
        refine v_callO (st := [.long (lz (v))]) (n := 1) C (i9) (hqs) [.int (iz (k))] (cs_charAt C.2.2.2.2.2.2.1 m (i9) _ (hqs) (k) (by exact ⟨hk.1, by show k < bs.length; omega⟩)) qw86 qw4 qw83 rfl rfl ⟨Nat.le_of_ble_eq_true rfl, Nat.le_of_ble_eq_true rfl⟩ (by decide +kernel) qw84 qw85 rfl rfl (Nat.le_of_ble_eq_true rfl) dX8_numberOf_15 (fun r m3 hq3 => ?_)
        obtain ⟨z3, rfl, rfl, rfl⟩ := hq3
        show V E (wC D cy aa ad) 4 m 18 [(0, .ref (ad (2 * i9))), (1, .long (lz (v))), (3, .int (iz (k)))] [.int (iz (chZ bs (k))), .long (lz (v))]
        have hcr := chZ_rng hqs hk.1 (by show k < bs.length; omega)
        refine v_callS (st := []) (n := 2) C [.long (lz (v)), .int (iz (chZ bs (k)))] (ct_Tape_withLetter C.2.2.2.2.2.2.1 m (v) (chZ bs (k)) (by show -2147483648 ≤ chZ bs k ∧ chZ bs k ≤ 2147483647; have y : 97 ≤ chZ bs k ∧ chZ bs k ≤ 122 := hcr; omega) (by have y : 97 ≤ chZ bs k ∧ chZ bs k ≤ 122 := hcr; omega)) qw123 qw2 qw121 rfl rfl ⟨Nat.le_of_ble_eq_true rfl, Nat.le_of_ble_eq_true rfl⟩ (by decide +kernel) qw122 rfl rfl (Nat.le_of_ble_eq_true rfl) dX8_numberOf_18 (fun r m4 hq4 => ?_)
        obtain ⟨z4, rfl, rfl, rfl⟩ := hq4
        show V E (wC D cy aa ad) 4 m 21 [(0, .ref (ad (2 * i9))), (1, .long (lz (v))), (3, .int (iz (k)))] [.long (lz (v * 27 + ((chZ bs (k)) - 97 + 1)))]
        refine v_lstore_n (L1 := [(1, .long (lz (v * 27 + ((chZ bs (k)) - 97 + 1)))), (0, .ref (ad (2 * i9))), (3, .int (iz (k)))]) C dX8_numberOf_21 (by decide) rfl ?_
        refine v_iinc (L1 := [(3, .int (iz (k + 1))), (1, .long (lz (v * 27 + ((chZ bs (k)) - 97 + 1)))), (0, .ref (ad (2 * i9)))]) C 2 dX8_numberOf_22 rfl (by decide) rfl ?_
        refine v_goto (tgt := 4) C dX8_numberOf_25 (by decide) ?_
        refine v_sub [2, 1, 0] rfl ?_
        exact ih4 (v * 27 + ((chZ bs (k)) - 97 + 1)) (k + 1)  (by omega) (by rw [enC_s hk.1 (by omega), ← hv]; omega) (by omega)
  refine v_sub [2, 1, 0] rfl ?_
  exact K4 _ (0) (0)  (by omega) (by show (0 : Int) = enZ 27 96 (wdC (bs.take 0)); rw [List.take_zero]; rfl) (Nat.lt_succ_self _)

set_option maxHeartbeats 4000000 in
set_option maxRecDepth 100000 in
theorem ct_Rocket_wordOf {lau : Launch} {D : va_G} {cy : Nat → ClassId} {aa ad : Nat → Nat} (hI : wI (wC D cy aa ad)) (m : Mem) (w : Int) (hw : 1 ≤ w ∧ w ≤ 8) : MT lau (wC D cy aa ad) yX6_wordOf cX6_wordOf 1 (some (.object "java/lang/String")) ({ frames := 0, cells := 0, slots := 0, locals := 0 } : Room) m [.int (iz (w))] (Pr (fun z m' => ad (2 * wiS w) = z ∧ m = m')) := by
  refine v_entry hI RX6 (by decide) rfl (Nat.le_of_ble_eq_true rfl) (fun E hE C X => ?_)
  subst hE
  show V E (wC D cy aa ad) 1 m 0 [(0, .int (iz (w)))] []
  refine v_iload_n C 0 dX6_wordOf_0 rfl ?_
  refine v_table C dX6_wordOf_1 (by omega) (fun tgt ht c1 => ?_) (fun tgt off c1a c1b ho ht => ?_) ⟨65, by decide⟩ (fun ha hb => ?_)
  · obtain rfl : tgt = 65 := by omega
    refine v_ldcs C 18 rfl dX6_wordOf_65 ?_
    refine v_aret C X (Or.inl ⟨_, rfl⟩) dX6_wordOf_67 ⟨_, rfl, ?_, ?_⟩
    · first
        | (have e : w = 8 := by omega
           subst e; rfl)
        | (subst_vars; rfl)
        | (rename_i e; subst e; rfl)
    · rfl
  · rcases (show w = 1 ∨ w = 2 ∨ w = 3 ∨ w = 4 ∨ w = 5 ∨ w = 6 ∨ w = 7 by omega) with c1 | c1 | c1 | c1 | c1 | c1 | c1
    · have ho : off = 43 := by rw [c1] at ho; exact (Option.some.inj ho).symm
      obtain rfl : tgt = 44 := by omega
      refine v_ldcs C 11 rfl dX6_wordOf_44 ?_
      refine v_aret C X (Or.inl ⟨_, rfl⟩) dX6_wordOf_46 ⟨_, rfl, ?_, ?_⟩
      · first
          | (have e : w = 8 := by omega
             subst e; rfl)
          | (subst_vars; rfl)
          | (rename_i e; subst e; rfl)
      · rfl
    · have ho : off = 46 := by rw [c1] at ho; exact (Option.some.inj ho).symm
      obtain rfl : tgt = 47 := by omega
      refine v_ldcs C 12 rfl dX6_wordOf_47 ?_
      refine v_aret C X (Or.inl ⟨_, rfl⟩) dX6_wordOf_49 ⟨_, rfl, ?_, ?_⟩
      · first
          | (have e : w = 8 := by omega
             subst e; rfl)
          | (subst_vars; rfl)
          | (rename_i e; subst e; rfl)
      · rfl
    · have ho : off = 49 := by rw [c1] at ho; exact (Option.some.inj ho).symm
      obtain rfl : tgt = 50 := by omega
      refine v_ldcs C 13 rfl dX6_wordOf_50 ?_
      refine v_aret C X (Or.inl ⟨_, rfl⟩) dX6_wordOf_52 ⟨_, rfl, ?_, ?_⟩
      · first
          | (have e : w = 8 := by omega
             subst e; rfl)
          | (subst_vars; rfl)
          | (rename_i e; subst e; rfl)
      · rfl
    · have ho : off = 52 := by rw [c1] at ho; exact (Option.some.inj ho).symm
      obtain rfl : tgt = 53 := by omega
      refine v_ldcs C 14 rfl dX6_wordOf_53 ?_
      refine v_aret C X (Or.inl ⟨_, rfl⟩) dX6_wordOf_55 ⟨_, rfl, ?_, ?_⟩
      · first
          | (have e : w = 8 := by omega
             subst e; rfl)
          | (subst_vars; rfl)
          | (rename_i e; subst e; rfl)
      · rfl
    · have ho : off = 55 := by rw [c1] at ho; exact (Option.some.inj ho).symm
      obtain rfl : tgt = 56 := by omega
      refine v_ldcs C 15 rfl dX6_wordOf_56 ?_
      refine v_aret C X (Or.inl ⟨_, rfl⟩) dX6_wordOf_58 ⟨_, rfl, ?_, ?_⟩
      · first
          | (have e : w = 8 := by omega
             subst e; rfl)
          | (subst_vars; rfl)
          | (rename_i e; subst e; rfl)
      · rfl
    · have ho : off = 58 := by rw [c1] at ho; exact (Option.some.inj ho).symm
      obtain rfl : tgt = 59 := by omega
      refine v_ldcs C 16 rfl dX6_wordOf_59 ?_
      refine v_aret C X (Or.inl ⟨_, rfl⟩) dX6_wordOf_61 ⟨_, rfl, ?_, ?_⟩
      · first
          | (have e : w = 8 := by omega
             subst e; rfl)
          | (subst_vars; rfl)
          | (rename_i e; subst e; rfl)
      · rfl
    · have ho : off = 61 := by rw [c1] at ho; exact (Option.some.inj ho).symm
      obtain rfl : tgt = 62 := by omega
      refine v_ldcs C 17 rfl dX6_wordOf_62 ?_
      refine v_aret C X (Or.inl ⟨_, rfl⟩) dX6_wordOf_64 ⟨_, rfl, ?_, ?_⟩
      · first
          | (have e : w = 8 := by omega
             subst e; rfl)
          | (subst_vars; rfl)
          | (rename_i e; subst e; rfl)
      · rfl
  · rcases (show w = 1 ∨ w = 2 ∨ w = 3 ∨ w = 4 ∨ w = 5 ∨ w = 6 ∨ w = 7 by omega) with c1 | c1 | c1 | c1 | c1 | c1 | c1
    · exact ⟨44, 43, by rw [c1]; rfl, by decide⟩
    · exact ⟨47, 46, by rw [c1]; rfl, by decide⟩
    · exact ⟨50, 49, by rw [c1]; rfl, by decide⟩
    · exact ⟨53, 52, by rw [c1]; rfl, by decide⟩
    · exact ⟨56, 55, by rw [c1]; rfl, by decide⟩
    · exact ⟨59, 58, by rw [c1]; rfl, by decide⟩
    · exact ⟨62, 61, by rw [c1]; rfl, by decide⟩

set_option maxHeartbeats 4000000 in
set_option maxRecDepth 100000 in
theorem ct_Rocket_lowBoundOf {lau : Launch} {D : va_G} {cy : Nat → ClassId} {aa ad : Nat → Nat} (hI : wI (wC D cy aa ad)) (m : Mem) (w : Int) (hw : 1 ≤ w ∧ w ≤ 8) : MT lau (wC D cy aa ad) yX6_lowBoundOf cX6_lowBoundOf 1 (some .int) ({ frames := 0, cells := 0, slots := 0, locals := 0 } : Room) m [.int (iz (w))] (Pi (fun z m' => loS w = z ∧ m = m')) := by
  refine v_entry hI RX6 (by decide) rfl (Nat.le_of_ble_eq_true rfl) (fun E hE C X => ?_)
  subst hE
  show V E (wC D cy aa ad) 1 m 0 [(0, .int (iz (w)))] []
  refine v_iload_n C 0 dX6_lowBoundOf_0 rfl ?_
  refine v_iconst (z := 2) C dX6_lowBoundOf_1 rfl ?_
  refine v_icmp_eq (tgt := 17) C dX6_lowBoundOf_2 (by decide) (by omega) (by omega) (fun c1 => ?_) (fun c1 => ?_)
  · refine v_iconst (z := 0) C dX6_lowBoundOf_17 rfl ?_
    refine v_goto (tgt := 22) C dX6_lowBoundOf_18 (by decide) ?_
    refine v_iret C X rfl dX6_lowBoundOf_22 ⟨_, rfl, ?_, ?_⟩
    · first
        | (have e : w = 1 := by omega
           subst e; decide)
        | (have e : w = 2 := by omega
           subst e; decide)
        | (have e : w = 3 := by omega
           subst e; decide)
        | (have e : w = 4 := by omega
           subst e; decide)
        | (have e : w = 5 := by omega
           subst e; decide)
        | (have e : w = 6 := by omega
           subst e; decide)
        | (have e : w = 7 := by omega
           subst e; decide)
        | (have e : w = 8 := by omega
           subst e; decide)
        | (unfold loS; rw [if_pos (by omega)])
        | (unfold loS; rw [if_neg (by omega)])
    · rfl
  · refine v_iload_n C 0 dX6_lowBoundOf_5 rfl ?_
    refine v_bipush (z := 7) C dX6_lowBoundOf_6 (by decide) ?_
    refine v_icmp_eq (tgt := 17) C dX6_lowBoundOf_8 (by decide) (by omega) (by omega) (fun c2 => ?_) (fun c2 => ?_)
    · refine v_iconst (z := 0) C dX6_lowBoundOf_17 rfl ?_
      refine v_goto (tgt := 22) C dX6_lowBoundOf_18 (by decide) ?_
      refine v_iret C X rfl dX6_lowBoundOf_22 ⟨_, rfl, ?_, ?_⟩
      · first
          | (have e : w = 1 := by omega
             subst e; decide)
          | (have e : w = 2 := by omega
             subst e; decide)
          | (have e : w = 3 := by omega
             subst e; decide)
          | (have e : w = 4 := by omega
             subst e; decide)
          | (have e : w = 5 := by omega
             subst e; decide)
          | (have e : w = 6 := by omega
             subst e; decide)
          | (have e : w = 7 := by omega
             subst e; decide)
          | (have e : w = 8 := by omega
             subst e; decide)
          | (unfold loS; rw [if_pos (by omega)])
          | (unfold loS; rw [if_neg (by omega)])
      · rfl
    · refine v_iload_n C 0 dX6_lowBoundOf_11 rfl ?_
      refine v_bipush (z := 8) C dX6_lowBoundOf_12 (by decide) ?_
      refine v_icmp_ne (tgt := 21) C dX6_lowBoundOf_14 (by decide) (by omega) (by omega) (fun c3 => ?_) (fun c3 => ?_)
      · refine v_iconst (z := 1) C dX6_lowBoundOf_21 rfl ?_
        refine v_iret C X rfl dX6_lowBoundOf_22 ⟨_, rfl, ?_, ?_⟩
        · first
            | (have e : w = 1 := by omega
               subst e; decide)
            | (have e : w = 2 := by omega
               subst e; decide)
            | (have e : w = 3 := by omega
               subst e; decide)
            | (have e : w = 4 := by omega
               subst e; decide)
            | (have e : w = 5 := by omega
               subst e; decide)
            | (have e : w = 6 := by omega
               subst e; decide)
            | (have e : w = 7 := by omega
               subst e; decide)
            | (have e : w = 8 := by omega
               subst e; decide)
            | (unfold loS; rw [if_pos (by omega)])
            | (unfold loS; rw [if_neg (by omega)])
        · rfl
      · refine v_iconst (z := 0) C dX6_lowBoundOf_17 rfl ?_
        refine v_goto (tgt := 22) C dX6_lowBoundOf_18 (by decide) ?_
        refine v_iret C X rfl dX6_lowBoundOf_22 ⟨_, rfl, ?_, ?_⟩
        · first
            | (have e : w = 1 := by omega
               subst e; decide)
            | (have e : w = 2 := by omega
               subst e; decide)
            | (have e : w = 3 := by omega
               subst e; decide)
            | (have e : w = 4 := by omega
               subst e; decide)
            | (have e : w = 5 := by omega
               subst e; decide)
            | (have e : w = 6 := by omega
               subst e; decide)
            | (have e : w = 7 := by omega
               subst e; decide)
            | (have e : w = 8 := by omega
               subst e; decide)
            | (unfold loS; rw [if_pos (by omega)])
            | (unfold loS; rw [if_neg (by omega)])
        · rfl

set_option maxHeartbeats 4000000 in
set_option maxRecDepth 100000 in
theorem ct_Rocket_highBoundOf {lau : Launch} {D : va_G} {cy : Nat → ClassId} {aa ad : Nat → Nat} (hI : wI (wC D cy aa ad)) (m : Mem) (w : Int) (hw : 1 ≤ w ∧ w ≤ 8) : MT lau (wC D cy aa ad) yX6_highBoundOf cX6_highBoundOf 1 (some .int) ({ frames := 0, cells := 0, slots := 0, locals := 0 } : Room) m [.int (iz (w))] (Pi (fun z m' => hiS w = z ∧ m = m')) := by
  refine v_entry hI RX6 (by decide) rfl (Nat.le_of_ble_eq_true rfl) (fun E hE C X => ?_)
  subst hE
  show V E (wC D cy aa ad) 1 m 0 [(0, .int (iz (w)))] []
  refine v_iload_n C 0 dX6_highBoundOf_0 rfl ?_
  refine v_table C dX6_highBoundOf_1 (by omega) (fun tgt ht c1 => ?_) (fun tgt off c1a c1b ho ht => ?_) ⟨61, by decide⟩ (fun ha hb => ?_)
  · obtain rfl : tgt = 61 := by omega
    refine v_bipush (z := 9) C dX6_highBoundOf_61 (by decide) ?_
    refine v_iret C X rfl dX6_highBoundOf_63 ⟨_, rfl, ?_, ?_⟩
    · first
        | (have e : w = 1 := by omega
           subst e; decide)
        | (have e : w = 2 := by omega
           subst e; decide)
        | (have e : w = 3 := by omega
           subst e; decide)
        | (have e : w = 4 := by omega
           subst e; decide)
        | (have e : w = 5 := by omega
           subst e; decide)
        | (have e : w = 6 := by omega
           subst e; decide)
        | (have e : w = 7 := by omega
           subst e; decide)
        | (have e : w = 8 := by omega
           subst e; decide)
        | (unfold loS; rw [if_pos (by omega)])
        | (unfold loS; rw [if_neg (by omega)])
    · rfl
  · rcases (show w = 1 ∨ w = 2 ∨ w = 3 ∨ w = 4 ∨ w = 5 ∨ w = 6 ∨ w = 7 by omega) with c1 | c1 | c1 | c1 | c1 | c1 | c1
    · have ho : off = 43 := by rw [c1] at ho; exact (Option.some.inj ho).symm
      obtain rfl : tgt = 44 := by omega
      refine v_bipush (z := 50) C dX6_highBoundOf_44 (by decide) ?_
      refine v_iret C X rfl dX6_highBoundOf_46 ⟨_, rfl, ?_, ?_⟩
      · first
          | (have e : w = 1 := by omega
             subst e; decide)
          | (have e : w = 2 := by omega
             subst e; decide)
          | (have e : w = 3 := by omega
             subst e; decide)
          | (have e : w = 4 := by omega
             subst e; decide)
          | (have e : w = 5 := by omega
             subst e; decide)
          | (have e : w = 6 := by omega
             subst e; decide)
          | (have e : w = 7 := by omega
             subst e; decide)
          | (have e : w = 8 := by omega
             subst e; decide)
          | (unfold loS; rw [if_pos (by omega)])
          | (unfold loS; rw [if_neg (by omega)])
      · rfl
    · have ho : off = 46 := by rw [c1] at ho; exact (Option.some.inj ho).symm
      obtain rfl : tgt = 47 := by omega
      refine v_bipush (z := 90) C dX6_highBoundOf_47 (by decide) ?_
      refine v_iret C X rfl dX6_highBoundOf_49 ⟨_, rfl, ?_, ?_⟩
      · first
          | (have e : w = 1 := by omega
             subst e; decide)
          | (have e : w = 2 := by omega
             subst e; decide)
          | (have e : w = 3 := by omega
             subst e; decide)
          | (have e : w = 4 := by omega
             subst e; decide)
          | (have e : w = 5 := by omega
             subst e; decide)
          | (have e : w = 6 := by omega
             subst e; decide)
          | (have e : w = 7 := by omega
             subst e; decide)
          | (have e : w = 8 := by omega
             subst e; decide)
          | (unfold loS; rw [if_pos (by omega)])
          | (unfold loS; rw [if_neg (by omega)])
      · rfl
    · have ho : off = 49 := by rw [c1] at ho; exact (Option.some.inj ho).symm
      obtain rfl : tgt = 50 := by omega
      refine v_bipush (z := 16) C dX6_highBoundOf_50 (by decide) ?_
      refine v_iret C X rfl dX6_highBoundOf_52 ⟨_, rfl, ?_, ?_⟩
      · first
          | (have e : w = 1 := by omega
             subst e; decide)
          | (have e : w = 2 := by omega
             subst e; decide)
          | (have e : w = 3 := by omega
             subst e; decide)
          | (have e : w = 4 := by omega
             subst e; decide)
          | (have e : w = 5 := by omega
             subst e; decide)
          | (have e : w = 6 := by omega
             subst e; decide)
          | (have e : w = 7 := by omega
             subst e; decide)
          | (have e : w = 8 := by omega
             subst e; decide)
          | (unfold loS; rw [if_pos (by omega)])
          | (unfold loS; rw [if_neg (by omega)])
      · rfl
    · have ho : off = 60 := by rw [c1] at ho; exact (Option.some.inj ho).symm
      obtain rfl : tgt = 61 := by omega
      refine v_bipush (z := 9) C dX6_highBoundOf_61 (by decide) ?_
      refine v_iret C X rfl dX6_highBoundOf_63 ⟨_, rfl, ?_, ?_⟩
      · first
          | (have e : w = 1 := by omega
             subst e; decide)
          | (have e : w = 2 := by omega
             subst e; decide)
          | (have e : w = 3 := by omega
             subst e; decide)
          | (have e : w = 4 := by omega
             subst e; decide)
          | (have e : w = 5 := by omega
             subst e; decide)
          | (have e : w = 6 := by omega
             subst e; decide)
          | (have e : w = 7 := by omega
             subst e; decide)
          | (have e : w = 8 := by omega
             subst e; decide)
          | (unfold loS; rw [if_pos (by omega)])
          | (unfold loS; rw [if_neg (by omega)])
      · rfl
    · have ho : off = 52 := by rw [c1] at ho; exact (Option.some.inj ho).symm
      obtain rfl : tgt = 53 := by omega
      refine v_sipush (z := 999) C dX6_highBoundOf_53 (by decide) ?_
      refine v_iret C X rfl dX6_highBoundOf_56 ⟨_, rfl, ?_, ?_⟩
      · first
          | (have e : w = 1 := by omega
             subst e; decide)
          | (have e : w = 2 := by omega
             subst e; decide)
          | (have e : w = 3 := by omega
             subst e; decide)
          | (have e : w = 4 := by omega
             subst e; decide)
          | (have e : w = 5 := by omega
             subst e; decide)
          | (have e : w = 6 := by omega
             subst e; decide)
          | (have e : w = 7 := by omega
             subst e; decide)
          | (have e : w = 8 := by omega
             subst e; decide)
          | (unfold loS; rw [if_pos (by omega)])
          | (unfold loS; rw [if_neg (by omega)])
      · rfl
    · have ho : off = 60 := by rw [c1] at ho; exact (Option.some.inj ho).symm
      obtain rfl : tgt = 61 := by omega
      refine v_bipush (z := 9) C dX6_highBoundOf_61 (by decide) ?_
      refine v_iret C X rfl dX6_highBoundOf_63 ⟨_, rfl, ?_, ?_⟩
      · first
          | (have e : w = 1 := by omega
             subst e; decide)
          | (have e : w = 2 := by omega
             subst e; decide)
          | (have e : w = 3 := by omega
             subst e; decide)
          | (have e : w = 4 := by omega
             subst e; decide)
          | (have e : w = 5 := by omega
             subst e; decide)
          | (have e : w = 6 := by omega
             subst e; decide)
          | (have e : w = 7 := by omega
             subst e; decide)
          | (have e : w = 8 := by omega
             subst e; decide)
          | (unfold loS; rw [if_pos (by omega)])
          | (unfold loS; rw [if_neg (by omega)])
      · rfl
    · have ho : off = 56 := by rw [c1] at ho; exact (Option.some.inj ho).symm
      obtain rfl : tgt = 57 := by omega
      refine v_sipush (z := 400) C dX6_highBoundOf_57 (by decide) ?_
      refine v_iret C X rfl dX6_highBoundOf_60 ⟨_, rfl, ?_, ?_⟩
      · first
          | (have e : w = 1 := by omega
             subst e; decide)
          | (have e : w = 2 := by omega
             subst e; decide)
          | (have e : w = 3 := by omega
             subst e; decide)
          | (have e : w = 4 := by omega
             subst e; decide)
          | (have e : w = 5 := by omega
             subst e; decide)
          | (have e : w = 6 := by omega
             subst e; decide)
          | (have e : w = 7 := by omega
             subst e; decide)
          | (have e : w = 8 := by omega
             subst e; decide)
          | (unfold loS; rw [if_pos (by omega)])
          | (unfold loS; rw [if_neg (by omega)])
      · rfl
  · rcases (show w = 1 ∨ w = 2 ∨ w = 3 ∨ w = 4 ∨ w = 5 ∨ w = 6 ∨ w = 7 by omega) with c1 | c1 | c1 | c1 | c1 | c1 | c1
    · exact ⟨44, 43, by rw [c1]; rfl, by decide⟩
    · exact ⟨47, 46, by rw [c1]; rfl, by decide⟩
    · exact ⟨50, 49, by rw [c1]; rfl, by decide⟩
    · exact ⟨61, 60, by rw [c1]; rfl, by decide⟩
    · exact ⟨53, 52, by rw [c1]; rfl, by decide⟩
    · exact ⟨61, 60, by rw [c1]; rfl, by decide⟩
    · exact ⟨57, 56, by rw [c1]; rfl, by decide⟩

set_option maxHeartbeats 4000000 in
set_option maxRecDepth 100000 in
theorem ct_Tape_append {lau : Launch} {D : va_G} {cy : Nat → ClassId} {aa ad : Nat → Nat} (hI : wI (wC D cy aa ad)) (m : Mem) (v h : Int) (hv : -2147483648 ≤ v ∧ v ≤ 2147483647) (hh : m 1 1 = h) (hr : 0 ≤ h ∧ h + 4 ≤ 700) : MT lau (wC D cy aa ad) yX8_append cX8_append 3 (none) ({ frames := 1, cells := 0, slots := 0, locals := 22 } : Room) m [.ref (aa 1), .int (iz (v))] (Pv (fun m' => m' 1 1 = h + 4 ∧ (∀ j : Int, j ≠ 1 → m' 1 j = m 1 j) ∧ (∀ j : Int, m' 2 j = if h ≤ j ∧ j < h + 4 then byZ v (j - h) else m 2 j) ∧ ∀ q, q ≠ 1 → q ≠ 2 → m' q = m q)) := by
  refine v_entry hI RX8 (by decide) rfl (Nat.le_of_ble_eq_true rfl) (fun E hE C X => ?_)
  subst hE
  show V E (wC D cy aa ad) 3 m 0 [(0, .ref (aa 1)), (1, .int (iz (v)))] []
  refine v_bipush (z := 24) C dX8_append_0 (by decide) ?_
  refine v_istore_n (L1 := [(2, .int (iz (24))), (0, .ref (aa 1)), (1, .int (iz (v)))]) C dX8_append_2 (by decide) rfl ?_
  have K3 : ∀ (nK : Nat) (s : Int) (i : Int) (mA : Mem) (hi : 0 ≤ i ∧ i ≤ 4) (hs : s = 24 - 8 * i) (h1 : mA 1 1 = h + i) (h0 : ∀ j : Int, j ≠ 1 → mA 1 j = m 1 j) (h2 : ∀ j : Int, mA 2 j = if h ≤ j ∧ j < h + i then byZ v (j - h) else m 2 j) (hf : ∀ q, q ≠ 1 → q ≠ 2 → mA q = m q), (4 - i).toNat < nK → V E (wC D cy aa ad) 3 mA 3 [(0, .ref (aa 1)), (1, .int (iz (v))), (2, .int (iz (s)))] [] := by
    intro nK
    induction nK with
    | zero => intro s i mA hi hs h1 h0 h2 hf hn; exact absurd hn (Nat.not_lt_zero _)
    | succ nK ih3 =>
      intro s i mA hi hs h1 h0 h2 hf hn3
      refine v_iload_n C 2 dX8_append_3 rfl ?_
      refine v_if_lt (tgt := 41) C dX8_append_4 (by decide) (by omega) (fun c1 => ?_) (fun c1 => ?_)
      · refine v_vret C X dX8_append_41 ⟨rfl, ?_⟩
        have hi4 : i = 4 := by omega
        subst hi4
        exact ⟨h1, h0, h2, hf⟩
      · refine v_aload_n C 0 dX8_append_7 rfl ?_
        refine v_get C 1 0 lC1 (eC1 _) rfl inX8 (by decide) rfl qw36 dX8_append_8 ?_
        refine v_aload_n C 0 dX8_append_11 rfl ?_
        refine v_get C 1 1 lC1 (eC1 _) rfl inX8 (by decide) rfl qw37 dX8_append_12 ?_
        refine v_iload_n C 1 dX8_append_15 rfl ?_
        refine v_iload_n C 2 dX8_append_16 rfl ?_
        refine v_iushr (z := v % 4294967296 / 2 ^ s.toNat) C (by exact iz_us (by omega)) dX8_append_17 ?_
        refine v_sipush (z := 255) C dX8_append_18 (by decide) ?_
        refine v_iand (z := v % 4294967296 / 2 ^ s.toNat % 256) C (by exact iz_255 _) dX8_append_21 ?_
        refine v_callSN (st := []) (n := 3) C [.ref (aa 2), .int (iz (mA 1 1)), .int (iz (v % 4294967296 / 2 ^ s.toNat % 256))] (ct_StageRatios_put C.2.2.2.2.2.2.1 mA (2) (700) (mA 1 1) (v % 4294967296 / 2 ^ s.toNat % 256) ⟨lC2, by decide, eC2⟩ (by first | assumption | omega)) qw494 qw1 "StageRatios" (by decide +kernel) rfl rfl ⟨Nat.le_of_ble_eq_true rfl, Nat.le_of_ble_eq_true rfl⟩ (by decide +kernel) qw493 rfl rfl (Nat.le_of_ble_eq_true rfl) dX8_append_22 (fun r m2 hq2 => ?_)
        obtain ⟨rfl, hq2⟩ := hq2
        show V E (wC D cy aa ad) 3 m2 25 [(0, .ref (aa 1)), (1, .int (iz (v))), (2, .int (iz (s)))] []
        refine v_aload_n C 0 dX8_append_25 rfl ?_
        refine v_dup C dX8_append_26 rfl ?_
        refine v_get C 1 1 lC1 (eC1 _) rfl inX8 (by decide) rfl qw37 dX8_append_27 ?_
        refine v_iconst (z := 1) C dX8_append_30 rfl ?_
        refine v_iadd C dX8_append_31 ?_
        refine v_put C 1 1 ((m2 1 1) + 1) 1 rfl lC1 (eC1 _) rfl inX8 tyX8 tyX8_ok nmX8 (by decide) qw37 rfl rfl rfl (Nat.le_of_ble_eq_true rfl) (by rw [mup_r]; exact (eC1 _)) dX8_append_32 (fun m3 em3 => ?_)
        refine v_iinc (L1 := [(2, .int (iz (s + (-8)))), (0, .ref (aa 1)), (1, .int (iz (v)))]) C 2 dX8_append_35 rfl (by decide) rfl ?_
        refine v_goto (tgt := 3) C dX8_append_38 (by decide) ?_
        refine v_sub [1, 2, 0] rfl ?_
        exact ih3 (s + (-8)) (i + 1) m3 (by first | assumption | omega) (by first | assumption | omega) (by rw [em3, mup_s, ← hq2, mup_k _ _ _ (by decide)]; omega) (by intro j hj; rw [em3, mup_j _ _ hj, ← hq2, mup_k _ _ _ (by decide)]; exact h0 j hj) (by 
                    intro j; rw [em3, mup_k _ _ _ (by decide), ← hq2, mup_r]
                    by_cases e : j = mA 1 1
                    · rw [if_pos (by omega)]; refine (if_pos e).trans ?_; rw [byZ_u hs (by omega)]; congr 1; omega
                    · refine (if_neg e).trans ((h2 j).trans ?_)
                      by_cases d : h ≤ j ∧ j < h + i
                      · rw [if_pos d, if_pos (by omega)]
                      · rw [if_neg d, if_neg (by omega)]
                  ) (by intro q y1 y2; rw [em3, mup_k _ _ _ y1, ← hq2, mup_k _ _ _ y2]; exact hf q y1 y2) (by omega)
  refine v_sub [1, 2, 0] rfl ?_
  exact K3 _ (24) (0) m (by first | assumption | omega) (by first | assumption | omega) (by omega) (by intro j _; rfl) (by intro j; rw [if_neg (by omega)]) (by intro q _ _; rfl) (Nat.lt_succ_self _)
