theorem mgZ_rng {fa : Int → Int} {n s o x : Int} (hF : FaOk fa n) (h0 : 0 ≤ s) (h1 : s < n) (h2 : 0 ≤ o) (h3 : o ≤ fa (s * 9 + 4)) (hx : 1 ≤ x) : 0 ≤ mgZ fa s o x ∧ mgZ fa s o x ≤ 2147483647 := by
  have f := hF s h0 h1
  have a1 : 0 ≤ fa (s * 9 + 5) * (fa (s * 9 + 4) - o) := Int.mul_nonneg (by omega) (by omega)
  have a2 : fa (s * 9 + 5) * (fa (s * 9 + 4) - o) ≤ 999 * (fa (s * 9 + 4) - o) := Int.mul_le_mul_of_nonneg_right (by omega) (by omega)
  have a3 : 0 ≤ mgZ fa s o x := Int.ediv_nonneg (by omega) (by omega)
  have a4 : mgZ fa s o x ≤ 100 * (fa (s * 9 + 5) * (fa (s * 9 + 4) - o)) := Int.ediv_le_self _ (by omega)
  omega
theorem u1_dv {fa : Int → Int} {n s : Int} {X : Int → Int} (h : XOk fa n X) (hF : FaOk fa n) (hn : 1 ≤ n ∧ n ≤ 3) (hl : X (2 + s) < fa (s * 9 + 3)) : DvOk n (X 0) (u1X X s) := by
  refine ⟨hn, h.1, fun j h0 h1 => ?_⟩
  have a := h.u hF j h0 (by omega)
  have f := hF j h0 h1
  unfold uX at a; unfold u1X
  split
  · rename_i e; subst e; omega
  · exact a
set_option maxHeartbeats 4000000 in
set_option maxRecDepth 100000 in
theorem ct_StageRatios_about {lau : Launch} {D : va_G} {cy : Nat → ClassId} {aa ad : Nat → Nat} (hI : wI (wC D cy aa ad)) (m : Mem) (k kf ks kt kc : Nat) (w : Int) (hci : CI m k kf ks kt kc) (hw : -2147483648 ≤ w ∧ w ≤ 2147483647) : MT lau (wC D cy aa ad) yX10_about cX10_about 2 (some .int) ({ frames := 1, cells := 0, slots := 0, locals := 21 } : Room) m [.ref (aa 0), .int (iz (w))] (Pi (fun z m' => (QP (qAbo (m 0 15) (m k) (m 5) w) m m' z) ∧ CI m' k kf ks kt kc)) := by
  refine v_entry hI RX10 (by decide) rfl (Nat.le_of_ble_eq_true rfl) (fun E hE C X => ?_)
  subst hE
  show V E (wC D cy aa ad) 2 m 0 [(0, .ref (aa 0)), (1, .int (iz (w)))] []
  obtain ⟨hk, hcu, htd, -⟩ := id hci
  have ht01 : m 0 15 = 0 ∨ m 0 15 = 1 := htd.imp (fun a => a) (fun a => a.1)
  refine v_aload_n C 0 dX10_about_0 rfl ?_
  refine v_get C 0 15 lC0 (eC0 _) rfl inX10 (by decide) rfl qw434 dX10_about_1 ?_
  refine v_if_eq (tgt := 17) C dX10_about_4 (by decide) (by omega) (fun c1 => ?_) (fun c1 => ?_)
  · refine v_aload_n C 0 dX10_about_17 rfl ?_
    refine v_iconst (z := 1) C dX10_about_18 rfl ?_
    refine v_callV (st := []) (n := 1) (q := 0) C [.int (iz (1))] (ct_StageRatios_refuse C.2.2.2.2.2.2.1 m (1) ) lC0 (eC0 _) rfl qw502 qw1 qw499 rfl rfl ⟨Nat.le_of_ble_eq_true rfl, Nat.le_of_ble_eq_true rfl⟩ (by decide +kernel) qw501 qp0 rfl rfl (Nat.le_of_ble_eq_true rfl) dX10_about_19 (fun r m2 hq2 => ?_)
    obtain ⟨z2, rfl, rfl, hq2⟩ := hq2
    show V E (wC D cy aa ad) 2 m2 22 [(0, .ref (aa 0)), (1, .int (iz (w)))] [.int (iz (-1))]
    refine v_iret C X rfl dX10_about_22 ⟨_, rfl, ?_, ?_⟩
    · rw [← hq2]
      exact ⟨1, Or.inr ⟨fun h => by omega, rfl, rfl⟩, by decide, CQ.of (fun _ _ => rfl)⟩
    · rw [← hq2]; exact hci.of (fun _ _ => rfl)
  · refine v_iload_n C 1 dX10_about_7 rfl ?_
    refine v_if_lt (tgt := 17) C dX10_about_8 (by decide) (by omega) (fun c3 => ?_) (fun c3 => ?_)
    · refine v_aload_n C 0 dX10_about_17 rfl ?_
      refine v_iconst (z := 1) C dX10_about_18 rfl ?_
      refine v_callV (st := []) (n := 1) (q := 0) C [.int (iz (1))] (ct_StageRatios_refuse C.2.2.2.2.2.2.1 m (1) ) lC0 (eC0 _) rfl qw502 qw1 qw499 rfl rfl ⟨Nat.le_of_ble_eq_true rfl, Nat.le_of_ble_eq_true rfl⟩ (by decide +kernel) qw501 qp0 rfl rfl (Nat.le_of_ble_eq_true rfl) dX10_about_19 (fun r m4 hq4 => ?_)
      obtain ⟨z4, rfl, rfl, hq4⟩ := hq4
      show V E (wC D cy aa ad) 2 m4 22 [(0, .ref (aa 0)), (1, .int (iz (w)))] [.int (iz (-1))]
      refine v_iret C X rfl dX10_about_22 ⟨_, rfl, ?_, ?_⟩
      · rw [← hq4]
        exact ⟨1, Or.inr ⟨fun h => by omega, rfl, rfl⟩, by decide, CQ.of (fun _ _ => rfl)⟩
      · rw [← hq4]; exact hci.of (fun _ _ => rfl)
    · refine v_iload_n C 1 dX10_about_11 rfl ?_
      refine v_bipush (z := 6) C dX10_about_12 (by decide) ?_
      refine v_icmp_le (tgt := 23) C dX10_about_14 (by decide) (by omega) (by omega) (fun c5 => ?_) (fun c5 => ?_)
      · obtain ⟨hT1, hti⟩ := htd.resolve_left (by omega)
        obtain ⟨hrk, hX, -⟩ := id hti
        obtain ⟨hk5, hF, hup, hlw, hpl, hnf, hfa, -⟩ := id hrk
        have hkk : 73 ≤ k ∧ 73 ≤ kf ∧ 73 ≤ ks ∧ 73 ≤ kt ∧ 73 ≤ kc := by unfold RocketAt at hk; omega
        have hUr := hX.u hF
        have hDv := hX.dv hF hk5
        refine v_iload_n C 1 dX10_about_23 rfl ?_
        refine v_table C dX10_about_24 (by omega) (fun tgt ht c6 => ?_) (fun tgt off c6a c6b ho ht => ?_) ⟨138, by decide⟩ (fun ha hb => ?_)
        · obtain rfl : tgt = 138 := by omega
          refine v_aload_n C 0 dX10_about_138 rfl ?_
          refine v_aload_n C 0 dX10_about_139 rfl ?_
          refine v_get C 0 13 lC0 (eC0 _) rfl inX10 (by decide) rfl qw432 dX10_about_140 ?_
          refine v_st (st1 := [.ref (aa k), .ref (aa 0)]) (by rw [show (m 0 13).toNat = k from by assumption]) ?_
          refine v_get C k 6 (RocketAt.l0 hk) (RocketAt.e0 hk _) rfl inX6 (by decide) rfl qw391 dX10_about_143 ?_
          refine v_callV (st := []) (n := 1) (q := 0) C [.int (iz (m k 6))] (ct_StageRatios_answer C.2.2.2.2.2.2.1 m (m k 6) ) lC0 (eC0 _) rfl qw640 qw1 qw637 rfl rfl ⟨Nat.le_of_ble_eq_true rfl, Nat.le_of_ble_eq_true rfl⟩ (by decide +kernel) qw639 qp16 rfl rfl (Nat.le_of_ble_eq_true rfl) dX10_about_146 (fun r m7 hq7 => ?_)
          obtain ⟨z7, rfl, rfl, hq7⟩ := hq7
          show V E (wC D cy aa ad) 2 m7 149 [(0, .ref (aa 0)), (1, .int (iz (w)))] [.int (iz ((m k 6)))]
          refine v_iret C X rfl dX10_about_149 ⟨_, rfl, ?_, ?_⟩
          · rw [← hq7]
            refine ⟨0, ?_, by decide, CQ.of (fun _ _ => rfl)⟩
            obtain rfl : w = 6 := by omega
            exact Or.inl ⟨hT1, ⟨by omega, by omega⟩, rfl, rfl⟩
          · rw [← hq7]; exact hci.of (fun _ _ => rfl)
        · rcases (show w = 0 ∨ w = 1 ∨ w = 2 ∨ w = 3 ∨ w = 4 ∨ w = 5 by omega) with c6 | c6 | c6 | c6 | c6 | c6
          · have ho : off = 40 := by rw [c6] at ho; exact (Option.some.inj ho).symm
            obtain rfl : tgt = 64 := by omega
            refine v_aload_n C 0 dX10_about_64 rfl ?_
            refine v_aload_n C 0 dX10_about_65 rfl ?_
            refine v_get C 0 2 lC0 (eC0 _) rfl inX10 (by decide) rfl qw421 dX10_about_66 ?_
            refine v_iconst (z := 0) C dX10_about_69 rfl ?_
            refine v_callS (st := [.ref (aa 0)]) (n := 2) C [.ref (aa 5), .int (iz (0))] (ct_StageRatios_at C.2.2.2.2.2.2.1 m (5) (11) (0) ⟨lC5, by decide, eC5⟩ (by first | assumption | omega)) qw618 qw1 qw653 rfl rfl ⟨Nat.le_of_ble_eq_true rfl, Nat.le_of_ble_eq_true rfl⟩ (by decide +kernel) qw617 rfl rfl (Nat.le_of_ble_eq_true rfl) dX10_about_70 (fun r m8 hq8 => ?_)
            obtain ⟨z8, rfl, rfl, rfl⟩ := hq8
            show V E (wC D cy aa ad) 2 m 73 [(0, .ref (aa 0)), (1, .int (iz (w)))] [.int (iz (m 5 0)), .ref (aa 0)]
            refine v_callV (st := []) (n := 1) (q := 0) C [.int (iz (m 5 0))] (ct_StageRatios_answer C.2.2.2.2.2.2.1 m (m 5 0) ) lC0 (eC0 _) rfl qw640 qw1 qw637 rfl rfl ⟨Nat.le_of_ble_eq_true rfl, Nat.le_of_ble_eq_true rfl⟩ (by decide +kernel) qw639 qp16 rfl rfl (Nat.le_of_ble_eq_true rfl) dX10_about_73 (fun r m9 hq9 => ?_)
            obtain ⟨z9, rfl, rfl, hq9⟩ := hq9
            show V E (wC D cy aa ad) 2 m9 76 [(0, .ref (aa 0)), (1, .int (iz (w)))] [.int (iz ((m 5 0)))]
            refine v_iret C X rfl dX10_about_76 ⟨_, rfl, ?_, ?_⟩
            · rw [← hq9]
              refine ⟨0, ?_, by decide, CQ.of (fun _ _ => rfl)⟩
              obtain rfl : w = 0 := by omega
              exact Or.inl ⟨hT1, ⟨by omega, by omega⟩, rfl, rfl⟩
            · rw [← hq9]; exact hci.of (fun _ _ => rfl)
          · have ho : off = 53 := by rw [c6] at ho; exact (Option.some.inj ho).symm
            obtain rfl : tgt = 77 := by omega
            refine v_aload_n C 0 dX10_about_77 rfl ?_
            refine v_aload_n C 0 dX10_about_78 rfl ?_
            refine v_get C 0 13 lC0 (eC0 _) rfl inX10 (by decide) rfl qw432 dX10_about_79 ?_
            refine v_st (st1 := [.ref (aa k), .ref (aa 0)]) (by rw [show (m 0 13).toNat = k from by assumption]) ?_
            refine v_get C k 2 (RocketAt.l0 hk) (RocketAt.e0 hk _) rfl inX6 (by decide) rfl qw373 dX10_about_82 ?_
            refine v_callV (st := []) (n := 1) (q := 0) C [.int (iz (m k 2))] (ct_StageRatios_answer C.2.2.2.2.2.2.1 m (m k 2) ) lC0 (eC0 _) rfl qw640 qw1 qw637 rfl rfl ⟨Nat.le_of_ble_eq_true rfl, Nat.le_of_ble_eq_true rfl⟩ (by decide +kernel) qw639 qp16 rfl rfl (Nat.le_of_ble_eq_true rfl) dX10_about_85 (fun r m10 hq10 => ?_)
            obtain ⟨z10, rfl, rfl, hq10⟩ := hq10
            show V E (wC D cy aa ad) 2 m10 88 [(0, .ref (aa 0)), (1, .int (iz (w)))] [.int (iz ((m k 2)))]
            refine v_iret C X rfl dX10_about_88 ⟨_, rfl, ?_, ?_⟩
            · rw [← hq10]
              refine ⟨0, ?_, by decide, CQ.of (fun _ _ => rfl)⟩
              obtain rfl : w = 1 := by omega
              exact Or.inl ⟨hT1, ⟨by omega, by omega⟩, rfl, rfl⟩
            · rw [← hq10]; exact hci.of (fun _ _ => rfl)
          · have ho : off = 65 := by rw [c6] at ho; exact (Option.some.inj ho).symm
            obtain rfl : tgt = 89 := by omega
            refine v_aload_n C 0 dX10_about_89 rfl ?_
            refine v_aload_n C 0 dX10_about_90 rfl ?_
            refine v_get C 0 13 lC0 (eC0 _) rfl inX10 (by decide) rfl qw432 dX10_about_91 ?_
            refine v_st (st1 := [.ref (aa k), .ref (aa 0)]) (by rw [show (m 0 13).toNat = k from by assumption]) ?_
            refine v_get C k 3 (RocketAt.l0 hk) (RocketAt.e0 hk _) rfl inX6 (by decide) rfl qw376 dX10_about_94 ?_
            refine v_callV (st := []) (n := 1) (q := 0) C [.int (iz (m k 3))] (ct_StageRatios_answer C.2.2.2.2.2.2.1 m (m k 3) ) lC0 (eC0 _) rfl qw640 qw1 qw637 rfl rfl ⟨Nat.le_of_ble_eq_true rfl, Nat.le_of_ble_eq_true rfl⟩ (by decide +kernel) qw639 qp16 rfl rfl (Nat.le_of_ble_eq_true rfl) dX10_about_97 (fun r m11 hq11 => ?_)
            obtain ⟨z11, rfl, rfl, hq11⟩ := hq11
            show V E (wC D cy aa ad) 2 m11 100 [(0, .ref (aa 0)), (1, .int (iz (w)))] [.int (iz ((m k 3)))]
            refine v_iret C X rfl dX10_about_100 ⟨_, rfl, ?_, ?_⟩
            · rw [← hq11]
              refine ⟨0, ?_, by decide, CQ.of (fun _ _ => rfl)⟩
              obtain rfl : w = 2 := by omega
              exact Or.inl ⟨hT1, ⟨by omega, by omega⟩, rfl, rfl⟩
            · rw [← hq11]; exact hci.of (fun _ _ => rfl)
          · have ho : off = 77 := by rw [c6] at ho; exact (Option.some.inj ho).symm
            obtain rfl : tgt = 101 := by omega
            refine v_aload_n C 0 dX10_about_101 rfl ?_
            refine v_aload_n C 0 dX10_about_102 rfl ?_
            refine v_get C 0 2 lC0 (eC0 _) rfl inX10 (by decide) rfl qw421 dX10_about_103 ?_
            refine v_iconst (z := 1) C dX10_about_106 rfl ?_
            refine v_callS (st := [.ref (aa 0)]) (n := 2) C [.ref (aa 5), .int (iz (1))] (ct_StageRatios_at C.2.2.2.2.2.2.1 m (5) (11) (1) ⟨lC5, by decide, eC5⟩ (by first | assumption | omega)) qw618 qw1 qw653 rfl rfl ⟨Nat.le_of_ble_eq_true rfl, Nat.le_of_ble_eq_true rfl⟩ (by decide +kernel) qw617 rfl rfl (Nat.le_of_ble_eq_true rfl) dX10_about_107 (fun r m12 hq12 => ?_)
            obtain ⟨z12, rfl, rfl, rfl⟩ := hq12
            show V E (wC D cy aa ad) 2 m 110 [(0, .ref (aa 0)), (1, .int (iz (w)))] [.int (iz (m 5 1)), .ref (aa 0)]
            refine v_callV (st := []) (n := 1) (q := 0) C [.int (iz (m 5 1))] (ct_StageRatios_answer C.2.2.2.2.2.2.1 m (m 5 1) ) lC0 (eC0 _) rfl qw640 qw1 qw637 rfl rfl ⟨Nat.le_of_ble_eq_true rfl, Nat.le_of_ble_eq_true rfl⟩ (by decide +kernel) qw639 qp16 rfl rfl (Nat.le_of_ble_eq_true rfl) dX10_about_110 (fun r m13 hq13 => ?_)
            obtain ⟨z13, rfl, rfl, hq13⟩ := hq13
            show V E (wC D cy aa ad) 2 m13 113 [(0, .ref (aa 0)), (1, .int (iz (w)))] [.int (iz ((m 5 1)))]
            refine v_iret C X rfl dX10_about_113 ⟨_, rfl, ?_, ?_⟩
            · rw [← hq13]
              refine ⟨0, ?_, by decide, CQ.of (fun _ _ => rfl)⟩
              obtain rfl : w = 3 := by omega
              exact Or.inl ⟨hT1, ⟨by omega, by omega⟩, rfl, rfl⟩
            · rw [← hq13]; exact hci.of (fun _ _ => rfl)
          · have ho : off = 90 := by rw [c6] at ho; exact (Option.some.inj ho).symm
            obtain rfl : tgt = 114 := by omega
            refine v_aload_n C 0 dX10_about_114 rfl ?_
            refine v_aload_n C 0 dX10_about_115 rfl ?_
            refine v_get C 0 13 lC0 (eC0 _) rfl inX10 (by decide) rfl qw432 dX10_about_116 ?_
            refine v_st (st1 := [.ref (aa k), .ref (aa 0)]) (by rw [show (m 0 13).toNat = k from by assumption]) ?_
            refine v_get C k 4 (RocketAt.l0 hk) (RocketAt.e0 hk _) rfl inX6 (by decide) rfl qw381 dX10_about_119 ?_
            refine v_callV (st := []) (n := 1) (q := 0) C [.int (iz (m k 4))] (ct_StageRatios_answer C.2.2.2.2.2.2.1 m (m k 4) ) lC0 (eC0 _) rfl qw640 qw1 qw637 rfl rfl ⟨Nat.le_of_ble_eq_true rfl, Nat.le_of_ble_eq_true rfl⟩ (by decide +kernel) qw639 qp16 rfl rfl (Nat.le_of_ble_eq_true rfl) dX10_about_122 (fun r m14 hq14 => ?_)
            obtain ⟨z14, rfl, rfl, hq14⟩ := hq14
            show V E (wC D cy aa ad) 2 m14 125 [(0, .ref (aa 0)), (1, .int (iz (w)))] [.int (iz ((m k 4)))]
            refine v_iret C X rfl dX10_about_125 ⟨_, rfl, ?_, ?_⟩
            · rw [← hq14]
              refine ⟨0, ?_, by decide, CQ.of (fun _ _ => rfl)⟩
              obtain rfl : w = 4 := by omega
              exact Or.inl ⟨hT1, ⟨by omega, by omega⟩, rfl, rfl⟩
            · rw [← hq14]; exact hci.of (fun _ _ => rfl)
          · have ho : off = 102 := by rw [c6] at ho; exact (Option.some.inj ho).symm
            obtain rfl : tgt = 126 := by omega
            refine v_aload_n C 0 dX10_about_126 rfl ?_
            refine v_aload_n C 0 dX10_about_127 rfl ?_
            refine v_get C 0 13 lC0 (eC0 _) rfl inX10 (by decide) rfl qw432 dX10_about_128 ?_
            refine v_st (st1 := [.ref (aa k), .ref (aa 0)]) (by rw [show (m 0 13).toNat = k from by assumption]) ?_
            refine v_get C k 5 (RocketAt.l0 hk) (RocketAt.e0 hk _) rfl inX6 (by decide) rfl qw387 dX10_about_131 ?_
            refine v_callV (st := []) (n := 1) (q := 0) C [.int (iz (m k 5))] (ct_StageRatios_answer C.2.2.2.2.2.2.1 m (m k 5) ) lC0 (eC0 _) rfl qw640 qw1 qw637 rfl rfl ⟨Nat.le_of_ble_eq_true rfl, Nat.le_of_ble_eq_true rfl⟩ (by decide +kernel) qw639 qp16 rfl rfl (Nat.le_of_ble_eq_true rfl) dX10_about_134 (fun r m15 hq15 => ?_)
            obtain ⟨z15, rfl, rfl, hq15⟩ := hq15
            show V E (wC D cy aa ad) 2 m15 137 [(0, .ref (aa 0)), (1, .int (iz (w)))] [.int (iz ((m k 5)))]
            refine v_iret C X rfl dX10_about_137 ⟨_, rfl, ?_, ?_⟩
            · rw [← hq15]
              refine ⟨0, ?_, by decide, CQ.of (fun _ _ => rfl)⟩
              obtain rfl : w = 5 := by omega
              exact Or.inl ⟨hT1, ⟨by omega, by omega⟩, rfl, rfl⟩
            · rw [← hq15]; exact hci.of (fun _ _ => rfl)
        · rcases (show w = 0 ∨ w = 1 ∨ w = 2 ∨ w = 3 ∨ w = 4 ∨ w = 5 by omega) with c6 | c6 | c6 | c6 | c6 | c6
          · exact ⟨64, 40, by rw [c6]; rfl, by decide⟩
          · exact ⟨77, 53, by rw [c6]; rfl, by decide⟩
          · exact ⟨89, 65, by rw [c6]; rfl, by decide⟩
          · exact ⟨101, 77, by rw [c6]; rfl, by decide⟩
          · exact ⟨114, 90, by rw [c6]; rfl, by decide⟩
          · exact ⟨126, 102, by rw [c6]; rfl, by decide⟩
      · refine v_aload_n C 0 dX10_about_17 rfl ?_
        refine v_iconst (z := 1) C dX10_about_18 rfl ?_
        refine v_callV (st := []) (n := 1) (q := 0) C [.int (iz (1))] (ct_StageRatios_refuse C.2.2.2.2.2.2.1 m (1) ) lC0 (eC0 _) rfl qw502 qw1 qw499 rfl rfl ⟨Nat.le_of_ble_eq_true rfl, Nat.le_of_ble_eq_true rfl⟩ (by decide +kernel) qw501 qp0 rfl rfl (Nat.le_of_ble_eq_true rfl) dX10_about_19 (fun r m16 hq16 => ?_)
        obtain ⟨z16, rfl, rfl, hq16⟩ := hq16
        show V E (wC D cy aa ad) 2 m16 22 [(0, .ref (aa 0)), (1, .int (iz (w)))] [.int (iz (-1))]
        refine v_iret C X rfl dX10_about_22 ⟨_, rfl, ?_, ?_⟩
        · rw [← hq16]
          exact ⟨1, Or.inr ⟨fun h => by omega, rfl, rfl⟩, by decide, CQ.of (fun _ _ => rfl)⟩
        · rw [← hq16]; exact hci.of (fun _ _ => rfl)

set_option maxHeartbeats 4000000 in
set_option maxRecDepth 100000 in
theorem ct_StageRatios_stage {lau : Launch} {D : va_G} {cy : Nat → ClassId} {aa ad : Nat → Nat} (hI : wI (wC D cy aa ad)) (m : Mem) (k kf ks kt kc : Nat) (s w : Int) (hci : CI m k kf ks kt kc) (hs : -2147483648 ≤ s ∧ s ≤ 2147483647) (hw : -2147483648 ≤ w ∧ w ≤ 2147483647) : MT lau (wC D cy aa ad) yX10_stage cX10_stage 3 (some .int) ({ frames := 2, cells := 0, slots := 0, locals := 47 } : Room) m [.ref (aa 0), .int (iz (s)), .int (iz (w))] (Pi (fun z m' => (QP (qSta (m 0 15) (m kf) (m k) (m 5) s w) m m' z) ∧ CI m' k kf ks kt kc)) := by
  refine v_entry hI RX10 (by decide) rfl (Nat.le_of_ble_eq_true rfl) (fun E hE C X => ?_)
  subst hE
  show V E (wC D cy aa ad) 3 m 0 [(0, .ref (aa 0)), (1, .int (iz (s))), (2, .int (iz (w)))] []
  obtain ⟨hk, hcu, htd, -⟩ := id hci
  have ht01 : m 0 15 = 0 ∨ m 0 15 = 1 := htd.imp (fun a => a) (fun a => a.1)
  refine v_aload_n C 0 dX10_stage_0 rfl ?_
  refine v_iload_n C 1 dX10_stage_1 rfl ?_
  refine v_callV (st := []) (n := 1) (q := 0) C [.int (iz (s))] (ct_StageRatios_has C.2.2.2.2.2.2.1 m (k) (kf) (ks) (kt) (kc) (s) (by first | assumption | omega) (by first | assumption | omega) (by first | assumption | omega) (by first | assumption | omega)) lC0 (eC0 _) rfl qw661 qw1 qw658 rfl rfl ⟨Nat.le_of_ble_eq_true rfl, Nat.le_of_ble_eq_true rfl⟩ (by decide +kernel) qw660 qp17 rfl rfl (Nat.le_of_ble_eq_true rfl) dX10_stage_2 (fun r m1 hq1 => ?_)
  obtain ⟨z1, rfl, ⟨rfl, hq1, rfl⟩ | ⟨rfl, hq1, rfl⟩⟩ := hq1
  · show V E (wC D cy aa ad) 3 m 5 [(0, .ref (aa 0)), (1, .int (iz (s))), (2, .int (iz (w)))] [.int (iz (1))]
    refine v_if_eq (tgt := 18) C dX10_stage_5 (by decide) (by omega) (fun c2 => by exact absurd c2 (by decide)) (fun c2 => ?_)
    refine v_iload_n C 2 dX10_stage_8 rfl ?_
    refine v_if_lt (tgt := 18) C dX10_stage_9 (by decide) (by omega) (fun c3 => ?_) (fun c3 => ?_)
    · refine v_aload_n C 0 dX10_stage_18 rfl ?_
      refine v_iconst (z := 1) C dX10_stage_19 rfl ?_
      refine v_callV (st := []) (n := 1) (q := 0) C [.int (iz (1))] (ct_StageRatios_refuse C.2.2.2.2.2.2.1 m (1) ) lC0 (eC0 _) rfl qw502 qw1 qw499 rfl rfl ⟨Nat.le_of_ble_eq_true rfl, Nat.le_of_ble_eq_true rfl⟩ (by decide +kernel) qw501 qp0 rfl rfl (Nat.le_of_ble_eq_true rfl) dX10_stage_20 (fun r m4 hq4 => ?_)
      obtain ⟨z4, rfl, rfl, hq4⟩ := hq4
      show V E (wC D cy aa ad) 3 m4 23 [(0, .ref (aa 0)), (1, .int (iz (s))), (2, .int (iz (w)))] [.int (iz (-1))]
      refine v_iret C X rfl dX10_stage_23 ⟨_, rfl, ?_, ?_⟩
      · rw [← hq4]
        exact ⟨1, Or.inr ⟨fun h => by first | exact hq1 h.1 | omega, rfl, rfl⟩, by decide, CQ.of (fun _ _ => rfl)⟩
      · rw [← hq4]; exact hci.of (fun _ _ => rfl)
    · refine v_iload_n C 2 dX10_stage_12 rfl ?_
      refine v_bipush (z := 9) C dX10_stage_13 (by decide) ?_
      refine v_icmp_le (tgt := 24) C dX10_stage_15 (by decide) (by omega) (by omega) (fun c5 => ?_) (fun c5 => ?_)
      · have hhs := hq1
        obtain ⟨hT1, hs0⟩ := id hhs
        obtain ⟨-, hti⟩ := htd.resolve_left (by omega)
        obtain ⟨hrk, hX, -⟩ := id hti
        obtain ⟨hk5, hF, hup, hlw, hpl, hnf, hfa, -⟩ := id hrk
        have hkk : 73 ≤ k ∧ 73 ≤ kf ∧ 73 ≤ ks ∧ 73 ≤ kt ∧ 73 ≤ kc := by unfold RocketAt at hk; omega
        have hUr := hX.u hF
        have hDv := hX.dv hF hk5
        refine v_iload_n C 2 dX10_stage_24 rfl ?_
        refine v_bipush (z := 9) C dX10_stage_25 (by decide) ?_
        refine v_icmp_ne (tgt := 53) C dX10_stage_27 (by decide) (by omega) (by omega) (fun c6 => ?_) (fun c6 => ?_)
        · refine v_aload_n C 0 dX10_stage_53 rfl ?_
          refine v_aload_n C 0 dX10_stage_54 rfl ?_
          refine v_get C 0 13 lC0 (eC0 _) rfl inX10 (by decide) rfl qw432 dX10_stage_55 ?_
          refine v_st (st1 := [.ref (aa k), .ref (aa 0)]) (by rw [show (m 0 13).toNat = k from by assumption]) ?_
          refine v_iload_n C 1 dX10_stage_58 rfl ?_
          refine v_iload_n C 2 dX10_stage_59 rfl ?_
          refine v_callV (st := [.ref (aa 0)]) (n := 2) (q := k) C [.int (iz (s)), .int (iz (w))] (ct_Rocket_fact C.2.2.2.2.2.2.1 m (k) (kf) (ks) (kt) (kc) (s) (w) hk (by first | assumption | omega) (by first | assumption | omega)) (RocketAt.l0 hk) (RocketAt.e0 hk _) rfl qw590 qw15 qw636 rfl rfl ⟨Nat.le_of_ble_eq_true rfl, Nat.le_of_ble_eq_true rfl⟩ (by decide +kernel) qw588 qw589 rfl rfl (Nat.le_of_ble_eq_true rfl) dX10_stage_60 (fun r m7 hq7 => ?_)
          obtain ⟨z7, rfl, rfl, rfl⟩ := hq7
          show V E (wC D cy aa ad) 3 m 63 [(0, .ref (aa 0)), (1, .int (iz (s))), (2, .int (iz (w)))] [.int (iz (m kf (s * 9 + w))), .ref (aa 0)]
          refine v_callV (st := []) (n := 1) (q := 0) C [.int (iz (m kf (s * 9 + w)))] (ct_StageRatios_answer C.2.2.2.2.2.2.1 m (m kf (s * 9 + w)) ) lC0 (eC0 _) rfl qw640 qw1 qw637 rfl rfl ⟨Nat.le_of_ble_eq_true rfl, Nat.le_of_ble_eq_true rfl⟩ (by decide +kernel) qw639 qp16 rfl rfl (Nat.le_of_ble_eq_true rfl) dX10_stage_63 (fun r m8 hq8 => ?_)
          obtain ⟨z8, rfl, rfl, hq8⟩ := hq8
          show V E (wC D cy aa ad) 3 m8 66 [(0, .ref (aa 0)), (1, .int (iz (s))), (2, .int (iz (w)))] [.int (iz ((m kf (s * 9 + w))))]
          refine v_iret C X rfl dX10_stage_66 ⟨_, rfl, ?_, ?_⟩
          · rw [← hq8]
            refine ⟨0, ?_, by decide, CQ.of (fun _ _ => rfl)⟩
            exact Or.inl ⟨hhs, ⟨by omega, by omega⟩, rfl, (if_neg (by omega)).symm⟩
          · rw [← hq8]; exact hci.of (fun _ _ => rfl)
        · refine v_aload_n C 0 dX10_stage_30 rfl ?_
          refine v_aload_n C 0 dX10_stage_31 rfl ?_
          refine v_get C 0 13 lC0 (eC0 _) rfl inX10 (by decide) rfl qw432 dX10_stage_32 ?_
          refine v_st (st1 := [.ref (aa k), .ref (aa 0)]) (by rw [show (m 0 13).toNat = k from by assumption]) ?_
          refine v_iload_n C 1 dX10_stage_35 rfl ?_
          refine v_aload_n C 0 dX10_stage_36 rfl ?_
          refine v_get C 0 2 lC0 (eC0 _) rfl inX10 (by decide) rfl qw421 dX10_stage_37 ?_
          refine v_iconst (z := 2) C dX10_stage_40 rfl ?_
          refine v_iload_n C 1 dX10_stage_41 rfl ?_
          refine v_iadd C dX10_stage_42 ?_
          refine v_callS (st := [.int (iz (s)), .ref (aa k), .ref (aa 0)]) (n := 2) C [.ref (aa 5), .int (iz (2 + s))] (ct_StageRatios_at C.2.2.2.2.2.2.1 m (5) (11) (2 + s) ⟨lC5, by decide, eC5⟩ (by first | assumption | omega)) qw618 qw1 qw653 rfl rfl ⟨Nat.le_of_ble_eq_true rfl, Nat.le_of_ble_eq_true rfl⟩ (by decide +kernel) qw617 rfl rfl (Nat.le_of_ble_eq_true rfl) dX10_stage_43 (fun r m9 hq9 => ?_)
          obtain ⟨z9, rfl, rfl, rfl⟩ := hq9
          show V E (wC D cy aa ad) 3 m 46 [(0, .ref (aa 0)), (1, .int (iz (s))), (2, .int (iz (w)))] [.int (iz (m 5 (2 + s))), .int (iz (s)), .ref (aa k), .ref (aa 0)]
          have hs3 := hs0.2
          refine v_callV (st := [.ref (aa 0)]) (n := 2) (q := k) C [.int (iz (s)), .int (iz (m 5 (2 + s)))] (ct_Rocket_shell C.2.2.2.2.2.2.1 m (k) (kf) (ks) (kt) (kc) (s) (m 5 (2 + s)) (m k 5) hk (by first | assumption | omega) (by first | assumption | omega) (by exact hUr s hs0.1 (by omega)) (by first | assumption | omega)) (RocketAt.l0 hk) (RocketAt.e0 hk _) rfl qw665 qw15 qw662 rfl rfl ⟨Nat.le_of_ble_eq_true rfl, Nat.le_of_ble_eq_true rfl⟩ (by decide +kernel) qw663 qw664 rfl rfl (Nat.le_of_ble_eq_true rfl) dX10_stage_46 (fun r m10 hq10 => ?_)
          obtain ⟨z10, rfl, rfl, rfl⟩ := hq10
          show V E (wC D cy aa ad) 3 m 49 [(0, .ref (aa 0)), (1, .int (iz (s))), (2, .int (iz (w)))] [.int (iz (shZ (m kf) s (m 5 (2 + s)))), .ref (aa 0)]
          refine v_callV (st := []) (n := 1) (q := 0) C [.int (iz (shZ (m kf) s (m 5 (2 + s))))] (ct_StageRatios_answer C.2.2.2.2.2.2.1 m (shZ (m kf) s (m 5 (2 + s))) ) lC0 (eC0 _) rfl qw640 qw1 qw637 rfl rfl ⟨Nat.le_of_ble_eq_true rfl, Nat.le_of_ble_eq_true rfl⟩ (by decide +kernel) qw639 qp16 rfl rfl (Nat.le_of_ble_eq_true rfl) dX10_stage_49 (fun r m11 hq11 => ?_)
          obtain ⟨z11, rfl, rfl, hq11⟩ := hq11
          show V E (wC D cy aa ad) 3 m11 52 [(0, .ref (aa 0)), (1, .int (iz (s))), (2, .int (iz (w)))] [.int (iz ((shZ (m kf) s (m 5 (2 + s)))))]
          refine v_iret C X rfl dX10_stage_52 ⟨_, rfl, ?_, ?_⟩
          · rw [← hq11]
            refine ⟨0, ?_, by decide, CQ.of (fun _ _ => rfl)⟩
            obtain rfl : w = 9 := by omega
            exact Or.inl ⟨hhs, ⟨by omega, by omega⟩, rfl, rfl⟩
          · rw [← hq11]; exact hci.of (fun _ _ => rfl)
      · refine v_aload_n C 0 dX10_stage_18 rfl ?_
        refine v_iconst (z := 1) C dX10_stage_19 rfl ?_
        refine v_callV (st := []) (n := 1) (q := 0) C [.int (iz (1))] (ct_StageRatios_refuse C.2.2.2.2.2.2.1 m (1) ) lC0 (eC0 _) rfl qw502 qw1 qw499 rfl rfl ⟨Nat.le_of_ble_eq_true rfl, Nat.le_of_ble_eq_true rfl⟩ (by decide +kernel) qw501 qp0 rfl rfl (Nat.le_of_ble_eq_true rfl) dX10_stage_20 (fun r m12 hq12 => ?_)
        obtain ⟨z12, rfl, rfl, hq12⟩ := hq12
        show V E (wC D cy aa ad) 3 m12 23 [(0, .ref (aa 0)), (1, .int (iz (s))), (2, .int (iz (w)))] [.int (iz (-1))]
        refine v_iret C X rfl dX10_stage_23 ⟨_, rfl, ?_, ?_⟩
        · rw [← hq12]
          exact ⟨1, Or.inr ⟨fun h => by first | exact hq1 h.1 | omega, rfl, rfl⟩, by decide, CQ.of (fun _ _ => rfl)⟩
        · rw [← hq12]; exact hci.of (fun _ _ => rfl)
  · show V E (wC D cy aa ad) 3 m 5 [(0, .ref (aa 0)), (1, .int (iz (s))), (2, .int (iz (w)))] [.int (iz (0))]
    refine v_if_eq (tgt := 18) C dX10_stage_5 (by decide) (by omega) (fun c13 => ?_) (fun c13 => by exact absurd c13 (by decide))
    refine v_aload_n C 0 dX10_stage_18 rfl ?_
    refine v_iconst (z := 1) C dX10_stage_19 rfl ?_
    refine v_callV (st := []) (n := 1) (q := 0) C [.int (iz (1))] (ct_StageRatios_refuse C.2.2.2.2.2.2.1 m (1) ) lC0 (eC0 _) rfl qw502 qw1 qw499 rfl rfl ⟨Nat.le_of_ble_eq_true rfl, Nat.le_of_ble_eq_true rfl⟩ (by decide +kernel) qw501 qp0 rfl rfl (Nat.le_of_ble_eq_true rfl) dX10_stage_20 (fun r m14 hq14 => ?_)
    obtain ⟨z14, rfl, rfl, hq14⟩ := hq14
    show V E (wC D cy aa ad) 3 m14 23 [(0, .ref (aa 0)), (1, .int (iz (s))), (2, .int (iz (w)))] [.int (iz (-1))]
    refine v_iret C X rfl dX10_stage_23 ⟨_, rfl, ?_, ?_⟩
    · rw [← hq14]
      exact ⟨1, Or.inr ⟨fun h => by first | exact hq1 h.1 | omega, rfl, rfl⟩, by decide, CQ.of (fun _ _ => rfl)⟩
    · rw [← hq14]; exact hci.of (fun _ _ => rfl)

set_option maxHeartbeats 4000000 in
set_option maxRecDepth 100000 in
theorem ct_StageRatios_part {lau : Launch} {D : va_G} {cy : Nat → ClassId} {aa ad : Nat → Nat} (hI : wI (wC D cy aa ad)) (m : Mem) (k kf ks kt kc : Nat) (s w : Int) (hci : CI m k kf ks kt kc) (hs : -2147483648 ≤ s ∧ s ≤ 2147483647) (hw : -2147483648 ≤ w ∧ w ≤ 2147483647) : MT lau (wC D cy aa ad) yX10_part cX10_part 3 (some .int) ({ frames := 4, cells := 0, slots := 0, locals := 92 } : Room) m [.ref (aa 0), .int (iz (s)), .int (iz (w))] (Pi (fun z m' => (QP (qPar (m 0 15) (m kf) (m k) (m 5) s w) m m' z) ∧ CI m' k kf ks kt kc)) := by
  refine v_entry hI RX10 (by decide) rfl (Nat.le_of_ble_eq_true rfl) (fun E hE C X => ?_)
  subst hE
  show V E (wC D cy aa ad) 3 m 0 [(0, .ref (aa 0)), (1, .int (iz (s))), (2, .int (iz (w)))] []
  obtain ⟨hk, hcu, htd, -⟩ := id hci
  have ht01 : m 0 15 = 0 ∨ m 0 15 = 1 := htd.imp (fun a => a) (fun a => a.1)
  refine v_aload_n C 0 dX10_part_0 rfl ?_
  refine v_iload_n C 1 dX10_part_1 rfl ?_
  refine v_callV (st := []) (n := 1) (q := 0) C [.int (iz (s))] (ct_StageRatios_has C.2.2.2.2.2.2.1 m (k) (kf) (ks) (kt) (kc) (s) (by first | assumption | omega) (by first | assumption | omega) (by first | assumption | omega) (by first | assumption | omega)) lC0 (eC0 _) rfl qw661 qw1 qw658 rfl rfl ⟨Nat.le_of_ble_eq_true rfl, Nat.le_of_ble_eq_true rfl⟩ (by decide +kernel) qw660 qp17 rfl rfl (Nat.le_of_ble_eq_true rfl) dX10_part_2 (fun r m1 hq1 => ?_)
  obtain ⟨z1, rfl, ⟨rfl, hq1, rfl⟩ | ⟨rfl, hq1, rfl⟩⟩ := hq1
  · show V E (wC D cy aa ad) 3 m 5 [(0, .ref (aa 0)), (1, .int (iz (s))), (2, .int (iz (w)))] [.int (iz (1))]
    refine v_if_eq (tgt := 17) C dX10_part_5 (by decide) (by omega) (fun c2 => by exact absurd c2 (by decide)) (fun c2 => ?_)
    refine v_iload_n C 2 dX10_part_8 rfl ?_
    refine v_if_lt (tgt := 17) C dX10_part_9 (by decide) (by omega) (fun c3 => ?_) (fun c3 => ?_)
    · refine v_aload_n C 0 dX10_part_17 rfl ?_
      refine v_iconst (z := 1) C dX10_part_18 rfl ?_
      refine v_callV (st := []) (n := 1) (q := 0) C [.int (iz (1))] (ct_StageRatios_refuse C.2.2.2.2.2.2.1 m (1) ) lC0 (eC0 _) rfl qw502 qw1 qw499 rfl rfl ⟨Nat.le_of_ble_eq_true rfl, Nat.le_of_ble_eq_true rfl⟩ (by decide +kernel) qw501 qp0 rfl rfl (Nat.le_of_ble_eq_true rfl) dX10_part_19 (fun r m4 hq4 => ?_)
      obtain ⟨z4, rfl, rfl, hq4⟩ := hq4
      show V E (wC D cy aa ad) 3 m4 22 [(0, .ref (aa 0)), (1, .int (iz (s))), (2, .int (iz (w)))] [.int (iz (-1))]
      refine v_iret C X rfl dX10_part_22 ⟨_, rfl, ?_, ?_⟩
      · rw [← hq4]
        exact ⟨1, Or.inr ⟨fun h => by first | exact hq1 h.1 | omega, rfl, rfl⟩, by decide, CQ.of (fun _ _ => rfl)⟩
      · rw [← hq4]; exact hci.of (fun _ _ => rfl)
    · refine v_iload_n C 2 dX10_part_12 rfl ?_
      refine v_iconst (z := 4) C dX10_part_13 rfl ?_
      refine v_icmp_le (tgt := 23) C dX10_part_14 (by decide) (by omega) (by omega) (fun c5 => ?_) (fun c5 => ?_)
      · have hhs := hq1
        obtain ⟨hT1, hs0⟩ := id hhs
        obtain ⟨-, hti⟩ := htd.resolve_left (by omega)
        obtain ⟨hrk, hX, -⟩ := id hti
        obtain ⟨hk5, hF, hup, hlw, hpl, hnf, hfa, -⟩ := id hrk
        have hkk : 73 ≤ k ∧ 73 ≤ kf ∧ 73 ≤ ks ∧ 73 ≤ kt ∧ 73 ≤ kc := by unfold RocketAt at hk; omega
        have hUr := hX.u hF
        have hDv := hX.dv hF hk5
        refine v_aload_n C 0 dX10_part_23 rfl ?_
        refine v_callV (st := []) (n := 0) (q := 0) C [] (ct_StageRatios_weighAsItIs C.2.2.2.2.2.2.1 m (k) (kf) (ks) (kt) (kc) (by first | assumption | omega) (by first | assumption | omega) (by first | assumption | omega)) lC0 (eC0 _) rfl qw674 qw1 qw671 rfl rfl ⟨Nat.le_of_ble_eq_true rfl, Nat.le_of_ble_eq_true rfl⟩ (by decide +kernel) qw673 qp18 rfl rfl (Nat.le_of_ble_eq_true rfl) dX10_part_24 (fun r m6 hq6 => ?_)
        obtain ⟨rfl, hq6⟩ := hq6
        show V E (wC D cy aa ad) 3 m6 27 [(0, .ref (aa 0)), (1, .int (iz (s))), (2, .int (iz (w)))] []
        have o1 := hq6.2.2
        have hW := hq6.1
        have hcu1 : (m6 0 13).toNat = k := by rw [o1 0 (by decide)]; exact hcu
        have k1 := o1 k (by omega)
        have kf1 := o1 kf (by omega)
        have hstr := fun (j : Int) (h0 : 0 ≤ j) (h1 : j ≤ m k 5) => stZ_rng (s := j) hF hk5.2 hX.1 hDv.2.2 h0 h1
        refine v_iload_n C 2 dX10_part_27 rfl ?_
        refine v_table C dX10_part_28 (by omega) (fun tgt ht c7 => ?_) (fun tgt off c7a c7b ho ht => ?_) ⟨133, by decide⟩ (fun ha hb => ?_)
        · obtain rfl : tgt = 133 := by omega
          have hfs := hF s hs0.1 hs0.2
          refine v_aload_n C 0 dX10_part_133 rfl ?_
          refine v_aload_n C 0 dX10_part_134 rfl ?_
          refine v_get C 0 4 lC0 (eC0 _) rfl inX10 (by decide) rfl qw423 dX10_part_135 ?_
          refine v_aload_n C 0 dX10_part_138 rfl ?_
          refine v_get C 0 13 lC0 (eC0 _) rfl inX10 (by decide) rfl qw432 dX10_part_139 ?_
          refine v_st (st1 := [.ref (aa k), .ref (aa 19), .ref (aa 0)]) (by rw [show (m6 0 13).toNat = k from by assumption]) ?_
          refine v_iload_n C 1 dX10_part_142 rfl ?_
          refine v_aload_n C 0 dX10_part_143 rfl ?_
          refine v_get C 0 13 lC0 (eC0 _) rfl inX10 (by decide) rfl qw432 dX10_part_144 ?_
          refine v_st (st1 := [.ref (aa k), .int (iz (s)), .ref (aa k), .ref (aa 19), .ref (aa 0)]) (by rw [show (m6 0 13).toNat = k from by assumption]) ?_
          refine v_iload_n C 1 dX10_part_147 rfl ?_
          refine v_bipush (z := 8) C dX10_part_148 (by decide) ?_
          refine v_callV (st := [.int (iz (s)), .ref (aa k), .ref (aa 19), .ref (aa 0)]) (n := 2) (q := k) C [.int (iz (s)), .int (iz (8))] (ct_Rocket_fact C.2.2.2.2.2.2.1 m6 (k) (kf) (ks) (kt) (kc) (s) (8) hk (by first | assumption | omega) (by first | assumption | omega)) (RocketAt.l0 hk) (RocketAt.e0 hk _) rfl qw590 qw15 qw636 rfl rfl ⟨Nat.le_of_ble_eq_true rfl, Nat.le_of_ble_eq_true rfl⟩ (by decide +kernel) qw588 qw589 rfl rfl (Nat.le_of_ble_eq_true rfl) dX10_part_150 (fun r m8 hq8 => ?_)
          obtain ⟨z8, rfl, rfl, rfl⟩ := hq8
          show V E (wC D cy aa ad) 3 m6 153 [(0, .ref (aa 0)), (1, .int (iz (s))), (2, .int (iz (w)))] [.int (iz (m6 kf (s * 9 + 8))), .int (iz (s)), .ref (aa k), .ref (aa 19), .ref (aa 0)]
          refine v_callV (st := [.ref (aa 0)]) (n := 3) (q := 19) C [.ref (aa k), .int (iz (s)), .int (iz (m6 kf (s * 9 + 8)))] (ct_Weights_pushWithout C.2.2.2.2.2.2.1 m6 (19) (20) (21) (22) (k) (kf) (ks) (kt) (kc) (s) (m6 kf (s * 9 + 8)) (m k 5) (by unfold WeightsAt; decide) hk (by exact hk5.2) (by exact ⟨hs0.1, hs0.2⟩) (by rw [kf1]; exact hF) (by rw [kf1]; have := hF s hs0.1 hs0.2; omega) (by rw [(hW.2 s hs0.1 hs0.2).1]; have := hstr s hs0.1 (by omega); omega)) lC19 (eC19 _) rfl qw694 qw8 qw698 rfl rfl ⟨Nat.le_of_ble_eq_true rfl, Nat.le_of_ble_eq_true rfl⟩ (by decide +kernel) qw692 qw693 rfl rfl (Nat.le_of_ble_eq_true rfl) dX10_part_153 (fun r m9 hq9 => ?_)
          obtain ⟨z9, rfl, rfl, rfl⟩ := hq9
          show V E (wC D cy aa ad) 3 m6 156 [(0, .ref (aa 0)), (1, .int (iz (s))), (2, .int (iz (w)))] [.int (iz (mgZ (m6 kf) s (m6 kf (s * 9 + 8)) (m6 21 s))), .ref (aa 0)]
          refine v_callV (st := []) (n := 1) (q := 0) C [.int (iz (mgZ (m6 kf) s (m6 kf (s * 9 + 8)) (m6 21 s)))] (ct_StageRatios_answer C.2.2.2.2.2.2.1 m6 (mgZ (m6 kf) s (m6 kf (s * 9 + 8)) (m6 21 s)) ) lC0 (eC0 _) rfl qw640 qw1 qw637 rfl rfl ⟨Nat.le_of_ble_eq_true rfl, Nat.le_of_ble_eq_true rfl⟩ (by decide +kernel) qw639 qp16 rfl rfl (Nat.le_of_ble_eq_true rfl) dX10_part_156 (fun r m10 hq10 => ?_)
          obtain ⟨z10, rfl, rfl, hq10⟩ := hq10
          show V E (wC D cy aa ad) 3 m10 159 [(0, .ref (aa 0)), (1, .int (iz (s))), (2, .int (iz (w)))] [.int (iz ((mgZ (m6 kf) s (m6 kf (s * 9 + 8)) (m6 21 s))))]
          refine v_iret C X rfl dX10_part_159 ⟨_, rfl, ?_, ?_⟩
          · rw [← hq10]
            refine ⟨0, ?_, by decide, CQ.of (fun q h => o1 q (by omega))⟩
            obtain rfl : w = 4 := by omega
            exact Or.inl ⟨hhs, ⟨by omega, by omega⟩, rfl, fun h => by first | omega | (rw [kf1, (hW.2 s hs0.1 hs0.2).1]; rfl), fun h => by first | omega | (rw [kf1, (hW.2 s hs0.1 hs0.2).1]; rfl), fun h => by first | omega | (rw [kf1, (hW.2 s hs0.1 hs0.2).1]; rfl), fun h => by first | omega | (rw [kf1, (hW.2 s hs0.1 hs0.2).1]; rfl), fun h => by first | omega | (rw [kf1, (hW.2 s hs0.1 hs0.2).1]; rfl)⟩
          · rw [← hq10]; exact hci.of (fun q h => o1 q (by omega))
        · rcases (show w = 0 ∨ w = 1 ∨ w = 2 ∨ w = 3 by omega) with c7 | c7 | c7 | c7
          · have ho : off = 32 := by rw [c7] at ho; exact (Option.some.inj ho).symm
            obtain rfl : tgt = 60 := by omega
            refine v_aload_n C 0 dX10_part_60 rfl ?_
            refine v_aload_n C 0 dX10_part_61 rfl ?_
            refine v_get C 0 4 lC0 (eC0 _) rfl inX10 (by decide) rfl qw423 dX10_part_62 ?_
            refine v_get C 19 0 lC19 (eC19 _) rfl inX9 (by decide) rfl qw180 dX10_part_65 ?_
            refine v_iload_n C 1 dX10_part_68 rfl ?_
            refine v_callS (st := [.ref (aa 0)]) (n := 2) C [.ref (aa 20), .int (iz (s))] (ct_StageRatios_at C.2.2.2.2.2.2.1 m6 (20) (3) (s) ⟨lC20, by decide, eC20⟩ (by first | assumption | omega)) qw618 qw1 qw653 rfl rfl ⟨Nat.le_of_ble_eq_true rfl, Nat.le_of_ble_eq_true rfl⟩ (by decide +kernel) qw617 rfl rfl (Nat.le_of_ble_eq_true rfl) dX10_part_69 (fun r m11 hq11 => ?_)
            obtain ⟨z11, rfl, rfl, rfl⟩ := hq11
            show V E (wC D cy aa ad) 3 m6 72 [(0, .ref (aa 0)), (1, .int (iz (s))), (2, .int (iz (w)))] [.int (iz (m6 20 s)), .ref (aa 0)]
            refine v_callV (st := []) (n := 1) (q := 0) C [.int (iz (m6 20 s))] (ct_StageRatios_answer C.2.2.2.2.2.2.1 m6 (m6 20 s) ) lC0 (eC0 _) rfl qw640 qw1 qw637 rfl rfl ⟨Nat.le_of_ble_eq_true rfl, Nat.le_of_ble_eq_true rfl⟩ (by decide +kernel) qw639 qp16 rfl rfl (Nat.le_of_ble_eq_true rfl) dX10_part_72 (fun r m12 hq12 => ?_)
            obtain ⟨z12, rfl, rfl, hq12⟩ := hq12
            show V E (wC D cy aa ad) 3 m12 75 [(0, .ref (aa 0)), (1, .int (iz (s))), (2, .int (iz (w)))] [.int (iz ((m6 20 s)))]
            refine v_iret C X rfl dX10_part_75 ⟨_, rfl, ?_, ?_⟩
            · rw [← hq12]
              refine ⟨0, ?_, by decide, CQ.of (fun q h => o1 q (by omega))⟩
              obtain rfl : w = 0 := by omega
              exact Or.inl ⟨hhs, ⟨by omega, by omega⟩, rfl, fun h => by first | omega | exact hq6.2.1 s hs0.1 (by omega), fun h => by first | omega | exact hq6.2.1 s hs0.1 (by omega), fun h => by first | omega | exact hq6.2.1 s hs0.1 (by omega), fun h => by first | omega | exact hq6.2.1 s hs0.1 (by omega), fun h => by first | omega | exact hq6.2.1 s hs0.1 (by omega)⟩
            · rw [← hq12]; exact hci.of (fun q h => o1 q (by omega))
          · have ho : off = 48 := by rw [c7] at ho; exact (Option.some.inj ho).symm
            obtain rfl : tgt = 76 := by omega
            refine v_aload_n C 0 dX10_part_76 rfl ?_
            refine v_aload_n C 0 dX10_part_77 rfl ?_
            refine v_get C 0 4 lC0 (eC0 _) rfl inX10 (by decide) rfl qw423 dX10_part_78 ?_
            refine v_get C 19 1 lC19 (eC19 _) rfl inX9 (by decide) rfl qw183 dX10_part_81 ?_
            refine v_iload_n C 1 dX10_part_84 rfl ?_
            refine v_callS (st := [.ref (aa 0)]) (n := 2) C [.ref (aa 21), .int (iz (s))] (ct_StageRatios_at C.2.2.2.2.2.2.1 m6 (21) (3) (s) ⟨lC21, by decide, eC21⟩ (by first | assumption | omega)) qw618 qw1 qw653 rfl rfl ⟨Nat.le_of_ble_eq_true rfl, Nat.le_of_ble_eq_true rfl⟩ (by decide +kernel) qw617 rfl rfl (Nat.le_of_ble_eq_true rfl) dX10_part_85 (fun r m13 hq13 => ?_)
            obtain ⟨z13, rfl, rfl, rfl⟩ := hq13
            show V E (wC D cy aa ad) 3 m6 88 [(0, .ref (aa 0)), (1, .int (iz (s))), (2, .int (iz (w)))] [.int (iz (m6 21 s)), .ref (aa 0)]
            refine v_callV (st := []) (n := 1) (q := 0) C [.int (iz (m6 21 s))] (ct_StageRatios_answer C.2.2.2.2.2.2.1 m6 (m6 21 s) ) lC0 (eC0 _) rfl qw640 qw1 qw637 rfl rfl ⟨Nat.le_of_ble_eq_true rfl, Nat.le_of_ble_eq_true rfl⟩ (by decide +kernel) qw639 qp16 rfl rfl (Nat.le_of_ble_eq_true rfl) dX10_part_88 (fun r m14 hq14 => ?_)
            obtain ⟨z14, rfl, rfl, hq14⟩ := hq14
            show V E (wC D cy aa ad) 3 m14 91 [(0, .ref (aa 0)), (1, .int (iz (s))), (2, .int (iz (w)))] [.int (iz ((m6 21 s)))]
            refine v_iret C X rfl dX10_part_91 ⟨_, rfl, ?_, ?_⟩
            · rw [← hq14]
              refine ⟨0, ?_, by decide, CQ.of (fun q h => o1 q (by omega))⟩
              obtain rfl : w = 1 := by omega
              exact Or.inl ⟨hhs, ⟨by omega, by omega⟩, rfl, fun h => by first | omega | exact (hW.2 s hs0.1 hs0.2).1, fun h => by first | omega | exact (hW.2 s hs0.1 hs0.2).1, fun h => by first | omega | exact (hW.2 s hs0.1 hs0.2).1, fun h => by first | omega | exact (hW.2 s hs0.1 hs0.2).1, fun h => by first | omega | exact (hW.2 s hs0.1 hs0.2).1⟩
            · rw [← hq14]; exact hci.of (fun q h => o1 q (by omega))
          · have ho : off = 64 := by rw [c7] at ho; exact (Option.some.inj ho).symm
            obtain rfl : tgt = 92 := by omega
            refine v_aload_n C 0 dX10_part_92 rfl ?_
            refine v_aload_n C 0 dX10_part_93 rfl ?_
            refine v_get C 0 4 lC0 (eC0 _) rfl inX10 (by decide) rfl qw423 dX10_part_94 ?_
            refine v_get C 19 2 lC19 (eC19 _) rfl inX9 (by decide) rfl qw185 dX10_part_97 ?_
            refine v_iload_n C 1 dX10_part_100 rfl ?_
            refine v_callS (st := [.ref (aa 0)]) (n := 2) C [.ref (aa 22), .int (iz (s))] (ct_StageRatios_at C.2.2.2.2.2.2.1 m6 (22) (3) (s) ⟨lC22, by decide, eC22⟩ (by first | assumption | omega)) qw618 qw1 qw653 rfl rfl ⟨Nat.le_of_ble_eq_true rfl, Nat.le_of_ble_eq_true rfl⟩ (by decide +kernel) qw617 rfl rfl (Nat.le_of_ble_eq_true rfl) dX10_part_101 (fun r m15 hq15 => ?_)
            obtain ⟨z15, rfl, rfl, rfl⟩ := hq15
            show V E (wC D cy aa ad) 3 m6 104 [(0, .ref (aa 0)), (1, .int (iz (s))), (2, .int (iz (w)))] [.int (iz (m6 22 s)), .ref (aa 0)]
            refine v_callV (st := []) (n := 1) (q := 0) C [.int (iz (m6 22 s))] (ct_StageRatios_answer C.2.2.2.2.2.2.1 m6 (m6 22 s) ) lC0 (eC0 _) rfl qw640 qw1 qw637 rfl rfl ⟨Nat.le_of_ble_eq_true rfl, Nat.le_of_ble_eq_true rfl⟩ (by decide +kernel) qw639 qp16 rfl rfl (Nat.le_of_ble_eq_true rfl) dX10_part_104 (fun r m16 hq16 => ?_)
            obtain ⟨z16, rfl, rfl, hq16⟩ := hq16
            show V E (wC D cy aa ad) 3 m16 107 [(0, .ref (aa 0)), (1, .int (iz (s))), (2, .int (iz (w)))] [.int (iz ((m6 22 s)))]
            refine v_iret C X rfl dX10_part_107 ⟨_, rfl, ?_, ?_⟩
            · rw [← hq16]
              refine ⟨0, ?_, by decide, CQ.of (fun q h => o1 q (by omega))⟩
              obtain rfl : w = 2 := by omega
              exact Or.inl ⟨hhs, ⟨by omega, by omega⟩, rfl, fun h => by first | omega | exact (hW.2 s hs0.1 hs0.2).2, fun h => by first | omega | exact (hW.2 s hs0.1 hs0.2).2, fun h => by first | omega | exact (hW.2 s hs0.1 hs0.2).2, fun h => by first | omega | exact (hW.2 s hs0.1 hs0.2).2, fun h => by first | omega | exact (hW.2 s hs0.1 hs0.2).2⟩
            · rw [← hq16]; exact hci.of (fun q h => o1 q (by omega))
          · have ho : off = 80 := by rw [c7] at ho; exact (Option.some.inj ho).symm
            obtain rfl : tgt = 108 := by omega
            refine v_aload_n C 0 dX10_part_108 rfl ?_
            refine v_aload_n C 0 dX10_part_109 rfl ?_
            refine v_get C 0 4 lC0 (eC0 _) rfl inX10 (by decide) rfl qw423 dX10_part_110 ?_
            refine v_aload_n C 0 dX10_part_113 rfl ?_
            refine v_get C 0 13 lC0 (eC0 _) rfl inX10 (by decide) rfl qw432 dX10_part_114 ?_
            refine v_st (st1 := [.ref (aa k), .ref (aa 19), .ref (aa 0)]) (by rw [show (m6 0 13).toNat = k from by assumption]) ?_
            refine v_iload_n C 1 dX10_part_117 rfl ?_
            refine v_callV (st := [.ref (aa 0)]) (n := 2) (q := 19) C [.ref (aa k), .int (iz (s))] (ct_Weights_holdsAt C.2.2.2.2.2.2.1 m6 (19) (20) (21) (22) (k) (kf) (ks) (kt) (kc) (s) (m k 5) (by unfold WeightsAt; decide) hk (by exact hk5.2) (by exact ⟨hs0.1, hs0.2⟩) (by rw [kf1]; exact hF) (by rw [(hW.2 s hs0.1 hs0.2).1]; have := hstr s hs0.1 (by omega); omega)) lC19 (eC19 _) rfl qw689 qw8 qw686 rfl rfl ⟨Nat.le_of_ble_eq_true rfl, Nat.le_of_ble_eq_true rfl⟩ (by decide +kernel) qw687 qw688 rfl rfl (Nat.le_of_ble_eq_true rfl) dX10_part_118 (fun r m17 hq17 => ?_)
            obtain ⟨z17, rfl, ⟨rfl, hq17, rfl⟩ | ⟨rfl, hq17, rfl⟩⟩ := hq17
            · show V E (wC D cy aa ad) 3 m6 121 [(0, .ref (aa 0)), (1, .int (iz (s))), (2, .int (iz (w)))] [.int (iz (1)), .ref (aa 0)]
              have hho : (1 : Int) = 1 ∧ hoZ (m kf) s (stX (m kf) (m k) (m 5) s) ∨ (1 : Int) = 0 ∧ ¬ hoZ (m kf) s (stX (m kf) (m k) (m 5) s) := by
                rw [kf1, (hW.2 s hs0.1 hs0.2).1] at hq17; exact Or.inl ⟨rfl, hq17⟩
              refine v_if_eq (tgt := 128) C dX10_part_121 (by decide) (by omega) (fun c18 => by exact absurd c18 (by decide)) (fun c18 => ?_)
              refine v_iconst (z := 1) C dX10_part_124 rfl ?_
              refine v_goto (tgt := 129) C dX10_part_125 (by decide) ?_
              refine v_callV (st := []) (n := 1) (q := 0) C [.int (iz (1))] (ct_StageRatios_answer C.2.2.2.2.2.2.1 m6 (1) ) lC0 (eC0 _) rfl qw640 qw1 qw637 rfl rfl ⟨Nat.le_of_ble_eq_true rfl, Nat.le_of_ble_eq_true rfl⟩ (by decide +kernel) qw639 qp16 rfl rfl (Nat.le_of_ble_eq_true rfl) dX10_part_129 (fun r m19 hq19 => ?_)
              obtain ⟨z19, rfl, rfl, hq19⟩ := hq19
              show V E (wC D cy aa ad) 3 m19 132 [(0, .ref (aa 0)), (1, .int (iz (s))), (2, .int (iz (w)))] [.int (iz (1))]
              refine v_iret C X rfl dX10_part_132 ⟨_, rfl, ?_, ?_⟩
              · rw [← hq19]
                refine ⟨0, ?_, by decide, CQ.of (fun q h => o1 q (by omega))⟩
                obtain rfl : w = 3 := by omega
                exact Or.inl ⟨hhs, ⟨by omega, by omega⟩, rfl, fun h => by first | omega | exact hho, fun h => by first | omega | exact hho, fun h => by first | omega | exact hho, fun h => by first | omega | exact hho, fun h => by first | omega | exact hho⟩
              · rw [← hq19]; exact hci.of (fun q h => o1 q (by omega))
            · show V E (wC D cy aa ad) 3 m6 121 [(0, .ref (aa 0)), (1, .int (iz (s))), (2, .int (iz (w)))] [.int (iz (0)), .ref (aa 0)]
              have hho : (0 : Int) = 1 ∧ hoZ (m kf) s (stX (m kf) (m k) (m 5) s) ∨ (0 : Int) = 0 ∧ ¬ hoZ (m kf) s (stX (m kf) (m k) (m 5) s) := by
                rw [kf1, (hW.2 s hs0.1 hs0.2).1] at hq17; exact Or.inr ⟨rfl, hq17⟩
              refine v_if_eq (tgt := 128) C dX10_part_121 (by decide) (by omega) (fun c20 => ?_) (fun c20 => by exact absurd c20 (by decide))
              refine v_iconst (z := 0) C dX10_part_128 rfl ?_
              refine v_callV (st := []) (n := 1) (q := 0) C [.int (iz (0))] (ct_StageRatios_answer C.2.2.2.2.2.2.1 m6 (0) ) lC0 (eC0 _) rfl qw640 qw1 qw637 rfl rfl ⟨Nat.le_of_ble_eq_true rfl, Nat.le_of_ble_eq_true rfl⟩ (by decide +kernel) qw639 qp16 rfl rfl (Nat.le_of_ble_eq_true rfl) dX10_part_129 (fun r m21 hq21 => ?_)
              obtain ⟨z21, rfl, rfl, hq21⟩ := hq21
              show V E (wC D cy aa ad) 3 m21 132 [(0, .ref (aa 0)), (1, .int (iz (s))), (2, .int (iz (w)))] [.int (iz (0))]
              refine v_iret C X rfl dX10_part_132 ⟨_, rfl, ?_, ?_⟩
              · rw [← hq21]
                refine ⟨0, ?_, by decide, CQ.of (fun q h => o1 q (by omega))⟩
                obtain rfl : w = 3 := by omega
                exact Or.inl ⟨hhs, ⟨by omega, by omega⟩, rfl, fun h => by first | omega | exact hho, fun h => by first | omega | exact hho, fun h => by first | omega | exact hho, fun h => by first | omega | exact hho, fun h => by first | omega | exact hho⟩
              · rw [← hq21]; exact hci.of (fun q h => o1 q (by omega))
        · rcases (show w = 0 ∨ w = 1 ∨ w = 2 ∨ w = 3 by omega) with c7 | c7 | c7 | c7
          · exact ⟨60, 32, by rw [c7]; rfl, by decide⟩
          · exact ⟨76, 48, by rw [c7]; rfl, by decide⟩
          · exact ⟨92, 64, by rw [c7]; rfl, by decide⟩
          · exact ⟨108, 80, by rw [c7]; rfl, by decide⟩
      · refine v_aload_n C 0 dX10_part_17 rfl ?_
        refine v_iconst (z := 1) C dX10_part_18 rfl ?_
        refine v_callV (st := []) (n := 1) (q := 0) C [.int (iz (1))] (ct_StageRatios_refuse C.2.2.2.2.2.2.1 m (1) ) lC0 (eC0 _) rfl qw502 qw1 qw499 rfl rfl ⟨Nat.le_of_ble_eq_true rfl, Nat.le_of_ble_eq_true rfl⟩ (by decide +kernel) qw501 qp0 rfl rfl (Nat.le_of_ble_eq_true rfl) dX10_part_19 (fun r m22 hq22 => ?_)
        obtain ⟨z22, rfl, rfl, hq22⟩ := hq22
        show V E (wC D cy aa ad) 3 m22 22 [(0, .ref (aa 0)), (1, .int (iz (s))), (2, .int (iz (w)))] [.int (iz (-1))]
        refine v_iret C X rfl dX10_part_22 ⟨_, rfl, ?_, ?_⟩
        · rw [← hq22]
          exact ⟨1, Or.inr ⟨fun h => by first | exact hq1 h.1 | omega, rfl, rfl⟩, by decide, CQ.of (fun _ _ => rfl)⟩
        · rw [← hq22]; exact hci.of (fun _ _ => rfl)
  · show V E (wC D cy aa ad) 3 m 5 [(0, .ref (aa 0)), (1, .int (iz (s))), (2, .int (iz (w)))] [.int (iz (0))]
    refine v_if_eq (tgt := 17) C dX10_part_5 (by decide) (by omega) (fun c23 => ?_) (fun c23 => by exact absurd c23 (by decide))
    refine v_aload_n C 0 dX10_part_17 rfl ?_
    refine v_iconst (z := 1) C dX10_part_18 rfl ?_
    refine v_callV (st := []) (n := 1) (q := 0) C [.int (iz (1))] (ct_StageRatios_refuse C.2.2.2.2.2.2.1 m (1) ) lC0 (eC0 _) rfl qw502 qw1 qw499 rfl rfl ⟨Nat.le_of_ble_eq_true rfl, Nat.le_of_ble_eq_true rfl⟩ (by decide +kernel) qw501 qp0 rfl rfl (Nat.le_of_ble_eq_true rfl) dX10_part_19 (fun r m24 hq24 => ?_)
    obtain ⟨z24, rfl, rfl, hq24⟩ := hq24
    show V E (wC D cy aa ad) 3 m24 22 [(0, .ref (aa 0)), (1, .int (iz (s))), (2, .int (iz (w)))] [.int (iz (-1))]
    refine v_iret C X rfl dX10_part_22 ⟨_, rfl, ?_, ?_⟩
    · rw [← hq24]
      exact ⟨1, Or.inr ⟨fun h => by first | exact hq1 h.1 | omega, rfl, rfl⟩, by decide, CQ.of (fun _ _ => rfl)⟩
    · rw [← hq24]; exact hci.of (fun _ _ => rfl)

set_option maxHeartbeats 4000000 in
set_option maxRecDepth 100000 in
theorem ct_StageRatios_margin {lau : Launch} {D : va_G} {cy : Nat → ClassId} {aa ad : Nat → Nat} (hI : wI (wC D cy aa ad)) (m : Mem) (k kf ks kt kc : Nat) (s w : Int) (hci : CI m k kf ks kt kc) (hs : -2147483648 ≤ s ∧ s ≤ 2147483647) (hw : -2147483648 ≤ w ∧ w ≤ 2147483647) : MT lau (wC D cy aa ad) yX10_margin cX10_margin 3 (some .int) ({ frames := 4, cells := 0, slots := 0, locals := 92 } : Room) m [.ref (aa 0), .int (iz (s)), .int (iz (w))] (Pi (fun z m' => (QP (qMar (m 0 15) (m kf) (m k) (m 5) s w) m m' z) ∧ CI m' k kf ks kt kc)) := by
  refine v_entry hI RX10 (by decide) rfl (Nat.le_of_ble_eq_true rfl) (fun E hE C X => ?_)
  subst hE
  show V E (wC D cy aa ad) 3 m 0 [(0, .ref (aa 0)), (1, .int (iz (s))), (2, .int (iz (w)))] []
  obtain ⟨hk, hcu, htd, -⟩ := id hci
  have ht01 : m 0 15 = 0 ∨ m 0 15 = 1 := htd.imp (fun a => a) (fun a => a.1)
  refine v_aload_n C 0 dX10_margin_0 rfl ?_
  refine v_iload_n C 1 dX10_margin_1 rfl ?_
  refine v_callV (st := []) (n := 1) (q := 0) C [.int (iz (s))] (ct_StageRatios_has C.2.2.2.2.2.2.1 m (k) (kf) (ks) (kt) (kc) (s) (by first | assumption | omega) (by first | assumption | omega) (by first | assumption | omega) (by first | assumption | omega)) lC0 (eC0 _) rfl qw661 qw1 qw658 rfl rfl ⟨Nat.le_of_ble_eq_true rfl, Nat.le_of_ble_eq_true rfl⟩ (by decide +kernel) qw660 qp17 rfl rfl (Nat.le_of_ble_eq_true rfl) dX10_margin_2 (fun r m1 hq1 => ?_)
  obtain ⟨z1, rfl, ⟨rfl, hq1, rfl⟩ | ⟨rfl, hq1, rfl⟩⟩ := hq1
  · show V E (wC D cy aa ad) 3 m 5 [(0, .ref (aa 0)), (1, .int (iz (s))), (2, .int (iz (w)))] [.int (iz (1))]
    refine v_if_ne (tgt := 14) C dX10_margin_5 (by decide) (by omega) (fun c2 => ?_) (fun c2 => by exact absurd c2 (by decide))
    have hhs := hq1
    obtain ⟨hT1, hs0⟩ := id hhs
    obtain ⟨-, hti⟩ := htd.resolve_left (by omega)
    obtain ⟨hrk, hX, -⟩ := id hti
    obtain ⟨hk5, hF, hup, hlw, hpl, hnf, hfa, -⟩ := id hrk
    have hkk : 73 ≤ k ∧ 73 ≤ kf ∧ 73 ≤ ks ∧ 73 ≤ kt ∧ 73 ≤ kc := by unfold RocketAt at hk; omega
    have hUr := hX.u hF
    have hDv := hX.dv hF hk5
    have hfs := hF s hs0.1 hs0.2
    refine v_iload_n C 2 dX10_margin_14 rfl ?_
    refine v_if_lt (tgt := 31) C dX10_margin_15 (by decide) (by omega) (fun c3 => ?_) (fun c3 => ?_)
    · refine v_aload_n C 0 dX10_margin_31 rfl ?_
      refine v_iconst (z := 2) C dX10_margin_32 rfl ?_
      refine v_callV (st := []) (n := 1) (q := 0) C [.int (iz (2))] (ct_StageRatios_refuse C.2.2.2.2.2.2.1 m (2) ) lC0 (eC0 _) rfl qw502 qw1 qw499 rfl rfl ⟨Nat.le_of_ble_eq_true rfl, Nat.le_of_ble_eq_true rfl⟩ (by decide +kernel) qw501 qp0 rfl rfl (Nat.le_of_ble_eq_true rfl) dX10_margin_33 (fun r m4 hq4 => ?_)
      obtain ⟨z4, rfl, rfl, hq4⟩ := hq4
      show V E (wC D cy aa ad) 3 m4 36 [(0, .ref (aa 0)), (1, .int (iz (s))), (2, .int (iz (w)))] [.int (iz (-1))]
      refine v_iret C X rfl dX10_margin_36 ⟨_, rfl, ?_, ?_⟩
      · rw [← hq4]
        exact ⟨2, Or.inr (Or.inl ⟨hhs, by omega, rfl, rfl⟩), by decide, CQ.of (fun _ _ => rfl)⟩
      · rw [← hq4]; exact hci.of (fun _ _ => rfl)
    · refine v_iload_n C 2 dX10_margin_18 rfl ?_
      refine v_aload_n C 0 dX10_margin_19 rfl ?_
      refine v_get C 0 13 lC0 (eC0 _) rfl inX10 (by decide) rfl qw432 dX10_margin_20 ?_
      refine v_st (st1 := [.ref (aa k), .int (iz (w))]) (by rw [show (m 0 13).toNat = k from by assumption]) ?_
      refine v_iload_n C 1 dX10_margin_23 rfl ?_
      refine v_iconst (z := 4) C dX10_margin_24 rfl ?_
      refine v_callV (st := [.int (iz (w))]) (n := 2) (q := k) C [.int (iz (s)), .int (iz (4))] (ct_Rocket_fact C.2.2.2.2.2.2.1 m (k) (kf) (ks) (kt) (kc) (s) (4) hk (by first | assumption | omega) (by first | assumption | omega)) (RocketAt.l0 hk) (RocketAt.e0 hk _) rfl qw590 qw15 qw636 rfl rfl ⟨Nat.le_of_ble_eq_true rfl, Nat.le_of_ble_eq_true rfl⟩ (by decide +kernel) qw588 qw589 rfl rfl (Nat.le_of_ble_eq_true rfl) dX10_margin_25 (fun r m5 hq5 => ?_)
      obtain ⟨z5, rfl, rfl, rfl⟩ := hq5
      show V E (wC D cy aa ad) 3 m 28 [(0, .ref (aa 0)), (1, .int (iz (s))), (2, .int (iz (w)))] [.int (iz (m kf (s * 9 + 4))), .int (iz (w))]
      refine v_icmp_le (tgt := 37) C dX10_margin_28 (by decide) (by omega) (by omega) (fun c6 => ?_) (fun c6 => ?_)
      · refine v_aload_n C 0 dX10_margin_37 rfl ?_
        refine v_callV (st := []) (n := 0) (q := 0) C [] (ct_StageRatios_weighAsItIs C.2.2.2.2.2.2.1 m (k) (kf) (ks) (kt) (kc) (by first | assumption | omega) (by first | assumption | omega) (by first | assumption | omega)) lC0 (eC0 _) rfl qw674 qw1 qw671 rfl rfl ⟨Nat.le_of_ble_eq_true rfl, Nat.le_of_ble_eq_true rfl⟩ (by decide +kernel) qw673 qp18 rfl rfl (Nat.le_of_ble_eq_true rfl) dX10_margin_38 (fun r m7 hq7 => ?_)
        obtain ⟨rfl, hq7⟩ := hq7
        show V E (wC D cy aa ad) 3 m7 41 [(0, .ref (aa 0)), (1, .int (iz (s))), (2, .int (iz (w)))] []
        have o1 := hq7.2.2
        have hW := hq7.1
        have hcu1 : (m7 0 13).toNat = k := by rw [o1 0 (by decide)]; exact hcu
        have k1 := o1 k (by omega)
        have kf1 := o1 kf (by omega)
        have hstr := fun (j : Int) (h0 : 0 ≤ j) (h1 : j ≤ m k 5) => stZ_rng (s := j) hF hk5.2 hX.1 hDv.2.2 h0 h1
        refine v_aload_n C 0 dX10_margin_41 rfl ?_
        refine v_aload_n C 0 dX10_margin_42 rfl ?_
        refine v_get C 0 4 lC0 (eC0 _) rfl inX10 (by decide) rfl qw423 dX10_margin_43 ?_
        refine v_aload_n C 0 dX10_margin_46 rfl ?_
        refine v_get C 0 13 lC0 (eC0 _) rfl inX10 (by decide) rfl qw432 dX10_margin_47 ?_
        refine v_st (st1 := [.ref (aa k), .ref (aa 19), .ref (aa 0)]) (by rw [show (m7 0 13).toNat = k from by assumption]) ?_
        refine v_iload_n C 1 dX10_margin_50 rfl ?_
        refine v_iload_n C 2 dX10_margin_51 rfl ?_
        refine v_callV (st := [.ref (aa 0)]) (n := 3) (q := 19) C [.ref (aa k), .int (iz (s)), .int (iz (w))] (ct_Weights_pushWithout C.2.2.2.2.2.2.1 m7 (19) (20) (21) (22) (k) (kf) (ks) (kt) (kc) (s) (w) (m k 5) (by unfold WeightsAt; decide) hk (by exact hk5.2) (by exact ⟨hs0.1, hs0.2⟩) (by rw [kf1]; exact hF) (by rw [kf1]; omega) (by rw [(hW.2 s hs0.1 hs0.2).1]; have := hstr s hs0.1 (by omega); omega)) lC19 (eC19 _) rfl qw694 qw8 qw698 rfl rfl ⟨Nat.le_of_ble_eq_true rfl, Nat.le_of_ble_eq_true rfl⟩ (by decide +kernel) qw692 qw693 rfl rfl (Nat.le_of_ble_eq_true rfl) dX10_margin_52 (fun r m8 hq8 => ?_)
        obtain ⟨z8, rfl, rfl, rfl⟩ := hq8
        show V E (wC D cy aa ad) 3 m7 55 [(0, .ref (aa 0)), (1, .int (iz (s))), (2, .int (iz (w)))] [.int (iz (mgZ (m7 kf) s w (m7 21 s))), .ref (aa 0)]
        refine v_callV (st := []) (n := 1) (q := 0) C [.int (iz (mgZ (m7 kf) s w (m7 21 s)))] (ct_StageRatios_answer C.2.2.2.2.2.2.1 m7 (mgZ (m7 kf) s w (m7 21 s)) ) lC0 (eC0 _) rfl qw640 qw1 qw637 rfl rfl ⟨Nat.le_of_ble_eq_true rfl, Nat.le_of_ble_eq_true rfl⟩ (by decide +kernel) qw639 qp16 rfl rfl (Nat.le_of_ble_eq_true rfl) dX10_margin_55 (fun r m9 hq9 => ?_)
        obtain ⟨z9, rfl, rfl, hq9⟩ := hq9
        show V E (wC D cy aa ad) 3 m9 58 [(0, .ref (aa 0)), (1, .int (iz (s))), (2, .int (iz (w)))] [.int (iz ((mgZ (m7 kf) s w (m7 21 s))))]
        refine v_iret C X rfl dX10_margin_58 ⟨_, rfl, ?_, ?_⟩
        · rw [← hq9]
          refine ⟨0, ?_, by decide, CQ.of (fun q h => o1 q (by omega))⟩
          exact Or.inl ⟨hhs, ⟨by omega, by omega⟩, rfl, by rw [kf1, (hW.2 s hs0.1 hs0.2).1]; rfl⟩
        · rw [← hq9]; exact hci.of (fun q h => o1 q (by omega))
      · refine v_aload_n C 0 dX10_margin_31 rfl ?_
        refine v_iconst (z := 2) C dX10_margin_32 rfl ?_
        refine v_callV (st := []) (n := 1) (q := 0) C [.int (iz (2))] (ct_StageRatios_refuse C.2.2.2.2.2.2.1 m (2) ) lC0 (eC0 _) rfl qw502 qw1 qw499 rfl rfl ⟨Nat.le_of_ble_eq_true rfl, Nat.le_of_ble_eq_true rfl⟩ (by decide +kernel) qw501 qp0 rfl rfl (Nat.le_of_ble_eq_true rfl) dX10_margin_33 (fun r m10 hq10 => ?_)
        obtain ⟨z10, rfl, rfl, hq10⟩ := hq10
        show V E (wC D cy aa ad) 3 m10 36 [(0, .ref (aa 0)), (1, .int (iz (s))), (2, .int (iz (w)))] [.int (iz (-1))]
        refine v_iret C X rfl dX10_margin_36 ⟨_, rfl, ?_, ?_⟩
        · rw [← hq10]
          exact ⟨2, Or.inr (Or.inl ⟨hhs, by omega, rfl, rfl⟩), by decide, CQ.of (fun _ _ => rfl)⟩
        · rw [← hq10]; exact hci.of (fun _ _ => rfl)
  · show V E (wC D cy aa ad) 3 m 5 [(0, .ref (aa 0)), (1, .int (iz (s))), (2, .int (iz (w)))] [.int (iz (0))]
    refine v_if_ne (tgt := 14) C dX10_margin_5 (by decide) (by omega) (fun c11 => by exact absurd c11 (by decide)) (fun c11 => ?_)
    refine v_aload_n C 0 dX10_margin_8 rfl ?_
    refine v_iconst (z := 1) C dX10_margin_9 rfl ?_
    refine v_callV (st := []) (n := 1) (q := 0) C [.int (iz (1))] (ct_StageRatios_refuse C.2.2.2.2.2.2.1 m (1) ) lC0 (eC0 _) rfl qw502 qw1 qw499 rfl rfl ⟨Nat.le_of_ble_eq_true rfl, Nat.le_of_ble_eq_true rfl⟩ (by decide +kernel) qw501 qp0 rfl rfl (Nat.le_of_ble_eq_true rfl) dX10_margin_10 (fun r m12 hq12 => ?_)
    obtain ⟨z12, rfl, rfl, hq12⟩ := hq12
    show V E (wC D cy aa ad) 3 m12 13 [(0, .ref (aa 0)), (1, .int (iz (s))), (2, .int (iz (w)))] [.int (iz (-1))]
    refine v_iret C X rfl dX10_margin_13 ⟨_, rfl, ?_, ?_⟩
    · rw [← hq12]
      exact ⟨1, Or.inr (Or.inr ⟨hq1, rfl, rfl⟩), by decide, CQ.of (fun _ _ => rfl)⟩
    · rw [← hq12]; exact hci.of (fun _ _ => rfl)

set_option maxHeartbeats 4000000 in
set_option maxRecDepth 100000 in
theorem ct_StageRatios_spare {lau : Launch} {D : va_G} {cy : Nat → ClassId} {aa ad : Nat → Nat} (hI : wI (wC D cy aa ad)) (m : Mem) (k kf ks kt kc : Nat) (s : Int) (hci : CI m k kf ks kt kc) (hs : -2147483648 ≤ s ∧ s ≤ 2147483647) : MT lau (wC D cy aa ad) yX10_spare cX10_spare 4 (some .int) ({ frames := 4, cells := 0, slots := 0, locals := 92 } : Room) m [.ref (aa 0), .int (iz (s))] (Pi (fun z m' => (QP (qSpa (m 0 15) (m kf) (m k) (m 5) s) m m' z) ∧ CI m' k kf ks kt kc)) := by
  refine v_entry hI RX10 (by decide) rfl (Nat.le_of_ble_eq_true rfl) (fun E hE C X => ?_)
  subst hE
  show V E (wC D cy aa ad) 4 m 0 [(0, .ref (aa 0)), (1, .int (iz (s)))] []
  obtain ⟨hk, hcu, htd, -⟩ := id hci
  have ht01 : m 0 15 = 0 ∨ m 0 15 = 1 := htd.imp (fun a => a) (fun a => a.1)
  refine v_aload_n C 0 dX10_spare_0 rfl ?_
  refine v_iload_n C 1 dX10_spare_1 rfl ?_
  refine v_callV (st := []) (n := 1) (q := 0) C [.int (iz (s))] (ct_StageRatios_has C.2.2.2.2.2.2.1 m (k) (kf) (ks) (kt) (kc) (s) (by first | assumption | omega) (by first | assumption | omega) (by first | assumption | omega) (by first | assumption | omega)) lC0 (eC0 _) rfl qw661 qw1 qw658 rfl rfl ⟨Nat.le_of_ble_eq_true rfl, Nat.le_of_ble_eq_true rfl⟩ (by decide +kernel) qw660 qp17 rfl rfl (Nat.le_of_ble_eq_true rfl) dX10_spare_2 (fun r m1 hq1 => ?_)
  obtain ⟨z1, rfl, ⟨rfl, hq1, rfl⟩ | ⟨rfl, hq1, rfl⟩⟩ := hq1
  · show V E (wC D cy aa ad) 4 m 5 [(0, .ref (aa 0)), (1, .int (iz (s)))] [.int (iz (1))]
    refine v_if_ne (tgt := 14) C dX10_spare_5 (by decide) (by omega) (fun c2 => ?_) (fun c2 => by exact absurd c2 (by decide))
    have hhs := hq1
    obtain ⟨hT1, hs0⟩ := id hhs
    obtain ⟨-, hti⟩ := htd.resolve_left (by omega)
    obtain ⟨hrk, hX, -⟩ := id hti
    obtain ⟨hk5, hF, hup, hlw, hpl, hnf, hfa, -⟩ := id hrk
    have hkk : 73 ≤ k ∧ 73 ≤ kf ∧ 73 ≤ ks ∧ 73 ≤ kt ∧ 73 ≤ kc := by unfold RocketAt at hk; omega
    have hUr := hX.u hF
    have hDv := hX.dv hF hk5
    have hfs := hF s hs0.1 hs0.2
    refine v_aload_n C 0 dX10_spare_14 rfl ?_
    refine v_callV (st := []) (n := 0) (q := 0) C [] (ct_StageRatios_weighAsItIs C.2.2.2.2.2.2.1 m (k) (kf) (ks) (kt) (kc) (by first | assumption | omega) (by first | assumption | omega) (by first | assumption | omega)) lC0 (eC0 _) rfl qw674 qw1 qw671 rfl rfl ⟨Nat.le_of_ble_eq_true rfl, Nat.le_of_ble_eq_true rfl⟩ (by decide +kernel) qw673 qp18 rfl rfl (Nat.le_of_ble_eq_true rfl) dX10_spare_15 (fun r m3 hq3 => ?_)
    obtain ⟨rfl, hq3⟩ := hq3
    show V E (wC D cy aa ad) 4 m3 18 [(0, .ref (aa 0)), (1, .int (iz (s)))] []
    have o1 := hq3.2.2
    have hW := hq3.1
    have hcu1 : (m3 0 13).toNat = k := by rw [o1 0 (by decide)]; exact hcu
    have k1 := o1 k (by omega)
    have kf1 := o1 kf (by omega)
    have hstr := fun (j : Int) (h0 : 0 ≤ j) (h1 : j ≤ m k 5) => stZ_rng (s := j) hF hk5.2 hX.1 hDv.2.2 h0 h1
    have eT : m3 21 s = stX (m kf) (m k) (m 5) s := (hW.2 s hs0.1 hs0.2).1
    refine v_aload_n C 0 dX10_spare_18 rfl ?_
    refine v_get C 0 13 lC0 (eC0 _) rfl inX10 (by decide) rfl qw432 dX10_spare_19 ?_
    refine v_st (st1 := [.ref (aa k)]) (by rw [show (m3 0 13).toNat = k from by assumption]) ?_
    refine v_iload_n C 1 dX10_spare_22 rfl ?_
    refine v_bipush (z := 7) C dX10_spare_23 (by decide) ?_
    refine v_callV (st := []) (n := 2) (q := k) C [.int (iz (s)), .int (iz (7))] (ct_Rocket_fact C.2.2.2.2.2.2.1 m3 (k) (kf) (ks) (kt) (kc) (s) (7) hk (by first | assumption | omega) (by first | assumption | omega)) (RocketAt.l0 hk) (RocketAt.e0 hk _) rfl qw590 qw15 qw636 rfl rfl ⟨Nat.le_of_ble_eq_true rfl, Nat.le_of_ble_eq_true rfl⟩ (by decide +kernel) qw588 qw589 rfl rfl (Nat.le_of_ble_eq_true rfl) dX10_spare_25 (fun r m4 hq4 => ?_)
    obtain ⟨z4, rfl, rfl, rfl⟩ := hq4
    show V E (wC D cy aa ad) 4 m3 28 [(0, .ref (aa 0)), (1, .int (iz (s)))] [.int (iz (m3 kf (s * 9 + 7)))]
    have e7 : m3 kf (s * 9 + 7) = m kf (s * 9 + 7) := by rw [kf1]
    refine v_istore_n (L1 := [(2, .int (iz (m3 kf (s * 9 + 7)))), (0, .ref (aa 0)), (1, .int (iz (s)))]) C dX10_spare_28 (by decide) rfl ?_
    refine v_aload_n C 1 dX10_spare_29 rfl ?_
    refine v_get C 0 13 lC0 (eC0 _) rfl inX10 (by decide) rfl qw432 dX10_spare_30 ?_
    refine v_st (st1 := [.ref (aa k)]) (by rw [show (m3 0 13).toNat = k from by assumption]) ?_
    refine v_iload_n C 2 dX10_spare_33 rfl ?_
    refine v_iconst (z := 4) C dX10_spare_34 rfl ?_
    refine v_callV (st := []) (n := 2) (q := k) C [.int (iz (s)), .int (iz (4))] (ct_Rocket_fact C.2.2.2.2.2.2.1 m3 (k) (kf) (ks) (kt) (kc) (s) (4) hk (by first | assumption | omega) (by first | assumption | omega)) (RocketAt.l0 hk) (RocketAt.e0 hk _) rfl qw590 qw15 qw636 rfl rfl ⟨Nat.le_of_ble_eq_true rfl, Nat.le_of_ble_eq_true rfl⟩ (by decide +kernel) qw588 qw589 rfl rfl (Nat.le_of_ble_eq_true rfl) dX10_spare_35 (fun r m5 hq5 => ?_)
    obtain ⟨z5, rfl, rfl, rfl⟩ := hq5
    show V E (wC D cy aa ad) 4 m3 38 [(2, .int (iz (m3 kf (s * 9 + 7)))), (0, .ref (aa 0)), (1, .int (iz (s)))] [.int (iz (m3 kf (s * 9 + 4)))]
    have e4 : m3 kf (s * 9 + 4) = m kf (s * 9 + 4) := by rw [kf1]
    refine v_istore_n (L1 := [(3, .int (iz (m3 kf (s * 9 + 4)))), (2, .int (iz (m3 kf (s * 9 + 7)))), (0, .ref (aa 0)), (1, .int (iz (s)))]) C dX10_spare_38 (by decide) rfl ?_
    have K39 : ∀ (nK : Nat) (i : Int) (hi : -1 ≤ i ∧ i ≤ m kf (s * 9 + 4)) (hno : ∀ o : Int, i < o → o ≤ m kf (s * 9 + 4) → mgZ (m kf) s o (stX (m kf) (m k) (m 5) s) < m kf (s * 9 + 7)), (i + 1).toNat < nK → V E (wC D cy aa ad) 4 m3 39 [(0, .ref (aa 0)), (1, .int (iz (s))), (2, .int (iz (m3 kf (s * 9 + 7)))), (3, .int (iz (i)))] [] := by
      intro nK
      induction nK with
      | zero => intro i  hi hno hn; exact absurd hn (Nat.not_lt_zero _)
      | succ nK ih39 =>
        intro i  hi hno hn39
        refine v_iload_n C 3 dX10_spare_39 rfl ?_
        refine v_if_lt (tgt := 72) C dX10_spare_40 (by decide) (by omega) (fun c6 => ?_) (fun c6 => ?_)
        · refine v_aload_n C 0 dX10_spare_72 rfl ?_
          refine v_bipush (z := -2) C dX10_spare_73 (by decide) ?_
          refine v_callV (st := []) (n := 1) (q := 0) C [.int (iz (-2))] (ct_StageRatios_answer C.2.2.2.2.2.2.1 m3 (-2) ) lC0 (eC0 _) rfl qw640 qw1 qw637 rfl rfl ⟨Nat.le_of_ble_eq_true rfl, Nat.le_of_ble_eq_true rfl⟩ (by decide +kernel) qw639 qp16 rfl rfl (Nat.le_of_ble_eq_true rfl) dX10_spare_75 (fun r m7 hq7 => ?_)
          obtain ⟨z7, rfl, rfl, hq7⟩ := hq7
          show V E (wC D cy aa ad) 4 m7 78 [(0, .ref (aa 0)), (1, .int (iz (s))), (2, .int (iz (m3 kf (s * 9 + 7)))), (3, .int (iz (i)))] [.int (iz ((-2)))]
          refine v_iret C X rfl dX10_spare_78 ⟨_, rfl, ?_, ?_⟩
          · rw [← hq7]
            refine ⟨0, ?_, by decide, CQ.of (fun q h => o1 q (by omega))⟩
            exact Or.inl ⟨hhs, rfl, Or.inl ⟨rfl, fun o h1 h2 => hno o (by omega) h2⟩⟩
          · rw [← hq7]; exact hci.of (fun q h => o1 q (by omega))
        · refine v_aload_n C 0 dX10_spare_43 rfl ?_
          refine v_get C 0 4 lC0 (eC0 _) rfl inX10 (by decide) rfl qw423 dX10_spare_44 ?_
          refine v_aload_n C 0 dX10_spare_47 rfl ?_
          refine v_get C 0 13 lC0 (eC0 _) rfl inX10 (by decide) rfl qw432 dX10_spare_48 ?_
          refine v_st (st1 := [.ref (aa k), .ref (aa 19)]) (by rw [show (m3 0 13).toNat = k from by assumption]) ?_
          refine v_iload_n C 1 dX10_spare_51 rfl ?_
          refine v_iload_n C 3 dX10_spare_52 rfl ?_
          refine v_callV (st := []) (n := 3) (q := 19) C [.ref (aa k), .int (iz (s)), .int (iz (i))] (ct_Weights_pushWithout C.2.2.2.2.2.2.1 m3 (19) (20) (21) (22) (k) (kf) (ks) (kt) (kc) (s) (i) (m k 5) (by unfold WeightsAt; decide) hk (by exact hk5.2) (by exact ⟨hs0.1, hs0.2⟩) (by rw [kf1]; exact hF) (by rw [kf1]; omega) (by rw [(hW.2 s hs0.1 hs0.2).1]; have := hstr s hs0.1 (by omega); omega)) lC19 (eC19 _) rfl qw694 qw8 qw698 rfl rfl ⟨Nat.le_of_ble_eq_true rfl, Nat.le_of_ble_eq_true rfl⟩ (by decide +kernel) qw692 qw693 rfl rfl (Nat.le_of_ble_eq_true rfl) dX10_spare_53 (fun r m8 hq8 => ?_)
          obtain ⟨z8, rfl, rfl, rfl⟩ := hq8
          show V E (wC D cy aa ad) 4 m3 56 [(0, .ref (aa 0)), (1, .int (iz (s))), (2, .int (iz (m3 kf (s * 9 + 7)))), (3, .int (iz (i)))] [.int (iz (mgZ (m3 kf) s i (m3 21 s)))]
          have e53 : mgZ (m3 kf) s i (m3 21 s) = mgZ (m kf) s i (stX (m kf) (m k) (m 5) s) := by rw [kf1, eT]
          have hmr : 0 ≤ mgZ (m3 kf) s i (m3 21 s) ∧ mgZ (m3 kf) s i (m3 21 s) ≤ 2147483647 := by
            rw [e53]; exact mgZ_rng hF hs0.1 hs0.2 (by omega) (by omega) (by have := hstr s hs0.1 (by omega); unfold stX; omega)
          refine v_iload_n C 2 dX10_spare_56 rfl ?_
          refine v_icmp_lt (tgt := 66) C dX10_spare_57 (by decide) (by omega) (by omega) (fun c9 => ?_) (fun c9 => ?_)
          · refine v_iinc (L1 := [(3, .int (iz (i + (-1)))), (0, .ref (aa 0)), (1, .int (iz (s))), (2, .int (iz (m3 kf (s * 9 + 7))))]) C 3 dX10_spare_66 rfl (by decide) rfl ?_
            refine v_goto (tgt := 39) C dX10_spare_69 (by decide) ?_
            refine v_sub [1, 2, 3, 0] rfl ?_
            exact ih39 (i + (-1))  (by omega) (by 
                            intro o h1 h2
                            by_cases e : o = i
                            · subst e; omega
                            · exact hno o (by omega) h2
                          ) (by omega)
          · refine v_aload_n C 0 dX10_spare_60 rfl ?_
            refine v_iload_n C 3 dX10_spare_61 rfl ?_
            refine v_callV (st := []) (n := 1) (q := 0) C [.int (iz (i))] (ct_StageRatios_answer C.2.2.2.2.2.2.1 m3 (i) ) lC0 (eC0 _) rfl qw640 qw1 qw637 rfl rfl ⟨Nat.le_of_ble_eq_true rfl, Nat.le_of_ble_eq_true rfl⟩ (by decide +kernel) qw639 qp16 rfl rfl (Nat.le_of_ble_eq_true rfl) dX10_spare_62 (fun r m10 hq10 => ?_)
            obtain ⟨z10, rfl, rfl, hq10⟩ := hq10
            show V E (wC D cy aa ad) 4 m10 65 [(0, .ref (aa 0)), (1, .int (iz (s))), (2, .int (iz (m3 kf (s * 9 + 7)))), (3, .int (iz (i)))] [.int (iz (i))]
            refine v_iret C X rfl dX10_spare_65 ⟨_, rfl, ?_, ?_⟩
            · rw [← hq10]
              refine ⟨0, ?_, by decide, CQ.of (fun q h => o1 q (by omega))⟩
              exact Or.inl ⟨hhs, rfl, Or.inr ⟨⟨by omega, by omega⟩, by omega, fun o h1 h2 => hno o h1 h2⟩⟩
            · rw [← hq10]; exact hci.of (fun q h => o1 q (by omega))
    refine v_sub [2, 3, 1, 0] rfl ?_
    exact K39 _ (m3 kf (s * 9 + 4))  (by omega) (by intro o h1 h2; omega) (Nat.lt_succ_self _)
  · show V E (wC D cy aa ad) 4 m 5 [(0, .ref (aa 0)), (1, .int (iz (s)))] [.int (iz (0))]
    refine v_if_ne (tgt := 14) C dX10_spare_5 (by decide) (by omega) (fun c11 => by exact absurd c11 (by decide)) (fun c11 => ?_)
    refine v_aload_n C 0 dX10_spare_8 rfl ?_
    refine v_iconst (z := 1) C dX10_spare_9 rfl ?_
    refine v_callV (st := []) (n := 1) (q := 0) C [.int (iz (1))] (ct_StageRatios_refuse C.2.2.2.2.2.2.1 m (1) ) lC0 (eC0 _) rfl qw502 qw1 qw499 rfl rfl ⟨Nat.le_of_ble_eq_true rfl, Nat.le_of_ble_eq_true rfl⟩ (by decide +kernel) qw501 qp0 rfl rfl (Nat.le_of_ble_eq_true rfl) dX10_spare_10 (fun r m12 hq12 => ?_)
    obtain ⟨z12, rfl, rfl, hq12⟩ := hq12
    show V E (wC D cy aa ad) 4 m12 13 [(0, .ref (aa 0)), (1, .int (iz (s)))] [.int (iz (-1))]
    refine v_iret C X rfl dX10_spare_13 ⟨_, rfl, ?_, ?_⟩
    · rw [← hq12]
      exact ⟨1, Or.inr ⟨hq1, rfl, rfl⟩, by decide, CQ.of (fun _ _ => rfl)⟩
    · rw [← hq12]; exact hci.of (fun _ _ => rfl)

set_option maxHeartbeats 4000000 in
set_option maxRecDepth 100000 in
theorem ct_StageRatios_mass {lau : Launch} {D : va_G} {cy : Nat → ClassId} {aa ad : Nat → Nat} (hI : wI (wC D cy aa ad)) (m : Mem) (k kf ks kt kc : Nat) (hci : CI m k kf ks kt kc) : MT lau (wC D cy aa ad) yX10_mass cX10_mass 1 (some .int) ({ frames := 4, cells := 0, slots := 0, locals := 92 } : Room) m [.ref (aa 0)] (Pi (fun z m' => (QP (qMas (m 0 15) (m kf) (m k) (m 5)) m m' z) ∧ CI m' k kf ks kt kc)) := by
  refine v_entry hI RX10 (by decide) rfl (Nat.le_of_ble_eq_true rfl) (fun E hE C X => ?_)
  subst hE
  show V E (wC D cy aa ad) 1 m 0 [(0, .ref (aa 0))] []
  obtain ⟨hk, hcu, htd, -⟩ := id hci
  have ht01 : m 0 15 = 0 ∨ m 0 15 = 1 := htd.imp (fun a => a) (fun a => a.1)
  refine v_aload_n C 0 dX10_mass_0 rfl ?_
  refine v_get C 0 15 lC0 (eC0 _) rfl inX10 (by decide) rfl qw434 dX10_mass_1 ?_
  refine v_if_ne (tgt := 13) C dX10_mass_4 (by decide) (by omega) (fun c1 => ?_) (fun c1 => ?_)
  · obtain ⟨hT1, hti⟩ := htd.resolve_left (by omega)
    obtain ⟨hrk, hX, -⟩ := id hti
    obtain ⟨hk5, hF, hup, hlw, hpl, hnf, hfa, -⟩ := id hrk
    have hkk : 73 ≤ k ∧ 73 ≤ kf ∧ 73 ≤ ks ∧ 73 ≤ kt ∧ 73 ≤ kc := by unfold RocketAt at hk; omega
    have hUr := hX.u hF
    have hDv := hX.dv hF hk5
    refine v_aload_n C 0 dX10_mass_13 rfl ?_
    refine v_callV (st := []) (n := 0) (q := 0) C [] (ct_StageRatios_weighAsItIs C.2.2.2.2.2.2.1 m (k) (kf) (ks) (kt) (kc) (by first | assumption | omega) (by first | assumption | omega) (by first | assumption | omega)) lC0 (eC0 _) rfl qw674 qw1 qw671 rfl rfl ⟨Nat.le_of_ble_eq_true rfl, Nat.le_of_ble_eq_true rfl⟩ (by decide +kernel) qw673 qp18 rfl rfl (Nat.le_of_ble_eq_true rfl) dX10_mass_14 (fun r m2 hq2 => ?_)
    obtain ⟨rfl, hq2⟩ := hq2
    show V E (wC D cy aa ad) 1 m2 17 [(0, .ref (aa 0))] []
    have o1 := hq2.2.2
    have hW := hq2.1
    have hcu1 : (m2 0 13).toNat = k := by rw [o1 0 (by decide)]; exact hcu
    have k1 := o1 k (by omega)
    have kf1 := o1 kf (by omega)
    have hstr := fun (j : Int) (h0 : 0 ≤ j) (h1 : j ≤ m k 5) => stZ_rng (s := j) hF hk5.2 hX.1 hDv.2.2 h0 h1
    refine v_aload_n C 0 dX10_mass_17 rfl ?_
    refine v_aload_n C 0 dX10_mass_18 rfl ?_
    refine v_get C 0 4 lC0 (eC0 _) rfl inX10 (by decide) rfl qw423 dX10_mass_19 ?_
    refine v_get C 19 3 lC19 (eC19 _) rfl inX9 (by decide) rfl qw188 dX10_mass_22 ?_
    refine v_callV (st := []) (n := 1) (q := 0) C [.int (iz (m2 19 3))] (ct_StageRatios_answer C.2.2.2.2.2.2.1 m2 (m2 19 3) ) lC0 (eC0 _) rfl qw640 qw1 qw637 rfl rfl ⟨Nat.le_of_ble_eq_true rfl, Nat.le_of_ble_eq_true rfl⟩ (by decide +kernel) qw639 qp16 rfl rfl (Nat.le_of_ble_eq_true rfl) dX10_mass_25 (fun r m3 hq3 => ?_)
    obtain ⟨z3, rfl, rfl, hq3⟩ := hq3
    show V E (wC D cy aa ad) 1 m3 28 [(0, .ref (aa 0))] [.int (iz ((m2 19 3)))]
    refine v_iret C X rfl dX10_mass_28 ⟨_, rfl, ?_, ?_⟩
    · rw [← hq3]
      refine ⟨0, ?_, by decide, CQ.of (fun q h => o1 q (by omega))⟩
      exact Or.inl ⟨hT1, rfl, hW.1⟩
    · rw [← hq3]; exact hci.of (fun q h => o1 q (by omega))
  · refine v_aload_n C 0 dX10_mass_7 rfl ?_
    refine v_iconst (z := 1) C dX10_mass_8 rfl ?_
    refine v_callV (st := []) (n := 1) (q := 0) C [.int (iz (1))] (ct_StageRatios_refuse C.2.2.2.2.2.2.1 m (1) ) lC0 (eC0 _) rfl qw502 qw1 qw499 rfl rfl ⟨Nat.le_of_ble_eq_true rfl, Nat.le_of_ble_eq_true rfl⟩ (by decide +kernel) qw501 qp0 rfl rfl (Nat.le_of_ble_eq_true rfl) dX10_mass_9 (fun r m4 hq4 => ?_)
    obtain ⟨z4, rfl, rfl, hq4⟩ := hq4
    show V E (wC D cy aa ad) 1 m4 12 [(0, .ref (aa 0))] [.int (iz (-1))]
    refine v_iret C X rfl dX10_mass_12 ⟨_, rfl, ?_, ?_⟩
    · rw [← hq4]
      exact ⟨1, Or.inr ⟨by omega, rfl, rfl⟩, by decide, CQ.of (fun _ _ => rfl)⟩
    · rw [← hq4]; exact hci.of (fun _ _ => rfl)

set_option maxHeartbeats 4000000 in
set_option maxRecDepth 100000 in
theorem ct_StageRatios_reaches {lau : Launch} {D : va_G} {cy : Nat → ClassId} {aa ad : Nat → Nat} (hI : wI (wC D cy aa ad)) (m : Mem) (k kf ks kt kc : Nat) (k0 : Int) (hci : CI m k kf ks kt kc) (hk0 : -2147483648 ≤ k0 ∧ k0 ≤ 2147483647) : MT lau (wC D cy aa ad) yX10_reaches cX10_reaches 2 (some .int) ({ frames := 5, cells := 0, slots := 0, locals := 143 } : Room) m [.ref (aa 0), .int (iz (k0))] (Pi (fun z m' => (QP (qRea (m 0 15) (m kf) (m k) (m 5) k0) m m' z) ∧ CI m' k kf ks kt kc)) := by
  refine v_entry hI RX10 (by decide) rfl (Nat.le_of_ble_eq_true rfl) (fun E hE C X => ?_)
  subst hE
  show V E (wC D cy aa ad) 2 m 0 [(0, .ref (aa 0)), (1, .int (iz (k0)))] []
  obtain ⟨hk, hcu, htd, -⟩ := id hci
  have ht01 : m 0 15 = 0 ∨ m 0 15 = 1 := htd.imp (fun a => a) (fun a => a.1)
  refine v_aload_n C 0 dX10_reaches_0 rfl ?_
  refine v_get C 0 15 lC0 (eC0 _) rfl inX10 (by decide) rfl qw434 dX10_reaches_1 ?_
  refine v_if_ne (tgt := 13) C dX10_reaches_4 (by decide) (by omega) (fun c1 => ?_) (fun c1 => ?_)
  · obtain ⟨hT1, hti⟩ := htd.resolve_left (by omega)
    obtain ⟨hrk, hX, -⟩ := id hti
    obtain ⟨hk5, hF, hup, hlw, hpl, hnf, hfa, -⟩ := id hrk
    have hkk : 73 ≤ k ∧ 73 ≤ kf ∧ 73 ≤ ks ∧ 73 ≤ kt ∧ 73 ≤ kc := by unfold RocketAt at hk; omega
    have hUr := hX.u hF
    have hDv := hX.dv hF hk5
    refine v_iload_n C 1 dX10_reaches_13 rfl ?_
    refine v_callS (st := []) (n := 1) C [.int (iz (k0))] (ct_StageRatios_isPower C.2.2.2.2.2.2.1 m (k0) (by first | assumption | omega)) qw717 qw1 qw715 rfl rfl ⟨Nat.le_of_ble_eq_true rfl, Nat.le_of_ble_eq_true rfl⟩ (by decide +kernel) qw716 rfl rfl (Nat.le_of_ble_eq_true rfl) dX10_reaches_14 (fun r m2 hq2 => ?_)
    obtain ⟨z2, rfl, ⟨rfl, hq2, rfl⟩ | ⟨rfl, hq2, rfl⟩⟩ := hq2
    · show V E (wC D cy aa ad) 2 m 17 [(0, .ref (aa 0)), (1, .int (iz (k0)))] [.int (iz (1))]
      refine v_if_ne (tgt := 26) C dX10_reaches_17 (by decide) (by omega) (fun c3 => ?_) (fun c3 => by exact absurd c3 (by decide))
      refine v_aload_n C 0 dX10_reaches_26 rfl ?_
      refine v_aload_n C 0 dX10_reaches_27 rfl ?_
      refine v_callV (st := [.ref (aa 0)]) (n := 0) (q := 0) C [] (ct_StageRatios_powerAsItIs C.2.2.2.2.2.2.1 m (k) (kf) (ks) (kt) (kc) (by first | assumption | omega) (by first | assumption | omega) (by first | assumption | omega)) lC0 (eC0 _) rfl qw721 qw1 qw718 rfl rfl ⟨Nat.le_of_ble_eq_true rfl, Nat.le_of_ble_eq_true rfl⟩ (by decide +kernel) qw720 qp20 rfl rfl (Nat.le_of_ble_eq_true rfl) dX10_reaches_28 (fun r m4 hq4 => ?_)
      obtain ⟨z4, rfl, hq4, hm4⟩ := hq4
      show V E (wC D cy aa ad) 2 m4 31 [(0, .ref (aa 0)), (1, .int (iz (k0)))] [.int (iz (z4)), .ref (aa 0)]
      have al := hDv.al hF
      have hir := hq4.iff (by omega) hlw.1 hlw.2 hq2.1 hq2.2
      have hrr := hq4.rng
      refine v_iload_n C 1 dX10_reaches_31 rfl ?_
      refine v_icmp_lt (tgt := 39) C dX10_reaches_32 (by decide) (by omega) (by omega) (fun c5 => ?_) (fun c5 => ?_)
      · have hho : ((0 : Int) = 1 ∧ reA (m kf) (m k 5) (m k 2) (m k 3) (m 5 0) (uX (m 5)) k0.toNat) ∨ ((0 : Int) = 0 ∧ ¬ reA (m kf) (m k 5) (m k 2) (m k 3) (m 5 0) (uX (m 5)) k0.toNat) := Or.inr ⟨rfl, fun h => by have := hir.mpr h; omega⟩
        refine v_iconst (z := 0) C dX10_reaches_39 rfl ?_
        refine v_callV (st := []) (n := 1) (q := 0) C [.int (iz (0))] (ct_StageRatios_answer C.2.2.2.2.2.2.1 m4 (0) ) lC0 (eC0 _) rfl qw640 qw1 qw637 rfl rfl ⟨Nat.le_of_ble_eq_true rfl, Nat.le_of_ble_eq_true rfl⟩ (by decide +kernel) qw639 qp16 rfl rfl (Nat.le_of_ble_eq_true rfl) dX10_reaches_40 (fun r m6 hq6 => ?_)
        obtain ⟨z6, rfl, rfl, hq6⟩ := hq6
        show V E (wC D cy aa ad) 2 m6 43 [(0, .ref (aa 0)), (1, .int (iz (k0)))] [.int (iz (0))]
        refine v_iret C X rfl dX10_reaches_43 ⟨_, rfl, ?_, ?_⟩
        · rw [← hq6]
          refine ⟨0, ?_, by decide, CQ.of (fun q h => hm4 q (by omega))⟩
          exact Or.inl ⟨hT1, hq2, rfl, hho⟩
        · rw [← hq6]; exact hci.of (fun q h => hm4 q (by omega))
      · have hho : ((1 : Int) = 1 ∧ reA (m kf) (m k 5) (m k 2) (m k 3) (m 5 0) (uX (m 5)) k0.toNat) ∨ ((1 : Int) = 0 ∧ ¬ reA (m kf) (m k 5) (m k 2) (m k 3) (m 5 0) (uX (m 5)) k0.toNat) := Or.inl ⟨rfl, hir.mp (by omega)⟩
        refine v_iconst (z := 1) C dX10_reaches_35 rfl ?_
        refine v_goto (tgt := 40) C dX10_reaches_36 (by decide) ?_
        refine v_callV (st := []) (n := 1) (q := 0) C [.int (iz (1))] (ct_StageRatios_answer C.2.2.2.2.2.2.1 m4 (1) ) lC0 (eC0 _) rfl qw640 qw1 qw637 rfl rfl ⟨Nat.le_of_ble_eq_true rfl, Nat.le_of_ble_eq_true rfl⟩ (by decide +kernel) qw639 qp16 rfl rfl (Nat.le_of_ble_eq_true rfl) dX10_reaches_40 (fun r m7 hq7 => ?_)
        obtain ⟨z7, rfl, rfl, hq7⟩ := hq7
        show V E (wC D cy aa ad) 2 m7 43 [(0, .ref (aa 0)), (1, .int (iz (k0)))] [.int (iz (1))]
        refine v_iret C X rfl dX10_reaches_43 ⟨_, rfl, ?_, ?_⟩
        · rw [← hq7]
          refine ⟨0, ?_, by decide, CQ.of (fun q h => hm4 q (by omega))⟩
          exact Or.inl ⟨hT1, hq2, rfl, hho⟩
        · rw [← hq7]; exact hci.of (fun q h => hm4 q (by omega))
    · show V E (wC D cy aa ad) 2 m 17 [(0, .ref (aa 0)), (1, .int (iz (k0)))] [.int (iz (0))]
      refine v_if_ne (tgt := 26) C dX10_reaches_17 (by decide) (by omega) (fun c8 => by exact absurd c8 (by decide)) (fun c8 => ?_)
      refine v_aload_n C 0 dX10_reaches_20 rfl ?_
      refine v_iconst (z := 2) C dX10_reaches_21 rfl ?_
      refine v_callV (st := []) (n := 1) (q := 0) C [.int (iz (2))] (ct_StageRatios_refuse C.2.2.2.2.2.2.1 m (2) ) lC0 (eC0 _) rfl qw502 qw1 qw499 rfl rfl ⟨Nat.le_of_ble_eq_true rfl, Nat.le_of_ble_eq_true rfl⟩ (by decide +kernel) qw501 qp0 rfl rfl (Nat.le_of_ble_eq_true rfl) dX10_reaches_22 (fun r m9 hq9 => ?_)
      obtain ⟨z9, rfl, rfl, hq9⟩ := hq9
      show V E (wC D cy aa ad) 2 m9 25 [(0, .ref (aa 0)), (1, .int (iz (k0)))] [.int (iz (-1))]
      refine v_iret C X rfl dX10_reaches_25 ⟨_, rfl, ?_, ?_⟩
      · rw [← hq9]
        exact ⟨2, Or.inr (Or.inl ⟨hT1, hq2, rfl, rfl⟩), by decide, CQ.of (fun _ _ => rfl)⟩
      · rw [← hq9]; exact hci.of (fun _ _ => rfl)
  · refine v_aload_n C 0 dX10_reaches_7 rfl ?_
    refine v_iconst (z := 1) C dX10_reaches_8 rfl ?_
    refine v_callV (st := []) (n := 1) (q := 0) C [.int (iz (1))] (ct_StageRatios_refuse C.2.2.2.2.2.2.1 m (1) ) lC0 (eC0 _) rfl qw502 qw1 qw499 rfl rfl ⟨Nat.le_of_ble_eq_true rfl, Nat.le_of_ble_eq_true rfl⟩ (by decide +kernel) qw501 qp0 rfl rfl (Nat.le_of_ble_eq_true rfl) dX10_reaches_9 (fun r m10 hq10 => ?_)
    obtain ⟨z10, rfl, rfl, hq10⟩ := hq10
    show V E (wC D cy aa ad) 2 m10 12 [(0, .ref (aa 0)), (1, .int (iz (k0)))] [.int (iz (-1))]
    refine v_iret C X rfl dX10_reaches_12 ⟨_, rfl, ?_, ?_⟩
    · rw [← hq10]
      exact ⟨1, Or.inr (Or.inr ⟨by omega, rfl, rfl⟩), by decide, CQ.of (fun _ _ => rfl)⟩
    · rw [← hq10]; exact hci.of (fun _ _ => rfl)

set_option maxHeartbeats 4000000 in
set_option maxRecDepth 100000 in
theorem ct_StageRatios_greatest {lau : Launch} {D : va_G} {cy : Nat → ClassId} {aa ad : Nat → Nat} (hI : wI (wC D cy aa ad)) (m : Mem) (k kf ks kt kc : Nat) (hci : CI m k kf ks kt kc) : MT lau (wC D cy aa ad) yX10_greatest cX10_greatest 1 (some .int) ({ frames := 5, cells := 0, slots := 0, locals := 143 } : Room) m [.ref (aa 0)] (Pi (fun z m' => (QP (qGre (m 0 15) (m kf) (m k) (m 5)) m m' z) ∧ CI m' k kf ks kt kc)) := by
  refine v_entry hI RX10 (by decide) rfl (Nat.le_of_ble_eq_true rfl) (fun E hE C X => ?_)
  subst hE
  show V E (wC D cy aa ad) 1 m 0 [(0, .ref (aa 0))] []
  obtain ⟨hk, hcu, htd, -⟩ := id hci
  have ht01 : m 0 15 = 0 ∨ m 0 15 = 1 := htd.imp (fun a => a) (fun a => a.1)
  refine v_aload_n C 0 dX10_greatest_0 rfl ?_
  refine v_get C 0 15 lC0 (eC0 _) rfl inX10 (by decide) rfl qw434 dX10_greatest_1 ?_
  refine v_if_ne (tgt := 13) C dX10_greatest_4 (by decide) (by omega) (fun c1 => ?_) (fun c1 => ?_)
  · obtain ⟨hT1, hti⟩ := htd.resolve_left (by omega)
    obtain ⟨hrk, hX, -⟩ := id hti
    obtain ⟨hk5, hF, hup, hlw, hpl, hnf, hfa, -⟩ := id hrk
    have hkk : 73 ≤ k ∧ 73 ≤ kf ∧ 73 ≤ ks ∧ 73 ≤ kt ∧ 73 ≤ kc := by unfold RocketAt at hk; omega
    have hUr := hX.u hF
    have hDv := hX.dv hF hk5
    refine v_aload_n C 0 dX10_greatest_13 rfl ?_
    refine v_aload_n C 0 dX10_greatest_14 rfl ?_
    refine v_callV (st := [.ref (aa 0)]) (n := 0) (q := 0) C [] (ct_StageRatios_powerAsItIs C.2.2.2.2.2.2.1 m (k) (kf) (ks) (kt) (kc) (by first | assumption | omega) (by first | assumption | omega) (by first | assumption | omega)) lC0 (eC0 _) rfl qw721 qw1 qw718 rfl rfl ⟨Nat.le_of_ble_eq_true rfl, Nat.le_of_ble_eq_true rfl⟩ (by decide +kernel) qw720 qp20 rfl rfl (Nat.le_of_ble_eq_true rfl) dX10_greatest_15 (fun r m2 hq2 => ?_)
    obtain ⟨z2, rfl, hq2, hm2⟩ := hq2
    show V E (wC D cy aa ad) 1 m2 18 [(0, .ref (aa 0))] [.int (iz (z2)), .ref (aa 0)]
    refine v_callV (st := []) (n := 1) (q := 0) C [.int (iz (z2))] (ct_StageRatios_answer C.2.2.2.2.2.2.1 m2 (z2) ) lC0 (eC0 _) rfl qw640 qw1 qw637 rfl rfl ⟨Nat.le_of_ble_eq_true rfl, Nat.le_of_ble_eq_true rfl⟩ (by decide +kernel) qw639 qp16 rfl rfl (Nat.le_of_ble_eq_true rfl) dX10_greatest_18 (fun r m3 hq3 => ?_)
    obtain ⟨z3, rfl, rfl, hq3⟩ := hq3
    show V E (wC D cy aa ad) 1 m3 21 [(0, .ref (aa 0))] [.int (iz (z2))]
    refine v_iret C X rfl dX10_greatest_21 ⟨_, rfl, ?_, ?_⟩
    · rw [← hq3]
      refine ⟨0, ?_, by decide, CQ.of (fun q h => hm2 q (by omega))⟩
      exact Or.inl ⟨hT1, rfl, hq2⟩
    · rw [← hq3]; exact hci.of (fun q h => hm2 q (by omega))
  · refine v_aload_n C 0 dX10_greatest_7 rfl ?_
    refine v_iconst (z := 1) C dX10_greatest_8 rfl ?_
    refine v_callV (st := []) (n := 1) (q := 0) C [.int (iz (1))] (ct_StageRatios_refuse C.2.2.2.2.2.2.1 m (1) ) lC0 (eC0 _) rfl qw502 qw1 qw499 rfl rfl ⟨Nat.le_of_ble_eq_true rfl, Nat.le_of_ble_eq_true rfl⟩ (by decide +kernel) qw501 qp0 rfl rfl (Nat.le_of_ble_eq_true rfl) dX10_greatest_9 (fun r m4 hq4 => ?_)
    obtain ⟨z4, rfl, rfl, hq4⟩ := hq4
    show V E (wC D cy aa ad) 1 m4 12 [(0, .ref (aa 0))] [.int (iz (-1))]
    refine v_iret C X rfl dX10_greatest_12 ⟨_, rfl, ?_, ?_⟩
    · rw [← hq4]
      exact ⟨1, Or.inr ⟨by omega, rfl, rfl⟩, by decide, CQ.of (fun _ _ => rfl)⟩
    · rw [← hq4]; exact hci.of (fun _ _ => rfl)

set_option maxHeartbeats 4000000 in
set_option maxRecDepth 100000 in
theorem ct_StageRatios_speed {lau : Launch} {D : va_G} {cy : Nat → ClassId} {aa ad : Nat → Nat} (hI : wI (wC D cy aa ad)) (m : Mem) (k kf ks kt kc : Nat) (up : Int) (hci : CI m k kf ks kt kc) (hu : up = 0 ∨ up = 1) : MT lau (wC D cy aa ad) yX10_speed cX10_speed 2 (some .int) ({ frames := 4, cells := 0, slots := 0, locals := 92 } : Room) m [.ref (aa 0), .int (iz (up))] (Pi (fun z m' => (QP (qSpe (m 0 15) (m kf) (m k) (m 5) up) m m' z) ∧ CI m' k kf ks kt kc)) := by
  refine v_entry hI RX10 (by decide) rfl (Nat.le_of_ble_eq_true rfl) (fun E hE C X => ?_)
  subst hE
  show V E (wC D cy aa ad) 2 m 0 [(0, .ref (aa 0)), (1, .int (iz (up)))] []
  obtain ⟨hk, hcu, htd, -⟩ := id hci
  have ht01 : m 0 15 = 0 ∨ m 0 15 = 1 := htd.imp (fun a => a) (fun a => a.1)
  refine v_aload_n C 0 dX10_speed_0 rfl ?_
  refine v_get C 0 15 lC0 (eC0 _) rfl inX10 (by decide) rfl qw434 dX10_speed_1 ?_
  refine v_if_ne (tgt := 13) C dX10_speed_4 (by decide) (by omega) (fun c1 => ?_) (fun c1 => ?_)
  · obtain ⟨hT1, hti⟩ := htd.resolve_left (by omega)
    obtain ⟨hrk, hX, -⟩ := id hti
    obtain ⟨hk5, hF, hup, hlw, hpl, hnf, hfa, -⟩ := id hrk
    have hkk : 73 ≤ k ∧ 73 ≤ kf ∧ 73 ≤ ks ∧ 73 ≤ kt ∧ 73 ≤ kc := by unfold RocketAt at hk; omega
    have hUr := hX.u hF
    have hDv := hX.dv hF hk5
    refine v_aload_n C 0 dX10_speed_13 rfl ?_
    refine v_callV (st := []) (n := 0) (q := 0) C [] (ct_StageRatios_weighAsItIs C.2.2.2.2.2.2.1 m (k) (kf) (ks) (kt) (kc) (by first | assumption | omega) (by first | assumption | omega) (by first | assumption | omega)) lC0 (eC0 _) rfl qw674 qw1 qw671 rfl rfl ⟨Nat.le_of_ble_eq_true rfl, Nat.le_of_ble_eq_true rfl⟩ (by decide +kernel) qw673 qp18 rfl rfl (Nat.le_of_ble_eq_true rfl) dX10_speed_14 (fun r m2 hq2 => ?_)
    obtain ⟨rfl, hq2⟩ := hq2
    show V E (wC D cy aa ad) 2 m2 17 [(0, .ref (aa 0)), (1, .int (iz (up)))] []
    have o1 := hq2.2.2
    have hW := hq2.1
    have hcu1 : (m2 0 13).toNat = k := by rw [o1 0 (by decide)]; exact hcu
    have k1 := o1 k (by omega)
    have kf1 := o1 kf (by omega)
    have hstr := fun (j : Int) (h0 : 0 ≤ j) (h1 : j ≤ m k 5) => stZ_rng (s := j) hF hk5.2 hX.1 hDv.2.2 h0 h1
    refine v_aload_n C 0 dX10_speed_17 rfl ?_
    refine v_get C 0 4 lC0 (eC0 _) rfl inX10 (by decide) rfl qw423 dX10_speed_18 ?_
    refine v_aload_n C 0 dX10_speed_21 rfl ?_
    refine v_get C 0 13 lC0 (eC0 _) rfl inX10 (by decide) rfl qw432 dX10_speed_22 ?_
    refine v_st (st1 := [.ref (aa k), .ref (aa 19)]) (by rw [show (m2 0 13).toNat = k from by assumption]) ?_
    refine v_aload_n C 0 dX10_speed_25 rfl ?_
    refine v_get C 0 6 lC0 (eC0 _) rfl inX10 (by decide) rfl qw425 dX10_speed_26 ?_
    refine v_callV (st := []) (n := 2) (q := 19) C [.ref (aa k), .ref (aa 31)] (ct_Weights_speedInto C.2.2.2.2.2.2.1 m2 (19) (20) (21) (22) (k) (kf) (ks) (kt) (kc) (31) (32) (33) (34) (by unfold WeightsAt; decide) hk (by unfold RatioAt; decide) (by rw [k1]; exact hk5)) lC19 (eC19 _) rfl qw725 qw8 qw722 rfl rfl ⟨Nat.le_of_ble_eq_true rfl, Nat.le_of_ble_eq_true rfl⟩ (by decide +kernel) qw723 qw724 rfl rfl (Nat.le_of_ble_eq_true rfl) dX10_speed_29 (fun r m3 hq3 => ?_)
    obtain ⟨rfl, hq3⟩ := hq3
    show V E (wC D cy aa ad) 2 m3 32 [(0, .ref (aa 0)), (1, .int (iz (up)))] []
    have zq := hq3.1
    rw [k1, kf1, hW.spT] at zq
    have al := hDv.al hF
    refine v_aload_n C 0 dX10_speed_32 rfl ?_
    refine v_aload_n C 0 dX10_speed_33 rfl ?_
    refine v_get C 0 6 lC0 (eC0 _) rfl inX10 (by decide) rfl qw425 dX10_speed_34 ?_
    refine v_iload_n C 1 dX10_speed_37 rfl ?_
    refine v_callV (st := [.ref (aa 0)]) (n := 1) (q := 31) C [.int (iz (up))] (ct_Ratio_lowest C.2.2.2.2.2.2.1 m3 (31) (32) (33) (34) (spT (m kf) (m k 5) (m 5 0) (uX (m 5))) (up) (by unfold RatioAt; decide) (by exact zq) (by exact al.1) (by first | assumption | omega)) lC31 (eC31 _) rfl qw781 qw9 qw778 rfl rfl ⟨Nat.le_of_ble_eq_true rfl, Nat.le_of_ble_eq_true rfl⟩ (by decide +kernel) qw779 qw780 rfl rfl (Nat.le_of_ble_eq_true rfl) dX10_speed_38 (fun r m4 hq4 => ?_)
    obtain ⟨z4, rfl, rfl, hq4⟩ := hq4
    show V E (wC D cy aa ad) 2 m4 41 [(0, .ref (aa 0)), (1, .int (iz (up)))] [.int (iz (lowA (fun j0 => if up = 1 then exL j0 (spT (m kf) (m k 5) (m 5 0) (uX (m 5))) else -exL j0 (spT (m kf) (m k 5) (m 5 0) (uX (m 5)))) 399)), .ref (aa 0)]
    refine v_callV (st := []) (n := 1) (q := 0) C [.int (iz (lowA (fun j0 => if up = 1 then exL j0 (spT (m kf) (m k 5) (m 5 0) (uX (m 5))) else -exL j0 (spT (m kf) (m k 5) (m 5 0) (uX (m 5)))) 399))] (ct_StageRatios_answer C.2.2.2.2.2.2.1 m4 (lowA (fun j0 => if up = 1 then exL j0 (spT (m kf) (m k 5) (m 5 0) (uX (m 5))) else -exL j0 (spT (m kf) (m k 5) (m 5 0) (uX (m 5)))) 399) ) lC0 (eC0 _) rfl qw640 qw1 qw637 rfl rfl ⟨Nat.le_of_ble_eq_true rfl, Nat.le_of_ble_eq_true rfl⟩ (by decide +kernel) qw639 qp16 rfl rfl (Nat.le_of_ble_eq_true rfl) dX10_speed_41 (fun r m5 hq5 => ?_)
    obtain ⟨z5, rfl, rfl, hq5⟩ := hq5
    show V E (wC D cy aa ad) 2 m5 44 [(0, .ref (aa 0)), (1, .int (iz (up)))] [.int (iz ((lowA (fun j0 => if up = 1 then exL j0 (spT (m kf) (m k 5) (m 5 0) (uX (m 5))) else -exL j0 (spT (m kf) (m k 5) (m 5 0) (uX (m 5)))) 399)))]
    refine v_iret C X rfl dX10_speed_44 ⟨_, rfl, ?_, ?_⟩
    · rw [← hq5]
      refine ⟨0, ?_, by decide, CQ.of (fun q h => by rw [hq4 q (by omega), hq3.2 q (by omega) (by omega) (by omega)]; exact o1 q (by omega))⟩
      exact Or.inl ⟨hT1, rfl, rfl⟩
    · rw [← hq5]; exact hci.of (fun q h => by rw [hq4 q (by omega), hq3.2 q (by omega) (by omega) (by omega)]; exact o1 q (by omega))
  · refine v_aload_n C 0 dX10_speed_7 rfl ?_
    refine v_iconst (z := 1) C dX10_speed_8 rfl ?_
    refine v_callV (st := []) (n := 1) (q := 0) C [.int (iz (1))] (ct_StageRatios_refuse C.2.2.2.2.2.2.1 m (1) ) lC0 (eC0 _) rfl qw502 qw1 qw499 rfl rfl ⟨Nat.le_of_ble_eq_true rfl, Nat.le_of_ble_eq_true rfl⟩ (by decide +kernel) qw501 qp0 rfl rfl (Nat.le_of_ble_eq_true rfl) dX10_speed_9 (fun r m6 hq6 => ?_)
    obtain ⟨z6, rfl, rfl, hq6⟩ := hq6
    show V E (wC D cy aa ad) 2 m6 12 [(0, .ref (aa 0)), (1, .int (iz (up)))] [.int (iz (-1))]
    refine v_iret C X rfl dX10_speed_12 ⟨_, rfl, ?_, ?_⟩
    · rw [← hq6]
      exact ⟨1, Or.inr ⟨by omega, rfl, rfl⟩, by decide, CQ.of (fun _ _ => rfl)⟩
    · rw [← hq6]; exact hci.of (fun _ _ => rfl)

set_option maxHeartbeats 4000000 in
set_option maxRecDepth 100000 in
theorem ct_StageRatios_holds {lau : Launch} {D : va_G} {cy : Nat → ClassId} {aa ad : Nat → Nat} (hI : wI (wC D cy aa ad)) (m : Mem) (k kf ks kt kc : Nat) (hci : CI m k kf ks kt kc) : MT lau (wC D cy aa ad) yX10_holds cX10_holds 1 (some .int) ({ frames := 4, cells := 0, slots := 0, locals := 92 } : Room) m [.ref (aa 0)] (Pi (fun z m' => (QP (qHol (m 0 15) (m kf) (m k) (m 5)) m m' z) ∧ CI m' k kf ks kt kc)) := by
  refine v_entry hI RX10 (by decide) rfl (Nat.le_of_ble_eq_true rfl) (fun E hE C X => ?_)
  subst hE
  show V E (wC D cy aa ad) 1 m 0 [(0, .ref (aa 0))] []
  obtain ⟨hk, hcu, htd, -⟩ := id hci
  have ht01 : m 0 15 = 0 ∨ m 0 15 = 1 := htd.imp (fun a => a) (fun a => a.1)
  refine v_aload_n C 0 dX10_holds_0 rfl ?_
  refine v_get C 0 15 lC0 (eC0 _) rfl inX10 (by decide) rfl qw434 dX10_holds_1 ?_
  refine v_if_ne (tgt := 13) C dX10_holds_4 (by decide) (by omega) (fun c1 => ?_) (fun c1 => ?_)
  · obtain ⟨hT1, hti⟩ := htd.resolve_left (by omega)
    obtain ⟨hrk, hX, -⟩ := id hti
    obtain ⟨hk5, hF, hup, hlw, hpl, hnf, hfa, -⟩ := id hrk
    have hkk : 73 ≤ k ∧ 73 ≤ kf ∧ 73 ≤ ks ∧ 73 ≤ kt ∧ 73 ≤ kc := by unfold RocketAt at hk; omega
    have hUr := hX.u hF
    have hDv := hX.dv hF hk5
    refine v_aload_n C 0 dX10_holds_13 rfl ?_
    refine v_callV (st := []) (n := 0) (q := 0) C [] (ct_StageRatios_weighAsItIs C.2.2.2.2.2.2.1 m (k) (kf) (ks) (kt) (kc) (by first | assumption | omega) (by first | assumption | omega) (by first | assumption | omega)) lC0 (eC0 _) rfl qw674 qw1 qw671 rfl rfl ⟨Nat.le_of_ble_eq_true rfl, Nat.le_of_ble_eq_true rfl⟩ (by decide +kernel) qw673 qp18 rfl rfl (Nat.le_of_ble_eq_true rfl) dX10_holds_14 (fun r m2 hq2 => ?_)
    obtain ⟨rfl, hq2⟩ := hq2
    show V E (wC D cy aa ad) 1 m2 17 [(0, .ref (aa 0))] []
    have o1 := hq2.2.2
    have hW := hq2.1
    have hcu1 : (m2 0 13).toNat = k := by rw [o1 0 (by decide)]; exact hcu
    have k1 := o1 k (by omega)
    have kf1 := o1 kf (by omega)
    have hstr := fun (j : Int) (h0 : 0 ≤ j) (h1 : j ≤ m k 5) => stZ_rng (s := j) hF hk5.2 hX.1 hDv.2.2 h0 h1
    refine v_aload_n C 0 dX10_holds_17 rfl ?_
    refine v_aload_n C 0 dX10_holds_18 rfl ?_
    refine v_get C 0 4 lC0 (eC0 _) rfl inX10 (by decide) rfl qw423 dX10_holds_19 ?_
    refine v_aload_n C 0 dX10_holds_22 rfl ?_
    refine v_get C 0 13 lC0 (eC0 _) rfl inX10 (by decide) rfl qw432 dX10_holds_23 ?_
    refine v_st (st1 := [.ref (aa k), .ref (aa 19), .ref (aa 0)]) (by rw [show (m2 0 13).toNat = k from by assumption]) ?_
    refine v_callV (st := [.ref (aa 0)]) (n := 1) (q := 19) C [.ref (aa k)] (ct_Weights_holdsAll C.2.2.2.2.2.2.1 m2 (19) (20) (21) (22) (k) (kf) (ks) (kt) (kc) (by unfold WeightsAt; decide) hk (by rw [k1]; exact hk5) (by rw [k1, kf1]; exact hF) (by rw [k1]; intro j h0 h1; rw [(hW.2 j h0 h1).1]; have := hstr j h0 (by omega); omega)) lC19 (eC19 _) rfl qw794 qw8 qw791 rfl rfl ⟨Nat.le_of_ble_eq_true rfl, Nat.le_of_ble_eq_true rfl⟩ (by decide +kernel) qw792 qw793 rfl rfl (Nat.le_of_ble_eq_true rfl) dX10_holds_26 (fun r m3 hq3 => ?_)
    obtain ⟨z3, rfl, ⟨rfl, hq3, rfl⟩ | ⟨rfl, hq3, rfl⟩⟩ := hq3
    · show V E (wC D cy aa ad) 1 m2 29 [(0, .ref (aa 0))] [.int (iz (1)), .ref (aa 0)]
      refine v_if_eq (tgt := 36) C dX10_holds_29 (by decide) (by omega) (fun c4 => by exact absurd c4 (by decide)) (fun c4 => ?_)
      refine v_iconst (z := 1) C dX10_holds_32 rfl ?_
      refine v_goto (tgt := 37) C dX10_holds_33 (by decide) ?_
      refine v_callV (st := []) (n := 1) (q := 0) C [.int (iz (1))] (ct_StageRatios_answer C.2.2.2.2.2.2.1 m2 (1) ) lC0 (eC0 _) rfl qw640 qw1 qw637 rfl rfl ⟨Nat.le_of_ble_eq_true rfl, Nat.le_of_ble_eq_true rfl⟩ (by decide +kernel) qw639 qp16 rfl rfl (Nat.le_of_ble_eq_true rfl) dX10_holds_37 (fun r m5 hq5 => ?_)
      obtain ⟨z5, rfl, rfl, hq5⟩ := hq5
      show V E (wC D cy aa ad) 1 m5 40 [(0, .ref (aa 0))] [.int (iz (1))]
      refine v_iret C X rfl dX10_holds_40 ⟨_, rfl, ?_, ?_⟩
      · rw [← hq5]
        refine ⟨0, ?_, by decide, CQ.of (fun q h => o1 q (by omega))⟩
        rw [k1, kf1, hW.hoA] at hq3
        first
          | exact Or.inl ⟨hT1, rfl, Or.inl ⟨rfl, hq3⟩⟩
          | exact Or.inl ⟨hT1, rfl, Or.inr ⟨rfl, hq3⟩⟩
      · rw [← hq5]; exact hci.of (fun q h => o1 q (by omega))
    · show V E (wC D cy aa ad) 1 m2 29 [(0, .ref (aa 0))] [.int (iz (0)), .ref (aa 0)]
      refine v_if_eq (tgt := 36) C dX10_holds_29 (by decide) (by omega) (fun c6 => ?_) (fun c6 => by exact absurd c6 (by decide))
      refine v_iconst (z := 0) C dX10_holds_36 rfl ?_
      refine v_callV (st := []) (n := 1) (q := 0) C [.int (iz (0))] (ct_StageRatios_answer C.2.2.2.2.2.2.1 m2 (0) ) lC0 (eC0 _) rfl qw640 qw1 qw637 rfl rfl ⟨Nat.le_of_ble_eq_true rfl, Nat.le_of_ble_eq_true rfl⟩ (by decide +kernel) qw639 qp16 rfl rfl (Nat.le_of_ble_eq_true rfl) dX10_holds_37 (fun r m7 hq7 => ?_)
      obtain ⟨z7, rfl, rfl, hq7⟩ := hq7
      show V E (wC D cy aa ad) 1 m7 40 [(0, .ref (aa 0))] [.int (iz (0))]
      refine v_iret C X rfl dX10_holds_40 ⟨_, rfl, ?_, ?_⟩
      · rw [← hq7]
        refine ⟨0, ?_, by decide, CQ.of (fun q h => o1 q (by omega))⟩
        rw [k1, kf1, hW.hoA] at hq3
        first
          | exact Or.inl ⟨hT1, rfl, Or.inl ⟨rfl, hq3⟩⟩
          | exact Or.inl ⟨hT1, rfl, Or.inr ⟨rfl, hq3⟩⟩
      · rw [← hq7]; exact hci.of (fun q h => o1 q (by omega))
  · refine v_aload_n C 0 dX10_holds_7 rfl ?_
    refine v_iconst (z := 1) C dX10_holds_8 rfl ?_
    refine v_callV (st := []) (n := 1) (q := 0) C [.int (iz (1))] (ct_StageRatios_refuse C.2.2.2.2.2.2.1 m (1) ) lC0 (eC0 _) rfl qw502 qw1 qw499 rfl rfl ⟨Nat.le_of_ble_eq_true rfl, Nat.le_of_ble_eq_true rfl⟩ (by decide +kernel) qw501 qp0 rfl rfl (Nat.le_of_ble_eq_true rfl) dX10_holds_9 (fun r m8 hq8 => ?_)
    obtain ⟨z8, rfl, rfl, hq8⟩ := hq8
    show V E (wC D cy aa ad) 1 m8 12 [(0, .ref (aa 0))] [.int (iz (-1))]
    refine v_iret C X rfl dX10_holds_12 ⟨_, rfl, ?_, ?_⟩
    · rw [← hq8]
      exact ⟨1, Or.inr ⟨by omega, rfl, rfl⟩, by decide, CQ.of (fun _ _ => rfl)⟩
    · rw [← hq8]; exact hci.of (fun _ _ => rfl)

set_option maxHeartbeats 4000000 in
set_option maxRecDepth 100000 in
theorem ct_StageRatios_box {lau : Launch} {D : va_G} {cy : Nat → ClassId} {aa ad : Nat → Nat} (hI : wI (wC D cy aa ad)) (m : Mem) (k kf ks kt kc : Nat) (s up : Int) (hci : CI m k kf ks kt kc) (hs : -2147483648 ≤ s ∧ s ≤ 2147483647) (hu : up = 0 ∨ up = 1) : MT lau (wC D cy aa ad) yX10_box cX10_box 3 (some .int) ({ frames := 1, cells := 0, slots := 0, locals := 21 } : Room) m [.ref (aa 0), .int (iz (s)), .int (iz (up))] (Pi (fun z m' => (QP (qBox (m 0 15) (m k) (m 5) s up) m m' z) ∧ CI m' k kf ks kt kc)) := by
  refine v_entry hI RX10 (by decide) rfl (Nat.le_of_ble_eq_true rfl) (fun E hE C X => ?_)
  subst hE
  show V E (wC D cy aa ad) 3 m 0 [(0, .ref (aa 0)), (1, .int (iz (s))), (2, .int (iz (up)))] []
  obtain ⟨hk, hcu, htd, -⟩ := id hci
  have ht01 : m 0 15 = 0 ∨ m 0 15 = 1 := htd.imp (fun a => a) (fun a => a.1)
  refine v_aload_n C 0 dX10_box_0 rfl ?_
  refine v_iload_n C 1 dX10_box_1 rfl ?_
  refine v_callV (st := []) (n := 1) (q := 0) C [.int (iz (s))] (ct_StageRatios_has C.2.2.2.2.2.2.1 m (k) (kf) (ks) (kt) (kc) (s) (by first | assumption | omega) (by first | assumption | omega) (by first | assumption | omega) (by first | assumption | omega)) lC0 (eC0 _) rfl qw661 qw1 qw658 rfl rfl ⟨Nat.le_of_ble_eq_true rfl, Nat.le_of_ble_eq_true rfl⟩ (by decide +kernel) qw660 qp17 rfl rfl (Nat.le_of_ble_eq_true rfl) dX10_box_2 (fun r m1 hq1 => ?_)
  obtain ⟨z1, rfl, ⟨rfl, hq1, rfl⟩ | ⟨rfl, hq1, rfl⟩⟩ := hq1
  · show V E (wC D cy aa ad) 3 m 5 [(0, .ref (aa 0)), (1, .int (iz (s))), (2, .int (iz (up)))] [.int (iz (1))]
    refine v_if_ne (tgt := 14) C dX10_box_5 (by decide) (by omega) (fun c2 => ?_) (fun c2 => by exact absurd c2 (by decide))
    have hhs := hq1
    obtain ⟨hT1, hs0⟩ := id hhs
    obtain ⟨-, hti⟩ := htd.resolve_left (by omega)
    obtain ⟨hrk, hX, -⟩ := id hti
    obtain ⟨hk5, hF, hup, hlw, hpl, hnf, hfa, -⟩ := id hrk
    have hkk : 73 ≤ k ∧ 73 ≤ kf ∧ 73 ≤ ks ∧ 73 ≤ kt ∧ 73 ≤ kc := by unfold RocketAt at hk; omega
    have hUr := hX.u hF
    have hDv := hX.dv hF hk5
    refine v_aload_n C 0 dX10_box_14 rfl ?_
    refine v_aload_n C 0 dX10_box_15 rfl ?_
    refine v_get C 0 2 lC0 (eC0 _) rfl inX10 (by decide) rfl qw421 dX10_box_16 ?_
    refine v_iload_n C 2 dX10_box_19 rfl ?_
    refine v_if_eq (tgt := 28) C dX10_box_20 (by decide) (by omega) (fun c3 => ?_) (fun c3 => ?_)
    · refine v_iconst (z := 5) C dX10_box_28 rfl ?_
      refine v_iload_n C 1 dX10_box_29 rfl ?_
      refine v_iadd C dX10_box_30 ?_
      refine v_callS (st := [.ref (aa 0)]) (n := 2) C [.ref (aa 5), .int (iz (5 + s))] (ct_StageRatios_at C.2.2.2.2.2.2.1 m (5) (11) (5 + s) ⟨lC5, by decide, eC5⟩ (by first | assumption | omega)) qw618 qw1 qw653 rfl rfl ⟨Nat.le_of_ble_eq_true rfl, Nat.le_of_ble_eq_true rfl⟩ (by decide +kernel) qw617 rfl rfl (Nat.le_of_ble_eq_true rfl) dX10_box_31 (fun r m4 hq4 => ?_)
      obtain ⟨z4, rfl, rfl, rfl⟩ := hq4
      show V E (wC D cy aa ad) 3 m 34 [(0, .ref (aa 0)), (1, .int (iz (s))), (2, .int (iz (up)))] [.int (iz (m 5 (5 + s))), .ref (aa 0)]
      refine v_callV (st := []) (n := 1) (q := 0) C [.int (iz (m 5 (5 + s)))] (ct_StageRatios_answer C.2.2.2.2.2.2.1 m (m 5 (5 + s)) ) lC0 (eC0 _) rfl qw640 qw1 qw637 rfl rfl ⟨Nat.le_of_ble_eq_true rfl, Nat.le_of_ble_eq_true rfl⟩ (by decide +kernel) qw639 qp16 rfl rfl (Nat.le_of_ble_eq_true rfl) dX10_box_34 (fun r m5 hq5 => ?_)
      obtain ⟨z5, rfl, rfl, hq5⟩ := hq5
      show V E (wC D cy aa ad) 3 m5 37 [(0, .ref (aa 0)), (1, .int (iz (s))), (2, .int (iz (up)))] [.int (iz ((m 5 (5 + s))))]
      refine v_iret C X rfl dX10_box_37 ⟨_, rfl, ?_, ?_⟩
      · rw [← hq5]
        refine ⟨0, ?_, by decide, CQ.of (fun _ _ => rfl)⟩
        first
          | exact Or.inl ⟨hhs, rfl, by rw [if_pos (by omega)]; rfl⟩
          | exact Or.inl ⟨hhs, rfl, by rw [if_neg (by omega)]; rfl⟩
      · rw [← hq5]; exact hci.of (fun _ _ => rfl)
    · refine v_bipush (z := 8) C dX10_box_23 (by decide) ?_
      refine v_goto (tgt := 29) C dX10_box_25 (by decide) ?_
      refine v_iload_n C 1 dX10_box_29 rfl ?_
      refine v_iadd C dX10_box_30 ?_
      refine v_callS (st := [.ref (aa 0)]) (n := 2) C [.ref (aa 5), .int (iz (8 + s))] (ct_StageRatios_at C.2.2.2.2.2.2.1 m (5) (11) (8 + s) ⟨lC5, by decide, eC5⟩ (by first | assumption | omega)) qw618 qw1 qw653 rfl rfl ⟨Nat.le_of_ble_eq_true rfl, Nat.le_of_ble_eq_true rfl⟩ (by decide +kernel) qw617 rfl rfl (Nat.le_of_ble_eq_true rfl) dX10_box_31 (fun r m6 hq6 => ?_)
      obtain ⟨z6, rfl, rfl, rfl⟩ := hq6
      show V E (wC D cy aa ad) 3 m 34 [(0, .ref (aa 0)), (1, .int (iz (s))), (2, .int (iz (up)))] [.int (iz (m 5 (8 + s))), .ref (aa 0)]
      refine v_callV (st := []) (n := 1) (q := 0) C [.int (iz (m 5 (8 + s)))] (ct_StageRatios_answer C.2.2.2.2.2.2.1 m (m 5 (8 + s)) ) lC0 (eC0 _) rfl qw640 qw1 qw637 rfl rfl ⟨Nat.le_of_ble_eq_true rfl, Nat.le_of_ble_eq_true rfl⟩ (by decide +kernel) qw639 qp16 rfl rfl (Nat.le_of_ble_eq_true rfl) dX10_box_34 (fun r m7 hq7 => ?_)
      obtain ⟨z7, rfl, rfl, hq7⟩ := hq7
      show V E (wC D cy aa ad) 3 m7 37 [(0, .ref (aa 0)), (1, .int (iz (s))), (2, .int (iz (up)))] [.int (iz ((m 5 (8 + s))))]
      refine v_iret C X rfl dX10_box_37 ⟨_, rfl, ?_, ?_⟩
      · rw [← hq7]
        refine ⟨0, ?_, by decide, CQ.of (fun _ _ => rfl)⟩
        first
          | exact Or.inl ⟨hhs, rfl, by rw [if_pos (by omega)]; rfl⟩
          | exact Or.inl ⟨hhs, rfl, by rw [if_neg (by omega)]; rfl⟩
      · rw [← hq7]; exact hci.of (fun _ _ => rfl)
  · show V E (wC D cy aa ad) 3 m 5 [(0, .ref (aa 0)), (1, .int (iz (s))), (2, .int (iz (up)))] [.int (iz (0))]
    refine v_if_ne (tgt := 14) C dX10_box_5 (by decide) (by omega) (fun c8 => by exact absurd c8 (by decide)) (fun c8 => ?_)
    refine v_aload_n C 0 dX10_box_8 rfl ?_
    refine v_iconst (z := 1) C dX10_box_9 rfl ?_
    refine v_callV (st := []) (n := 1) (q := 0) C [.int (iz (1))] (ct_StageRatios_refuse C.2.2.2.2.2.2.1 m (1) ) lC0 (eC0 _) rfl qw502 qw1 qw499 rfl rfl ⟨Nat.le_of_ble_eq_true rfl, Nat.le_of_ble_eq_true rfl⟩ (by decide +kernel) qw501 qp0 rfl rfl (Nat.le_of_ble_eq_true rfl) dX10_box_10 (fun r m9 hq9 => ?_)
    obtain ⟨z9, rfl, rfl, hq9⟩ := hq9
    show V E (wC D cy aa ad) 3 m9 13 [(0, .ref (aa 0)), (1, .int (iz (s))), (2, .int (iz (up)))] [.int (iz (-1))]
    refine v_iret C X rfl dX10_box_13 ⟨_, rfl, ?_, ?_⟩
    · rw [← hq9]
      exact ⟨1, Or.inr ⟨hq1, rfl, rfl⟩, by decide, CQ.of (fun _ _ => rfl)⟩
    · rw [← hq9]; exact hci.of (fun _ _ => rfl)

set_option maxHeartbeats 4000000 in
set_option maxRecDepth 100000 in
theorem ct_StageRatios_richer {lau : Launch} {D : va_G} {cy : Nat → ClassId} {aa ad : Nat → Nat} (hI : wI (wC D cy aa ad)) (m : Mem) (k kf ks kt kc : Nat) (s w : Int) (hci : CI m k kf ks kt kc) (hs : -2147483648 ≤ s ∧ s ≤ 2147483647) (hw : -2147483648 ≤ w ∧ w ≤ 2147483647) : MT lau (wC D cy aa ad) yX10_richer cX10_richer 3 (some .int) ({ frames := 4, cells := 0, slots := 0, locals := 93 } : Room) m [.ref (aa 0), .int (iz (s)), .int (iz (w))] (Pi (fun z m' => (QP (qRic (m 0 15) (m kf) (m k) (m 5) s w) m m' z) ∧ CI m' k kf ks kt kc)) := by
  refine v_entry hI RX10 (by decide) rfl (Nat.le_of_ble_eq_true rfl) (fun E hE C X => ?_)
  subst hE
  show V E (wC D cy aa ad) 3 m 0 [(0, .ref (aa 0)), (1, .int (iz (s))), (2, .int (iz (w)))] []
  obtain ⟨hk, hcu, htd, -⟩ := id hci
  have ht01 : m 0 15 = 0 ∨ m 0 15 = 1 := htd.imp (fun a => a) (fun a => a.1)
  refine v_aload_n C 0 dX10_richer_0 rfl ?_
  refine v_iload_n C 1 dX10_richer_1 rfl ?_
  refine v_callV (st := []) (n := 1) (q := 0) C [.int (iz (s))] (ct_StageRatios_has C.2.2.2.2.2.2.1 m (k) (kf) (ks) (kt) (kc) (s) (by first | assumption | omega) (by first | assumption | omega) (by first | assumption | omega) (by first | assumption | omega)) lC0 (eC0 _) rfl qw661 qw1 qw658 rfl rfl ⟨Nat.le_of_ble_eq_true rfl, Nat.le_of_ble_eq_true rfl⟩ (by decide +kernel) qw660 qp17 rfl rfl (Nat.le_of_ble_eq_true rfl) dX10_richer_2 (fun r m1 hq1 => ?_)
  obtain ⟨z1, rfl, ⟨rfl, hq1, rfl⟩ | ⟨rfl, hq1, rfl⟩⟩ := hq1
  · show V E (wC D cy aa ad) 3 m 5 [(0, .ref (aa 0)), (1, .int (iz (s))), (2, .int (iz (w)))] [.int (iz (1))]
    refine v_if_eq (tgt := 21) C dX10_richer_5 (by decide) (by omega) (fun c2 => by exact absurd c2 (by decide)) (fun c2 => ?_)
    refine v_aload_n C 0 dX10_richer_8 rfl ?_
    refine v_iload_n C 2 dX10_richer_9 rfl ?_
    refine v_callV (st := []) (n := 1) (q := 0) C [.int (iz (w))] (ct_StageRatios_has C.2.2.2.2.2.2.1 m (k) (kf) (ks) (kt) (kc) (w) (by first | assumption | omega) (by first | assumption | omega) (by first | assumption | omega) (by first | assumption | omega)) lC0 (eC0 _) rfl qw661 qw1 qw658 rfl rfl ⟨Nat.le_of_ble_eq_true rfl, Nat.le_of_ble_eq_true rfl⟩ (by decide +kernel) qw660 qp17 rfl rfl (Nat.le_of_ble_eq_true rfl) dX10_richer_10 (fun r m3 hq3 => ?_)
    obtain ⟨z3, rfl, ⟨rfl, hq3, rfl⟩ | ⟨rfl, hq3, rfl⟩⟩ := hq3
    · show V E (wC D cy aa ad) 3 m 13 [(0, .ref (aa 0)), (1, .int (iz (s))), (2, .int (iz (w)))] [.int (iz (1))]
      refine v_if_eq (tgt := 21) C dX10_richer_13 (by decide) (by omega) (fun c4 => by exact absurd c4 (by decide)) (fun c4 => ?_)
      refine v_iload_n C 1 dX10_richer_16 rfl ?_
      refine v_iload_n C 2 dX10_richer_17 rfl ?_
      refine v_icmp_ne (tgt := 30) C dX10_richer_18 (by decide) (by omega) (by omega) (fun c5 => ?_) (fun c5 => ?_)
      · obtain ⟨hT1, hs0⟩ := id hq1
        obtain ⟨-, hs2⟩ := id hq3
        obtain ⟨-, hti⟩ := htd.resolve_left (by omega)
        obtain ⟨hrk, hX, -⟩ := id hti
        obtain ⟨hk5, hF, hup, hlw, hpl, hnf, hfa, -⟩ := id hrk
        have hkk : 73 ≤ k ∧ 73 ≤ kf ∧ 73 ≤ ks ∧ 73 ≤ kt ∧ 73 ≤ kc := by unfold RocketAt at hk; omega
        have hUr := hX.u hF
        have hDv := hX.dv hF hk5
        refine v_aload_n C 0 dX10_richer_30 rfl ?_
        refine v_iload_n C 1 dX10_richer_31 rfl ?_
        refine v_callV (st := []) (n := 1) (q := 0) C [.int (iz (s))] (ct_StageRatios_isFull C.2.2.2.2.2.2.1 m (k) (kf) (ks) (kt) (kc) (s) (by first | assumption | omega) (by first | assumption | omega) (by first | assumption | omega) (by first | assumption | omega)) lC0 (eC0 _) rfl qw803 qw1 qw800 rfl rfl ⟨Nat.le_of_ble_eq_true rfl, Nat.le_of_ble_eq_true rfl⟩ (by decide +kernel) qw802 qp23 rfl rfl (Nat.le_of_ble_eq_true rfl) dX10_richer_32 (fun r m6 hq6 => ?_)
        obtain ⟨z6, rfl, ⟨rfl, hq6, rfl⟩ | ⟨rfl, hq6, rfl⟩⟩ := hq6
        · show V E (wC D cy aa ad) 3 m 35 [(0, .ref (aa 0)), (1, .int (iz (s))), (2, .int (iz (w)))] [.int (iz (1))]
          have hbad2 : ¬ (m 5 (2 + s) < m kf (s * 9 + 3) ∧ m 5 (2 + w) < m kf (w * 9 + 3)) := fun h => hq6 h.1
          refine v_if_ne (tgt := 46) C dX10_richer_35 (by decide) (by omega) (fun c7 => ?_) (fun c7 => by exact absurd c7 (by decide))
          refine v_aload_n C 0 dX10_richer_46 rfl ?_
          refine v_iconst (z := 5) C dX10_richer_47 rfl ?_
          refine v_callV (st := []) (n := 1) (q := 0) C [.int (iz (5))] (ct_StageRatios_refuse C.2.2.2.2.2.2.1 m (5) ) lC0 (eC0 _) rfl qw502 qw1 qw499 rfl rfl ⟨Nat.le_of_ble_eq_true rfl, Nat.le_of_ble_eq_true rfl⟩ (by decide +kernel) qw501 qp0 rfl rfl (Nat.le_of_ble_eq_true rfl) dX10_richer_48 (fun r m8 hq8 => ?_)
          obtain ⟨z8, rfl, rfl, hq8⟩ := hq8
          show V E (wC D cy aa ad) 3 m8 51 [(0, .ref (aa 0)), (1, .int (iz (s))), (2, .int (iz (w)))] [.int (iz (-1))]
          refine v_pop C dX10_richer_51 rfl ?_
          refine v_bipush (z := -2) C dX10_richer_52 (by decide) ?_
          refine v_iret C X rfl dX10_richer_54 ⟨_, rfl, ?_, ?_⟩
          · rw [← hq8]
            exact ⟨5, Or.inr (Or.inl ⟨⟨hq1, hq3, by omega⟩, hbad2, rfl, rfl⟩), by decide, CQ.of (fun _ _ => rfl)⟩
          · rw [← hq8]; exact hci.of (fun _ _ => rfl)
        · show V E (wC D cy aa ad) 3 m 35 [(0, .ref (aa 0)), (1, .int (iz (s))), (2, .int (iz (w)))] [.int (iz (0))]
          have hl1 := Classical.not_not.mp hq6
          refine v_if_ne (tgt := 46) C dX10_richer_35 (by decide) (by omega) (fun c9 => by exact absurd c9 (by decide)) (fun c9 => ?_)
          refine v_aload_n C 0 dX10_richer_38 rfl ?_
          refine v_iload_n C 2 dX10_richer_39 rfl ?_
          refine v_callV (st := []) (n := 1) (q := 0) C [.int (iz (w))] (ct_StageRatios_isFull C.2.2.2.2.2.2.1 m (k) (kf) (ks) (kt) (kc) (w) (by first | assumption | omega) (by first | assumption | omega) (by first | assumption | omega) (by first | assumption | omega)) lC0 (eC0 _) rfl qw803 qw1 qw800 rfl rfl ⟨Nat.le_of_ble_eq_true rfl, Nat.le_of_ble_eq_true rfl⟩ (by decide +kernel) qw802 qp23 rfl rfl (Nat.le_of_ble_eq_true rfl) dX10_richer_40 (fun r m10 hq10 => ?_)
          obtain ⟨z10, rfl, ⟨rfl, hq10, rfl⟩ | ⟨rfl, hq10, rfl⟩⟩ := hq10
          · show V E (wC D cy aa ad) 3 m 43 [(0, .ref (aa 0)), (1, .int (iz (s))), (2, .int (iz (w)))] [.int (iz (1))]
            have hbad2 : ¬ (m 5 (2 + s) < m kf (s * 9 + 3) ∧ m 5 (2 + w) < m kf (w * 9 + 3)) := fun h => hq10 h.2
            refine v_if_eq (tgt := 55) C dX10_richer_43 (by decide) (by omega) (fun c11 => by exact absurd c11 (by decide)) (fun c11 => ?_)
            refine v_aload_n C 0 dX10_richer_46 rfl ?_
            refine v_iconst (z := 5) C dX10_richer_47 rfl ?_
            refine v_callV (st := []) (n := 1) (q := 0) C [.int (iz (5))] (ct_StageRatios_refuse C.2.2.2.2.2.2.1 m (5) ) lC0 (eC0 _) rfl qw502 qw1 qw499 rfl rfl ⟨Nat.le_of_ble_eq_true rfl, Nat.le_of_ble_eq_true rfl⟩ (by decide +kernel) qw501 qp0 rfl rfl (Nat.le_of_ble_eq_true rfl) dX10_richer_48 (fun r m12 hq12 => ?_)
            obtain ⟨z12, rfl, rfl, hq12⟩ := hq12
            show V E (wC D cy aa ad) 3 m12 51 [(0, .ref (aa 0)), (1, .int (iz (s))), (2, .int (iz (w)))] [.int (iz (-1))]
            refine v_pop C dX10_richer_51 rfl ?_
            refine v_bipush (z := -2) C dX10_richer_52 (by decide) ?_
            refine v_iret C X rfl dX10_richer_54 ⟨_, rfl, ?_, ?_⟩
            · rw [← hq12]
              exact ⟨5, Or.inr (Or.inl ⟨⟨hq1, hq3, by omega⟩, hbad2, rfl, rfl⟩), by decide, CQ.of (fun _ _ => rfl)⟩
            · rw [← hq12]; exact hci.of (fun _ _ => rfl)
          · show V E (wC D cy aa ad) 3 m 43 [(0, .ref (aa 0)), (1, .int (iz (s))), (2, .int (iz (w)))] [.int (iz (0))]
            have hl2 := Classical.not_not.mp hq10
            refine v_if_eq (tgt := 55) C dX10_richer_43 (by decide) (by omega) (fun c13 => ?_) (fun c13 => by exact absurd c13 (by decide))
            refine v_aload_n C 0 dX10_richer_55 rfl ?_
            refine v_iload_n C 1 dX10_richer_56 rfl ?_
            refine v_callV (st := []) (n := 1) (q := 0) C [.int (iz (s))] (ct_StageRatios_weighWithOneMore C.2.2.2.2.2.2.1 m (k) (kf) (ks) (kt) (kc) (s) (by first | assumption | omega) (by first | assumption | omega) (by first | assumption | omega) (by first | assumption | omega) (by first | assumption | omega)) lC0 (eC0 _) rfl qw807 qw1 qw804 rfl rfl ⟨Nat.le_of_ble_eq_true rfl, Nat.le_of_ble_eq_true rfl⟩ (by decide +kernel) qw806 qp24 rfl rfl (Nat.le_of_ble_eq_true rfl) dX10_richer_57 (fun r m14 hq14 => ?_)
            obtain ⟨rfl, hq14⟩ := hq14
            show V E (wC D cy aa ad) 3 m14 60 [(0, .ref (aa 0)), (1, .int (iz (s))), (2, .int (iz (w)))] []
            have o1 : ∀ q, (q < 15 ∨ 23 ≤ q) → m14 q = m q := fun q h => hq14.2.2 q (by omega)
            have hW := hq14.1
            have k1 := o1 k (by omega)
            have kf1 := o1 kf (by omega)
            have hcu1 : (m14 0 13).toNat = k := by rw [o1 0 (by decide)]; exact hcu
            refine v_aload_n C 0 dX10_richer_60 rfl ?_
            refine v_get C 0 4 lC0 (eC0 _) rfl inX10 (by decide) rfl qw423 dX10_richer_61 ?_
            refine v_aload_n C 0 dX10_richer_64 rfl ?_
            refine v_get C 0 13 lC0 (eC0 _) rfl inX10 (by decide) rfl qw432 dX10_richer_65 ?_
            refine v_st (st1 := [.ref (aa k), .ref (aa 19)]) (by rw [show (m14 0 13).toNat = k from by assumption]) ?_
            refine v_aload_n C 0 dX10_richer_68 rfl ?_
            refine v_get C 0 6 lC0 (eC0 _) rfl inX10 (by decide) rfl qw425 dX10_richer_69 ?_
            refine v_callV (st := []) (n := 2) (q := 19) C [.ref (aa k), .ref (aa 31)] (ct_Weights_speedInto C.2.2.2.2.2.2.1 m14 (19) (20) (21) (22) (k) (kf) (ks) (kt) (kc) (31) (32) (33) (34) (by unfold WeightsAt; decide) hk (by unfold RatioAt; decide) (by rw [k1]; exact hk5)) lC19 (eC19 _) rfl qw725 qw8 qw722 rfl rfl ⟨Nat.le_of_ble_eq_true rfl, Nat.le_of_ble_eq_true rfl⟩ (by decide +kernel) qw723 qw724 rfl rfl (Nat.le_of_ble_eq_true rfl) dX10_richer_72 (fun r m15 hq15 => ?_)
            obtain ⟨rfl, hq15⟩ := hq15
            show V E (wC D cy aa ad) 3 m15 75 [(0, .ref (aa 0)), (1, .int (iz (s))), (2, .int (iz (w)))] []
            have zq := hq15.1
            rw [k1, kf1, hW.spT] at zq
            have o2 : ∀ q, (q < 31 ∨ 34 ≤ q) → m15 q = m14 q := fun q h => hq15.2 q (by omega) (by omega) (by omega)
            have o12 : ∀ q, (q < 15 ∨ 73 ≤ q) → m15 q = m q := fun q h => by rw [o2 q (by omega), o1 q (by omega)]
            have hcu2 : (m15 0 13).toNat = k := by rw [o12 0 (by decide)]; exact hcu
            have hti2 := hti.keep hk o12
            have k2 := o12 k (by omega)
            have kf2 := o12 kf (by omega)
            have e52 := o12 5 (by decide)
            refine v_aload_n C 0 dX10_richer_75 rfl ?_
            refine v_iload_n C 2 dX10_richer_76 rfl ?_
            refine v_callV (st := []) (n := 1) (q := 0) C [.int (iz (w))] (ct_StageRatios_weighWithOneMore C.2.2.2.2.2.2.1 m15 (k) (kf) (ks) (kt) (kc) (w) (by first | assumption | omega) (by first | assumption | omega) (by first | assumption | omega) (by rw [k2]; exact hs2) (by rw [e52, kf2]; exact hl2)) lC0 (eC0 _) rfl qw807 qw1 qw804 rfl rfl ⟨Nat.le_of_ble_eq_true rfl, Nat.le_of_ble_eq_true rfl⟩ (by decide +kernel) qw806 qp24 rfl rfl (Nat.le_of_ble_eq_true rfl) dX10_richer_77 (fun r m16 hq16 => ?_)
            obtain ⟨rfl, hq16⟩ := hq16
            show V E (wC D cy aa ad) 3 m16 80 [(0, .ref (aa 0)), (1, .int (iz (s))), (2, .int (iz (w)))] []
            have o3 : ∀ q, (q < 19 ∨ 23 ≤ q) → m16 q = m15 q := fun q h => hq16.2.2 q h
            have hW2 := hq16.1
            rw [k2, kf2, e52] at hW2
            have k3 : m16 k = m k := by rw [o3 k (by omega), k2]
            have kf3 : m16 kf = m kf := by rw [o3 kf (by omega), kf2]
            have hcu3 : (m16 0 13).toNat = k := by rw [o3 0 (by decide)]; exact hcu2
            refine v_aload_n C 0 dX10_richer_80 rfl ?_
            refine v_get C 0 4 lC0 (eC0 _) rfl inX10 (by decide) rfl qw423 dX10_richer_81 ?_
            refine v_aload_n C 0 dX10_richer_84 rfl ?_
            refine v_get C 0 13 lC0 (eC0 _) rfl inX10 (by decide) rfl qw432 dX10_richer_85 ?_
            refine v_st (st1 := [.ref (aa k), .ref (aa 19)]) (by rw [show (m16 0 13).toNat = k from by assumption]) ?_
            refine v_aload_n C 0 dX10_richer_88 rfl ?_
            refine v_get C 0 7 lC0 (eC0 _) rfl inX10 (by decide) rfl qw426 dX10_richer_89 ?_
            refine v_callV (st := []) (n := 2) (q := 19) C [.ref (aa k), .ref (aa 35)] (ct_Weights_speedInto C.2.2.2.2.2.2.1 m16 (19) (20) (21) (22) (k) (kf) (ks) (kt) (kc) (35) (36) (37) (38) (by unfold WeightsAt; decide) hk (by unfold RatioAt; decide) (by rw [k3]; exact hk5)) lC19 (eC19 _) rfl qw725 qw8 qw722 rfl rfl ⟨Nat.le_of_ble_eq_true rfl, Nat.le_of_ble_eq_true rfl⟩ (by decide +kernel) qw723 qw724 rfl rfl (Nat.le_of_ble_eq_true rfl) dX10_richer_92 (fun r m17 hq17 => ?_)
            obtain ⟨rfl, hq17⟩ := hq17
            show V E (wC D cy aa ad) 3 m17 95 [(0, .ref (aa 0)), (1, .int (iz (s))), (2, .int (iz (w)))] []
            have zq2 := hq17.1
            rw [k3, kf3, hW2.spT] at zq2
            have o4 : ∀ q, (q < 35 ∨ 38 ≤ q) → m17 q = m16 q := fun q h => hq17.2 q (by omega) (by omega) (by omega)
            obtain ⟨al1, al2, al3, al4, al5⟩ := (u1_dv hX hF hk5 (s := s) hl1).al hF
            obtain ⟨bl1, bl2, bl3, bl4, bl5⟩ := (u1_dv hX hF hk5 (s := w) hl2).al hF
            refine v_aload_n C 0 dX10_richer_95 rfl ?_
            refine v_aload_n C 0 dX10_richer_96 rfl ?_
            refine v_get C 0 8 lC0 (eC0 _) rfl inX10 (by decide) rfl qw427 dX10_richer_97 ?_
            refine v_aload_n C 0 dX10_richer_100 rfl ?_
            refine v_get C 0 6 lC0 (eC0 _) rfl inX10 (by decide) rfl qw425 dX10_richer_101 ?_
            refine v_aload_n C 0 dX10_richer_104 rfl ?_
            refine v_get C 0 7 lC0 (eC0 _) rfl inX10 (by decide) rfl qw426 dX10_richer_105 ?_
            refine v_callV (st := [.ref (aa 0)]) (n := 2) (q := 7) C [.ref (aa 31), .ref (aa 35)] (ct_Scale_compare C.2.2.2.2.2.2.1 m17 (31) (32) (33) (34) (35) (36) (37) (38) (spT (m kf) (m k 5) (m 5 0) (u1X (m 5) s)) (spT (m kf) (m k 5) (m 5 0) (u1X (m 5) w)) (by unfold RatioAt; decide) (by unfold RatioAt; decide) (by exact zq.fr (by rw [o4 31 (by omega), o3 31 (by omega)]) (by rw [o4 32 (by omega), o3 32 (by omega)]) (by rw [o4 33 (by omega), o3 33 (by omega)])) (by exact zq2) (by exact al1) (by exact bl1) (by exact al2) (by exact le_560 al3) (by exact le_560 (Int.le_trans al5 al3)) (by exact bl2) (by exact le_560 bl3) (by exact le_560 (Int.le_trans bl5 bl3)) (by exact lt_768 (by omega) (by omega) al3 (Int.le_trans bl5 bl3)) (by exact lt_768 (by omega) (by omega) (Int.le_trans al5 al3) bl3)) lC7 (eC7 _) rfl qw811 qw10 qw808 rfl rfl ⟨Nat.le_of_ble_eq_true rfl, Nat.le_of_ble_eq_true rfl⟩ (by decide +kernel) qw809 qw810 rfl rfl (Nat.le_of_ble_eq_true rfl) dX10_richer_108 (fun r m18 hq18 => ?_)
            obtain ⟨z18, rfl, rfl, hq18⟩ := hq18
            show V E (wC D cy aa ad) 3 m18 111 [(0, .ref (aa 0)), (1, .int (iz (s))), (2, .int (iz (w)))] [.int (iz ((if numL (spT (m kf) (m k 5) (m 5 0) (u1X (m 5) w)) * denL (spT (m kf) (m k 5) (m 5 0) (u1X (m 5) s)) < numL (spT (m kf) (m k 5) (m 5 0) (u1X (m 5) s)) * denL (spT (m kf) (m k 5) (m 5 0) (u1X (m 5) w)) then 1 else if numL (spT (m kf) (m k 5) (m 5 0) (u1X (m 5) s)) * denL (spT (m kf) (m k 5) (m 5 0) (u1X (m 5) w)) < numL (spT (m kf) (m k 5) (m 5 0) (u1X (m 5) w)) * denL (spT (m kf) (m k 5) (m 5 0) (u1X (m 5) s)) then -1 else 0))), .ref (aa 0)]
            refine v_callV (st := []) (n := 1) (q := 0) C [.int (iz ((if numL (spT (m kf) (m k 5) (m 5 0) (u1X (m 5) w)) * denL (spT (m kf) (m k 5) (m 5 0) (u1X (m 5) s)) < numL (spT (m kf) (m k 5) (m 5 0) (u1X (m 5) s)) * denL (spT (m kf) (m k 5) (m 5 0) (u1X (m 5) w)) then 1 else if numL (spT (m kf) (m k 5) (m 5 0) (u1X (m 5) s)) * denL (spT (m kf) (m k 5) (m 5 0) (u1X (m 5) w)) < numL (spT (m kf) (m k 5) (m 5 0) (u1X (m 5) w)) * denL (spT (m kf) (m k 5) (m 5 0) (u1X (m 5) s)) then -1 else 0)))] (ct_StageRatios_answer C.2.2.2.2.2.2.1 m18 ((if numL (spT (m kf) (m k 5) (m 5 0) (u1X (m 5) w)) * denL (spT (m kf) (m k 5) (m 5 0) (u1X (m 5) s)) < numL (spT (m kf) (m k 5) (m 5 0) (u1X (m 5) s)) * denL (spT (m kf) (m k 5) (m 5 0) (u1X (m 5) w)) then 1 else if numL (spT (m kf) (m k 5) (m 5 0) (u1X (m 5) s)) * denL (spT (m kf) (m k 5) (m 5 0) (u1X (m 5) w)) < numL (spT (m kf) (m k 5) (m 5 0) (u1X (m 5) w)) * denL (spT (m kf) (m k 5) (m 5 0) (u1X (m 5) s)) then -1 else 0)) ) lC0 (eC0 _) rfl qw640 qw1 qw637 rfl rfl ⟨Nat.le_of_ble_eq_true rfl, Nat.le_of_ble_eq_true rfl⟩ (by decide +kernel) qw639 qp16 rfl rfl (Nat.le_of_ble_eq_true rfl) dX10_richer_111 (fun r m19 hq19 => ?_)
            obtain ⟨z19, rfl, rfl, hq19⟩ := hq19
            show V E (wC D cy aa ad) 3 m19 114 [(0, .ref (aa 0)), (1, .int (iz (s))), (2, .int (iz (w)))] [.int (iz (((if numL (spT (m kf) (m k 5) (m 5 0) (u1X (m 5) w)) * denL (spT (m kf) (m k 5) (m 5 0) (u1X (m 5) s)) < numL (spT (m kf) (m k 5) (m 5 0) (u1X (m 5) s)) * denL (spT (m kf) (m k 5) (m 5 0) (u1X (m 5) w)) then 1 else if numL (spT (m kf) (m k 5) (m 5 0) (u1X (m 5) s)) * denL (spT (m kf) (m k 5) (m 5 0) (u1X (m 5) w)) < numL (spT (m kf) (m k 5) (m 5 0) (u1X (m 5) w)) * denL (spT (m kf) (m k 5) (m 5 0) (u1X (m 5) s)) then -1 else 0))))]
            refine v_iret C X rfl dX10_richer_114 ⟨_, rfl, ?_, ?_⟩
            · rw [← hq19]
              refine ⟨0, ?_, by decide, CQ.of (fun q h => by rw [hq18 q (by omega) (by omega) (by omega) (by omega), o4 q (by omega), o3 q (by omega), o2 q (by omega), o1 q (by omega)])⟩
              exact Or.inl ⟨⟨hq1, hq3, by omega⟩, ⟨by omega, by omega⟩, rfl, rfl⟩
            · rw [← hq19]; exact hci.of (fun q h => by rw [hq18 q (by omega) (by omega) (by omega) (by omega), o4 q (by omega), o3 q (by omega), o2 q (by omega), o1 q (by omega)])
      · have hbad : ¬ (hsS (m 0 15) (m k) s ∧ hsS (m 0 15) (m k) w ∧ s ≠ w) := fun h => h.2.2 (by omega)
        refine v_aload_n C 0 dX10_richer_21 rfl ?_
        refine v_iconst (z := 1) C dX10_richer_22 rfl ?_
        refine v_callV (st := []) (n := 1) (q := 0) C [.int (iz (1))] (ct_StageRatios_refuse C.2.2.2.2.2.2.1 m (1) ) lC0 (eC0 _) rfl qw502 qw1 qw499 rfl rfl ⟨Nat.le_of_ble_eq_true rfl, Nat.le_of_ble_eq_true rfl⟩ (by decide +kernel) qw501 qp0 rfl rfl (Nat.le_of_ble_eq_true rfl) dX10_richer_23 (fun r m20 hq20 => ?_)
        obtain ⟨z20, rfl, rfl, hq20⟩ := hq20
        show V E (wC D cy aa ad) 3 m20 26 [(0, .ref (aa 0)), (1, .int (iz (s))), (2, .int (iz (w)))] [.int (iz (-1))]
        refine v_pop C dX10_richer_26 rfl ?_
        refine v_bipush (z := -2) C dX10_richer_27 (by decide) ?_
        refine v_iret C X rfl dX10_richer_29 ⟨_, rfl, ?_, ?_⟩
        · rw [← hq20]
          exact ⟨1, Or.inr (Or.inr ⟨hbad, rfl, rfl⟩), by decide, CQ.of (fun _ _ => rfl)⟩
        · rw [← hq20]; exact hci.of (fun _ _ => rfl)
    · show V E (wC D cy aa ad) 3 m 13 [(0, .ref (aa 0)), (1, .int (iz (s))), (2, .int (iz (w)))] [.int (iz (0))]
      have hbad : ¬ (hsS (m 0 15) (m k) s ∧ hsS (m 0 15) (m k) w ∧ s ≠ w) := fun h => hq3 h.2.1
      refine v_if_eq (tgt := 21) C dX10_richer_13 (by decide) (by omega) (fun c21 => ?_) (fun c21 => by exact absurd c21 (by decide))
      refine v_aload_n C 0 dX10_richer_21 rfl ?_
      refine v_iconst (z := 1) C dX10_richer_22 rfl ?_
      refine v_callV (st := []) (n := 1) (q := 0) C [.int (iz (1))] (ct_StageRatios_refuse C.2.2.2.2.2.2.1 m (1) ) lC0 (eC0 _) rfl qw502 qw1 qw499 rfl rfl ⟨Nat.le_of_ble_eq_true rfl, Nat.le_of_ble_eq_true rfl⟩ (by decide +kernel) qw501 qp0 rfl rfl (Nat.le_of_ble_eq_true rfl) dX10_richer_23 (fun r m22 hq22 => ?_)
      obtain ⟨z22, rfl, rfl, hq22⟩ := hq22
      show V E (wC D cy aa ad) 3 m22 26 [(0, .ref (aa 0)), (1, .int (iz (s))), (2, .int (iz (w)))] [.int (iz (-1))]
      refine v_pop C dX10_richer_26 rfl ?_
      refine v_bipush (z := -2) C dX10_richer_27 (by decide) ?_
      refine v_iret C X rfl dX10_richer_29 ⟨_, rfl, ?_, ?_⟩
      · rw [← hq22]
        exact ⟨1, Or.inr (Or.inr ⟨hbad, rfl, rfl⟩), by decide, CQ.of (fun _ _ => rfl)⟩
      · rw [← hq22]; exact hci.of (fun _ _ => rfl)
  · show V E (wC D cy aa ad) 3 m 5 [(0, .ref (aa 0)), (1, .int (iz (s))), (2, .int (iz (w)))] [.int (iz (0))]
    have hbad : ¬ (hsS (m 0 15) (m k) s ∧ hsS (m 0 15) (m k) w ∧ s ≠ w) := fun h => hq1 h.1
    refine v_if_eq (tgt := 21) C dX10_richer_5 (by decide) (by omega) (fun c23 => ?_) (fun c23 => by exact absurd c23 (by decide))
    refine v_aload_n C 0 dX10_richer_21 rfl ?_
    refine v_iconst (z := 1) C dX10_richer_22 rfl ?_
    refine v_callV (st := []) (n := 1) (q := 0) C [.int (iz (1))] (ct_StageRatios_refuse C.2.2.2.2.2.2.1 m (1) ) lC0 (eC0 _) rfl qw502 qw1 qw499 rfl rfl ⟨Nat.le_of_ble_eq_true rfl, Nat.le_of_ble_eq_true rfl⟩ (by decide +kernel) qw501 qp0 rfl rfl (Nat.le_of_ble_eq_true rfl) dX10_richer_23 (fun r m24 hq24 => ?_)
    obtain ⟨z24, rfl, rfl, hq24⟩ := hq24
    show V E (wC D cy aa ad) 3 m24 26 [(0, .ref (aa 0)), (1, .int (iz (s))), (2, .int (iz (w)))] [.int (iz (-1))]
    refine v_pop C dX10_richer_26 rfl ?_
    refine v_bipush (z := -2) C dX10_richer_27 (by decide) ?_
    refine v_iret C X rfl dX10_richer_29 ⟨_, rfl, ?_, ?_⟩
    · rw [← hq24]
      exact ⟨1, Or.inr (Or.inr ⟨hbad, rfl, rfl⟩), by decide, CQ.of (fun _ _ => rfl)⟩
    · rw [← hq24]; exact hci.of (fun _ _ => rfl)
