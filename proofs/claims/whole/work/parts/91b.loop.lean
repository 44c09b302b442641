/-! more cases of the loop -/
set_option maxHeartbeats 4000000 in
set_option maxRecDepth 100000 in
theorem law_14 {E : Amb} {zl : Lw} {b Ln : Nat} {xs : Nat → Int32} {ce sl : Nat} {mC mR : Mem} {fo : Nat → Int64} {i : Int} (C : CQx E zl b Ln xs cL_law) (hi : 0 ≤ i ∧ i + 6 ≤ Ln) (hn : i < 90000) (hL : LK i mC mR) (hcs : ce + 1 ≤ 1135 ∧ sl + 6 ≤ 20627) (k : ∀ (m1 : Mq) (ce1 sl1 : Nat), LK (i + 1) m1.1 m1.2.1 → ((ce ≤ ce1 ∧ ce1 ≤ ce + 1) ∧ sl ≤ sl1 ∧ sl1 ≤ sl + 6) → VQ E zl ce1 sl1 m1 1388 (Lz zl b i) []) : VQ E zl ce sl (mC, mR, fo) 610 (Lz zl b i) [] := by
  obtain ⟨k0, kf, ks, kt, kc, d, df, ds, dt, dc, hL⟩ := hL
  have hch : mC 0 17 < 100000 := by have := hL.2.2.2.1; omega
  have hch0 : 0 ≤ mC 0 17 := hL.2.2.2.1.1
  refine z_aload_n C 3 dL_law_610 rfl ?_
  refine z_aload_n C 4 dL_law_611 rfl ?_
  refine z_iload C 0 dL_law_612 rfl ?_
  refine z_iconst (z := 1) C dL_law_614 rfl ?_
  refine z_iadd C dL_law_615 ?_
  refine z_sld C (i := (i + 1)) (by omega) dL_law_616 ?_
  refine z_aload_n C 4 dL_law_617 rfl ?_
  refine z_iload C 0 dL_law_618 rfl ?_
  refine z_iconst (z := 2) C dL_law_620 rfl ?_
  refine z_iadd C dL_law_621 ?_
  refine z_sld C (i := (i + 2)) (by omega) dL_law_622 ?_
  refine z_callC (st := []) (n := 2) C [.int (iz ((xs (i + 1).toNat).toInt)), .int (iz ((xs (i + 2).toNat).toInt))] (ct_StageRatios_richer C.2.2.2.2.2.2.2.1.1 mC k0 kf ks kt kc ((xs (i + 1).toNat).toInt) ((xs (i + 2).toNat).toInt) hL.1.1 (i3r _) (i3r _)) qw799 qw1 qw796 rfl rfl ⟨Nat.le_of_ble_eq_true rfl, Nat.le_of_ble_eq_true rfl⟩ (by decide +kernel) qw797 qw798 rfl rfl (Nat.le_of_ble_eq_true rfl) ⟨by omega, by omega⟩ dL_law_623 (fun r m623 hp623 => ?_)
  obtain ⟨z623, rfl, hp, hci⟩ := hp623
  show VQ E zl ce sl (m623, mR, fo) 626 (Lz zl b i) [.int (iz (z623))]
  refine z_aload_n C 2 dL_law_626 rfl ?_
  refine z_aload_n C 4 dL_law_627 rfl ?_
  refine z_iload C 0 dL_law_628 rfl ?_
  refine z_iconst (z := 1) C dL_law_630 rfl ?_
  refine z_iadd C dL_law_631 ?_
  refine z_sld C (i := (i + 1)) (by omega) dL_law_632 ?_
  refine z_aload_n C 4 dL_law_633 rfl ?_
  refine z_iload C 0 dL_law_634 rfl ?_
  refine z_iconst (z := 2) C dL_law_636 rfl ?_
  refine z_iadd C dL_law_637 ?_
  refine z_sld C (i := (i + 2)) (by omega) dL_law_638 ?_
  refine z_callR (st := [.int (iz (z623))]) (n := 2) C [.int (iz ((xs (i + 1).toNat).toInt)), .int (iz ((xs (i + 2).toNat).toInt))] (ct_StageRatiosModel_richer C.2.2.2.2.2.2.2.1.2.1 mR (mC kf) (mC ks) (mC kt) (mC kc) (mC k0) (mC 5) ((xs (i + 1).toNat).toInt) ((xs (i + 2).toNat).toInt) hL.tt (i3r _) (i3r _)) qw1582 qw16 qw1579 rfl rfl ⟨Nat.le_of_ble_eq_true rfl, Nat.le_of_ble_eq_true rfl⟩ (by decide +kernel) qw1580 qw1581 rfl rfl (Nat.le_of_ble_eq_true rfl) ⟨by omega, by omega⟩ dL_law_639 (fun r m639 hp639 => ?_)
  obtain ⟨z639, rfl, hq, -⟩ := hp639
  show VQ E zl ce sl (m623, m639, fo) 642 (Lz zl b i) [.int (iz (z639)), .int (iz (z623))]
  rw [hL.2.2.1.2.2.2.2] at hq
  obtain ⟨rfl, hK⟩ := hL.q hp hq hci (u_Ric) t5_Ric
  refine z_same (tgt := 1388) C dL_law_642 (by decide) ?_
  exact k (m623, m639, fo) ce sl (hK.mono (by omega)) ⟨⟨by omega, by omega⟩, by omega, by omega⟩

set_option maxHeartbeats 4000000 in
set_option maxRecDepth 100000 in
theorem law_15 {E : Amb} {zl : Lw} {b Ln : Nat} {xs : Nat → Int32} {ce sl : Nat} {mC mR : Mem} {fo : Nat → Int64} {i : Int} (C : CQx E zl b Ln xs cL_law) (hi : 0 ≤ i ∧ i + 6 ≤ Ln) (hn : i < 90000) (hL : LK i mC mR) (hcs : ce + 1 ≤ 1135 ∧ sl + 6 ≤ 20627) (k : ∀ (m1 : Mq) (ce1 sl1 : Nat), LK (i + 1) m1.1 m1.2.1 → ((ce ≤ ce1 ∧ ce1 ≤ ce + 1) ∧ sl ≤ sl1 ∧ sl1 ≤ sl + 6) → VQ E zl ce1 sl1 m1 1388 (Lz zl b i) []) : VQ E zl ce sl (mC, mR, fo) 647 (Lz zl b i) [] := by
  obtain ⟨k0, kf, ks, kt, kc, d, df, ds, dt, dc, hL⟩ := hL
  have hch : mC 0 17 < 100000 := by have := hL.2.2.2.1; omega
  have hch0 : 0 ≤ mC 0 17 := hL.2.2.2.1.1
  refine z_aload_n C 3 dL_law_647 rfl ?_
  refine z_aload_n C 4 dL_law_648 rfl ?_
  refine z_iload C 0 dL_law_649 rfl ?_
  refine z_iconst (z := 1) C dL_law_651 rfl ?_
  refine z_iadd C dL_law_652 ?_
  refine z_sld C (i := (i + 1)) (by omega) dL_law_653 ?_
  refine z_callC (st := []) (n := 1) C [.int (iz ((xs (i + 1).toNat).toInt))] (ct_StageRatios_least C.2.2.2.2.2.2.2.1.1 mC k0 kf ks kt kc ((xs (i + 1).toNat).toInt) hL.1.1 (i3r _)) qw815 qw1 qw812 rfl rfl ⟨Nat.le_of_ble_eq_true rfl, Nat.le_of_ble_eq_true rfl⟩ (by decide +kernel) qw813 qw814 rfl rfl (Nat.le_of_ble_eq_true rfl) ⟨by omega, by omega⟩ dL_law_654 (fun r m654 hp654 => ?_)
  obtain ⟨z654, rfl, hp, hci⟩ := hp654
  show VQ E zl ce sl (m654, mR, fo) 657 (Lz zl b i) [.int (iz (z654))]
  refine z_aload_n C 2 dL_law_657 rfl ?_
  refine z_aload_n C 4 dL_law_658 rfl ?_
  refine z_iload C 0 dL_law_659 rfl ?_
  refine z_iconst (z := 1) C dL_law_661 rfl ?_
  refine z_iadd C dL_law_662 ?_
  refine z_sld C (i := (i + 1)) (by omega) dL_law_663 ?_
  refine z_callR (st := [.int (iz (z654))]) (n := 1) C [.int (iz ((xs (i + 1).toNat).toInt))] (ct_StageRatiosModel_least C.2.2.2.2.2.2.2.1.2.1 mR (mC kf) (mC ks) (mC kt) (mC kc) (mC k0) (mC 5) ((xs (i + 1).toNat).toInt) hL.tt (i3r _)) qw1586 qw16 qw1583 rfl rfl ⟨Nat.le_of_ble_eq_true rfl, Nat.le_of_ble_eq_true rfl⟩ (by decide +kernel) qw1584 qw1585 rfl rfl (Nat.le_of_ble_eq_true rfl) ⟨by omega, by omega⟩ dL_law_664 (fun r m664 hp664 => ?_)
  obtain ⟨z664, rfl, hq, -⟩ := hp664
  show VQ E zl ce sl (m654, m664, fo) 667 (Lz zl b i) [.int (iz (z664)), .int (iz (z654))]
  rw [hL.2.2.1.2.2.2.2] at hq
  obtain ⟨rfl, hK⟩ := hL.q hp hq hci (u_Lea) t5_Lea
  refine z_same (tgt := 1388) C dL_law_667 (by decide) ?_
  exact k (m654, m664, fo) ce sl (hK.mono (by omega)) ⟨⟨by omega, by omega⟩, by omega, by omega⟩

set_option maxHeartbeats 4000000 in
set_option maxRecDepth 100000 in
theorem law_16 {E : Amb} {zl : Lw} {b Ln : Nat} {xs : Nat → Int32} {ce sl : Nat} {mC mR : Mem} {fo : Nat → Int64} {i : Int} (C : CQx E zl b Ln xs cL_law) (hi : 0 ≤ i ∧ i + 6 ≤ Ln) (hn : i < 90000) (hL : LK i mC mR) (hcs : ce + 1 ≤ 1135 ∧ sl + 6 ≤ 20627) (k : ∀ (m1 : Mq) (ce1 sl1 : Nat), LK (i + 1) m1.1 m1.2.1 → ((ce ≤ ce1 ∧ ce1 ≤ ce + 1) ∧ sl ≤ sl1 ∧ sl1 ≤ sl + 6) → VQ E zl ce1 sl1 m1 1388 (Lz zl b i) []) : VQ E zl ce sl (mC, mR, fo) 672 (Lz zl b i) [] := by
  obtain ⟨k0, kf, ks, kt, kc, d, df, ds, dt, dc, hL⟩ := hL
  have hch : mC 0 17 < 100000 := by have := hL.2.2.2.1; omega
  have hch0 : 0 ≤ mC 0 17 := hL.2.2.2.1.1
  refine z_aload_n C 3 dL_law_672 rfl ?_
  refine z_aload_n C 4 dL_law_673 rfl ?_
  refine z_iload C 0 dL_law_674 rfl ?_
  refine z_iconst (z := 1) C dL_law_676 rfl ?_
  refine z_iadd C dL_law_677 ?_
  refine z_sld C (i := (i + 1)) (by omega) dL_law_678 ?_
  refine z_aload_n C 4 dL_law_679 rfl ?_
  refine z_iload C 0 dL_law_680 rfl ?_
  refine z_iconst (z := 2) C dL_law_682 rfl ?_
  refine z_iadd C dL_law_683 ?_
  refine z_sld C (i := (i + 2)) (by omega) dL_law_684 ?_
  refine z_callC (st := []) (n := 2) C [.int (iz ((xs (i + 1).toNat).toInt)), .int (iz ((xs (i + 2).toNat).toInt))] (ct_StageRatios_fuel C.2.2.2.2.2.2.2.1.1 mC k0 kf ks kt kc ((xs (i + 1).toNat).toInt) ((xs (i + 2).toNat).toInt) hL.1.1 (i3r _) (i3r _)) qw870 qw1 qw867 rfl rfl ⟨Nat.le_of_ble_eq_true rfl, Nat.le_of_ble_eq_true rfl⟩ (by decide +kernel) qw868 qw869 rfl rfl (Nat.le_of_ble_eq_true rfl) ⟨by omega, by omega⟩ dL_law_685 (fun r m685 hp685 => ?_)
  obtain ⟨z685, rfl, hp, hci⟩ := hp685
  show VQ E zl ce sl (m685, mR, fo) 688 (Lz zl b i) [.int (iz (z685))]
  refine z_aload_n C 2 dL_law_688 rfl ?_
  refine z_aload_n C 4 dL_law_689 rfl ?_
  refine z_iload C 0 dL_law_690 rfl ?_
  refine z_iconst (z := 1) C dL_law_692 rfl ?_
  refine z_iadd C dL_law_693 ?_
  refine z_sld C (i := (i + 1)) (by omega) dL_law_694 ?_
  refine z_aload_n C 4 dL_law_695 rfl ?_
  refine z_iload C 0 dL_law_696 rfl ?_
  refine z_iconst (z := 2) C dL_law_698 rfl ?_
  refine z_iadd C dL_law_699 ?_
  refine z_sld C (i := (i + 2)) (by omega) dL_law_700 ?_
  refine z_callR (st := [.int (iz (z685))]) (n := 2) C [.int (iz ((xs (i + 1).toNat).toInt)), .int (iz ((xs (i + 2).toNat).toInt))] (ct_StageRatiosModel_fuel C.2.2.2.2.2.2.2.1.2.1 mR (mC kf) (mC ks) (mC kt) (mC kc) (mC k0) (mC 5) ((xs (i + 1).toNat).toInt) ((xs (i + 2).toNat).toInt) hL.tt (i3r _) (i3r _)) qw1602 qw16 qw1599 rfl rfl ⟨Nat.le_of_ble_eq_true rfl, Nat.le_of_ble_eq_true rfl⟩ (by decide +kernel) qw1600 qw1601 rfl rfl (Nat.le_of_ble_eq_true rfl) ⟨by omega, by omega⟩ dL_law_701 (fun r m701 hp701 => ?_)
  obtain ⟨z701, rfl, hq, -⟩ := hp701
  show VQ E zl ce sl (m685, m701, fo) 704 (Lz zl b i) [.int (iz (z701)), .int (iz (z685))]
  rw [hL.2.2.1.2.2.2.2] at hq
  obtain ⟨rfl, hK⟩ := hL.q hp hq hci (u_Fue) t5_Fue
  refine z_same (tgt := 1388) C dL_law_704 (by decide) ?_
  exact k (m685, m701, fo) ce sl (hK.mono (by omega)) ⟨⟨by omega, by omega⟩, by omega, by omega⟩

set_option maxHeartbeats 4000000 in
set_option maxRecDepth 100000 in
theorem law_17 {E : Amb} {zl : Lw} {b Ln : Nat} {xs : Nat → Int32} {ce sl : Nat} {mC mR : Mem} {fo : Nat → Int64} {i : Int} (C : CQx E zl b Ln xs cL_law) (hi : 0 ≤ i ∧ i + 6 ≤ Ln) (hn : i < 90000) (hL : LK i mC mR) (hcs : ce + 1 ≤ 1135 ∧ sl + 6 ≤ 20627) (k : ∀ (m1 : Mq) (ce1 sl1 : Nat), LK (i + 1) m1.1 m1.2.1 → ((ce ≤ ce1 ∧ ce1 ≤ ce + 1) ∧ sl ≤ sl1 ∧ sl1 ≤ sl + 6) → VQ E zl ce1 sl1 m1 1388 (Lz zl b i) []) : VQ E zl ce sl (mC, mR, fo) 709 (Lz zl b i) [] := by
  obtain ⟨k0, kf, ks, kt, kc, d, df, ds, dt, dc, hL⟩ := hL
  have hch : mC 0 17 < 100000 := by have := hL.2.2.2.1; omega
  have hch0 : 0 ≤ mC 0 17 := hL.2.2.2.1.1
  refine z_aload_n C 3 dL_law_709 rfl ?_
  refine z_callC (st := []) (n := 0) C [] (ct_StageRatios_farthest C.2.2.2.2.2.2.2.1.1 mC k0 kf ks kt kc  hL.1.1 ) qw875 qw1 qw872 rfl rfl ⟨Nat.le_of_ble_eq_true rfl, Nat.le_of_ble_eq_true rfl⟩ (by decide +kernel) qw873 qw874 rfl rfl (Nat.le_of_ble_eq_true rfl) ⟨by omega, by omega⟩ dL_law_710 (fun r m710 hp710 => ?_)
  obtain ⟨z710, rfl, hp, hci⟩ := hp710
  show VQ E zl ce sl (m710, mR, fo) 713 (Lz zl b i) [.int (iz (z710))]
  refine z_aload_n C 2 dL_law_713 rfl ?_
  refine z_callR (st := [.int (iz (z710))]) (n := 0) C [] (ct_StageRatiosModel_farthest C.2.2.2.2.2.2.2.1.2.1 mR (mC kf) (mC ks) (mC kt) (mC kc) (mC k0) (mC 5)  hL.tt ) qw1606 qw16 qw1603 rfl rfl ⟨Nat.le_of_ble_eq_true rfl, Nat.le_of_ble_eq_true rfl⟩ (by decide +kernel) qw1604 qw1605 rfl rfl (Nat.le_of_ble_eq_true rfl) ⟨by omega, by omega⟩ dL_law_714 (fun r m714 hp714 => ?_)
  obtain ⟨z714, rfl, hq, -⟩ := hp714
  show VQ E zl ce sl (m710, m714, fo) 717 (Lz zl b i) [.int (iz (z714)), .int (iz (z710))]
  rw [hL.2.2.1.2.2.2.2] at hq
  obtain ⟨rfl, hK⟩ := hL.q hp hq hci (u_Far (fun e => (hL.vd e).1)) t5_Far
  refine z_same (tgt := 1388) C dL_law_717 (by decide) ?_
  exact k (m710, m714, fo) ce sl (hK.mono (by omega)) ⟨⟨by omega, by omega⟩, by omega, by omega⟩

set_option maxHeartbeats 4000000 in
set_option maxRecDepth 100000 in
theorem law_18 {E : Amb} {zl : Lw} {b Ln : Nat} {xs : Nat → Int32} {ce sl : Nat} {mC mR : Mem} {fo : Nat → Int64} {i : Int} (C : CQx E zl b Ln xs cL_law) (hi : 0 ≤ i ∧ i + 6 ≤ Ln) (hn : i < 90000) (hL : LK i mC mR) (hcs : ce + 1 ≤ 1135 ∧ sl + 6 ≤ 20627) (k : ∀ (m1 : Mq) (ce1 sl1 : Nat), LK (i + 1) m1.1 m1.2.1 → ((ce ≤ ce1 ∧ ce1 ≤ ce + 1) ∧ sl ≤ sl1 ∧ sl1 ≤ sl + 6) → VQ E zl ce1 sl1 m1 1388 (Lz zl b i) []) : VQ E zl ce sl (mC, mR, fo) 722 (Lz zl b i) [] := by
  obtain ⟨k0, kf, ks, kt, kc, d, df, ds, dt, dc, hL⟩ := hL
  have hch : mC 0 17 < 100000 := by have := hL.2.2.2.1; omega
  have hch0 : 0 ≤ mC 0 17 := hL.2.2.2.1.1
  refine z_aload_n C 3 dL_law_722 rfl ?_
  refine z_callC (st := []) (n := 0) C [] (ct_StageRatios_lifts C.2.2.2.2.2.2.2.1.1 mC k0 kf ks kt kc  hL.1.1 ) qw886 qw1 qw883 rfl rfl ⟨Nat.le_of_ble_eq_true rfl, Nat.le_of_ble_eq_true rfl⟩ (by decide +kernel) qw884 qw885 rfl rfl (Nat.le_of_ble_eq_true rfl) ⟨by omega, by omega⟩ dL_law_723 (fun r m723 hp723 => ?_)
  obtain ⟨z723, rfl, hp, hci⟩ := hp723
  show VQ E zl ce sl (m723, mR, fo) 726 (Lz zl b i) [.int (iz (z723))]
  refine z_aload_n C 2 dL_law_726 rfl ?_
  refine z_callR (st := [.int (iz (z723))]) (n := 0) C [] (ct_StageRatiosModel_lifts C.2.2.2.2.2.2.2.1.2.1 mR (mC kf) (mC ks) (mC kt) (mC kc) (mC k0) (mC 5)  hL.tt ) qw1610 qw16 qw1607 rfl rfl ⟨Nat.le_of_ble_eq_true rfl, Nat.le_of_ble_eq_true rfl⟩ (by decide +kernel) qw1608 qw1609 rfl rfl (Nat.le_of_ble_eq_true rfl) ⟨by omega, by omega⟩ dL_law_727 (fun r m727 hp727 => ?_)
  obtain ⟨z727, rfl, hq, -⟩ := hp727
  show VQ E zl ce sl (m723, m727, fo) 730 (Lz zl b i) [.int (iz (z727)), .int (iz (z723))]
  rw [hL.2.2.1.2.2.2.2] at hq
  obtain ⟨rfl, hK⟩ := hL.q hp hq hci (u_Lif) t5_Lif
  refine z_same (tgt := 1388) C dL_law_730 (by decide) ?_
  exact k (m723, m727, fo) ce sl (hK.mono (by omega)) ⟨⟨by omega, by omega⟩, by omega, by omega⟩

set_option maxHeartbeats 4000000 in
set_option maxRecDepth 100000 in
theorem law_19 {E : Amb} {zl : Lw} {b Ln : Nat} {xs : Nat → Int32} {ce sl : Nat} {mC mR : Mem} {fo : Nat → Int64} {i : Int} (C : CQx E zl b Ln xs cL_law) (hi : 0 ≤ i ∧ i + 6 ≤ Ln) (hn : i < 90000) (hL : LK i mC mR) (hcs : ce + 1 ≤ 1135 ∧ sl + 6 ≤ 20627) (k : ∀ (m1 : Mq) (ce1 sl1 : Nat), LK (i + 1) m1.1 m1.2.1 → ((ce ≤ ce1 ∧ ce1 ≤ ce + 1) ∧ sl ≤ sl1 ∧ sl1 ≤ sl + 6) → VQ E zl ce1 sl1 m1 1388 (Lz zl b i) []) : VQ E zl ce sl (mC, mR, fo) 735 (Lz zl b i) [] := by
  obtain ⟨k0, kf, ks, kt, kc, d, df, ds, dt, dc, hL⟩ := hL
  have hch : mC 0 17 < 100000 := by have := hL.2.2.2.1; omega
  have hch0 : 0 ≤ mC 0 17 := hL.2.2.2.1.1
  refine z_aload_n C 3 dL_law_735 rfl ?_
  refine z_aload_n C 4 dL_law_736 rfl ?_
  refine z_iload C 0 dL_law_737 rfl ?_
  refine z_iconst (z := 1) C dL_law_739 rfl ?_
  refine z_iadd C dL_law_740 ?_
  refine z_sld C (i := (i + 1)) (by omega) dL_law_741 ?_
  refine z_callC (st := []) (n := 1) C [.int (iz ((xs (i + 1).toNat).toInt))] (ct_StageRatios_needs C.2.2.2.2.2.2.2.1.1 mC k0 kf ks kt kc ((xs (i + 1).toNat).toInt) hL.1.1 (i3r _)) qw894 qw1 qw891 rfl rfl ⟨Nat.le_of_ble_eq_true rfl, Nat.le_of_ble_eq_true rfl⟩ (by decide +kernel) qw892 qw893 rfl rfl (Nat.le_of_ble_eq_true rfl) ⟨by omega, by omega⟩ dL_law_742 (fun r m742 hp742 => ?_)
  obtain ⟨z742, rfl, hp, hci⟩ := hp742
  show VQ E zl ce sl (m742, mR, fo) 745 (Lz zl b i) [.int (iz (z742))]
  refine z_aload_n C 2 dL_law_745 rfl ?_
  refine z_aload_n C 4 dL_law_746 rfl ?_
  refine z_iload C 0 dL_law_747 rfl ?_
  refine z_iconst (z := 1) C dL_law_749 rfl ?_
  refine z_iadd C dL_law_750 ?_
  refine z_sld C (i := (i + 1)) (by omega) dL_law_751 ?_
  refine z_callR (st := [.int (iz (z742))]) (n := 1) C [.int (iz ((xs (i + 1).toNat).toInt))] (ct_StageRatiosModel_needs C.2.2.2.2.2.2.2.1.2.1 mR (mC kf) (mC ks) (mC kt) (mC kc) (mC k0) (mC 5) ((xs (i + 1).toNat).toInt) hL.tt (i3r _)) qw1618 qw16 qw1615 rfl rfl ⟨Nat.le_of_ble_eq_true rfl, Nat.le_of_ble_eq_true rfl⟩ (by decide +kernel) qw1616 qw1617 rfl rfl (Nat.le_of_ble_eq_true rfl) ⟨by omega, by omega⟩ dL_law_752 (fun r m752 hp752 => ?_)
  obtain ⟨z752, rfl, hq, -⟩ := hp752
  show VQ E zl ce sl (m742, m752, fo) 755 (Lz zl b i) [.int (iz (z752)), .int (iz (z742))]
  rw [hL.2.2.1.2.2.2.2] at hq
  obtain ⟨rfl, hK⟩ := hL.q hp hq hci (u_Nee) t5_Nee
  refine z_same (tgt := 1388) C dL_law_755 (by decide) ?_
  exact k (m742, m752, fo) ce sl (hK.mono (by omega)) ⟨⟨by omega, by omega⟩, by omega, by omega⟩

set_option maxHeartbeats 4000000 in
set_option maxRecDepth 100000 in
theorem law_20 {E : Amb} {zl : Lw} {b Ln : Nat} {xs : Nat → Int32} {ce sl : Nat} {mC mR : Mem} {fo : Nat → Int64} {i : Int} (C : CQx E zl b Ln xs cL_law) (hi : 0 ≤ i ∧ i + 6 ≤ Ln) (hn : i < 90000) (hL : LK i mC mR) (hcs : ce + 1 ≤ 1135 ∧ sl + 6 ≤ 20627) (k : ∀ (m1 : Mq) (ce1 sl1 : Nat), LK (i + 1) m1.1 m1.2.1 → ((ce ≤ ce1 ∧ ce1 ≤ ce + 1) ∧ sl ≤ sl1 ∧ sl1 ≤ sl + 6) → VQ E zl ce1 sl1 m1 1388 (Lz zl b i) []) : VQ E zl ce sl (mC, mR, fo) 760 (Lz zl b i) [] := by
  obtain ⟨k0, kf, ks, kt, kc, d, df, ds, dt, dc, hL⟩ := hL
  have hch : mC 0 17 < 100000 := by have := hL.2.2.2.1; omega
  have hch0 : 0 ≤ mC 0 17 := hL.2.2.2.1.1
  refine z_aload_n C 3 dL_law_760 rfl ?_
  refine z_callC (st := []) (n := 0) C [] (ct_StageRatios_fronts C.2.2.2.2.2.2.2.1.1 mC k0 kf ks kt kc  hL.1.1 ) qw899 qw1 qw896 rfl rfl ⟨Nat.le_of_ble_eq_true rfl, Nat.le_of_ble_eq_true rfl⟩ (by decide +kernel) qw897 qw898 rfl rfl (Nat.le_of_ble_eq_true rfl) ⟨by omega, by omega⟩ dL_law_761 (fun r m761 hp761 => ?_)
  obtain ⟨z761, rfl, hp, hci⟩ := hp761
  show VQ E zl ce sl (m761, mR, fo) 764 (Lz zl b i) [.int (iz (z761))]
  refine z_aload_n C 2 dL_law_764 rfl ?_
  refine z_callR (st := [.int (iz (z761))]) (n := 0) C [] (ct_StageRatiosModel_fronts C.2.2.2.2.2.2.2.1.2.1 mR (mC kf) (mC ks) (mC kt) (mC kc) (mC k0) (mC 5)  hL.tt ) qw1634 qw16 qw1631 rfl rfl ⟨Nat.le_of_ble_eq_true rfl, Nat.le_of_ble_eq_true rfl⟩ (by decide +kernel) qw1632 qw1633 rfl rfl (Nat.le_of_ble_eq_true rfl) ⟨by omega, by omega⟩ dL_law_765 (fun r m765 hp765 => ?_)
  obtain ⟨z765, rfl, hq, -⟩ := hp765
  show VQ E zl ce sl (m761, m765, fo) 768 (Lz zl b i) [.int (iz (z765)), .int (iz (z761))]
  rw [hL.2.2.1.2.2.2.2] at hq
  obtain ⟨rfl, hK⟩ := hL.q hp hq hci (u_Frs) t5_Frs
  refine z_same (tgt := 1388) C dL_law_768 (by decide) ?_
  exact k (m761, m765, fo) ce sl (hK.mono (by omega)) ⟨⟨by omega, by omega⟩, by omega, by omega⟩

set_option maxHeartbeats 4000000 in
set_option maxRecDepth 100000 in
theorem law_21 {E : Amb} {zl : Lw} {b Ln : Nat} {xs : Nat → Int32} {ce sl : Nat} {mC mR : Mem} {fo : Nat → Int64} {i : Int} (C : CQx E zl b Ln xs cL_law) (hi : 0 ≤ i ∧ i + 6 ≤ Ln) (hn : i < 90000) (hL : LK i mC mR) (hcs : ce + 1 ≤ 1135 ∧ sl + 6 ≤ 20627) (k : ∀ (m1 : Mq) (ce1 sl1 : Nat), LK (i + 1) m1.1 m1.2.1 → ((ce ≤ ce1 ∧ ce1 ≤ ce + 1) ∧ sl ≤ sl1 ∧ sl1 ≤ sl + 6) → VQ E zl ce1 sl1 m1 1388 (Lz zl b i) []) : VQ E zl ce sl (mC, mR, fo) 773 (Lz zl b i) [] := by
  obtain ⟨k0, kf, ks, kt, kc, d, df, ds, dt, dc, hL⟩ := hL
  have hch : mC 0 17 < 100000 := by have := hL.2.2.2.1; omega
  have hch0 : 0 ≤ mC 0 17 := hL.2.2.2.1.1
  refine z_aload_n C 3 dL_law_773 rfl ?_
  refine z_aload_n C 4 dL_law_774 rfl ?_
  refine z_iload C 0 dL_law_775 rfl ?_
  refine z_iconst (z := 1) C dL_law_777 rfl ?_
  refine z_iadd C dL_law_778 ?_
  refine z_sld C (i := (i + 1)) (by omega) dL_law_779 ?_
  refine z_aload_n C 4 dL_law_780 rfl ?_
  refine z_iload C 0 dL_law_781 rfl ?_
  refine z_iconst (z := 2) C dL_law_783 rfl ?_
  refine z_iadd C dL_law_784 ?_
  refine z_sld C (i := (i + 2)) (by omega) dL_law_785 ?_
  refine z_callC (st := []) (n := 2) C [.int (iz ((xs (i + 1).toNat).toInt)), .int (iz ((xs (i + 2).toNat).toInt))] (ct_StageRatios_front C.2.2.2.2.2.2.2.1.1 mC k0 kf ks kt kc ((xs (i + 1).toNat).toInt) ((xs (i + 2).toNat).toInt) hL.1.1 (i3r _) (i3r _)) qw928 qw1 qw925 rfl rfl ⟨Nat.le_of_ble_eq_true rfl, Nat.le_of_ble_eq_true rfl⟩ (by decide +kernel) qw926 qw927 rfl rfl (Nat.le_of_ble_eq_true rfl) ⟨by omega, by omega⟩ dL_law_786 (fun r m786 hp786 => ?_)
  obtain ⟨z786, rfl, hp, hci⟩ := hp786
  show VQ E zl ce sl (m786, mR, fo) 789 (Lz zl b i) [.int (iz (z786))]
  refine z_aload_n C 2 dL_law_789 rfl ?_
  refine z_aload_n C 4 dL_law_790 rfl ?_
  refine z_iload C 0 dL_law_791 rfl ?_
  refine z_iconst (z := 1) C dL_law_793 rfl ?_
  refine z_iadd C dL_law_794 ?_
  refine z_sld C (i := (i + 1)) (by omega) dL_law_795 ?_
  refine z_aload_n C 4 dL_law_796 rfl ?_
  refine z_iload C 0 dL_law_797 rfl ?_
  refine z_iconst (z := 2) C dL_law_799 rfl ?_
  refine z_iadd C dL_law_800 ?_
  refine z_sld C (i := (i + 2)) (by omega) dL_law_801 ?_
  refine z_callR (st := [.int (iz (z786))]) (n := 2) C [.int (iz ((xs (i + 1).toNat).toInt)), .int (iz ((xs (i + 2).toNat).toInt))] (ct_StageRatiosModel_front C.2.2.2.2.2.2.2.1.2.1 mR (mC kf) (mC ks) (mC kt) (mC kc) (mC k0) (mC 5) ((xs (i + 1).toNat).toInt) ((xs (i + 2).toNat).toInt) hL.tt (i3r _) (i3r _)) qw1654 qw16 qw1651 rfl rfl ⟨Nat.le_of_ble_eq_true rfl, Nat.le_of_ble_eq_true rfl⟩ (by decide +kernel) qw1652 qw1653 rfl rfl (Nat.le_of_ble_eq_true rfl) ⟨by omega, by omega⟩ dL_law_802 (fun r m802 hp802 => ?_)
  obtain ⟨z802, rfl, hq, -⟩ := hp802
  show VQ E zl ce sl (m786, m802, fo) 805 (Lz zl b i) [.int (iz (z802)), .int (iz (z786))]
  rw [hL.2.2.1.2.2.2.2] at hq
  obtain ⟨rfl, hK⟩ := hL.q hp hq hci (u_Fro (fun e => (hL.vd e).1)) t5_Fro
  refine z_same (tgt := 1388) C dL_law_805 (by decide) ?_
  exact k (m786, m802, fo) ce sl (hK.mono (by omega)) ⟨⟨by omega, by omega⟩, by omega, by omega⟩

set_option maxHeartbeats 4000000 in
set_option maxRecDepth 100000 in
theorem law_22 {E : Amb} {zl : Lw} {b Ln : Nat} {xs : Nat → Int32} {ce sl : Nat} {mC mR : Mem} {fo : Nat → Int64} {i : Int} (C : CQx E zl b Ln xs cL_law) (hi : 0 ≤ i ∧ i + 6 ≤ Ln) (hn : i < 90000) (hL : LK i mC mR) (hcs : ce + 1 ≤ 1135 ∧ sl + 6 ≤ 20627) (k : ∀ (m1 : Mq) (ce1 sl1 : Nat), LK (i + 1) m1.1 m1.2.1 → ((ce ≤ ce1 ∧ ce1 ≤ ce + 1) ∧ sl ≤ sl1 ∧ sl1 ≤ sl + 6) → VQ E zl ce1 sl1 m1 1388 (Lz zl b i) []) : VQ E zl ce sl (mC, mR, fo) 810 (Lz zl b i) [] := by
  obtain ⟨k0, kf, ks, kt, kc, d, df, ds, dt, dc, hL⟩ := hL
  have hch : mC 0 17 < 100000 := by have := hL.2.2.2.1; omega
  have hch0 : 0 ≤ mC 0 17 := hL.2.2.2.1.1
  refine z_aload_n C 3 dL_law_810 rfl ?_
  refine z_callC (st := []) (n := 0) C [] (ct_StageRatios_beaten C.2.2.2.2.2.2.2.1.1 mC k0 kf ks kt kc  hL.1.1 ) qw933 qw1 qw930 rfl rfl ⟨Nat.le_of_ble_eq_true rfl, Nat.le_of_ble_eq_true rfl⟩ (by decide +kernel) qw931 qw932 rfl rfl (Nat.le_of_ble_eq_true rfl) ⟨by omega, by omega⟩ dL_law_811 (fun r m811 hp811 => ?_)
  obtain ⟨z811, rfl, hp, hci⟩ := hp811
  show VQ E zl ce sl (m811, mR, fo) 814 (Lz zl b i) [.int (iz (z811))]
  refine z_aload_n C 2 dL_law_814 rfl ?_
  refine z_callR (st := [.int (iz (z811))]) (n := 0) C [] (ct_StageRatiosModel_beaten C.2.2.2.2.2.2.2.1.2.1 mR (mC kf) (mC ks) (mC kt) (mC kc) (mC k0) (mC 5)  hL.tt ) qw1658 qw16 qw1655 rfl rfl ⟨Nat.le_of_ble_eq_true rfl, Nat.le_of_ble_eq_true rfl⟩ (by decide +kernel) qw1656 qw1657 rfl rfl (Nat.le_of_ble_eq_true rfl) ⟨by omega, by omega⟩ dL_law_815 (fun r m815 hp815 => ?_)
  obtain ⟨z815, rfl, hq, -⟩ := hp815
  show VQ E zl ce sl (m811, m815, fo) 818 (Lz zl b i) [.int (iz (z815)), .int (iz (z811))]
  rw [hL.2.2.1.2.2.2.2] at hq
  obtain ⟨rfl, hK⟩ := hL.q hp hq hci (u_Bea) t5_Bea
  refine z_same (tgt := 1388) C dL_law_818 (by decide) ?_
  exact k (m811, m815, fo) ce sl (hK.mono (by omega)) ⟨⟨by omega, by omega⟩, by omega, by omega⟩

set_option maxHeartbeats 4000000 in
set_option maxRecDepth 100000 in
theorem law_23 {E : Amb} {zl : Lw} {b Ln : Nat} {xs : Nat → Int32} {ce sl : Nat} {mC mR : Mem} {fo : Nat → Int64} {i : Int} (C : CQx E zl b Ln xs cL_law) (hi : 0 ≤ i ∧ i + 6 ≤ Ln) (hn : i < 90000) (hL : LK i mC mR) (hcs : ce + 1 ≤ 1135 ∧ sl + 6 ≤ 20627) (k : ∀ (m1 : Mq) (ce1 sl1 : Nat), LK (i + 1) m1.1 m1.2.1 → ((ce ≤ ce1 ∧ ce1 ≤ ce + 1) ∧ sl ≤ sl1 ∧ sl1 ≤ sl + 6) → VQ E zl ce1 sl1 m1 1388 (Lz zl b i) []) : VQ E zl ce sl (mC, mR, fo) 823 (Lz zl b i) [] := by
  obtain ⟨k0, kf, ks, kt, kc, d, df, ds, dt, dc, hL⟩ := hL
  have hch : mC 0 17 < 100000 := by have := hL.2.2.2.1; omega
  have hch0 : 0 ≤ mC 0 17 := hL.2.2.2.1.1
  refine z_aload_n C 3 dL_law_823 rfl ?_
  refine z_aload_n C 4 dL_law_824 rfl ?_
  refine z_iload C 0 dL_law_825 rfl ?_
  refine z_iconst (z := 1) C dL_law_827 rfl ?_
  refine z_iadd C dL_law_828 ?_
  refine z_sld C (i := (i + 1)) (by omega) dL_law_829 ?_
  refine z_aload_n C 4 dL_law_830 rfl ?_
  refine z_iload C 0 dL_law_831 rfl ?_
  refine z_iconst (z := 2) C dL_law_833 rfl ?_
  refine z_iadd C dL_law_834 ?_
  refine z_sld C (i := (i + 2)) (by omega) dL_law_835 ?_
  refine z_if_eq (tgt := 843) C dL_law_836 (by decide) (i3r _) (fun hb836 => ?_) (fun hb836 => ?_)
  · refine z_iconst (z := 0) C dL_law_843 rfl ?_
    refine z_callC (st := []) (n := 2) C [.int (iz ((xs (i + 1).toNat).toInt)), .int (iz (0))] (ct_StageRatios_box C.2.2.2.2.2.2.2.1.1 mC k0 kf ks kt kc ((xs (i + 1).toNat).toInt) (0) hL.1.1 (i3r _) (Or.inl rfl)) qw938 qw1 qw935 rfl rfl ⟨Nat.le_of_ble_eq_true rfl, Nat.le_of_ble_eq_true rfl⟩ (by decide +kernel) qw936 qw937 rfl rfl (Nat.le_of_ble_eq_true rfl) ⟨by omega, by omega⟩ dL_law_844 (fun r m844 hp844 => ?_)
    obtain ⟨z844, rfl, hp, hci⟩ := hp844
    show VQ E zl ce sl (m844, mR, fo) 847 (Lz zl b i) [.int (iz (z844))]
    refine z_aload_n C 2 dL_law_847 rfl ?_
    refine z_aload_n C 4 dL_law_848 rfl ?_
    refine z_iload C 0 dL_law_849 rfl ?_
    refine z_iconst (z := 1) C dL_law_851 rfl ?_
    refine z_iadd C dL_law_852 ?_
    refine z_sld C (i := (i + 1)) (by omega) dL_law_853 ?_
    refine z_aload_n C 4 dL_law_854 rfl ?_
    refine z_iload C 0 dL_law_855 rfl ?_
    refine z_iconst (z := 2) C dL_law_857 rfl ?_
    refine z_iadd C dL_law_858 ?_
    refine z_sld C (i := (i + 2)) (by omega) dL_law_859 ?_
    refine z_if_eq (tgt := 867) C dL_law_860 (by decide) (i3r _) (fun _ => ?_) (fun y => absurd hb836 y)
    refine z_iconst (z := 0) C dL_law_867 rfl ?_
    refine z_callR (st := [.int (iz (z844))]) (n := 2) C [.int (iz ((xs (i + 1).toNat).toInt)), .int (iz (0))] (ct_StageRatiosModel_box C.2.2.2.2.2.2.2.1.2.1 mR (mC kf) (mC ks) (mC kt) (mC kc) (mC k0) (mC 5) ((xs (i + 1).toNat).toInt) (0) hL.tt (i3r _) (Or.inl rfl)) qw1662 qw16 qw1659 rfl rfl ⟨Nat.le_of_ble_eq_true rfl, Nat.le_of_ble_eq_true rfl⟩ (by decide +kernel) qw1660 qw1661 rfl rfl (Nat.le_of_ble_eq_true rfl) ⟨by omega, by omega⟩ dL_law_868 (fun r m868 hp868 => ?_)
    obtain ⟨z868, rfl, hq, -⟩ := hp868
    show VQ E zl ce sl (m844, m868, fo) 871 (Lz zl b i) [.int (iz (z868)), .int (iz (z844))]
    rw [hL.2.2.1.2.2.2.2] at hq
    obtain ⟨rfl, hK⟩ := hL.q hp hq hci (u_Box) t5_Box
    refine z_same (tgt := 1388) C dL_law_871 (by decide) ?_
    exact k (m844, m868, fo) ce sl (hK.mono (by omega)) ⟨⟨by omega, by omega⟩, by omega, by omega⟩
  · refine z_iconst (z := 1) C dL_law_839 rfl ?_
    refine z_goto (tgt := 844) C dL_law_840 (by decide) ?_
    refine z_callC (st := []) (n := 2) C [.int (iz ((xs (i + 1).toNat).toInt)), .int (iz (1))] (ct_StageRatios_box C.2.2.2.2.2.2.2.1.1 mC k0 kf ks kt kc ((xs (i + 1).toNat).toInt) (1) hL.1.1 (i3r _) (Or.inr rfl)) qw938 qw1 qw935 rfl rfl ⟨Nat.le_of_ble_eq_true rfl, Nat.le_of_ble_eq_true rfl⟩ (by decide +kernel) qw936 qw937 rfl rfl (Nat.le_of_ble_eq_true rfl) ⟨by omega, by omega⟩ dL_law_844 (fun r m844 hp844 => ?_)
    obtain ⟨z844, rfl, hp, hci⟩ := hp844
    show VQ E zl ce sl (m844, mR, fo) 847 (Lz zl b i) [.int (iz (z844))]
    refine z_aload_n C 2 dL_law_847 rfl ?_
    refine z_aload_n C 4 dL_law_848 rfl ?_
    refine z_iload C 0 dL_law_849 rfl ?_
    refine z_iconst (z := 1) C dL_law_851 rfl ?_
    refine z_iadd C dL_law_852 ?_
    refine z_sld C (i := (i + 1)) (by omega) dL_law_853 ?_
    refine z_aload_n C 4 dL_law_854 rfl ?_
    refine z_iload C 0 dL_law_855 rfl ?_
    refine z_iconst (z := 2) C dL_law_857 rfl ?_
    refine z_iadd C dL_law_858 ?_
    refine z_sld C (i := (i + 2)) (by omega) dL_law_859 ?_
    refine z_if_eq (tgt := 867) C dL_law_860 (by decide) (i3r _) (fun y => absurd y hb836) (fun _ => ?_)
    refine z_iconst (z := 1) C dL_law_863 rfl ?_
    refine z_goto (tgt := 868) C dL_law_864 (by decide) ?_
    refine z_callR (st := [.int (iz (z844))]) (n := 2) C [.int (iz ((xs (i + 1).toNat).toInt)), .int (iz (1))] (ct_StageRatiosModel_box C.2.2.2.2.2.2.2.1.2.1 mR (mC kf) (mC ks) (mC kt) (mC kc) (mC k0) (mC 5) ((xs (i + 1).toNat).toInt) (1) hL.tt (i3r _) (Or.inr rfl)) qw1662 qw16 qw1659 rfl rfl ⟨Nat.le_of_ble_eq_true rfl, Nat.le_of_ble_eq_true rfl⟩ (by decide +kernel) qw1660 qw1661 rfl rfl (Nat.le_of_ble_eq_true rfl) ⟨by omega, by omega⟩ dL_law_868 (fun r m868 hp868 => ?_)
    obtain ⟨z868, rfl, hq, -⟩ := hp868
    show VQ E zl ce sl (m844, m868, fo) 871 (Lz zl b i) [.int (iz (z868)), .int (iz (z844))]
    rw [hL.2.2.1.2.2.2.2] at hq
    obtain ⟨rfl, hK⟩ := hL.q hp hq hci (u_Box) t5_Box
    refine z_same (tgt := 1388) C dL_law_871 (by decide) ?_
    exact k (m844, m868, fo) ce sl (hK.mono (by omega)) ⟨⟨by omega, by omega⟩, by omega, by omega⟩

set_option maxHeartbeats 4000000 in
set_option maxRecDepth 100000 in
theorem law_24 {E : Amb} {zl : Lw} {b Ln : Nat} {xs : Nat → Int32} {ce sl : Nat} {mC mR : Mem} {fo : Nat → Int64} {i : Int} (C : CQx E zl b Ln xs cL_law) (hi : 0 ≤ i ∧ i + 6 ≤ Ln) (hn : i < 90000) (hL : LK i mC mR) (hcs : ce + 1 ≤ 1135 ∧ sl + 6 ≤ 20627) (k : ∀ (m1 : Mq) (ce1 sl1 : Nat), LK (i + 1) m1.1 m1.2.1 → ((ce ≤ ce1 ∧ ce1 ≤ ce + 1) ∧ sl ≤ sl1 ∧ sl1 ≤ sl + 6) → VQ E zl ce1 sl1 m1 1388 (Lz zl b i) []) : VQ E zl ce sl (mC, mR, fo) 876 (Lz zl b i) [] := by
  obtain ⟨k0, kf, ks, kt, kc, d, df, ds, dt, dc, hL⟩ := hL
  have hch : mC 0 17 < 100000 := by have := hL.2.2.2.1; omega
  have hch0 : 0 ≤ mC 0 17 := hL.2.2.2.1.1
  refine z_aload_n C 3 dL_law_876 rfl ?_
  refine z_aload_n C 4 dL_law_877 rfl ?_
  refine z_iload C 0 dL_law_878 rfl ?_
  refine z_iconst (z := 1) C dL_law_880 rfl ?_
  refine z_iadd C dL_law_881 ?_
  refine z_sld C (i := (i + 1)) (by omega) dL_law_882 ?_
  refine z_aload_n C 4 dL_law_883 rfl ?_
  refine z_iload C 0 dL_law_884 rfl ?_
  refine z_iconst (z := 2) C dL_law_886 rfl ?_
  refine z_iadd C dL_law_887 ?_
  refine z_sld C (i := (i + 2)) (by omega) dL_law_888 ?_
  refine z_aload_n C 4 dL_law_889 rfl ?_
  refine z_iload C 0 dL_law_890 rfl ?_
  refine z_iconst (z := 3) C dL_law_892 rfl ?_
  refine z_iadd C dL_law_893 ?_
  refine z_sld C (i := (i + 3)) (by omega) dL_law_894 ?_
  refine z_if_eq (tgt := 902) C dL_law_895 (by decide) (i3r _) (fun hb895 => ?_) (fun hb895 => ?_)
  · refine z_iconst (z := 0) C dL_law_902 rfl ?_
    refine z_callC (st := []) (n := 3) C [.int (iz ((xs (i + 1).toNat).toInt)), .int (iz ((xs (i + 2).toNat).toInt)), .int (iz (0))] (ct_StageRatios_range C.2.2.2.2.2.2.2.1.1 mC k0 kf ks kt kc ((xs (i + 1).toNat).toInt) ((xs (i + 2).toNat).toInt) (0) hL.1.1 (i3r _) (i3r _) (Or.inl rfl)) qw942 qw1 qw939 rfl rfl ⟨Nat.le_of_ble_eq_true rfl, Nat.le_of_ble_eq_true rfl⟩ (by decide +kernel) qw940 qw941 rfl rfl (Nat.le_of_ble_eq_true rfl) ⟨by omega, by omega⟩ dL_law_903 (fun r m903 hp903 => ?_)
    obtain ⟨z903, rfl, hp, hci⟩ := hp903
    show VQ E zl ce sl (m903, mR, fo) 906 (Lz zl b i) [.int (iz (z903))]
    refine z_aload_n C 2 dL_law_906 rfl ?_
    refine z_aload_n C 4 dL_law_907 rfl ?_
    refine z_iload C 0 dL_law_908 rfl ?_
    refine z_iconst (z := 1) C dL_law_910 rfl ?_
    refine z_iadd C dL_law_911 ?_
    refine z_sld C (i := (i + 1)) (by omega) dL_law_912 ?_
    refine z_aload_n C 4 dL_law_913 rfl ?_
    refine z_iload C 0 dL_law_914 rfl ?_
    refine z_iconst (z := 2) C dL_law_916 rfl ?_
    refine z_iadd C dL_law_917 ?_
    refine z_sld C (i := (i + 2)) (by omega) dL_law_918 ?_
    refine z_aload_n C 4 dL_law_919 rfl ?_
    refine z_iload C 0 dL_law_920 rfl ?_
    refine z_iconst (z := 3) C dL_law_922 rfl ?_
    refine z_iadd C dL_law_923 ?_
    refine z_sld C (i := (i + 3)) (by omega) dL_law_924 ?_
    refine z_if_eq (tgt := 932) C dL_law_925 (by decide) (i3r _) (fun _ => ?_) (fun y => absurd hb895 y)
    refine z_iconst (z := 0) C dL_law_932 rfl ?_
    refine z_callR (st := [.int (iz (z903))]) (n := 3) C [.int (iz ((xs (i + 1).toNat).toInt)), .int (iz ((xs (i + 2).toNat).toInt)), .int (iz (0))] (ct_StageRatiosModel_range C.2.2.2.2.2.2.2.1.2.1 mR (mC kf) (mC ks) (mC kt) (mC kc) (mC k0) (mC 5) ((xs (i + 1).toNat).toInt) ((xs (i + 2).toNat).toInt) (0) hL.tt (i3r _) (i3r _) (Or.inl rfl)) qw1630 qw16 qw1627 rfl rfl ⟨Nat.le_of_ble_eq_true rfl, Nat.le_of_ble_eq_true rfl⟩ (by decide +kernel) qw1628 qw1629 rfl rfl (Nat.le_of_ble_eq_true rfl) ⟨by omega, by omega⟩ dL_law_933 (fun r m933 hp933 => ?_)
    obtain ⟨z933, rfl, hq, -⟩ := hp933
    show VQ E zl ce sl (m903, m933, fo) 936 (Lz zl b i) [.int (iz (z933)), .int (iz (z903))]
    rw [hL.2.2.1.2.2.2.2] at hq
    obtain ⟨rfl, hK⟩ := hL.q hp hq hci (u_Ran (Or.inl rfl)) t5_Ran
    refine z_same (tgt := 1388) C dL_law_936 (by decide) ?_
    exact k (m903, m933, fo) ce sl (hK.mono (by omega)) ⟨⟨by omega, by omega⟩, by omega, by omega⟩
  · refine z_iconst (z := 1) C dL_law_898 rfl ?_
    refine z_goto (tgt := 903) C dL_law_899 (by decide) ?_
    refine z_callC (st := []) (n := 3) C [.int (iz ((xs (i + 1).toNat).toInt)), .int (iz ((xs (i + 2).toNat).toInt)), .int (iz (1))] (ct_StageRatios_range C.2.2.2.2.2.2.2.1.1 mC k0 kf ks kt kc ((xs (i + 1).toNat).toInt) ((xs (i + 2).toNat).toInt) (1) hL.1.1 (i3r _) (i3r _) (Or.inr rfl)) qw942 qw1 qw939 rfl rfl ⟨Nat.le_of_ble_eq_true rfl, Nat.le_of_ble_eq_true rfl⟩ (by decide +kernel) qw940 qw941 rfl rfl (Nat.le_of_ble_eq_true rfl) ⟨by omega, by omega⟩ dL_law_903 (fun r m903 hp903 => ?_)
    obtain ⟨z903, rfl, hp, hci⟩ := hp903
    show VQ E zl ce sl (m903, mR, fo) 906 (Lz zl b i) [.int (iz (z903))]
    refine z_aload_n C 2 dL_law_906 rfl ?_
    refine z_aload_n C 4 dL_law_907 rfl ?_
    refine z_iload C 0 dL_law_908 rfl ?_
    refine z_iconst (z := 1) C dL_law_910 rfl ?_
    refine z_iadd C dL_law_911 ?_
    refine z_sld C (i := (i + 1)) (by omega) dL_law_912 ?_
    refine z_aload_n C 4 dL_law_913 rfl ?_
    refine z_iload C 0 dL_law_914 rfl ?_
    refine z_iconst (z := 2) C dL_law_916 rfl ?_
    refine z_iadd C dL_law_917 ?_
    refine z_sld C (i := (i + 2)) (by omega) dL_law_918 ?_
    refine z_aload_n C 4 dL_law_919 rfl ?_
    refine z_iload C 0 dL_law_920 rfl ?_
    refine z_iconst (z := 3) C dL_law_922 rfl ?_
    refine z_iadd C dL_law_923 ?_
    refine z_sld C (i := (i + 3)) (by omega) dL_law_924 ?_
    refine z_if_eq (tgt := 932) C dL_law_925 (by decide) (i3r _) (fun y => absurd y hb895) (fun _ => ?_)
    refine z_iconst (z := 1) C dL_law_928 rfl ?_
    refine z_goto (tgt := 933) C dL_law_929 (by decide) ?_
    refine z_callR (st := [.int (iz (z903))]) (n := 3) C [.int (iz ((xs (i + 1).toNat).toInt)), .int (iz ((xs (i + 2).toNat).toInt)), .int (iz (1))] (ct_StageRatiosModel_range C.2.2.2.2.2.2.2.1.2.1 mR (mC kf) (mC ks) (mC kt) (mC kc) (mC k0) (mC 5) ((xs (i + 1).toNat).toInt) ((xs (i + 2).toNat).toInt) (1) hL.tt (i3r _) (i3r _) (Or.inr rfl)) qw1630 qw16 qw1627 rfl rfl ⟨Nat.le_of_ble_eq_true rfl, Nat.le_of_ble_eq_true rfl⟩ (by decide +kernel) qw1628 qw1629 rfl rfl (Nat.le_of_ble_eq_true rfl) ⟨by omega, by omega⟩ dL_law_933 (fun r m933 hp933 => ?_)
    obtain ⟨z933, rfl, hq, -⟩ := hp933
    show VQ E zl ce sl (m903, m933, fo) 936 (Lz zl b i) [.int (iz (z933)), .int (iz (z903))]
    rw [hL.2.2.1.2.2.2.2] at hq
    obtain ⟨rfl, hK⟩ := hL.q hp hq hci (u_Ran (Or.inr rfl)) t5_Ran
    refine z_same (tgt := 1388) C dL_law_936 (by decide) ?_
    exact k (m903, m933, fo) ce sl (hK.mono (by omega)) ⟨⟨by omega, by omega⟩, by omega, by omega⟩

set_option maxHeartbeats 4000000 in
set_option maxRecDepth 100000 in
theorem law_25 {E : Amb} {zl : Lw} {b Ln : Nat} {xs : Nat → Int32} {ce sl : Nat} {mC mR : Mem} {fo : Nat → Int64} {i : Int} (C : CQx E zl b Ln xs cL_law) (hi : 0 ≤ i ∧ i + 6 ≤ Ln) (hn : i < 90000) (hL : LK i mC mR) (hcs : ce + 1 ≤ 1135 ∧ sl + 6 ≤ 20627) (k : ∀ (m1 : Mq) (ce1 sl1 : Nat), LK (i + 1) m1.1 m1.2.1 → ((ce ≤ ce1 ∧ ce1 ≤ ce + 1) ∧ sl ≤ sl1 ∧ sl1 ≤ sl + 6) → VQ E zl ce1 sl1 m1 1388 (Lz zl b i) []) : VQ E zl ce sl (mC, mR, fo) 941 (Lz zl b i) [] := by
  obtain ⟨k0, kf, ks, kt, kc, d, df, ds, dt, dc, hL⟩ := hL
  have hch : mC 0 17 < 100000 := by have := hL.2.2.2.1; omega
  have hch0 : 0 ≤ mC 0 17 := hL.2.2.2.1.1
  refine z_aload_n C 3 dL_law_941 rfl ?_
  refine z_aload_n C 4 dL_law_942 rfl ?_
  refine z_iload C 0 dL_law_943 rfl ?_
  refine z_iconst (z := 1) C dL_law_945 rfl ?_
  refine z_iadd C dL_law_946 ?_
  refine z_sld C (i := (i + 1)) (by omega) dL_law_947 ?_
  refine z_callC (st := []) (n := 1) C [.int (iz ((xs (i + 1).toNat).toInt))] (ct_StageRatios_ways C.2.2.2.2.2.2.2.1.1 mC k0 kf ks kt kc ((xs (i + 1).toNat).toInt) hL.1.1 (i3r _)) qw950 qw1 qw947 rfl rfl ⟨Nat.le_of_ble_eq_true rfl, Nat.le_of_ble_eq_true rfl⟩ (by decide +kernel) qw948 qw949 rfl rfl (Nat.le_of_ble_eq_true rfl) ⟨by omega, by omega⟩ dL_law_948 (fun r m948 hp948 => ?_)
  obtain ⟨z948, rfl, hp, hci⟩ := hp948
  show VQ E zl ce sl (m948, mR, fo) 951 (Lz zl b i) [.int (iz (z948))]
  refine z_aload_n C 2 dL_law_951 rfl ?_
  refine z_aload_n C 4 dL_law_952 rfl ?_
  refine z_iload C 0 dL_law_953 rfl ?_
  refine z_iconst (z := 1) C dL_law_955 rfl ?_
  refine z_iadd C dL_law_956 ?_
  refine z_sld C (i := (i + 1)) (by omega) dL_law_957 ?_
  refine z_callR (st := [.int (iz (z948))]) (n := 1) C [.int (iz ((xs (i + 1).toNat).toInt))] (ct_StageRatiosModel_ways C.2.2.2.2.2.2.2.1.2.1 mR (mC kf) (mC ks) (mC kt) (mC kc) (mC k0) (mC 5) ((xs (i + 1).toNat).toInt) hL.tt (i3r _)) qw1622 qw16 qw1619 rfl rfl ⟨Nat.le_of_ble_eq_true rfl, Nat.le_of_ble_eq_true rfl⟩ (by decide +kernel) qw1620 qw1621 rfl rfl (Nat.le_of_ble_eq_true rfl) ⟨by omega, by omega⟩ dL_law_958 (fun r m958 hp958 => ?_)
  obtain ⟨z958, rfl, hq, -⟩ := hp958
  show VQ E zl ce sl (m948, m958, fo) 961 (Lz zl b i) [.int (iz (z958)), .int (iz (z948))]
  rw [hL.2.2.1.2.2.2.2] at hq
  obtain ⟨rfl, hK⟩ := hL.q hp hq hci (u_Way) t5_Way
  refine z_same (tgt := 1388) C dL_law_961 (by decide) ?_
  exact k (m948, m958, fo) ce sl (hK.mono (by omega)) ⟨⟨by omega, by omega⟩, by omega, by omega⟩

set_option maxHeartbeats 4000000 in
set_option maxRecDepth 100000 in
theorem law_26 {E : Amb} {zl : Lw} {b Ln : Nat} {xs : Nat → Int32} {ce sl : Nat} {mC mR : Mem} {fo : Nat → Int64} {i : Int} (C : CQx E zl b Ln xs cL_law) (hi : 0 ≤ i ∧ i + 6 ≤ Ln) (hn : i < 90000) (hL : LK i mC mR) (hcs : ce + 1 ≤ 1135 ∧ sl + 6 ≤ 20627) (k : ∀ (m1 : Mq) (ce1 sl1 : Nat), LK (i + 1) m1.1 m1.2.1 → ((ce ≤ ce1 ∧ ce1 ≤ ce + 1) ∧ sl ≤ sl1 ∧ sl1 ≤ sl + 6) → VQ E zl ce1 sl1 m1 1388 (Lz zl b i) []) : VQ E zl ce sl (mC, mR, fo) 966 (Lz zl b i) [] := by
  obtain ⟨k0, kf, ks, kt, kc, d, df, ds, dt, dc, hL⟩ := hL
  have hch : mC 0 17 < 100000 := by have := hL.2.2.2.1; omega
  have hch0 : 0 ≤ mC 0 17 := hL.2.2.2.1.1
  refine z_aload_n C 3 dL_law_966 rfl ?_
  refine z_aload_n C 4 dL_law_967 rfl ?_
  refine z_iload C 0 dL_law_968 rfl ?_
  refine z_iconst (z := 1) C dL_law_970 rfl ?_
  refine z_iadd C dL_law_971 ?_
  refine z_sld C (i := (i + 1)) (by omega) dL_law_972 ?_
  refine z_callC (st := []) (n := 1) C [.int (iz ((xs (i + 1).toNat).toInt))] (ct_StageRatios_flight C.2.2.2.2.2.2.2.1.1 mC k0 kf ks kt kc ((xs (i + 1).toNat).toInt) hL.1.1 (i3r _)) qw958 qw1 qw955 rfl rfl ⟨Nat.le_of_ble_eq_true rfl, Nat.le_of_ble_eq_true rfl⟩ (by decide +kernel) qw956 qw957 rfl rfl (Nat.le_of_ble_eq_true rfl) ⟨by omega, by omega⟩ dL_law_973 (fun r m973 hp973 => ?_)
  obtain ⟨z973, rfl, hp, hci⟩ := hp973
  show VQ E zl ce sl (m973, mR, fo) 976 (Lz zl b i) [.int (iz (z973))]
  refine z_aload_n C 2 dL_law_976 rfl ?_
  refine z_aload_n C 4 dL_law_977 rfl ?_
  refine z_iload C 0 dL_law_978 rfl ?_
  refine z_iconst (z := 1) C dL_law_980 rfl ?_
  refine z_iadd C dL_law_981 ?_
  refine z_sld C (i := (i + 1)) (by omega) dL_law_982 ?_
  refine z_callR (st := [.int (iz (z973))]) (n := 1) C [.int (iz ((xs (i + 1).toNat).toInt))] (ct_StageRatiosModel_flight C.2.2.2.2.2.2.2.1.2.1 mR (mC kf) (mC ks) (mC kt) (mC kc) (mC k0) (mC 5) ((xs (i + 1).toNat).toInt) hL.tt (i3r _)) qw1666 qw16 qw1663 rfl rfl ⟨Nat.le_of_ble_eq_true rfl, Nat.le_of_ble_eq_true rfl⟩ (by decide +kernel) qw1664 qw1665 rfl rfl (Nat.le_of_ble_eq_true rfl) ⟨by omega, by omega⟩ dL_law_983 (fun r m983 hp983 => ?_)
  obtain ⟨z983, rfl, hq, -⟩ := hp983
  show VQ E zl ce sl (m973, m983, fo) 986 (Lz zl b i) [.int (iz (z983)), .int (iz (z973))]
  rw [hL.2.2.1.2.2.2.2] at hq
  obtain ⟨rfl, hK⟩ := hL.q hp hq hci (u_Fli hL.vd) t5_Fli
  refine z_same (tgt := 1388) C dL_law_986 (by decide) ?_
  exact k (m973, m983, fo) ce sl (hK.mono (by omega)) ⟨⟨by omega, by omega⟩, by omega, by omega⟩

