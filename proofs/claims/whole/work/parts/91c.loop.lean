/-! more cases of the loop -/
set_option maxHeartbeats 4000000 in
set_option maxRecDepth 100000 in
theorem law_27 {E : Amb} {zl : Lw} {b Ln : Nat} {xs : Nat → Int32} {ce sl : Nat} {mC mR : Mem} {fo : Nat → Int64} {i : Int} (C : CQx E zl b Ln xs cL_law) (hi : 0 ≤ i ∧ i + 6 ≤ Ln) (hn : i < 90000) (hL : LK i mC mR) (hcs : ce + 1 ≤ 1135 ∧ sl + 6 ≤ 20627) (k : ∀ (m1 : Mq) (ce1 sl1 : Nat), LK (i + 1) m1.1 m1.2.1 → ((ce ≤ ce1 ∧ ce1 ≤ ce + 1) ∧ sl ≤ sl1 ∧ sl1 ≤ sl + 6) → VQ E zl ce1 sl1 m1 1388 (Lz zl b i) []) : VQ E zl ce sl (mC, mR, fo) 991 (Lz zl b i) [] := by
  obtain ⟨k0, kf, ks, kt, kc, d, df, ds, dt, dc, hL⟩ := hL
  have hch : mC 0 17 < 100000 := by have := hL.2.2.2.1; omega
  have hch0 : 0 ≤ mC 0 17 := hL.2.2.2.1.1
  refine z_aload_n C 3 dL_law_991 rfl ?_
  refine z_aload_n C 4 dL_law_992 rfl ?_
  refine z_iload C 0 dL_law_993 rfl ?_
  refine z_iconst (z := 1) C dL_law_995 rfl ?_
  refine z_iadd C dL_law_996 ?_
  refine z_sld C (i := (i + 1)) (by omega) dL_law_997 ?_
  refine z_aload_n C 4 dL_law_998 rfl ?_
  refine z_iload C 0 dL_law_999 rfl ?_
  refine z_iconst (z := 2) C dL_law_1001 rfl ?_
  refine z_iadd C dL_law_1002 ?_
  refine z_sld C (i := (i + 2)) (by omega) dL_law_1003 ?_
  refine z_callC (st := []) (n := 2) C [.int (iz ((xs (i + 1).toNat).toInt)), .int (iz ((xs (i + 2).toNat).toInt))] (ct_StageRatios_tick C.2.2.2.2.2.2.2.1.1 mC k0 kf ks kt kc ((xs (i + 1).toNat).toInt) ((xs (i + 2).toNat).toInt) hL.1.1 (i3r _) (i3r _)) qw1000 qw1 qw997 rfl rfl ⟨Nat.le_of_ble_eq_true rfl, Nat.le_of_ble_eq_true rfl⟩ (by decide +kernel) qw998 qw999 rfl rfl (Nat.le_of_ble_eq_true rfl) ⟨by omega, by omega⟩ dL_law_1004 (fun r m1004 hp1004 => ?_)
  obtain ⟨z1004, rfl, hp, hci⟩ := hp1004
  show VQ E zl ce sl (m1004, mR, fo) 1007 (Lz zl b i) [.int (iz (z1004))]
  refine z_aload_n C 2 dL_law_1007 rfl ?_
  refine z_aload_n C 4 dL_law_1008 rfl ?_
  refine z_iload C 0 dL_law_1009 rfl ?_
  refine z_iconst (z := 1) C dL_law_1011 rfl ?_
  refine z_iadd C dL_law_1012 ?_
  refine z_sld C (i := (i + 1)) (by omega) dL_law_1013 ?_
  refine z_aload_n C 4 dL_law_1014 rfl ?_
  refine z_iload C 0 dL_law_1015 rfl ?_
  refine z_iconst (z := 2) C dL_law_1017 rfl ?_
  refine z_iadd C dL_law_1018 ?_
  refine z_sld C (i := (i + 2)) (by omega) dL_law_1019 ?_
  refine z_callR (st := [.int (iz (z1004))]) (n := 2) C [.int (iz ((xs (i + 1).toNat).toInt)), .int (iz ((xs (i + 2).toNat).toInt))] (ct_StageRatiosModel_tick C.2.2.2.2.2.2.2.1.2.1 mR (mC kf) (mC ks) (mC kt) (mC kc) (mC k0) (mC 5) ((xs (i + 1).toNat).toInt) ((xs (i + 2).toNat).toInt) hL.tt (i3r _) (i3r _)) qw1686 qw16 qw1683 rfl rfl ⟨Nat.le_of_ble_eq_true rfl, Nat.le_of_ble_eq_true rfl⟩ (by decide +kernel) qw1684 qw1685 rfl rfl (Nat.le_of_ble_eq_true rfl) ⟨by omega, by omega⟩ dL_law_1020 (fun r m1020 hp1020 => ?_)
  obtain ⟨z1020, rfl, hq, -⟩ := hp1020
  show VQ E zl ce sl (m1004, m1020, fo) 1023 (Lz zl b i) [.int (iz (z1020)), .int (iz (z1004))]
  rw [hL.2.2.1.2.2.2.2] at hq
  obtain ⟨rfl, hK⟩ := hL.q hp hq hci (u_Tic) t5_Tic
  refine z_same (tgt := 1388) C dL_law_1023 (by decide) ?_
  exact k (m1004, m1020, fo) ce sl (hK.mono (by omega)) ⟨⟨by omega, by omega⟩, by omega, by omega⟩

set_option maxHeartbeats 4000000 in
set_option maxRecDepth 100000 in
theorem law_28 {E : Amb} {zl : Lw} {b Ln : Nat} {xs : Nat → Int32} {ce sl : Nat} {mC mR : Mem} {fo : Nat → Int64} {i : Int} (C : CQx E zl b Ln xs cL_law) (hi : 0 ≤ i ∧ i + 6 ≤ Ln) (hn : i < 90000) (hL : LK i mC mR) (hcs : ce + 1 ≤ 1135 ∧ sl + 6 ≤ 20627) (k : ∀ (m1 : Mq) (ce1 sl1 : Nat), LK (i + 1) m1.1 m1.2.1 → ((ce ≤ ce1 ∧ ce1 ≤ ce + 1) ∧ sl ≤ sl1 ∧ sl1 ≤ sl + 6) → VQ E zl ce1 sl1 m1 1388 (Lz zl b i) []) : VQ E zl ce sl (mC, mR, fo) 1028 (Lz zl b i) [] := by
  obtain ⟨k0, kf, ks, kt, kc, d, df, ds, dt, dc, hL⟩ := hL
  have hch : mC 0 17 < 100000 := by have := hL.2.2.2.1; omega
  have hch0 : 0 ≤ mC 0 17 := hL.2.2.2.1.1
  refine z_aload_n C 3 dL_law_1028 rfl ?_
  refine z_aload_n C 4 dL_law_1029 rfl ?_
  refine z_iload C 0 dL_law_1030 rfl ?_
  refine z_iconst (z := 1) C dL_law_1032 rfl ?_
  refine z_iadd C dL_law_1033 ?_
  refine z_sld C (i := (i + 1)) (by omega) dL_law_1034 ?_
  refine z_aload_n C 4 dL_law_1035 rfl ?_
  refine z_iload C 0 dL_law_1036 rfl ?_
  refine z_iconst (z := 2) C dL_law_1038 rfl ?_
  refine z_iadd C dL_law_1039 ?_
  refine z_sld C (i := (i + 2)) (by omega) dL_law_1040 ?_
  refine z_callC (st := []) (n := 2) C [.int (iz ((xs (i + 1).toNat).toInt)), .int (iz ((xs (i + 2).toNat).toInt))] (ct_StageRatios_risk C.2.2.2.2.2.2.2.1.1 mC k0 kf ks kt kc ((xs (i + 1).toNat).toInt) ((xs (i + 2).toNat).toInt) hL.1.1 (i3r _) (i3r _)) qw1004 qw1 qw1001 rfl rfl ⟨Nat.le_of_ble_eq_true rfl, Nat.le_of_ble_eq_true rfl⟩ (by decide +kernel) qw1002 qw1003 rfl rfl (Nat.le_of_ble_eq_true rfl) ⟨by omega, by omega⟩ dL_law_1041 (fun r m1041 hp1041 => ?_)
  obtain ⟨z1041, rfl, hp, hci⟩ := hp1041
  show VQ E zl ce sl (m1041, mR, fo) 1044 (Lz zl b i) [.int (iz (z1041))]
  refine z_aload_n C 2 dL_law_1044 rfl ?_
  refine z_aload_n C 4 dL_law_1045 rfl ?_
  refine z_iload C 0 dL_law_1046 rfl ?_
  refine z_iconst (z := 1) C dL_law_1048 rfl ?_
  refine z_iadd C dL_law_1049 ?_
  refine z_sld C (i := (i + 1)) (by omega) dL_law_1050 ?_
  refine z_aload_n C 4 dL_law_1051 rfl ?_
  refine z_iload C 0 dL_law_1052 rfl ?_
  refine z_iconst (z := 2) C dL_law_1054 rfl ?_
  refine z_iadd C dL_law_1055 ?_
  refine z_sld C (i := (i + 2)) (by omega) dL_law_1056 ?_
  refine z_callR (st := [.int (iz (z1041))]) (n := 2) C [.int (iz ((xs (i + 1).toNat).toInt)), .int (iz ((xs (i + 2).toNat).toInt))] (ct_StageRatiosModel_risk C.2.2.2.2.2.2.2.1.2.1 mR (mC kf) (mC ks) (mC kt) (mC kc) (mC k0) (mC 5) ((xs (i + 1).toNat).toInt) ((xs (i + 2).toNat).toInt) hL.tt (i3r _) (i3r _)) qw1698 qw16 qw1695 rfl rfl ⟨Nat.le_of_ble_eq_true rfl, Nat.le_of_ble_eq_true rfl⟩ (by decide +kernel) qw1696 qw1697 rfl rfl (Nat.le_of_ble_eq_true rfl) ⟨by omega, by omega⟩ dL_law_1057 (fun r m1057 hp1057 => ?_)
  obtain ⟨z1057, rfl, hq, -⟩ := hp1057
  show VQ E zl ce sl (m1041, m1057, fo) 1060 (Lz zl b i) [.int (iz (z1057)), .int (iz (z1041))]
  rw [hL.2.2.1.2.2.2.2] at hq
  obtain ⟨rfl, hK⟩ := hL.q hp hq hci (u_Ris hL.vd) t5_Ris
  refine z_same (tgt := 1388) C dL_law_1060 (by decide) ?_
  exact k (m1041, m1057, fo) ce sl (hK.mono (by omega)) ⟨⟨by omega, by omega⟩, by omega, by omega⟩

set_option maxHeartbeats 4000000 in
set_option maxRecDepth 100000 in
theorem law_29 {E : Amb} {zl : Lw} {b Ln : Nat} {xs : Nat → Int32} {ce sl : Nat} {mC mR : Mem} {fo : Nat → Int64} {i : Int} (C : CQx E zl b Ln xs cL_law) (hi : 0 ≤ i ∧ i + 6 ≤ Ln) (hn : i < 90000) (hL : LK i mC mR) (hcs : ce + 1 ≤ 1135 ∧ sl + 6 ≤ 20627) (k : ∀ (m1 : Mq) (ce1 sl1 : Nat), LK (i + 1) m1.1 m1.2.1 → ((ce ≤ ce1 ∧ ce1 ≤ ce + 1) ∧ sl ≤ sl1 ∧ sl1 ≤ sl + 6) → VQ E zl ce1 sl1 m1 1388 (Lz zl b i) []) : VQ E zl ce sl (mC, mR, fo) 1065 (Lz zl b i) [] := by
  obtain ⟨k0, kf, ks, kt, kc, d, df, ds, dt, dc, hL⟩ := hL
  have hch : mC 0 17 < 100000 := by have := hL.2.2.2.1; omega
  have hch0 : 0 ≤ mC 0 17 := hL.2.2.2.1.1
  refine z_aload_n C 3 dL_law_1065 rfl ?_
  refine z_callC (st := []) (n := 0) C [] (ct_StageRatios_riskiest C.2.2.2.2.2.2.2.1.1 mC k0 kf ks kt kc  hL.1.1 ) qw1012 qw1 qw1009 rfl rfl ⟨Nat.le_of_ble_eq_true rfl, Nat.le_of_ble_eq_true rfl⟩ (by decide +kernel) qw1010 qw1011 rfl rfl (Nat.le_of_ble_eq_true rfl) ⟨by omega, by omega⟩ dL_law_1066 (fun r m1066 hp1066 => ?_)
  obtain ⟨z1066, rfl, hp, hci⟩ := hp1066
  show VQ E zl ce sl (m1066, mR, fo) 1069 (Lz zl b i) [.int (iz (z1066))]
  refine z_aload_n C 2 dL_law_1069 rfl ?_
  refine z_callR (st := [.int (iz (z1066))]) (n := 0) C [] (ct_StageRatiosModel_riskiest C.2.2.2.2.2.2.2.1.2.1 mR (mC kf) (mC ks) (mC kt) (mC kc) (mC k0) (mC 5)  hL.tt ) qw1706 qw16 qw1703 rfl rfl ⟨Nat.le_of_ble_eq_true rfl, Nat.le_of_ble_eq_true rfl⟩ (by decide +kernel) qw1704 qw1705 rfl rfl (Nat.le_of_ble_eq_true rfl) ⟨by omega, by omega⟩ dL_law_1070 (fun r m1070 hp1070 => ?_)
  obtain ⟨z1070, rfl, hq, -⟩ := hp1070
  show VQ E zl ce sl (m1066, m1070, fo) 1073 (Lz zl b i) [.int (iz (z1070)), .int (iz (z1066))]
  rw [hL.2.2.1.2.2.2.2] at hq
  obtain ⟨rfl, hK⟩ := hL.q hp hq hci (u_Rkt hL.vd) t5_Rkt
  refine z_same (tgt := 1388) C dL_law_1073 (by decide) ?_
  exact k (m1066, m1070, fo) ce sl (hK.mono (by omega)) ⟨⟨by omega, by omega⟩, by omega, by omega⟩

set_option maxHeartbeats 4000000 in
set_option maxRecDepth 100000 in
theorem law_30 {E : Amb} {zl : Lw} {b Ln : Nat} {xs : Nat → Int32} {ce sl : Nat} {mC mR : Mem} {fo : Nat → Int64} {i : Int} (C : CQx E zl b Ln xs cL_law) (hi : 0 ≤ i ∧ i + 6 ≤ Ln) (hn : i < 90000) (hL : LK i mC mR) (hcs : ce + 1 ≤ 1135 ∧ sl + 6 ≤ 20627) (k : ∀ (m1 : Mq) (ce1 sl1 : Nat), LK (i + 1) m1.1 m1.2.1 → ((ce ≤ ce1 ∧ ce1 ≤ ce + 1) ∧ sl ≤ sl1 ∧ sl1 ≤ sl + 6) → VQ E zl ce1 sl1 m1 1388 (Lz zl b i) []) : VQ E zl ce sl (mC, mR, fo) 1078 (Lz zl b i) [] := by
  obtain ⟨k0, kf, ks, kt, kc, d, df, ds, dt, dc, hL⟩ := hL
  have hch : mC 0 17 < 100000 := by have := hL.2.2.2.1; omega
  have hch0 : 0 ≤ mC 0 17 := hL.2.2.2.1.1
  refine z_aload_n C 3 dL_law_1078 rfl ?_
  refine z_callC (st := []) (n := 0) C [] (ct_StageRatios_arrives C.2.2.2.2.2.2.2.1.1 mC k0 kf ks kt kc  hL.1.1 ) qw1016 qw1 qw1013 rfl rfl ⟨Nat.le_of_ble_eq_true rfl, Nat.le_of_ble_eq_true rfl⟩ (by decide +kernel) qw1014 qw1015 rfl rfl (Nat.le_of_ble_eq_true rfl) ⟨by omega, by omega⟩ dL_law_1079 (fun r m1079 hp1079 => ?_)
  obtain ⟨z1079, rfl, hp, hci⟩ := hp1079
  show VQ E zl ce sl (m1079, mR, fo) 1082 (Lz zl b i) [.int (iz (z1079))]
  refine z_aload_n C 2 dL_law_1082 rfl ?_
  refine z_callR (st := [.int (iz (z1079))]) (n := 0) C [] (ct_StageRatiosModel_arrives C.2.2.2.2.2.2.2.1.2.1 mR (mC kf) (mC ks) (mC kt) (mC kc) (mC k0) (mC 5)  hL.tt ) qw1690 qw16 qw1687 rfl rfl ⟨Nat.le_of_ble_eq_true rfl, Nat.le_of_ble_eq_true rfl⟩ (by decide +kernel) qw1688 qw1689 rfl rfl (Nat.le_of_ble_eq_true rfl) ⟨by omega, by omega⟩ dL_law_1083 (fun r m1083 hp1083 => ?_)
  obtain ⟨z1083, rfl, hq, -⟩ := hp1083
  show VQ E zl ce sl (m1079, m1083, fo) 1086 (Lz zl b i) [.int (iz (z1083)), .int (iz (z1079))]
  rw [hL.2.2.1.2.2.2.2] at hq
  obtain ⟨rfl, hK⟩ := hL.q hp hq hci (u_Arr) t5_Arr
  refine z_same (tgt := 1388) C dL_law_1086 (by decide) ?_
  exact k (m1079, m1083, fo) ce sl (hK.mono (by omega)) ⟨⟨by omega, by omega⟩, by omega, by omega⟩

set_option maxHeartbeats 4000000 in
set_option maxRecDepth 100000 in
theorem law_31 {E : Amb} {zl : Lw} {b Ln : Nat} {xs : Nat → Int32} {ce sl : Nat} {mC mR : Mem} {fo : Nat → Int64} {i : Int} (C : CQx E zl b Ln xs cL_law) (hi : 0 ≤ i ∧ i + 6 ≤ Ln) (hn : i < 90000) (hL : LK i mC mR) (hcs : ce + 1 ≤ 1135 ∧ sl + 6 ≤ 20627) (k : ∀ (m1 : Mq) (ce1 sl1 : Nat), LK (i + 1) m1.1 m1.2.1 → ((ce ≤ ce1 ∧ ce1 ≤ ce + 1) ∧ sl ≤ sl1 ∧ sl1 ≤ sl + 6) → VQ E zl ce1 sl1 m1 1388 (Lz zl b i) []) : VQ E zl ce sl (mC, mR, fo) 1091 (Lz zl b i) [] := by
  obtain ⟨k0, kf, ks, kt, kc, d, df, ds, dt, dc, hL⟩ := hL
  have hch : mC 0 17 < 100000 := by have := hL.2.2.2.1; omega
  have hch0 : 0 ≤ mC 0 17 := hL.2.2.2.1.1
  refine z_aload_n C 3 dL_law_1091 rfl ?_
  refine z_aload_n C 4 dL_law_1092 rfl ?_
  refine z_iload C 0 dL_law_1093 rfl ?_
  refine z_iconst (z := 1) C dL_law_1095 rfl ?_
  refine z_iadd C dL_law_1096 ?_
  refine z_sld C (i := (i + 1)) (by omega) dL_law_1097 ?_
  refine z_if_eq (tgt := 1105) C dL_law_1098 (by decide) (i3r _) (fun hb1098 => ?_) (fun hb1098 => ?_)
  · refine z_iconst (z := 0) C dL_law_1105 rfl ?_
    refine z_callC (st := []) (n := 1) C [.int (iz (0))] (ct_StageRatios_flown C.2.2.2.2.2.2.2.1.1 mC k0 kf ks kt kc (0) hL.1.1 (Or.inl rfl)) qw1020 qw1 qw1017 rfl rfl ⟨Nat.le_of_ble_eq_true rfl, Nat.le_of_ble_eq_true rfl⟩ (by decide +kernel) qw1018 qw1019 rfl rfl (Nat.le_of_ble_eq_true rfl) ⟨by omega, by omega⟩ dL_law_1106 (fun r m1106 hp1106 => ?_)
    obtain ⟨z1106, rfl, hp, hci⟩ := hp1106
    show VQ E zl ce sl (m1106, mR, fo) 1109 (Lz zl b i) [.int (iz (z1106))]
    refine z_aload_n C 2 dL_law_1109 rfl ?_
    refine z_aload_n C 4 dL_law_1110 rfl ?_
    refine z_iload C 0 dL_law_1111 rfl ?_
    refine z_iconst (z := 1) C dL_law_1113 rfl ?_
    refine z_iadd C dL_law_1114 ?_
    refine z_sld C (i := (i + 1)) (by omega) dL_law_1115 ?_
    refine z_if_eq (tgt := 1123) C dL_law_1116 (by decide) (i3r _) (fun _ => ?_) (fun y => absurd hb1098 y)
    refine z_iconst (z := 0) C dL_law_1123 rfl ?_
    refine z_callR (st := [.int (iz (z1106))]) (n := 1) C [.int (iz (0))] (ct_StageRatiosModel_flown C.2.2.2.2.2.2.2.1.2.1 mR (mC kf) (mC ks) (mC kt) (mC kc) (mC k0) (mC 5) (0) hL.tt (Or.inl rfl)) qw1694 qw16 qw1691 rfl rfl ⟨Nat.le_of_ble_eq_true rfl, Nat.le_of_ble_eq_true rfl⟩ (by decide +kernel) qw1692 qw1693 rfl rfl (Nat.le_of_ble_eq_true rfl) ⟨by omega, by omega⟩ dL_law_1124 (fun r m1124 hp1124 => ?_)
    obtain ⟨z1124, rfl, hq, -⟩ := hp1124
    show VQ E zl ce sl (m1106, m1124, fo) 1127 (Lz zl b i) [.int (iz (z1124)), .int (iz (z1106))]
    rw [hL.2.2.1.2.2.2.2] at hq
    obtain ⟨rfl, hK⟩ := hL.q hp hq hci (u_Flo) t5_Flo
    refine z_same (tgt := 1388) C dL_law_1127 (by decide) ?_
    exact k (m1106, m1124, fo) ce sl (hK.mono (by omega)) ⟨⟨by omega, by omega⟩, by omega, by omega⟩
  · refine z_iconst (z := 1) C dL_law_1101 rfl ?_
    refine z_goto (tgt := 1106) C dL_law_1102 (by decide) ?_
    refine z_callC (st := []) (n := 1) C [.int (iz (1))] (ct_StageRatios_flown C.2.2.2.2.2.2.2.1.1 mC k0 kf ks kt kc (1) hL.1.1 (Or.inr rfl)) qw1020 qw1 qw1017 rfl rfl ⟨Nat.le_of_ble_eq_true rfl, Nat.le_of_ble_eq_true rfl⟩ (by decide +kernel) qw1018 qw1019 rfl rfl (Nat.le_of_ble_eq_true rfl) ⟨by omega, by omega⟩ dL_law_1106 (fun r m1106 hp1106 => ?_)
    obtain ⟨z1106, rfl, hp, hci⟩ := hp1106
    show VQ E zl ce sl (m1106, mR, fo) 1109 (Lz zl b i) [.int (iz (z1106))]
    refine z_aload_n C 2 dL_law_1109 rfl ?_
    refine z_aload_n C 4 dL_law_1110 rfl ?_
    refine z_iload C 0 dL_law_1111 rfl ?_
    refine z_iconst (z := 1) C dL_law_1113 rfl ?_
    refine z_iadd C dL_law_1114 ?_
    refine z_sld C (i := (i + 1)) (by omega) dL_law_1115 ?_
    refine z_if_eq (tgt := 1123) C dL_law_1116 (by decide) (i3r _) (fun y => absurd y hb1098) (fun _ => ?_)
    refine z_iconst (z := 1) C dL_law_1119 rfl ?_
    refine z_goto (tgt := 1124) C dL_law_1120 (by decide) ?_
    refine z_callR (st := [.int (iz (z1106))]) (n := 1) C [.int (iz (1))] (ct_StageRatiosModel_flown C.2.2.2.2.2.2.2.1.2.1 mR (mC kf) (mC ks) (mC kt) (mC kc) (mC k0) (mC 5) (1) hL.tt (Or.inr rfl)) qw1694 qw16 qw1691 rfl rfl ⟨Nat.le_of_ble_eq_true rfl, Nat.le_of_ble_eq_true rfl⟩ (by decide +kernel) qw1692 qw1693 rfl rfl (Nat.le_of_ble_eq_true rfl) ⟨by omega, by omega⟩ dL_law_1124 (fun r m1124 hp1124 => ?_)
    obtain ⟨z1124, rfl, hq, -⟩ := hp1124
    show VQ E zl ce sl (m1106, m1124, fo) 1127 (Lz zl b i) [.int (iz (z1124)), .int (iz (z1106))]
    rw [hL.2.2.1.2.2.2.2] at hq
    obtain ⟨rfl, hK⟩ := hL.q hp hq hci (u_Flo) t5_Flo
    refine z_same (tgt := 1388) C dL_law_1127 (by decide) ?_
    exact k (m1106, m1124, fo) ce sl (hK.mono (by omega)) ⟨⟨by omega, by omega⟩, by omega, by omega⟩

set_option maxHeartbeats 4000000 in
set_option maxRecDepth 100000 in
theorem law_32 {E : Amb} {zl : Lw} {b Ln : Nat} {xs : Nat → Int32} {ce sl : Nat} {mC mR : Mem} {fo : Nat → Int64} {i : Int} (C : CQx E zl b Ln xs cL_law) (hi : 0 ≤ i ∧ i + 6 ≤ Ln) (hn : i < 90000) (hL : LK i mC mR) (hcs : ce + 1 ≤ 1135 ∧ sl + 6 ≤ 20627) (k : ∀ (m1 : Mq) (ce1 sl1 : Nat), LK (i + 1) m1.1 m1.2.1 → ((ce ≤ ce1 ∧ ce1 ≤ ce + 1) ∧ sl ≤ sl1 ∧ sl1 ≤ sl + 6) → VQ E zl ce1 sl1 m1 1388 (Lz zl b i) []) : VQ E zl ce sl (mC, mR, fo) 1132 (Lz zl b i) [] := by
  obtain ⟨k0, kf, ks, kt, kc, d, df, ds, dt, dc, hL⟩ := hL
  have hch : mC 0 17 < 100000 := by have := hL.2.2.2.1; omega
  have hch0 : 0 ≤ mC 0 17 := hL.2.2.2.1.1
  refine z_aload_n C 3 dL_law_1132 rfl ?_
  refine z_aload_n C 4 dL_law_1133 rfl ?_
  refine z_iload C 0 dL_law_1134 rfl ?_
  refine z_iconst (z := 1) C dL_law_1136 rfl ?_
  refine z_iadd C dL_law_1137 ?_
  refine z_sld C (i := (i + 1)) (by omega) dL_law_1138 ?_
  refine z_aload_n C 4 dL_law_1139 rfl ?_
  refine z_iload C 0 dL_law_1140 rfl ?_
  refine z_iconst (z := 2) C dL_law_1142 rfl ?_
  refine z_iadd C dL_law_1143 ?_
  refine z_sld C (i := (i + 2)) (by omega) dL_law_1144 ?_
  refine z_aload_n C 4 dL_law_1145 rfl ?_
  refine z_iload C 0 dL_law_1146 rfl ?_
  refine z_iconst (z := 3) C dL_law_1148 rfl ?_
  refine z_iadd C dL_law_1149 ?_
  refine z_sld C (i := (i + 3)) (by omega) dL_law_1150 ?_
  refine z_callC (st := []) (n := 3) C [.int (iz ((xs (i + 1).toNat).toInt)), .int (iz ((xs (i + 2).toNat).toInt)), .int (iz ((xs (i + 3).toNat).toInt))] (ct_StageRatios_bounds C.2.2.2.2.2.2.2.1.1 mC k0 kf ks kt kc ((xs (i + 1).toNat).toInt) ((xs (i + 2).toNat).toInt) ((xs (i + 3).toNat).toInt) hL.1.1 hch (i3r _) (i3r _) (i3r _)) qw1024 qw1 qw1021 rfl rfl ⟨Nat.le_of_ble_eq_true rfl, Nat.le_of_ble_eq_true rfl⟩ (by decide +kernel) qw1022 qw1023 rfl rfl (Nat.le_of_ble_eq_true rfl) ⟨by omega, by omega⟩ dL_law_1151 (fun r m1151 hp1151 => ?_)
  obtain ⟨z1151, rfl, hp, hci⟩ := hp1151
  show VQ E zl ce sl (m1151, mR, fo) 1154 (Lz zl b i) [.int (iz (z1151))]
  refine z_aload_n C 2 dL_law_1154 rfl ?_
  refine z_aload_n C 4 dL_law_1155 rfl ?_
  refine z_iload C 0 dL_law_1156 rfl ?_
  refine z_iconst (z := 1) C dL_law_1158 rfl ?_
  refine z_iadd C dL_law_1159 ?_
  refine z_sld C (i := (i + 1)) (by omega) dL_law_1160 ?_
  refine z_aload_n C 4 dL_law_1161 rfl ?_
  refine z_iload C 0 dL_law_1162 rfl ?_
  refine z_iconst (z := 2) C dL_law_1164 rfl ?_
  refine z_iadd C dL_law_1165 ?_
  refine z_sld C (i := (i + 2)) (by omega) dL_law_1166 ?_
  refine z_aload_n C 4 dL_law_1167 rfl ?_
  refine z_iload C 0 dL_law_1168 rfl ?_
  refine z_iconst (z := 3) C dL_law_1170 rfl ?_
  refine z_iadd C dL_law_1171 ?_
  refine z_sld C (i := (i + 3)) (by omega) dL_law_1172 ?_
  refine z_callR (st := [.int (iz (z1151))]) (n := 3) C [.int (iz ((xs (i + 1).toNat).toInt)), .int (iz ((xs (i + 2).toNat).toInt)), .int (iz ((xs (i + 3).toNat).toInt))] (ct_StageRatiosModel_bounds C.2.2.2.2.2.2.2.1.2.1 mR (mC kf) (mC ks) (mC kt) (mC kc) (mC k0) (mC 5) ((xs (i + 1).toNat).toInt) ((xs (i + 2).toNat).toInt) ((xs (i + 3).toNat).toInt) hL.tt hL.2.2.2.2.1 (i3r _) (i3r _) (i3r _)) qw1718 qw16 qw1715 rfl rfl ⟨Nat.le_of_ble_eq_true rfl, Nat.le_of_ble_eq_true rfl⟩ (by decide +kernel) qw1716 qw1717 rfl rfl (Nat.le_of_ble_eq_true rfl) ⟨by omega, by omega⟩ dL_law_1173 (fun r m1173 hp1173 => ?_)
  obtain ⟨z1173, rfl, hq, -⟩ := hp1173
  show VQ E zl ce sl (m1151, m1173, fo) 1176 (Lz zl b i) [.int (iz (z1173)), .int (iz (z1151))]
  rw [hL.2.2.1.2.2.2.2] at hq
  obtain ⟨rfl, hK⟩ := hL.a hp hq hci (w_Bou) t6_Bou
  refine z_same (tgt := 1388) C dL_law_1176 (by decide) ?_
  exact k (m1151, m1173, fo) ce sl hK ⟨⟨by omega, by omega⟩, by omega, by omega⟩

set_option maxHeartbeats 4000000 in
set_option maxRecDepth 100000 in
theorem law_33 {E : Amb} {zl : Lw} {b Ln : Nat} {xs : Nat → Int32} {ce sl : Nat} {mC mR : Mem} {fo : Nat → Int64} {i : Int} (C : CQx E zl b Ln xs cL_law) (hi : 0 ≤ i ∧ i + 6 ≤ Ln) (hn : i < 90000) (hL : LK i mC mR) (hcs : ce + 1 ≤ 1135 ∧ sl + 6 ≤ 20627) (k : ∀ (m1 : Mq) (ce1 sl1 : Nat), LK (i + 1) m1.1 m1.2.1 → ((ce ≤ ce1 ∧ ce1 ≤ ce + 1) ∧ sl ≤ sl1 ∧ sl1 ≤ sl + 6) → VQ E zl ce1 sl1 m1 1388 (Lz zl b i) []) : VQ E zl ce sl (mC, mR, fo) 1181 (Lz zl b i) [] := by
  obtain ⟨k0, kf, ks, kt, kc, d, df, ds, dt, dc, hL⟩ := hL
  have hch : mC 0 17 < 100000 := by have := hL.2.2.2.1; omega
  have hch0 : 0 ≤ mC 0 17 := hL.2.2.2.1.1
  refine z_aload_n C 3 dL_law_1181 rfl ?_
  refine z_aload_n C 4 dL_law_1182 rfl ?_
  refine z_iload C 0 dL_law_1183 rfl ?_
  refine z_iconst (z := 1) C dL_law_1185 rfl ?_
  refine z_iadd C dL_law_1186 ?_
  refine z_sld C (i := (i + 1)) (by omega) dL_law_1187 ?_
  refine z_aload_n C 4 dL_law_1188 rfl ?_
  refine z_iload C 0 dL_law_1189 rfl ?_
  refine z_iconst (z := 2) C dL_law_1191 rfl ?_
  refine z_iadd C dL_law_1192 ?_
  refine z_sld C (i := (i + 2)) (by omega) dL_law_1193 ?_
  refine z_callC (st := []) (n := 2) C [.int (iz ((xs (i + 1).toNat).toInt)), .int (iz ((xs (i + 2).toNat).toInt))] (ct_StageRatios_load C.2.2.2.2.2.2.2.1.1 mC k0 kf ks kt kc ((xs (i + 1).toNat).toInt) ((xs (i + 2).toNat).toInt) hL.1.1 hch (i3r _) (i3r _)) qw1032 qw1 qw1029 rfl rfl ⟨Nat.le_of_ble_eq_true rfl, Nat.le_of_ble_eq_true rfl⟩ (by decide +kernel) qw1030 qw1031 rfl rfl (Nat.le_of_ble_eq_true rfl) ⟨by omega, by omega⟩ dL_law_1194 (fun r m1194 hp1194 => ?_)
  obtain ⟨z1194, rfl, hp, hci⟩ := hp1194
  show VQ E zl ce sl (m1194, mR, fo) 1197 (Lz zl b i) [.int (iz (z1194))]
  refine z_aload_n C 2 dL_law_1197 rfl ?_
  refine z_aload_n C 4 dL_law_1198 rfl ?_
  refine z_iload C 0 dL_law_1199 rfl ?_
  refine z_iconst (z := 1) C dL_law_1201 rfl ?_
  refine z_iadd C dL_law_1202 ?_
  refine z_sld C (i := (i + 1)) (by omega) dL_law_1203 ?_
  refine z_aload_n C 4 dL_law_1204 rfl ?_
  refine z_iload C 0 dL_law_1205 rfl ?_
  refine z_iconst (z := 2) C dL_law_1207 rfl ?_
  refine z_iadd C dL_law_1208 ?_
  refine z_sld C (i := (i + 2)) (by omega) dL_law_1209 ?_
  refine z_callR (st := [.int (iz (z1194))]) (n := 2) C [.int (iz ((xs (i + 1).toNat).toInt)), .int (iz ((xs (i + 2).toNat).toInt))] (ct_StageRatiosModel_load C.2.2.2.2.2.2.2.1.2.1 mR (mC kf) (mC ks) (mC kt) (mC kc) (mC k0) (mC 5) ((xs (i + 1).toNat).toInt) ((xs (i + 2).toNat).toInt) hL.tt hL.2.2.2.2.1 (i3r _) (i3r _)) qw1710 qw16 qw1707 rfl rfl ⟨Nat.le_of_ble_eq_true rfl, Nat.le_of_ble_eq_true rfl⟩ (by decide +kernel) qw1708 qw1709 rfl rfl (Nat.le_of_ble_eq_true rfl) ⟨by omega, by omega⟩ dL_law_1210 (fun r m1210 hp1210 => ?_)
  obtain ⟨z1210, rfl, hq, -⟩ := hp1210
  show VQ E zl ce sl (m1194, m1210, fo) 1213 (Lz zl b i) [.int (iz (z1210)), .int (iz (z1194))]
  rw [hL.2.2.1.2.2.2.2] at hq
  obtain ⟨rfl, hK⟩ := hL.a hp hq hci (w_Loa) t6_Loa
  refine z_same (tgt := 1388) C dL_law_1213 (by decide) ?_
  exact k (m1194, m1210, fo) ce sl hK ⟨⟨by omega, by omega⟩, by omega, by omega⟩

set_option maxHeartbeats 4000000 in
set_option maxRecDepth 100000 in
theorem law_34 {E : Amb} {zl : Lw} {b Ln : Nat} {xs : Nat → Int32} {ce sl : Nat} {mC mR : Mem} {fo : Nat → Int64} {i : Int} (C : CQx E zl b Ln xs cL_law) (hi : 0 ≤ i ∧ i + 6 ≤ Ln) (hn : i < 90000) (hL : LK i mC mR) (hcs : ce + 1 ≤ 1135 ∧ sl + 6 ≤ 20627) (k : ∀ (m1 : Mq) (ce1 sl1 : Nat), LK (i + 1) m1.1 m1.2.1 → ((ce ≤ ce1 ∧ ce1 ≤ ce + 1) ∧ sl ≤ sl1 ∧ sl1 ≤ sl + 6) → VQ E zl ce1 sl1 m1 1388 (Lz zl b i) []) : VQ E zl ce sl (mC, mR, fo) 1218 (Lz zl b i) [] := by
  obtain ⟨k0, kf, ks, kt, kc, d, df, ds, dt, dc, hL⟩ := hL
  have hch : mC 0 17 < 100000 := by have := hL.2.2.2.1; omega
  have hch0 : 0 ≤ mC 0 17 := hL.2.2.2.1.1
  refine z_aload_n C 3 dL_law_1218 rfl ?_
  refine z_callC (st := []) (n := 0) C [] (ct_StageRatios_adopt C.2.2.2.2.2.2.2.1.1 mC k0 kf ks kt kc  hL.1.1 hch ) qw1040 qw1 qw1037 rfl rfl ⟨Nat.le_of_ble_eq_true rfl, Nat.le_of_ble_eq_true rfl⟩ (by decide +kernel) qw1038 qw1039 rfl rfl (Nat.le_of_ble_eq_true rfl) ⟨by omega, by omega⟩ dL_law_1219 (fun r m1219 hp1219 => ?_)
  obtain ⟨z1219, rfl, hp, hci⟩ := hp1219
  show VQ E zl ce sl (m1219, mR, fo) 1222 (Lz zl b i) [.int (iz (z1219))]
  refine z_aload_n C 2 dL_law_1222 rfl ?_
  refine z_callR (st := [.int (iz (z1219))]) (n := 0) C [] (ct_StageRatiosModel_adopt C.2.2.2.2.2.2.2.1.2.1 mR (mC kf) (mC ks) (mC kt) (mC kc) (mC k0) (mC 5)  hL.tt hL.2.2.2.2.1 ) qw1722 qw16 qw1719 rfl rfl ⟨Nat.le_of_ble_eq_true rfl, Nat.le_of_ble_eq_true rfl⟩ (by decide +kernel) qw1720 qw1721 rfl rfl (Nat.le_of_ble_eq_true rfl) ⟨by omega, by omega⟩ dL_law_1223 (fun r m1223 hp1223 => ?_)
  obtain ⟨z1223, rfl, hq, -⟩ := hp1223
  show VQ E zl ce sl (m1219, m1223, fo) 1226 (Lz zl b i) [.int (iz (z1223)), .int (iz (z1219))]
  rw [hL.2.2.1.2.2.2.2] at hq
  obtain ⟨rfl, hK⟩ := hL.a hp hq hci (w_Ado) t6_Ado
  refine z_same (tgt := 1388) C dL_law_1226 (by decide) ?_
  exact k (m1219, m1223, fo) ce sl hK ⟨⟨by omega, by omega⟩, by omega, by omega⟩

set_option maxHeartbeats 4000000 in
set_option maxRecDepth 100000 in
theorem law_35 {E : Amb} {zl : Lw} {b Ln : Nat} {xs : Nat → Int32} {ce sl : Nat} {mC mR : Mem} {fo : Nat → Int64} {i : Int} (C : CQx E zl b Ln xs cL_law) (hi : 0 ≤ i ∧ i + 6 ≤ Ln) (hn : i < 90000) (hL : LK i mC mR) (hcs : ce + 1 ≤ 1135 ∧ sl + 6 ≤ 20627) (k : ∀ (m1 : Mq) (ce1 sl1 : Nat), LK (i + 1) m1.1 m1.2.1 → ((ce ≤ ce1 ∧ ce1 ≤ ce + 1) ∧ sl ≤ sl1 ∧ sl1 ≤ sl + 6) → VQ E zl ce1 sl1 m1 1388 (Lz zl b i) []) : VQ E zl ce sl (mC, mR, fo) 1231 (Lz zl b i) [] := by
  obtain ⟨k0, kf, ks, kt, kc, d, df, ds, dt, dc, hL⟩ := hL
  have hch : mC 0 17 < 100000 := by have := hL.2.2.2.1; omega
  have hch0 : 0 ≤ mC 0 17 := hL.2.2.2.1.1
  refine z_aload_n C 3 dL_law_1231 rfl ?_
  refine z_aload_n C 4 dL_law_1232 rfl ?_
  refine z_iload C 0 dL_law_1233 rfl ?_
  refine z_iconst (z := 1) C dL_law_1235 rfl ?_
  refine z_iadd C dL_law_1236 ?_
  refine z_sld C (i := (i + 1)) (by omega) dL_law_1237 ?_
  refine z_callC (st := []) (n := 1) C [.int (iz ((xs (i + 1).toNat).toInt))] (ct_StageRatios_payload C.2.2.2.2.2.2.2.1.1 mC k0 kf ks kt kc ((xs (i + 1).toNat).toInt) hL.1.1 hch (i3r _)) qw1044 qw1 qw1041 rfl rfl ⟨Nat.le_of_ble_eq_true rfl, Nat.le_of_ble_eq_true rfl⟩ (by decide +kernel) qw1042 qw1043 rfl rfl (Nat.le_of_ble_eq_true rfl) ⟨by omega, by omega⟩ dL_law_1238 (fun r m1238 hp1238 => ?_)
  obtain ⟨z1238, rfl, hp, hci⟩ := hp1238
  show VQ E zl ce sl (m1238, mR, fo) 1241 (Lz zl b i) [.int (iz (z1238))]
  refine z_aload_n C 2 dL_law_1241 rfl ?_
  refine z_aload_n C 4 dL_law_1242 rfl ?_
  refine z_iload C 0 dL_law_1243 rfl ?_
  refine z_iconst (z := 1) C dL_law_1245 rfl ?_
  refine z_iadd C dL_law_1246 ?_
  refine z_sld C (i := (i + 1)) (by omega) dL_law_1247 ?_
  refine z_callR (st := [.int (iz (z1238))]) (n := 1) C [.int (iz ((xs (i + 1).toNat).toInt))] (ct_StageRatiosModel_payload C.2.2.2.2.2.2.2.1.2.1 mR (mC kf) (mC ks) (mC kt) (mC kc) (mC k0) (mC 5) ((xs (i + 1).toNat).toInt) hL.tt hL.2.2.2.2.1 (i3r _)) qw1726 qw16 qw1723 rfl rfl ⟨Nat.le_of_ble_eq_true rfl, Nat.le_of_ble_eq_true rfl⟩ (by decide +kernel) qw1724 qw1725 rfl rfl (Nat.le_of_ble_eq_true rfl) ⟨by omega, by omega⟩ dL_law_1248 (fun r m1248 hp1248 => ?_)
  obtain ⟨z1248, rfl, hq, -⟩ := hp1248
  show VQ E zl ce sl (m1238, m1248, fo) 1251 (Lz zl b i) [.int (iz (z1248)), .int (iz (z1238))]
  rw [hL.2.2.1.2.2.2.2] at hq
  obtain ⟨rfl, hK⟩ := hL.a hp hq hci (w_Put) t6_Put
  refine z_same (tgt := 1388) C dL_law_1251 (by decide) ?_
  exact k (m1238, m1248, fo) ce sl hK ⟨⟨by omega, by omega⟩, by omega, by omega⟩

set_option maxHeartbeats 4000000 in
set_option maxRecDepth 100000 in
theorem law_36 {E : Amb} {zl : Lw} {b Ln : Nat} {xs : Nat → Int32} {ce sl : Nat} {mC mR : Mem} {fo : Nat → Int64} {i : Int} (C : CQx E zl b Ln xs cL_law) (hi : 0 ≤ i ∧ i + 6 ≤ Ln) (hn : i < 90000) (hL : LK i mC mR) (hcs : ce + 1 ≤ 1135 ∧ sl + 6 ≤ 20627) (k : ∀ (m1 : Mq) (ce1 sl1 : Nat), LK (i + 1) m1.1 m1.2.1 → ((ce ≤ ce1 ∧ ce1 ≤ ce + 1) ∧ sl ≤ sl1 ∧ sl1 ≤ sl + 6) → VQ E zl ce1 sl1 m1 1388 (Lz zl b i) []) : VQ E zl ce sl (mC, mR, fo) 1256 (Lz zl b i) [] := by
  obtain ⟨k0, kf, ks, kt, kc, d, df, ds, dt, dc, hL⟩ := hL
  have hch : mC 0 17 < 100000 := by have := hL.2.2.2.1; omega
  have hch0 : 0 ≤ mC 0 17 := hL.2.2.2.1.1
  refine z_aload_n C 3 dL_law_1256 rfl ?_
  refine z_aload_n C 4 dL_law_1257 rfl ?_
  refine z_iload C 0 dL_law_1258 rfl ?_
  refine z_iconst (z := 1) C dL_law_1260 rfl ?_
  refine z_iadd C dL_law_1261 ?_
  refine z_sld C (i := (i + 1)) (by omega) dL_law_1262 ?_
  refine z_callC (st := []) (n := 1) C [.int (iz ((xs (i + 1).toNat).toInt))] (ct_StageRatios_power C.2.2.2.2.2.2.2.1.1 mC k0 kf ks kt kc ((xs (i + 1).toNat).toInt) hL.1.1 hch (i3r _)) qw1048 qw1 qw1045 rfl rfl ⟨Nat.le_of_ble_eq_true rfl, Nat.le_of_ble_eq_true rfl⟩ (by decide +kernel) qw1046 qw1047 rfl rfl (Nat.le_of_ble_eq_true rfl) ⟨by omega, by omega⟩ dL_law_1263 (fun r m1263 hp1263 => ?_)
  obtain ⟨z1263, rfl, hp, hci⟩ := hp1263
  show VQ E zl ce sl (m1263, mR, fo) 1266 (Lz zl b i) [.int (iz (z1263))]
  refine z_aload_n C 2 dL_law_1266 rfl ?_
  refine z_aload_n C 4 dL_law_1267 rfl ?_
  refine z_iload C 0 dL_law_1268 rfl ?_
  refine z_iconst (z := 1) C dL_law_1270 rfl ?_
  refine z_iadd C dL_law_1271 ?_
  refine z_sld C (i := (i + 1)) (by omega) dL_law_1272 ?_
  refine z_callR (st := [.int (iz (z1263))]) (n := 1) C [.int (iz ((xs (i + 1).toNat).toInt))] (ct_StageRatiosModel_power C.2.2.2.2.2.2.2.1.2.1 mR (mC kf) (mC ks) (mC kt) (mC kc) (mC k0) (mC 5) ((xs (i + 1).toNat).toInt) hL.tt hL.2.2.2.2.1 (i3r _)) qw1730 qw16 qw1727 rfl rfl ⟨Nat.le_of_ble_eq_true rfl, Nat.le_of_ble_eq_true rfl⟩ (by decide +kernel) qw1728 qw1729 rfl rfl (Nat.le_of_ble_eq_true rfl) ⟨by omega, by omega⟩ dL_law_1273 (fun r m1273 hp1273 => ?_)
  obtain ⟨z1273, rfl, hq, -⟩ := hp1273
  show VQ E zl ce sl (m1263, m1273, fo) 1276 (Lz zl b i) [.int (iz (z1273)), .int (iz (z1263))]
  rw [hL.2.2.1.2.2.2.2] at hq
  obtain ⟨rfl, hK⟩ := hL.a hp hq hci (w_Put) t6_Put
  refine z_same (tgt := 1388) C dL_law_1276 (by decide) ?_
  exact k (m1263, m1273, fo) ce sl hK ⟨⟨by omega, by omega⟩, by omega, by omega⟩

set_option maxHeartbeats 4000000 in
set_option maxRecDepth 100000 in
theorem law_37 {E : Amb} {zl : Lw} {b Ln : Nat} {xs : Nat → Int32} {ce sl : Nat} {mC mR : Mem} {fo : Nat → Int64} {i : Int} (C : CQx E zl b Ln xs cL_law) (hi : 0 ≤ i ∧ i + 6 ≤ Ln) (hn : i < 90000) (hL : LK i mC mR) (hcs : ce + 1 ≤ 1135 ∧ sl + 6 ≤ 20627) (k : ∀ (m1 : Mq) (ce1 sl1 : Nat), LK (i + 1) m1.1 m1.2.1 → ((ce ≤ ce1 ∧ ce1 ≤ ce + 1) ∧ sl ≤ sl1 ∧ sl1 ≤ sl + 6) → VQ E zl ce1 sl1 m1 1388 (Lz zl b i) []) : VQ E zl ce sl (mC, mR, fo) 1281 (Lz zl b i) [] := by
  obtain ⟨k0, kf, ks, kt, kc, d, df, ds, dt, dc, hL⟩ := hL
  have hch : mC 0 17 < 100000 := by have := hL.2.2.2.1; omega
  have hch0 : 0 ≤ mC 0 17 := hL.2.2.2.1.1
  refine z_aload_n C 3 dL_law_1281 rfl ?_
  refine z_callC (st := []) (n := 0) C [] (ct_StageRatios_undo C.2.2.2.2.2.2.2.1.1 mC k0 kf ks kt kc  hL.1.1 hch ) qw1052 qw1 qw1049 rfl rfl ⟨Nat.le_of_ble_eq_true rfl, Nat.le_of_ble_eq_true rfl⟩ (by decide +kernel) qw1050 qw1051 rfl rfl (Nat.le_of_ble_eq_true rfl) ⟨by omega, by omega⟩ dL_law_1282 (fun r m1282 hp1282 => ?_)
  obtain ⟨z1282, rfl, hp, hci⟩ := hp1282
  show VQ E zl ce sl (m1282, mR, fo) 1285 (Lz zl b i) [.int (iz (z1282))]
  refine z_aload_n C 2 dL_law_1285 rfl ?_
  refine z_callR (st := [.int (iz (z1282))]) (n := 0) C [] (ct_StageRatiosModel_undo C.2.2.2.2.2.2.2.1.2.1 mR (mC kf) (mC ks) (mC kt) (mC kc) (mC k0) (mC 5)  hL.tt hL.2.2.2.2.1 ) qw1734 qw16 qw1731 rfl rfl ⟨Nat.le_of_ble_eq_true rfl, Nat.le_of_ble_eq_true rfl⟩ (by decide +kernel) qw1732 qw1733 rfl rfl (Nat.le_of_ble_eq_true rfl) ⟨by omega, by omega⟩ dL_law_1286 (fun r m1286 hp1286 => ?_)
  obtain ⟨z1286, rfl, hq, -⟩ := hp1286
  show VQ E zl ce sl (m1282, m1286, fo) 1289 (Lz zl b i) [.int (iz (z1286)), .int (iz (z1282))]
  have hq := und_cg hL hq
  obtain ⟨rfl, hK⟩ := hL.a hp hq hci (w_Und) t6_Und
  refine z_same (tgt := 1388) C dL_law_1289 (by decide) ?_
  exact k (m1282, m1286, fo) ce sl hK ⟨⟨by omega, by omega⟩, by omega, by omega⟩

set_option maxHeartbeats 4000000 in
set_option maxRecDepth 100000 in
theorem law_38 {E : Amb} {zl : Lw} {b Ln : Nat} {xs : Nat → Int32} {ce sl : Nat} {mC mR : Mem} {fo : Nat → Int64} {i : Int} (C : CQx E zl b Ln xs cL_law) (hi : 0 ≤ i ∧ i + 6 ≤ Ln) (hn : i < 90000) (hL : LK i mC mR) (hcs : ce + 1 ≤ 1135 ∧ sl + 6 ≤ 20627) (k : ∀ (m1 : Mq) (ce1 sl1 : Nat), LK (i + 1) m1.1 m1.2.1 → ((ce ≤ ce1 ∧ ce1 ≤ ce + 1) ∧ sl ≤ sl1 ∧ sl1 ≤ sl + 6) → VQ E zl ce1 sl1 m1 1388 (Lz zl b i) []) : VQ E zl ce sl (mC, mR, fo) 1294 (Lz zl b i) [] := by
  obtain ⟨k0, kf, ks, kt, kc, d, df, ds, dt, dc, hL⟩ := hL
  have hch : mC 0 17 < 100000 := by have := hL.2.2.2.1; omega
  have hch0 : 0 ≤ mC 0 17 := hL.2.2.2.1.1
  refine z_aload_n C 3 dL_law_1294 rfl ?_
  refine z_aload_n C 4 dL_law_1295 rfl ?_
  refine z_iload C 0 dL_law_1296 rfl ?_
  refine z_iconst (z := 1) C dL_law_1298 rfl ?_
  refine z_iadd C dL_law_1299 ?_
  refine z_sld C (i := i + 1) (by omega) dL_law_1300 ?_
  refine z_aload_n C 1 dL_law_1301 rfl ?_
  refine z_callW (st := []) C k0 kf ks kt kc ((xs (i + 1).toNat).toInt) hL.1.1 (i3r _) rfl (Nat.le_of_ble_eq_true rfl) ⟨by omega, by omega⟩ qwW qw0 qw1061 qw1062 dL_law_1302 (fun z1 m1 f1 hp1 _ => ?_)
  show VQ E zl (ce + 1) (sl + 6) (m1, mR, f1) 1305 (Lz zl b i) [.int (iz z1)]
  refine z_istore C dL_law_1305 (by decide) (L1 := (5, .int (iz z1)) :: Lz zl b i) rfl ?_
  refine z_aload_n C 3 dL_law_1307 rfl ?_
  refine z_aload_n C 5 dL_law_1308 rfl ?_
  refine z_iload C 1 dL_law_1309 rfl ?_
  refine z_iconst (z := 1) C dL_law_1311 rfl ?_
  refine z_iadd C dL_law_1312 ?_
  refine z_sld C (i := i + 1) (by omega) dL_law_1313 ?_
  refine z_callR (st := []) (n := 1) C [.int (iz ((xs (i + 1).toNat).toInt))] (ct_StageRatiosModel_weak C.2.2.2.2.2.2.2.1.2.1 mR (mC kf) (mC ks) (mC kt) (mC kc) (mC k0) (mC 5) ((xs (i + 1).toNat).toInt) hL.tt (i3r _)) qw1738 qw16 qw1735 rfl rfl ⟨Nat.le_of_ble_eq_true rfl, Nat.le_of_ble_eq_true rfl⟩ (by decide +kernel) qw1736 qw1737 rfl rfl (Nat.le_of_ble_eq_true rfl) ⟨by omega, by omega⟩ dL_law_1314 (fun r m1314 hp1314 => ?_)
  obtain ⟨z2, rfl, hp2⟩ := hp1314
  obtain ⟨hL2, e1, e2, e3⟩ := hL.w hp1 hp2
  show VQ E zl (ce + 1) (sl + 6) (m1, m1314, f1) 1317 ((5, .int (iz z1)) :: Lz zl b i) [.int (iz z2)]
  refine z_istore C dL_law_1317 (by decide) (L1 := (6, .int (iz z2)) :: (5, .int (iz z1)) :: Lz zl b i) rfl ?_
  refine z_aload_n C 4 dL_law_1319 rfl ?_
  refine z_callR (st := []) (n := 0) C [] (ct_StageRatiosModel_thrown C.2.2.2.2.2.2.2.1.2.1 m1314) qw1328 qw16 qw1325 rfl rfl ⟨Nat.le_of_ble_eq_true rfl, Nat.le_of_ble_eq_true rfl⟩ (by decide +kernel) qw1326 qw1327 rfl rfl (Nat.le_of_ble_eq_true rfl) ⟨by omega, by omega⟩ dL_law_1320 (fun r m1320 hp1320 => ?_)
  obtain ⟨z3, rfl, hp3, rfl⟩ := hp1320
  have e4 : z3 = z1 := hp3.symm.trans e1
  subst e4
  show VQ E zl (ce + 1) (sl + 6) (m1, m1314, f1) 1323 ((6, .int (iz z2)) :: (5, .int (iz z3)) :: Lz zl b i) [.int (iz z3)]
  refine z_iload C 1 dL_law_1323 rfl ?_
  refine z_same (tgt := 1330) C dL_law_1325 (by decide) ?_
  refine z_iload C 1 dL_law_1330 rfl ?_
  have kk : VQ E zl (ce + 1) (sl + 6) (m1, m1314, f1) 1347 ((6, .int (iz z2)) :: (5, .int (iz z3)) :: Lz zl b i) [] := by
    refine z_goto (tgt := 1388) C dL_law_1347 (by decide) (z_sub [2, 3, 4, 5, 6] rfl ?_)
    exact k (m1, m1314, f1) (ce + 1) (sl + 6) (LK.mono ⟨k0, kf, ks, kt, kc, d, df, ds, dt, dc, hL2⟩ (by omega)) ⟨⟨by omega, by omega⟩, by omega, by omega⟩
  refine z_if_ne (tgt := 1347) C dL_law_1332 (by decide) (by omega) (fun _ => kk) (fun h0 => ?_)
  obtain ⟨e5, e6⟩ := e3 h0
  refine z_aload_n C 3 dL_law_1335 rfl ?_
  refine z_iconst (z := 0) C dL_law_1336 rfl ?_
  refine z_olald C (x := z2) e5 dL_law_1337 ?_
  refine z_iload C 0 dL_law_1338 rfl ?_
  refine z_i2l C (by omega) dL_law_1340 ?_
  exact z_lc_eq (tgt := 1347) C dL_law_1341 dL_law_1342 (by decide) (by omega) (by omega) (fun _ => kk) (fun h => absurd rfl h)

set_option maxHeartbeats 4000000 in
set_option maxRecDepth 100000 in
theorem law_39 {E : Amb} {zl : Lw} {b Ln : Nat} {xs : Nat → Int32} {ce sl : Nat} {mC mR : Mem} {fo : Nat → Int64} {i : Int} (C : CQx E zl b Ln xs cL_law) (hi : 0 ≤ i ∧ i + 6 ≤ Ln) (hn : i < 90000) (hL : LK i mC mR) (hcs : ce + 1 ≤ 1135 ∧ sl + 6 ≤ 20627) (k : ∀ (m1 : Mq) (ce1 sl1 : Nat), LK (i + 1) m1.1 m1.2.1 → ((ce ≤ ce1 ∧ ce1 ≤ ce + 1) ∧ sl ≤ sl1 ∧ sl1 ≤ sl + 6) → VQ E zl ce1 sl1 m1 1388 (Lz zl b i) []) : VQ E zl ce sl (mC, mR, fo) 1350 (Lz zl b i) [] := by
  obtain ⟨k0, kf, ks, kt, kc, d, df, ds, dt, dc, hL⟩ := hL
  have hch : mC 0 17 < 100000 := by have := hL.2.2.2.1; omega
  have hch0 : 0 ≤ mC 0 17 := hL.2.2.2.1.1
  refine z_aload_n C 3 dL_law_1350 rfl ?_
  refine z_aload_n C 4 dL_law_1351 rfl ?_
  refine z_iload C 0 dL_law_1352 rfl ?_
  refine z_iconst (z := 1) C dL_law_1354 rfl ?_
  refine z_iadd C dL_law_1355 ?_
  refine z_sld C (i := (i + 1)) (by omega) dL_law_1356 ?_
  refine z_callC (st := []) (n := 1) C [.int (iz ((xs (i + 1).toNat).toInt))] (ct_StageRatios_size C.2.2.2.2.2.2.2.1.1 mC ((xs (i + 1).toNat).toInt) (i3r _)) qw1056 qw1 qw1053 rfl rfl ⟨Nat.le_of_ble_eq_true rfl, Nat.le_of_ble_eq_true rfl⟩ (by decide +kernel) qw1054 qw1055 rfl rfl (Nat.le_of_ble_eq_true rfl) ⟨by omega, by omega⟩ dL_law_1357 (fun r m1357 hp1357 => ?_)
  obtain ⟨z1357, rfl, hv, rfl⟩ := hp1357
  show VQ E zl ce sl (mC, mR, fo) 1360 (Lz zl b i) [.int (iz (z1357))]
  refine z_aload_n C 2 dL_law_1360 rfl ?_
  refine z_aload_n C 4 dL_law_1361 rfl ?_
  refine z_iload C 0 dL_law_1362 rfl ?_
  refine z_iconst (z := 1) C dL_law_1364 rfl ?_
  refine z_iadd C dL_law_1365 ?_
  refine z_sld C (i := (i + 1)) (by omega) dL_law_1366 ?_
  refine z_callR (st := [.int (iz (z1357))]) (n := 1) C [.int (iz ((xs (i + 1).toNat).toInt))] (ct_StageRatiosModel_size C.2.2.2.2.2.2.2.1.2.1 mR ((xs (i + 1).toNat).toInt) hL.t01 (i3r _)) qw1742 qw16 qw1739 rfl rfl ⟨Nat.le_of_ble_eq_true rfl, Nat.le_of_ble_eq_true rfl⟩ (by decide +kernel) qw1740 qw1741 rfl rfl (Nat.le_of_ble_eq_true rfl) ⟨by omega, by omega⟩ dL_law_1367 (fun r m1367 hp1367 => ?_)
  obtain ⟨z1367, rfl, hw, rfl⟩ := hp1367
  show VQ E zl ce sl (mC, mup mR 0 0 0, fo) 1370 (Lz zl b i) [.int (iz (z1367)), .int (iz (z1357))]
  have ez : z1357 = z1367 := by rw [← hv, ← hw]; exact hL.size _
  subst ez
  refine z_same (tgt := 1388) C dL_law_1370 (by decide) ?_
  exact k (mC, mup mR 0 0 0, fo) ce sl (LK.mono ⟨k0, kf, ks, kt, kc, d, df, ds, dt, dc, hL.m⟩ (by omega)) ⟨⟨by omega, by omega⟩, by omega, by omega⟩

set_option maxHeartbeats 4000000 in
set_option maxRecDepth 100000 in
theorem law_40 {E : Amb} {zl : Lw} {b Ln : Nat} {xs : Nat → Int32} {ce sl : Nat} {mC mR : Mem} {fo : Nat → Int64} {i : Int} (C : CQx E zl b Ln xs cL_law) (hi : 0 ≤ i ∧ i + 6 ≤ Ln) (hn : i < 90000) (hL : LK i mC mR) (hcs : ce + 1 ≤ 1135 ∧ sl + 6 ≤ 20627) (k : ∀ (m1 : Mq) (ce1 sl1 : Nat), LK (i + 1) m1.1 m1.2.1 → ((ce ≤ ce1 ∧ ce1 ≤ ce + 1) ∧ sl ≤ sl1 ∧ sl1 ≤ sl + 6) → VQ E zl ce1 sl1 m1 1388 (Lz zl b i) []) : VQ E zl ce sl (mC, mR, fo) 1375 (Lz zl b i) [] := by
  obtain ⟨k0, kf, ks, kt, kc, d, df, ds, dt, dc, hL⟩ := hL
  have hch : mC 0 17 < 100000 := by have := hL.2.2.2.1; omega
  have hch0 : 0 ≤ mC 0 17 := hL.2.2.2.1.1
  refine z_aload_n C 3 dL_law_1375 rfl ?_
  refine z_callC (st := []) (n := 0) C [] (ct_StageRatios_trouble C.2.2.2.2.2.2.2.1.1 mC) qw1060 qw1 qw1057 rfl rfl ⟨Nat.le_of_ble_eq_true rfl, Nat.le_of_ble_eq_true rfl⟩ (by decide +kernel) qw1058 qw1059 rfl rfl (Nat.le_of_ble_eq_true rfl) ⟨by omega, by omega⟩ dL_law_1376 (fun r m1376 hp1376 => ?_)
  obtain ⟨z1376, rfl, hv, rfl⟩ := hp1376
  show VQ E zl ce sl (mC, mR, fo) 1379 (Lz zl b i) [.int (iz (z1376))]
  refine z_aload_n C 2 dL_law_1379 rfl ?_
  refine z_callR (st := [.int (iz (z1376))]) (n := 0) C [] (ct_StageRatiosModel_trouble C.2.2.2.2.2.2.2.1.2.1 mR) qw1746 qw16 qw1743 rfl rfl ⟨Nat.le_of_ble_eq_true rfl, Nat.le_of_ble_eq_true rfl⟩ (by decide +kernel) qw1744 qw1745 rfl rfl (Nat.le_of_ble_eq_true rfl) ⟨by omega, by omega⟩ dL_law_1380 (fun r m1380 hp1380 => ?_)
  obtain ⟨z1380, rfl, hw, rfl⟩ := hp1380
  show VQ E zl ce sl (mC, mup mR 0 0 0, fo) 1383 (Lz zl b i) [.int (iz (z1380)), .int (iz (z1376))]
  have ez : z1376 = z1380 := by rw [← hv, ← hw]; exact hL.2.2.1.2.1.symm
  subst ez
  refine z_same (tgt := 1388) C dL_law_1383 (by decide) ?_
  exact k (mC, mup mR 0 0 0, fo) ce sl (LK.mono ⟨k0, kf, ks, kt, kc, d, df, ds, dt, dc, hL.m⟩ (by omega)) ⟨⟨by omega, by omega⟩, by omega, by omega⟩

