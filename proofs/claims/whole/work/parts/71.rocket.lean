/-! the class: rocket -/
def RocketPost (m m' : Mem) (k d df ds dt dc : Nat) (n z : Int) : Prop :=
  (¬ (0 ≤ n ∧ n ≤ m 1 1) ∧ z = -1 ∧ CQ 2 m m') ∨
  ((0 ≤ n ∧ n ≤ m 1 1) ∧ (∃ e, oAll (m 2) n 701 sg0 0 = .inl e ∧ z = -1 ∧ m' 0 18 = 4 ∧ m' 0 19 = e.1 ∧ m' 3 11 = e.2 ∧ (∀ j : Int, j ≠ 18 → j ≠ 19 → m' 0 j = m 0 j) ∧ m' 1 1 = 0 ∧ (∀ j : Int, 2 ≤ j → j ≤ 7 → m' 3 j = m 3 j) ∧ ∀ q : Nat, (q = 2 ∨ q = 5 ∨ q = 6 ∨ (73 ≤ q ∧ q ≠ d ∧ q ≠ df ∧ q ≠ ds ∧ q ≠ dt ∧ q ≠ dc)) → m' q = m q)) ∨
  ((0 ≤ n ∧ n ≤ m 1 1) ∧ (∃ σ, oAll (m 2) n 701 sg0 0 = .inr σ ∧ z = σ.h 5 ∧ SgOk σ ∧ 0 < σ.h 5 ∧ DrC m' d df ds dt dc σ ∧ m' 0 18 = 0 ∧ m' 0 19 = 0 ∧ m' 0 13 = (d : Int) ∧ m' 0 14 = (k : Int) ∧ m' 0 15 = 1 ∧ m' 0 16 = 0 ∧ m' 0 17 = m 0 17 + 1 ∧ m' 1 1 = 0 ∧ (∀ j : Int, 2 ≤ j → j ≤ 7 → m' 3 j = m 3 j) ∧ m' 2 = m 2 ∧ ∀ j : Int, 0 ≤ j → j < 11 → m' 5 j = fiX (m' df) (m' d) j))
set_option maxHeartbeats 4000000 in
set_option maxRecDepth 100000 in
theorem ct_StageRatios_rocket {lau : Launch} {D : va_G} {cy : Nat → ClassId} {aa ad : Nat → Nat} (hI : wI (wC D cy aa ad)) (m : Mem) (k kf ks kt kc : Nat) (d df ds dt dc : Nat) (n : Int) (hci : CI m k kf ks kt kc) (hd : RocketAt d df ds dt dc) (hdk : d ≠ k) (hdr : m 0 14 = (d : Int)) (hcr : m 0 13 = (k : Int)) (hrd : RdOk m) (hb : BtOk (m 2)) (hh : 0 ≤ m 1 1 ∧ m 1 1 ≤ 700) (hn : -2147483648 ≤ n ∧ n ≤ 2147483647) (hch : m 0 17 < 100000) (hch0 : 0 ≤ m 0 17) : MT lau (wC D cy aa ad) yX10_rocket cX10_rocket 4 (some .int) ({ frames := 9, cells := 0, slots := 0, locals := 198 } : Room) m [.ref (aa 0), .int (iz (n))] (Pi (fun z m' => (RocketPost m m' k d df ds dt dc n z) ∧ (z = -1 ∨ m 0 17 ≤ m 0 17) ∧ (∃ k1 k2 k3 k4 k5, CI m' k1 k2 k3 k4 k5 ∧ ((m' 0 13 = m 0 13 ∧ k1 = k ∧ k2 = kf ∧ k3 = ks ∧ k4 = kt ∧ k5 = kc) ∨ (m' 0 13 = (d : Int) ∧ k1 = d ∧ k2 = df ∧ k3 = ds ∧ k4 = dt ∧ k5 = dc))))) := by
  refine v_entry hI RX10 (by decide) rfl (Nat.le_of_ble_eq_true rfl) (fun E hE C X => ?_)
  subst hE
  show V E (wC D cy aa ad) 4 m 0 [(0, .ref (aa 0)), (1, .int (iz (n)))] []
  obtain ⟨hk, hcu, htd, hdw⟩ := id hci
  have hkk : 73 ≤ k ∧ kf = k + 1 ∧ ks = k + 2 ∧ kt = k + 3 ∧ kc = k + 4 ∧ (k = 73 ∨ k = 78) := by unfold RocketAt at hk; omega
  have hdd : 73 ≤ d ∧ df = d + 1 ∧ ds = d + 2 ∧ dt = d + 3 ∧ dc = d + 4 ∧ (d = 73 ∨ d = 78) := by unfold RocketAt at hd; omega
  refine v_iload_n C 1 dX10_rocket_0 rfl ?_
  refine v_if_lt (tgt := 15) C dX10_rocket_1 (by decide) (by omega) (fun c1 => ?_) (fun c1 => ?_)
  · have hno : ¬ (0 ≤ n ∧ n ≤ m 1 1) := by omega
    refine v_aload_n C 0 dX10_rocket_15 rfl ?_
    refine v_iconst (z := 2) C dX10_rocket_16 rfl ?_
    refine v_callV (st := []) (n := 1) (q := 0) C [.int (iz (2))] (ct_StageRatios_refuse C.2.2.2.2.2.2.1 m (2) ) lC0 (eC0 _) rfl qw502 qw1 qw499 rfl rfl ⟨Nat.le_of_ble_eq_true rfl, Nat.le_of_ble_eq_true rfl⟩ (by decide +kernel) qw501 qp0 rfl rfl (Nat.le_of_ble_eq_true rfl) dX10_rocket_17 (fun r m2 hq2 => ?_)
    obtain ⟨z2, rfl, rfl, hq2⟩ := hq2
    show V E (wC D cy aa ad) 4 m2 20 [(0, .ref (aa 0)), (1, .int (iz (n)))] [.int (iz (-1))]
    refine v_iret C X rfl dX10_rocket_20 ⟨_, rfl, ?_, ?_⟩
    · rw [← hq2]
      exact Or.inl ⟨hno, rfl, CQ.of (fun _ _ => rfl)⟩
    · rw [← hq2]
      exact ⟨Or.inl rfl, k, kf, ks, kt, kc, hci.of (fun _ _ => rfl), Or.inl ⟨mup_j _ _ (by decide), rfl, rfl, rfl, rfl, rfl⟩⟩
  · refine v_iload_n C 1 dX10_rocket_4 rfl ?_
    refine v_aload_n C 0 dX10_rocket_5 rfl ?_
    refine v_get C 0 0 lC0 (eC0 _) rfl inX10 (by decide) rfl qw419 dX10_rocket_6 ?_
    refine v_get C 1 1 lC1 (eC1 _) rfl inX8 (by decide) rfl qw38 dX10_rocket_9 ?_
    refine v_icmp_le (tgt := 21) C dX10_rocket_12 (by decide) (by omega) (by omega) (fun c3 => ?_) (fun c3 => ?_)
    · have hyn : 0 ≤ n ∧ n ≤ m 1 1 := by omega
      refine v_aload_n C 0 dX10_rocket_21 rfl ?_
      refine v_get C 0 1 lC0 (eC0 _) rfl inX10 (by decide) rfl qw420 dX10_rocket_22 ?_
      refine v_iload_n C 1 dX10_rocket_25 rfl ?_
      refine v_aload_n C 0 dX10_rocket_26 rfl ?_
      refine v_get C 0 14 lC0 (eC0 _) rfl inX10 (by decide) rfl qw433 dX10_rocket_27 ?_
      refine v_st (st1 := [.ref (aa d), .int (iz (n)), .ref (aa 3)]) (by rw [show (m 0 14).toNat = d from by omega]) ?_
      refine v_callV (st := []) (n := 2) (q := 3) C [.int (iz (n)), .ref (aa d)] (ct_Reader_read C.2.2.2.2.2.2.1 m (m 2) (n) (d) (df) (ds) (dt) (dc) (by exact hb) (by omega) (by rfl) (by exact hrd) hd) lC3 (eC3 _) rfl qw506 qw3 qw503 rfl rfl ⟨Nat.le_of_ble_eq_true rfl, Nat.le_of_ble_eq_true rfl⟩ (by decide +kernel) qw504 qw505 rfl rfl (Nat.le_of_ble_eq_true rfl) dX10_rocket_30 (fun r m4 hq4 => ?_)
      obtain ⟨z4, rfl, ⟨rfl, hq4, hm4⟩ | ⟨rfl, hq4, hm4⟩⟩ := hq4
      · show V E (wC D cy aa ad) 4 m4 33 [(0, .ref (aa 0)), (1, .int (iz (n)))] [.int (iz (1))]
        have hF := hm4.2
        obtain ⟨σ, he⟩ := hq4
        have hM := hm4.1.r he
        have hSg := oAll_i _ _ _ _ he hyn.1 sg0_ok
        refine v_istore_n (L1 := [(2, .int (iz (1))), (0, .ref (aa 0)), (1, .int (iz (n)))]) C dX10_rocket_33 (by decide) rfl ?_
        refine v_aload_n C 1 dX10_rocket_34 rfl ?_
        refine v_get C 0 0 lC0 (eC0 _) rfl inX10 (by decide) rfl qw419 dX10_rocket_35 ?_
        refine v_callV (st := []) (n := 0) (q := 1) C [] (ct_Tape_clear C.2.2.2.2.2.2.1 m4  ) lC1 (eC1 _) rfl qw626 qw2 qw623 rfl rfl ⟨Nat.le_of_ble_eq_true rfl, Nat.le_of_ble_eq_true rfl⟩ (by decide +kernel) qw624 qw625 rfl rfl (Nat.le_of_ble_eq_true rfl) dX10_rocket_38 (fun r m5 hq5 => ?_)
        obtain ⟨rfl, hq5⟩ := hq5
        show V E (wC D cy aa ad) 4 m5 41 [(2, .int (iz (1))), (0, .ref (aa 0)), (1, .int (iz (n)))] []
        have z38 : ∀ q, q ≠ 1 → m5 q = m4 q := fun q h => by rw [← hq5, mup_k _ _ _ h]
        have l38 : m5 1 1 = 0 := by rw [← hq5, mup_s]
        refine v_aload_n C 1 dX10_rocket_41 rfl ?_
        refine v_aload_n C 1 dX10_rocket_42 rfl ?_
        refine v_get C 0 1 lC0 (eC0 _) rfl inX10 (by decide) rfl qw420 dX10_rocket_43 ?_
        refine v_get C 3 10 lC3 (eC3 _) rfl inX5 (by decide) rfl qw141 dX10_rocket_46 ?_
        refine v_put C 0 19 (m5 3 10) 19 rfl lC0 (eC0 _) rfl inX10 tyX10 tyX10_ok nmX10 (by decide) qw438 rfl rfl rfl (Nat.le_of_ble_eq_true rfl) (by rw [mup_r]; exact (eC0 _)) dX10_rocket_49 (fun m6 em6 => ?_)
        have z49 : ∀ q, q ≠ 0 → m6 q = m5 q := fun q h => by rw [em6, mup_k _ _ _ h]
        have y49 : ∀ j : Int, j ≠ 19 → m6 0 j = m 0 j := fun j h => by rw [em6, mup_j _ _ h, z38 0 (by decide), hF.2.2 0 (by decide) (by decide) (by decide) (by omega) (by omega) (by omega) (by omega) (by omega)]
        have c49 : m6 0 13 = (k : Int) := by rw [y49 13 (by decide)]; exact hcr
        have d49 : m6 0 14 = (d : Int) := by rw [y49 14 (by decide)]; exact hdr
        have n49 : m6 0 19 = m4 3 10 := by rw [em6, mup_s, z38 3 (by decide)]
        have f49 : ∀ q, q ≠ 0 → q ≠ 1 → q ≠ 3 → q ≠ 4 → q ≠ d → q ≠ df → q ≠ ds → q ≠ dt → q ≠ dc → m6 q = m q := fun q a1 a2 a3 a4 a5 a6 a7 a8 a9 => by rw [z49 q a1, z38 q a2]; exact hF.2.2 q a2 a3 a4 a5 a6 a7 a8 a9
        refine v_iload_n C 0 dX10_rocket_52 rfl ?_
        refine v_if_ne (tgt := 62) C dX10_rocket_53 (by decide) (by omega) (fun c7 => ?_) (fun c7 => by exact absurd c7 (by decide))
        refine v_aload_n C 1 dX10_rocket_62 rfl ?_
        refine v_get C 0 13 lC0 (eC0 _) rfl inX10 (by decide) rfl qw432 dX10_rocket_63 ?_
        refine v_st (st1 := [.ref (aa k)]) (by rw [show (m6 0 13).toNat = k from by omega]) ?_
        refine v_astore_n (L1 := [(3, .ref (aa k)), (2, .int (iz (1))), (0, .ref (aa 0)), (1, .int (iz (n)))]) C dX10_rocket_66 (by decide) rfl ?_
        refine v_aload_n C 2 dX10_rocket_67 rfl ?_
        refine v_aload_n C 2 dX10_rocket_68 rfl ?_
        refine v_get C 0 14 lC0 (eC0 _) rfl inX10 (by decide) rfl qw433 dX10_rocket_69 ?_
        refine v_st (st1 := [.ref (aa d), .ref (aa 0)]) (by rw [show (m6 0 14).toNat = d from by omega]) ?_
        refine v_put C 0 13 (((d : Nat) : Int)) 13 rfl lC0 (eC0 _) rfl inX10 tyX10 tyX10_ok nmX10 (by decide) qw432 rfl rfl rfl (Nat.le_of_ble_eq_true rfl) (by rw [mup_r]; exact (eC0 _)) dX10_rocket_72 (fun m8 em8 => ?_)
        refine v_aload_n C 2 dX10_rocket_75 rfl ?_
        refine v_aload_n C 0 dX10_rocket_76 rfl ?_
        refine v_put C 0 14 (((k : Nat) : Int)) 14 rfl lC0 (eC0 _) rfl inX10 tyX10 tyX10_ok nmX10 (by decide) qw433 rfl rfl rfl (Nat.le_of_ble_eq_true rfl) (by rw [mup_r]; exact (eC0 _)) dX10_rocket_77 (fun m9 em9 => ?_)
        refine v_aload_n C 2 dX10_rocket_80 rfl ?_
        refine v_iconst (z := 1) C dX10_rocket_81 rfl ?_
        refine v_put C 0 15 (1) 15 rfl lC0 (eC0 _) rfl inX10 tyX10 tyX10_ok nmX10 (by decide) qw434 rfl (by decide) rfl (Nat.le_of_ble_eq_true rfl) (by rw [mup_r]; exact (eC0 _)) dX10_rocket_82 (fun m10 em10 => ?_)
        refine v_aload_n C 2 dX10_rocket_85 rfl ?_
        refine v_iconst (z := 0) C dX10_rocket_86 rfl ?_
        refine v_put C 0 16 (0) 16 rfl lC0 (eC0 _) rfl inX10 tyX10 tyX10_ok nmX10 (by decide) qw435 rfl rfl rfl (Nat.le_of_ble_eq_true rfl) (by rw [mup_r]; exact (eC0 _)) dX10_rocket_87 (fun m11 em11 => ?_)
        refine v_aload_n C 2 dX10_rocket_90 rfl ?_
        refine v_get C 0 9 lC0 (eC0 _) rfl inX10 (by decide) rfl qw428 dX10_rocket_91 ?_
        refine v_callV (st := []) (n := 0) (q := 8) C [] (ct_Choice_forget C.2.2.2.2.2.2.1 m11  ) lC8 (eC8 _) rfl qw630 qw12 qw627 rfl rfl ⟨Nat.le_of_ble_eq_true rfl, Nat.le_of_ble_eq_true rfl⟩ (by decide +kernel) qw628 qw629 rfl rfl (Nat.le_of_ble_eq_true rfl) dX10_rocket_94 (fun r m12 hq12 => ?_)
        obtain ⟨rfl, hq12⟩ := hq12
        show V E (wC D cy aa ad) 4 m12 97 [(3, .ref (aa k)), (2, .int (iz (1))), (0, .ref (aa 0)), (1, .int (iz (n)))] []
        have c94 : m12 0 13 = (d : Int) := by rw [← hq12, mup_k _ _ _ (by decide), em11, mup_j _ _ (by decide), em10, mup_j _ _ (by decide), em9, mup_j _ _ (by decide), em8, mup_s]
        have d94 : m12 0 14 = (k : Int) := by rw [← hq12, mup_k _ _ _ (by decide), em11, mup_j _ _ (by decide), em10, mup_j _ _ (by decide), em9, mup_s]
        have t94 : m12 0 15 = 1 := by rw [← hq12, mup_k _ _ _ (by decide), em11, mup_j _ _ (by decide), em10, mup_s]
        have k94 : m12 0 16 = 0 := by rw [← hq12, mup_k _ _ _ (by decide), em11, mup_s]
        have o94 : ∀ j : Int, j ≠ 13 → j ≠ 14 → j ≠ 15 → j ≠ 16 → m12 0 j = m6 0 j := fun j a1 a2 a3 a4 => by rw [← hq12, mup_k _ _ _ (by decide), em11, mup_j _ _ a4, em10, mup_j _ _ a3, em9, mup_j _ _ a2, em8, mup_j _ _ a1]
        have z94 : ∀ q, q ≠ 0 → q ≠ 8 → m12 q = m6 q := fun q a1 a2 => by rw [← hq12, mup_k _ _ _ a2, em11, mup_k _ _ _ a1, em10, mup_k _ _ _ a1, em9, mup_k _ _ _ a1, em8, mup_k _ _ _ a1]
        have e94 : m12 8 5 = 0 := by rw [← hq12, mup_s]
        have dr94 : DrC m12 d df ds dt dc σ := by
          have y := hM.1
          unfold DrC at y ⊢
          rw [z94 3 (by decide) (by decide), z94 4 (by decide) (by decide), z94 d (by omega) (by omega), z94 df (by omega) (by omega), z94 ds (by omega) (by omega), z94 dt (by omega) (by omega), z94 dc (by omega) (by omega), z49 3 (by decide), z49 4 (by decide), z49 d (by omega), z49 df (by omega), z49 ds (by omega), z49 dt (by omega), z49 dc (by omega), z38 3 (by decide), z38 4 (by decide), z38 d (by omega), z38 df (by omega), z38 ds (by omega), z38 dt (by omega), z38 dc (by omega)]; exact y
        have rk94 := dr94.rk hSg.1 hSg.2
        refine v_aload_n C 2 dX10_rocket_97 rfl ?_
        refine v_callV (st := []) (n := 0) (q := 0) C [] (ct_StageRatios_layFirst C.2.2.2.2.2.2.1 m12 (d) (df) (ds) (dt) (dc) hd (by exact c94) (by exact rk94.1)) lC0 (eC0 _) rfl qw634 qw1 qw631 rfl rfl ⟨Nat.le_of_ble_eq_true rfl, Nat.le_of_ble_eq_true rfl⟩ (by decide +kernel) qw633 qp15 rfl rfl (Nat.le_of_ble_eq_true rfl) dX10_rocket_98 (fun r m13 hq13 => ?_)
        obtain ⟨rfl, hq13⟩ := hq13
        show V E (wC D cy aa ad) 4 m13 101 [(3, .ref (aa k)), (2, .int (iz (1))), (0, .ref (aa 0)), (1, .int (iz (n)))] []
        have dr98 : DrC m13 d df ds dt dc σ := by
          have y := dr94
          have w := hq13.2.2.2
          unfold DrC at y ⊢
          rw [w 3 (by decide) (by decide), w 4 (by decide) (by decide), w d (by omega) (by omega), w df (by omega) (by omega), w ds (by omega) (by omega), w dt (by omega) (by omega), w dc (by omega) (by omega)]; exact y
        have rk98 := dr98.rk hSg.1 hSg.2
        have c98 : m13 0 13 = (d : Int) := by rw [hq13.2.1 13 (by decide)]; exact c94
        refine v_aload_n C 2 dX10_rocket_101 rfl ?_
        refine v_aload_n C 2 dX10_rocket_102 rfl ?_
        refine v_get C 0 13 lC0 (eC0 _) rfl inX10 (by decide) rfl qw432 dX10_rocket_103 ?_
        refine v_st (st1 := [.ref (aa d), .ref (aa 0)]) (by rw [show (m13 0 13).toNat = d from by omega]) ?_
        refine v_get C d 5 (RocketAt.l0 hd) (RocketAt.e0 hd _) rfl inX6 (by decide) rfl qw387 dX10_rocket_106 ?_
        refine v_callV (st := []) (n := 1) (q := 0) C [.int (iz (m13 d 5))] (ct_StageRatios_answer C.2.2.2.2.2.2.1 m13 (m13 d 5) ) lC0 (eC0 _) rfl qw640 qw1 qw637 rfl rfl ⟨Nat.le_of_ble_eq_true rfl, Nat.le_of_ble_eq_true rfl⟩ (by decide +kernel) qw639 qp16 rfl rfl (Nat.le_of_ble_eq_true rfl) dX10_rocket_109 (fun r m14 hq14 => ?_)
        obtain ⟨z14, rfl, rfl, hq14⟩ := hq14
        show V E (wC D cy aa ad) 4 m14 112 [(3, .ref (aa k)), (2, .int (iz (1))), (0, .ref (aa 0)), (1, .int (iz (n)))] [.int (iz ((m13 d 5)))]
        refine v_iret C X rfl dX10_rocket_112 ⟨_, rfl, ?_, ?_⟩
        · rw [← hq14]
          obtain ⟨w17, w0, w5, wq⟩ := hq13
          have z : ∀ q, q ≠ 0 → mup m13 0 18 0 q = m13 q := fun q h => mup_k _ _ _ h
          have z0 : ∀ j : Int, j ≠ 18 → mup m13 0 18 0 0 j = m13 0 j := fun j h => mup_j _ _ h
          refine Or.inr (Or.inr ⟨hyn, σ, he, dr98.2.1, hSg.1, hSg.2, ?_, mup_s _ _ _ _, ?_, by rw [z0 13 (by decide)]; exact c98, by rw [z0 14 (by decide), w0 14 (by decide)]; exact d94, by rw [z0 15 (by decide), w0 15 (by decide)]; exact t94, by rw [z0 16 (by decide), w0 16 (by decide)]; exact k94, by rw [z0 17 (by decide), w17, o94 17 (by decide) (by decide) (by decide) (by decide), y49 17 (by decide)], ?_, fun j a1 a2 => ?_, ?_, fun j a1 a2 => ?_⟩)
          · have y := dr98
            unfold DrC at y ⊢
            rw [z 3 (by decide), z 4 (by decide), z d (by omega), z df (by omega), z ds (by omega), z dt (by omega), z dc (by omega)]; exact y
          · rw [z0 19 (by decide), w0 19 (by decide), o94 19 (by decide) (by decide) (by decide) (by decide), n49, hM.2, mup_s]
          · rw [z 1 (by decide), wq 1 (by decide) (by decide), z94 1 (by decide) (by decide), z49 1 (by decide)]; exact l38
          · rw [z 3 (by decide), wq 3 (by decide) (by decide), z94 3 (by decide) (by decide), z49 3 (by decide), z38 3 (by decide)]; exact hF.2.1 j a1 a2
          · rw [z 2 (by decide), wq 2 (by decide) (by decide), z94 2 (by decide) (by decide), f49 2 (by decide) (by decide) (by decide) (by decide) (by omega) (by omega) (by omega) (by omega) (by omega)]
          · rw [z 5 (by decide), w5 j a1 a2, z d (by omega), z df (by omega), wq d (by omega) (by omega), wq df (by omega) (by omega)]
        · rw [← hq14]
          obtain ⟨w17, w0, w5, wq⟩ := hq13
          have z : ∀ q, q ≠ 0 → mup m13 0 18 0 q = m13 q := fun q h => mup_k _ _ _ h
          have z0 : ∀ j : Int, j ≠ 18 → mup m13 0 18 0 0 j = m13 0 j := fun j h => mup_j _ _ h
          have e17 : mup m13 0 18 0 0 17 = m 0 17 + 1 := by rw [z0 17 (by decide), w17, o94 17 (by decide) (by decide) (by decide) (by decide), y49 17 (by decide)]
          have e12 : mup m13 0 18 0 12 = m 12 := by rw [z 12 (by decide), wq 12 (by decide) (by decide), z94 12 (by decide) (by decide), f49 12 (by decide) (by decide) (by decide) (by decide) (by omega) (by omega) (by omega) (by omega) (by omega)]
          have e16 : mup m13 0 18 0 0 16 = 0 := by rw [z0 16 (by decide), w0 16 (by decide)]; exact k94
          have e8 : mup m13 0 18 0 8 5 = 0 := by rw [z 8 (by decide), wq 8 (by decide) (by decide)]; exact e94
          refine ⟨Or.inr (Int.le_refl _), d, df, ds, dt, dc, ⟨hd, by rw [z0 13 (by decide), c98]; omega, Or.inr ⟨by rw [z0 15 (by decide), w0 15 (by decide)]; exact t94, ?_⟩, by rw [e12, e17]; omega⟩, Or.inr ⟨by rw [z0 13 (by decide)]; exact c98, rfl, rfl, rfl, rfl, rfl⟩⟩
          have rkz := rk98.fr (z d (by omega)) (z df (by omega)) (z ds (by omega)) (z dt (by omega)) (z dc (by omega))
          unfold TI ChOk OuOk
          rw [e17, e12, e16, e8]
          refine ⟨rkz, ?_, ⟨by omega, fun y => absurd rfl y⟩, ⟨by omega, fun y => by omega⟩, by omega, by omega, fun r r0 r1 => by omega⟩
          refine (fiX_ok (fa := mup m13 0 18 0 df) (R := mup m13 0 18 0 d) rkz.2.1 rkz.2.2.2.2.2.2.2.1 rkz.2.2.2.2.2.2.2.2).cg11 (fun j a1 a2 => ?_)
          rw [z 5 (by decide), w5 j a1 a2, z d (by omega), z df (by omega), wq d (by omega) (by omega), wq df (by omega) (by omega)]
      · show V E (wC D cy aa ad) 4 m4 33 [(0, .ref (aa 0)), (1, .int (iz (n)))] [.int (iz (0))]
        have hF := hm4.2
        obtain ⟨e, he⟩ := IsR.n hq4
        have hM := hm4.1.l he
        refine v_istore_n (L1 := [(2, .int (iz (0))), (0, .ref (aa 0)), (1, .int (iz (n)))]) C dX10_rocket_33 (by decide) rfl ?_
        refine v_aload_n C 1 dX10_rocket_34 rfl ?_
        refine v_get C 0 0 lC0 (eC0 _) rfl inX10 (by decide) rfl qw419 dX10_rocket_35 ?_
        refine v_callV (st := []) (n := 0) (q := 1) C [] (ct_Tape_clear C.2.2.2.2.2.2.1 m4  ) lC1 (eC1 _) rfl qw626 qw2 qw623 rfl rfl ⟨Nat.le_of_ble_eq_true rfl, Nat.le_of_ble_eq_true rfl⟩ (by decide +kernel) qw624 qw625 rfl rfl (Nat.le_of_ble_eq_true rfl) dX10_rocket_38 (fun r m15 hq15 => ?_)
        obtain ⟨rfl, hq15⟩ := hq15
        show V E (wC D cy aa ad) 4 m15 41 [(2, .int (iz (0))), (0, .ref (aa 0)), (1, .int (iz (n)))] []
        have z38 : ∀ q, q ≠ 1 → m15 q = m4 q := fun q h => by rw [← hq15, mup_k _ _ _ h]
        have l38 : m15 1 1 = 0 := by rw [← hq15, mup_s]
        refine v_aload_n C 1 dX10_rocket_41 rfl ?_
        refine v_aload_n C 1 dX10_rocket_42 rfl ?_
        refine v_get C 0 1 lC0 (eC0 _) rfl inX10 (by decide) rfl qw420 dX10_rocket_43 ?_
        refine v_get C 3 10 lC3 (eC3 _) rfl inX5 (by decide) rfl qw141 dX10_rocket_46 ?_
        refine v_put C 0 19 (m15 3 10) 19 rfl lC0 (eC0 _) rfl inX10 tyX10 tyX10_ok nmX10 (by decide) qw438 rfl rfl rfl (Nat.le_of_ble_eq_true rfl) (by rw [mup_r]; exact (eC0 _)) dX10_rocket_49 (fun m16 em16 => ?_)
        have z49 : ∀ q, q ≠ 0 → m16 q = m15 q := fun q h => by rw [em16, mup_k _ _ _ h]
        have y49 : ∀ j : Int, j ≠ 19 → m16 0 j = m 0 j := fun j h => by rw [em16, mup_j _ _ h, z38 0 (by decide), hF.2.2 0 (by decide) (by decide) (by decide) (by omega) (by omega) (by omega) (by omega) (by omega)]
        have c49 : m16 0 13 = (k : Int) := by rw [y49 13 (by decide)]; exact hcr
        have d49 : m16 0 14 = (d : Int) := by rw [y49 14 (by decide)]; exact hdr
        have n49 : m16 0 19 = m4 3 10 := by rw [em16, mup_s, z38 3 (by decide)]
        have f49 : ∀ q, q ≠ 0 → q ≠ 1 → q ≠ 3 → q ≠ 4 → q ≠ d → q ≠ df → q ≠ ds → q ≠ dt → q ≠ dc → m16 q = m q := fun q a1 a2 a3 a4 a5 a6 a7 a8 a9 => by rw [z49 q a1, z38 q a2]; exact hF.2.2 q a2 a3 a4 a5 a6 a7 a8 a9
        refine v_iload_n C 0 dX10_rocket_52 rfl ?_
        refine v_if_ne (tgt := 62) C dX10_rocket_53 (by decide) (by omega) (fun c17 => by exact absurd c17 (by decide)) (fun c17 => ?_)
        refine v_aload_n C 1 dX10_rocket_56 rfl ?_
        refine v_iconst (z := 4) C dX10_rocket_57 rfl ?_
        refine v_callV (st := []) (n := 1) (q := 0) C [.int (iz (4))] (ct_StageRatios_refuse C.2.2.2.2.2.2.1 m16 (4) ) lC0 (eC0 _) rfl qw502 qw1 qw499 rfl rfl ⟨Nat.le_of_ble_eq_true rfl, Nat.le_of_ble_eq_true rfl⟩ (by decide +kernel) qw501 qp0 rfl rfl (Nat.le_of_ble_eq_true rfl) dX10_rocket_58 (fun r m18 hq18 => ?_)
        obtain ⟨z18, rfl, rfl, hq18⟩ := hq18
        show V E (wC D cy aa ad) 4 m18 61 [(2, .int (iz (0))), (0, .ref (aa 0)), (1, .int (iz (n)))] [.int (iz (-1))]
        refine v_iret C X rfl dX10_rocket_61 ⟨_, rfl, ?_, ?_⟩
        · rw [← hq18]
          have z : ∀ q, q ≠ 0 → mup m16 0 18 4 q = m16 q := fun q h => mup_k _ _ _ h
          refine Or.inr (Or.inl ⟨hyn, e, he, rfl, mup_s _ _ _ _, by rw [mup_j _ _ (by decide), n49]; exact hM.1, by rw [z 3 (by decide), z49 3 (by decide), z38 3 (by decide)]; exact hM.2, fun j a1 a2 => by rw [mup_j _ _ a1]; exact y49 j a2, by rw [z 1 (by decide), z49 1 (by decide)]; exact l38, fun j a1 a2 => by rw [z 3 (by decide), z49 3 (by decide), z38 3 (by decide)]; exact hF.2.1 j a1 a2, fun q hq => by rw [z q (by omega)]; exact f49 q (by omega) (by omega) (by omega) (by omega) (by omega) (by omega) (by omega) (by omega) (by omega)⟩)
        · rw [← hq18]
          have z : ∀ q, q ≠ 0 → mup m16 0 18 4 q = m16 q := fun q h => mup_k _ _ _ h
          have z0 : ∀ j : Int, j ≠ 18 → j ≠ 19 → mup m16 0 18 4 0 j = m 0 j := fun j h h2 => by rw [mup_j _ _ h]; exact y49 j h2
          have zq : ∀ q, q ≠ 0 → q ≠ 1 → q ≠ 3 → q ≠ 4 → q ≠ d → q ≠ df → q ≠ ds → q ≠ dt → q ≠ dc → mup m16 0 18 4 q = m q := fun q a1 a2 a3 a4 a5 a6 a7 a8 a9 => by rw [z q a1]; exact f49 q a1 a2 a3 a4 a5 a6 a7 a8 a9
          refine ⟨Or.inl rfl, k, kf, ks, kt, kc, ⟨hk, by rw [z0 13 (by decide) (by decide)]; exact hcu, ?_, ?_⟩, Or.inl ⟨z0 13 (by decide) (by decide), rfl, rfl, rfl, rfl, rfl⟩⟩
          · rw [z0 15 (by decide) (by decide)]
            refine htd.imp (fun a => a) (fun a => ⟨a.1, ?_⟩)
            have ek : mup m16 0 18 4 k = m k := zq k (by omega) (by omega) (by omega) (by omega) (by omega) (by omega) (by omega) (by omega) (by omega)
            have ekf : mup m16 0 18 4 kf = m kf := zq kf (by omega) (by omega) (by omega) (by omega) (by omega) (by omega) (by omega) (by omega) (by omega)
            have ei := a.2
            unfold TI at ei ⊢
            unfold ChOk OuOk at ei ⊢
            rw [ek, ekf, zq 5 (by omega) (by omega) (by omega) (by omega) (by omega) (by omega) (by omega) (by omega) (by omega), zq 6 (by omega) (by omega) (by omega) (by omega) (by omega) (by omega) (by omega) (by omega) (by omega), zq 8 (by omega) (by omega) (by omega) (by omega) (by omega) (by omega) (by omega) (by omega) (by omega), zq 9 (by omega) (by omega) (by omega) (by omega) (by omega) (by omega) (by omega) (by omega) (by omega), zq 12 (by omega) (by omega) (by omega) (by omega) (by omega) (by omega) (by omega) (by omega) (by omega), zq 14 (by omega) (by omega) (by omega) (by omega) (by omega) (by omega) (by omega) (by omega) (by omega), z0 16 (by decide) (by decide), z0 17 (by decide) (by decide)]
            exact ⟨ei.1.fr ek ekf (zq ks (by omega) (by omega) (by omega) (by omega) (by omega) (by omega) (by omega) (by omega) (by omega)) (zq kt (by omega) (by omega) (by omega) (by omega) (by omega) (by omega) (by omega) (by omega) (by omega)) (zq kc (by omega) (by omega) (by omega) (by omega) (by omega) (by omega) (by omega) (by omega) (by omega)), ei.2⟩
          · rw [zq 12 (by omega) (by omega) (by omega) (by omega) (by omega) (by omega) (by omega) (by omega) (by omega), z0 17 (by decide) (by decide)]; exact hdw
    · have hno : ¬ (0 ≤ n ∧ n ≤ m 1 1) := by omega
      refine v_aload_n C 0 dX10_rocket_15 rfl ?_
      refine v_iconst (z := 2) C dX10_rocket_16 rfl ?_
      refine v_callV (st := []) (n := 1) (q := 0) C [.int (iz (2))] (ct_StageRatios_refuse C.2.2.2.2.2.2.1 m (2) ) lC0 (eC0 _) rfl qw502 qw1 qw499 rfl rfl ⟨Nat.le_of_ble_eq_true rfl, Nat.le_of_ble_eq_true rfl⟩ (by decide +kernel) qw501 qp0 rfl rfl (Nat.le_of_ble_eq_true rfl) dX10_rocket_17 (fun r m19 hq19 => ?_)
      obtain ⟨z19, rfl, rfl, hq19⟩ := hq19
      show V E (wC D cy aa ad) 4 m19 20 [(0, .ref (aa 0)), (1, .int (iz (n)))] [.int (iz (-1))]
      refine v_iret C X rfl dX10_rocket_20 ⟨_, rfl, ?_, ?_⟩
      · rw [← hq19]
        exact Or.inl ⟨hno, rfl, CQ.of (fun _ _ => rfl)⟩
      · rw [← hq19]
        exact ⟨Or.inl rfl, k, kf, ks, kt, kc, hci.of (fun _ _ => rfl), Or.inl ⟨mup_j _ _ (by decide), rfl, rfl, rfl, rfl, rfl⟩⟩
