/-! the reference's reader: a line, the whole text -/
theorem WdS.eq {b : Int → Int} {n p : Int} {bs : List Int32} (h : WdS b n bs (.inr p)) : kdZ b n p = 1 ∧ wlZ b n p = wdC bs := by
  obtain ⟨q, e, k, w⟩ := h
  cases e; exact ⟨k, w⟩
theorem oLine_r {b : Int → Int} {n p : Int} {σ : Sg} (h : WdS b n w_rocket (.inr p)) : oLine b n σ p = oRocket b n σ p := (if_neg (fun y => y h.eq.1)).trans (if_pos h.eq.2)
theorem oLine_s {b : Int → Int} {n p : Int} {σ : Sg} (h1 : ¬ WdS b n w_rocket (.inr p)) (h : WdS b n w_stage (.inr p)) : oLine b n σ p = oStage b n σ p := (if_neg (fun y => y h.eq.1)).trans <| (if_neg (fun y => h1 ⟨p, rfl, h.eq.1, y⟩)).trans (if_pos h.eq.2)
theorem oLine_f {b : Int → Int} {n p : Int} {σ : Sg} (h1 : ¬ WdS b n w_rocket (.inr p)) (h2 : ¬ WdS b n w_stage (.inr p)) (h : WdS b n w_fail (.inr p)) : oLine b n σ p = oFail b n σ p := (if_neg (fun y => y h.eq.1)).trans <| (if_neg (fun y => h1 ⟨p, rfl, h.eq.1, y⟩)).trans <| (if_neg (fun y => h2 ⟨p, rfl, h.eq.1, y⟩)).trans (if_pos h.eq.2)
theorem oLine_n {b : Int → Int} {n p : Int} {σ : Sg} (h1 : ¬ WdS b n w_rocket (.inr p)) (h2 : ¬ WdS b n w_stage (.inr p)) (h3 : ¬ WdS b n w_fail (.inr p)) : oLine b n σ p = .inl (1, skZ b n p) := by
  by_cases k : kdZ b n p = 1
  · exact (if_neg (fun y => y k)).trans <| (if_neg (fun y => h1 ⟨p, rfl, k, y⟩)).trans <| (if_neg (fun y => h2 ⟨p, rfl, k, y⟩)).trans (if_neg (fun y => h3 ⟨p, rfl, k, y⟩))
  · exact if_pos k
noncomputable def finO (b : Int → Int) (n l : Int) (y : Rs (Sg × Int)) : Rs Sg := bnd y fun x => if kdZ b n x.2 = 0 then (if 0 < Sg.h x.1 5 then .inr x.1 else .inl (6, skZ b n x.2)) else if kdZ b n x.2 ≠ 3 then .inl (1, skZ b n x.2) else oAll b n (701 - (l + 1)).toNat x.1 (nxZ b n x.2)
theorem oAll_f {b : Int → Int} {n p l : Int} {σ : Sg} (h : l ≤ 700) : oAll b n (701 - l).toNat σ p = finO b n l (oLine b n σ p) := oAll_go h
def AllS (m : Mem) (y : Rs Sg) : Prop := match y with
  | .inl e => m 0 31 = e.1 ∧ 0 < e.1 ∧ e.1 ≤ 6 ∧ m 0 29 = e.2
  | .inr σ => m 0 31 = 0 ∧ DrR m σ
theorem LnS.t {m : Mem} {b : Int → Int} {n : Int} {y : Rs (Sg × Int)} (h : LnS m b n y) : TkS m b n (sndR y) := by
  cases y with
  | inl e => exact h
  | inr x => exact h.1
theorem LnS.d {m : Mem} {b : Int → Int} {n : Int} {y : Rs (Sg × Int)} {x : Sg × Int} (h : LnS m b n y) (e : y = .inr x) : TkS m b n (.inr x.2) ∧ DrR m x.1 := by rw [e] at h; exact h
theorem AllS.l {m : Mem} {b : Int → Int} {n : Int} {e : Int × Int} (h : TkS m b n (.inl e)) : AllS m (.inl e) := ⟨h.1, h.2.1, h.2.2.1, h.2.2.2.1⟩
set_option maxHeartbeats 4000000 in
set_option maxRecDepth 100000 in
theorem ct_StageRatiosModel_readLine {lau : Launch} {D : va_G} {cy : Nat → ClassId} {aa ad : Nat → Nat} (hI : wI (wR D cy aa ad)) (m : Mem) (b : Int → Int) (n p : Int) (σ : Sg) (hB : BtR m b n) (hx : TkS m b n (.inr p)) (hσ : SgOk σ) (hD : DrR m σ) : MT lau (wR D cy aa ad) yX11_readLine cX11_readLine 1 (none) ({ frames := 7, cells := 0, slots := 0, locals := 164 } : Room) m [.ref (aa 0)] (Pv (fun m' => LnS m' b n (oLine b n σ p) ∧ FL m m')) := by
  refine v_entry hI RX11 (by decide) rfl (Nat.le_of_ble_eq_true rfl) (fun E hE C X => ?_)
  subst hE
  show V E (wR D cy aa ad) 1 m 0 [(0, .ref (aa 0))] []
  refine v_aload_n C 0 dX11_readLine_0 rfl ?_
  refine v_ldcs C 19 rfl dX11_readLine_1 ?_
  refine v_callV (st := []) (n := 1) (q := 0) C [.ref (ad (2 * 19))] (ct_StageRatiosModel_isWord C.2.2.2.2.2.2.1 m (b) (n) (.inr p) (19) ("StageRatiosModel") (159) ("rocket") (w_rocket) (by exact hx) rfl) lR0 (eR0 _) rfl qw1372 qw16 qw1369 rfl rfl ⟨Nat.le_of_ble_eq_true rfl, Nat.le_of_ble_eq_true rfl⟩ (by decide +kernel) qw1371 qp43 rfl rfl (Nat.le_of_ble_eq_true rfl) dX11_readLine_3 (fun r m1 hq1 => ?_)
  obtain ⟨z1, rfl, ⟨rfl, hq1, rfl⟩ | ⟨rfl, hq1, rfl⟩⟩ := hq1
  · show V E (wR D cy aa ad) 1 m 6 [(0, .ref (aa 0))] [.int (iz (1))]
    refine v_if_eq (tgt := 16) C dX11_readLine_6 (by decide) (by omega) (fun c2 => by exact absurd c2 (by decide)) (fun c2 => ?_)
    refine v_aload_n C 0 dX11_readLine_9 rfl ?_
    refine v_callV (st := []) (n := 0) (q := 0) C [] (ct_StageRatiosModel_readRocket C.2.2.2.2.2.2.1 m (b) (n) (p) (σ) (by first | assumption | omega) (by exact hx) (by exact hσ) (by exact hD)) lR0 (eR0 _) rfl qw1378 qw16 qw1375 rfl rfl ⟨Nat.le_of_ble_eq_true rfl, Nat.le_of_ble_eq_true rfl⟩ (by decide +kernel) qw1377 qp44 rfl rfl (Nat.le_of_ble_eq_true rfl) dX11_readLine_10 (fun r m3 hq3 => ?_)
    obtain ⟨rfl, hq3⟩ := hq3
    show V E (wR D cy aa ad) 1 m3 13 [(0, .ref (aa 0))] []
    refine v_goto (tgt := 53) C dX11_readLine_13 (by decide) ?_
    refine v_vret C X dX11_readLine_53 ⟨rfl, ?_⟩
    first
      | (rw [oLine_r hq1]; exact hq3)
      | (rw [oLine_s hq1 NO_q19]; exact NO_q26)
      | (rw [oLine_f hq1 NO_q19 NO_q35]; exact NO_q42)
      | (rw [oLine_n hq1 NO_q19 NO_q35]; exact ⟨NO_q50.1, NO_q50.2.fl⟩)
  · show V E (wR D cy aa ad) 1 m 6 [(0, .ref (aa 0))] [.int (iz (0))]
    refine v_if_eq (tgt := 16) C dX11_readLine_6 (by decide) (by omega) (fun c4 => ?_) (fun c4 => by exact absurd c4 (by decide))
    refine v_aload_n C 0 dX11_readLine_16 rfl ?_
    refine v_ldcs C 25 rfl dX11_readLine_17 ?_
    refine v_callV (st := []) (n := 1) (q := 0) C [.ref (ad (2 * 25))] (ct_StageRatiosModel_isWord C.2.2.2.2.2.2.1 m (b) (n) (.inr p) (25) ("StageRatiosModel") (161) ("stage") (w_stage) (by exact hx) rfl) lR0 (eR0 _) rfl qw1372 qw16 qw1369 rfl rfl ⟨Nat.le_of_ble_eq_true rfl, Nat.le_of_ble_eq_true rfl⟩ (by decide +kernel) qw1371 qp43 rfl rfl (Nat.le_of_ble_eq_true rfl) dX11_readLine_19 (fun r m5 hq5 => ?_)
    obtain ⟨z5, rfl, ⟨rfl, hq5, rfl⟩ | ⟨rfl, hq5, rfl⟩⟩ := hq5
    · show V E (wR D cy aa ad) 1 m 22 [(0, .ref (aa 0))] [.int (iz (1))]
      refine v_if_eq (tgt := 32) C dX11_readLine_22 (by decide) (by omega) (fun c6 => by exact absurd c6 (by decide)) (fun c6 => ?_)
      refine v_aload_n C 0 dX11_readLine_25 rfl ?_
      refine v_callV (st := []) (n := 0) (q := 0) C [] (ct_StageRatiosModel_readStageLine C.2.2.2.2.2.2.1 m (b) (n) (p) (σ) (by first | assumption | omega) (by exact hx) (by exact hσ) (by exact hD)) lR0 (eR0 _) rfl qw1400 qw16 qw1397 rfl rfl ⟨Nat.le_of_ble_eq_true rfl, Nat.le_of_ble_eq_true rfl⟩ (by decide +kernel) qw1399 qp48 rfl rfl (Nat.le_of_ble_eq_true rfl) dX11_readLine_26 (fun r m7 hq7 => ?_)
      obtain ⟨rfl, hq7⟩ := hq7
      show V E (wR D cy aa ad) 1 m7 29 [(0, .ref (aa 0))] []
      refine v_goto (tgt := 53) C dX11_readLine_29 (by decide) ?_
      refine v_vret C X dX11_readLine_53 ⟨rfl, ?_⟩
      first
        | (rw [oLine_r hq1]; exact NO_q10)
        | (rw [oLine_s hq1 hq5]; exact hq7)
        | (rw [oLine_f hq1 hq5 NO_q35]; exact NO_q42)
        | (rw [oLine_n hq1 hq5 NO_q35]; exact ⟨NO_q50.1, NO_q50.2.fl⟩)
    · show V E (wR D cy aa ad) 1 m 22 [(0, .ref (aa 0))] [.int (iz (0))]
      refine v_if_eq (tgt := 32) C dX11_readLine_22 (by decide) (by omega) (fun c8 => ?_) (fun c8 => by exact absurd c8 (by decide))
      refine v_aload_n C 0 dX11_readLine_32 rfl ?_
      refine v_ldcs C 26 rfl dX11_readLine_33 ?_
      refine v_callV (st := []) (n := 1) (q := 0) C [.ref (ad (2 * 26))] (ct_StageRatiosModel_isWord C.2.2.2.2.2.2.1 m (b) (n) (.inr p) (26) ("StageRatiosModel") (162) ("fail") (w_fail) (by exact hx) rfl) lR0 (eR0 _) rfl qw1372 qw16 qw1369 rfl rfl ⟨Nat.le_of_ble_eq_true rfl, Nat.le_of_ble_eq_true rfl⟩ (by decide +kernel) qw1371 qp43 rfl rfl (Nat.le_of_ble_eq_true rfl) dX11_readLine_35 (fun r m9 hq9 => ?_)
      obtain ⟨z9, rfl, ⟨rfl, hq9, rfl⟩ | ⟨rfl, hq9, rfl⟩⟩ := hq9
      · show V E (wR D cy aa ad) 1 m 38 [(0, .ref (aa 0))] [.int (iz (1))]
        refine v_if_eq (tgt := 48) C dX11_readLine_38 (by decide) (by omega) (fun c10 => by exact absurd c10 (by decide)) (fun c10 => ?_)
        refine v_aload_n C 0 dX11_readLine_41 rfl ?_
        refine v_callV (st := []) (n := 0) (q := 0) C [] (ct_StageRatiosModel_readFailLine C.2.2.2.2.2.2.1 m (b) (n) (p) (σ) (by first | assumption | omega) (by exact hx) (by exact hσ) (by exact hD)) lR0 (eR0 _) rfl qw1432 qw16 qw1429 rfl rfl ⟨Nat.le_of_ble_eq_true rfl, Nat.le_of_ble_eq_true rfl⟩ (by decide +kernel) qw1431 qp53 rfl rfl (Nat.le_of_ble_eq_true rfl) dX11_readLine_42 (fun r m11 hq11 => ?_)
        obtain ⟨rfl, hq11⟩ := hq11
        show V E (wR D cy aa ad) 1 m11 45 [(0, .ref (aa 0))] []
        refine v_goto (tgt := 53) C dX11_readLine_45 (by decide) ?_
        refine v_vret C X dX11_readLine_53 ⟨rfl, ?_⟩
        first
          | (rw [oLine_r hq1]; exact NO_q10)
          | (rw [oLine_s hq1 hq5]; exact NO_q26)
          | (rw [oLine_f hq1 hq5 hq9]; exact hq11)
          | (rw [oLine_n hq1 hq5 hq9]; exact ⟨NO_q50.1, NO_q50.2.fl⟩)
      · show V E (wR D cy aa ad) 1 m 38 [(0, .ref (aa 0))] [.int (iz (0))]
        refine v_if_eq (tgt := 48) C dX11_readLine_38 (by decide) (by omega) (fun c12 => ?_) (fun c12 => by exact absurd c12 (by decide))
        refine v_aload_n C 0 dX11_readLine_48 rfl ?_
        refine v_iconst (z := 1) C dX11_readLine_49 rfl ?_
        refine v_callV (st := []) (n := 1) (q := 0) C [.int (iz (1))] (ct_StageRatiosModel_flaw C.2.2.2.2.2.2.1 m (b) (n) (.inr p) (1) (by exact hx) (by decide)) lR0 (eR0 _) rfl qw1382 qw16 qw1379 rfl rfl ⟨Nat.le_of_ble_eq_true rfl, Nat.le_of_ble_eq_true rfl⟩ (by decide +kernel) qw1381 qp45 rfl rfl (Nat.le_of_ble_eq_true rfl) dX11_readLine_50 (fun r m13 hq13 => ?_)
        obtain ⟨rfl, hq13⟩ := hq13
        show V E (wR D cy aa ad) 1 m13 53 [(0, .ref (aa 0))] []
        refine v_vret C X dX11_readLine_53 ⟨rfl, ?_⟩
        first
          | (rw [oLine_r hq1]; exact NO_q10)
          | (rw [oLine_s hq1 hq5]; exact NO_q26)
          | (rw [oLine_f hq1 hq5 hq9]; exact NO_q42)
          | (rw [oLine_n hq1 hq5 hq9]; exact ⟨hq13.1, hq13.2.fl⟩)

set_option maxHeartbeats 4000000 in
set_option maxRecDepth 100000 in
theorem ct_StageRatiosModel_readAll {lau : Launch} {D : va_G} {cy : Nat → ClassId} {aa ad : Nat → Nat} (hI : wI (wR D cy aa ad)) (m : Mem) (b : Int → Int) (n : Int) (hB : BtR m b n) (h31 : m 0 31 = 0) (h27 : m 0 27 = 0) : MT lau (wR D cy aa ad) yX11_readAll cX11_readAll 1 (none) ({ frames := 8, cells := 0, slots := 0, locals := 184 } : Room) m [.ref (aa 0)] (Pv (fun m' => AllS m' (oAll b n 701 sg0 0) ∧ FL m m')) := by
  refine v_entry hI RX11 (by decide) rfl (Nat.le_of_ble_eq_true rfl) (fun E hE C X => ?_)
  subst hE
  show V E (wR D cy aa ad) 1 m 0 [(0, .ref (aa 0))] []
  have hn := hB.2.1
  refine v_aload_n C 0 dX11_readAll_0 rfl ?_
  refine v_iconst (z := 0) C dX11_readAll_1 rfl ?_
  refine v_put C 0 13 (0) 13 rfl lR0 (eR0 _) rfl inX11 tyX11 tyX11_ok nmX11 (by decide) qw1153 rfl rfl rfl (Nat.le_of_ble_eq_true rfl) (by rw [mup_r]; exact (eR0 _)) dX11_readAll_2 (fun m1 em1 => ?_)
  refine v_aload_n C 0 dX11_readAll_5 rfl ?_
  refine v_iconst (z := 0) C dX11_readAll_6 rfl ?_
  refine v_put C 0 18 (0) 18 rfl lR0 (eR0 _) rfl inX11 tyX11 tyX11_ok nmX11 (by decide) qw1158 rfl rfl rfl (Nat.le_of_ble_eq_true rfl) (by rw [mup_r]; exact (eR0 _)) dX11_readAll_7 (fun m2 em2 => ?_)
  refine v_aload_n C 0 dX11_readAll_10 rfl ?_
  refine v_iconst (z := 0) C dX11_readAll_11 rfl ?_
  refine v_put C 0 19 (0) 19 rfl lR0 (eR0 _) rfl inX11 tyX11 tyX11_ok nmX11 (by decide) qw1159 rfl rfl rfl (Nat.le_of_ble_eq_true rfl) (by rw [mup_r]; exact (eR0 _)) dX11_readAll_12 (fun m3 em3 => ?_)
  have e12 : ∀ j : Int, j ≠ 13 → j ≠ 18 → j ≠ 19 → m3 0 j = m 0 j := fun j a c d => by rw [em3, mup_j _ _ d, em2, mup_j _ _ c, em1, mup_j _ _ a]
  have F12 : FL m m3 := ⟨fun j a => e12 j (by omega) (by omega) (by omega), fun q a _ _ _ => by rw [em3, mup_k _ _ _ a, em2, mup_k _ _ _ a, em1, mup_k _ _ _ a]⟩
  have D12 : DrR m3 sg0 := ⟨by rw [em3, mup_j _ _ (by decide), em2, mup_j _ _ (by decide), em1, mup_s]; rfl, by rw [em3, mup_j _ _ (by decide), em2, mup_s]; rfl, by rw [em3, mup_s]; rfl, fun y => absurd (show (0 : Int) = 1 from y) (by decide), fun j a c => by have c2 : j < 0 * 9 := c; omega, fun s a c => by have c2 : s < 0 := c; omega, fun i a c => by have c2 : i < 0 := c; omega⟩
  refine v_aload_n C 0 dX11_readAll_15 rfl ?_
  refine v_callV (st := []) (n := 0) (q := 0) C [] (ct_StageRatiosModel_next C.2.2.2.2.2.2.1 m3 (b) (n) (.inr 0) (by exact hB.fl F12) (by exact ⟨⟨by omega, by omega⟩, by rw [e12 31 (by decide) (by decide) (by decide)]; exact h31, by rw [e12 27 (by decide) (by decide) (by decide)]; exact h27⟩)) lR0 (eR0 _) rfl qw1348 qw16 qw1345 rfl rfl ⟨Nat.le_of_ble_eq_true rfl, Nat.le_of_ble_eq_true rfl⟩ (by decide +kernel) qw1347 qp38 rfl rfl (Nat.le_of_ble_eq_true rfl) dX11_readAll_16 (fun r m4 hq4 => ?_)
  obtain ⟨rfl, hq4⟩ := hq4
  show V E (wR D cy aa ad) 1 m4 19 [(0, .ref (aa 0))] []
  have F16 := F12.tr hq4.2.fl
  refine v_aload_n C 0 dX11_readAll_19 rfl ?_
  refine v_callV (st := []) (n := 0) (q := 0) C [] (ct_StageRatiosModel_readLine C.2.2.2.2.2.2.1 m4 (b) (n) (0) (sg0) (by exact hB.fl F16) (by exact hq4.1) (by exact sg0_ok) (by exact D12.fz hq4.2)) lR0 (eR0 _) rfl qw1367 qw16 qw1364 rfl rfl ⟨Nat.le_of_ble_eq_true rfl, Nat.le_of_ble_eq_true rfl⟩ (by decide +kernel) qw1366 qp42 rfl rfl (Nat.le_of_ble_eq_true rfl) dX11_readAll_20 (fun r m5 hq5 => ?_)
  obtain ⟨rfl, hq5⟩ := hq5
  show V E (wR D cy aa ad) 1 m5 23 [(0, .ref (aa 0))] []
  have F20 := F16.tr hq5.2
  have K23 : ∀ (nK : Nat) (lines : Int) (y : Rs (Sg × Int)) (mL : Mem) (hl0 : 0 ≤ lines) (hy : LnS mL b n y) (hF : FL m mL) (hA : oAll b n 701 sg0 0 = finO b n lines y) (hl : ∀ x, y = .inr x → lines < x.2 ∧ x.2 ≤ n ∧ SgOk x.1), (701 - lines).toNat < nK → V E (wR D cy aa ad) 1 mL 23 [(0, .ref (aa 0))] [] := by
    intro nK
    induction nK with
    | zero => intro lines y mL hl0 hy hF hA hl hn; exact absurd hn (Nat.not_lt_zero _)
    | succ nK ih23 =>
      intro lines y mL hl0 hy hF hA hl hn23
      have hk0 := hy.t.tk0
      refine v_aload_n C 0 dX11_readAll_23 rfl ?_
      refine v_get C 0 28 lR0 (eR0 _) rfl inX11 (by decide) rfl qw1168 dX11_readAll_24 ?_
      refine v_iconst (z := 4) C dX11_readAll_27 rfl ?_
      refine v_icmp_ne (tgt := 42) C dX11_readAll_28 (by decide) (by omega) (by omega) (fun c6 => ?_) (fun c6 => ?_)
      · have hyt := hy.t
        have hk0 := hyt.tk0
        refine v_aload_n C 0 dX11_readAll_42 rfl ?_
        refine v_get C 0 28 lR0 (eR0 _) rfl inX11 (by decide) rfl qw1168 dX11_readAll_43 ?_
        refine v_iconst (z := 1) C dX11_readAll_46 rfl ?_
        refine v_icmp_eq (tgt := 55) C dX11_readAll_47 (by decide) (by omega) (by omega) (fun c7 => ?_) (fun c7 => ?_)
        · obtain ⟨x, hx⟩ : ∃ x, y = .inr x := by
            cases y with
            | inl e => have z : mL 0 28 = 0 := hy.2.2.2.2; omega
            | inr x => exact ⟨x, rfl⟩
          have hxx := hy.d hx
          have k0 : kdZ b n x.2 = 0 := hxx.1.tk.1.mp c7
          have f55 := hyt.f0
          have d18 := hxx.2.2.1
          have h5r := (hl x hx).2.2.2.2.1
          have hA3 : oAll b n 701 sg0 0 = if 0 < Sg.h x.1 5 then .inr x.1 else .inl (6, skZ b n x.2) := by
            rw [hA, hx]; exact if_pos k0
          refine v_aload_n C 0 dX11_readAll_55 rfl ?_
          refine v_get C 0 31 lR0 (eR0 _) rfl inX11 (by decide) rfl qw1171 dX11_readAll_56 ?_
          refine v_if_ne (tgt := 75) C dX11_readAll_59 (by decide) (by omega) (fun c8 => ?_) (fun c8 => ?_)
          · exfalso; obtain ⟨e9, he9⟩ := hxx.1.bad (by omega); cases he9
          · refine v_aload_n C 0 dX11_readAll_62 rfl ?_
            refine v_get C 0 18 lR0 (eR0 _) rfl inX11 (by decide) rfl qw1158 dX11_readAll_63 ?_
            refine v_if_ne (tgt := 75) C dX11_readAll_66 (by decide) (by omega) (fun c9 => ?_) (fun c9 => ?_)
            · refine v_vret C X dX11_readAll_75 ⟨rfl, ?_⟩
              first
                | (have f52 := hF.tr NO_q52.2.fl
                   cases y with
                   | inl e => rw [hA]; exact ⟨AllS.l NO_q52.1, f52⟩
                   | inr x =>
                     have hk := (hy.d rfl).1.tk
                     have y0 : kdZ b n x.2 ≠ 0 := fun z => by have := hk.1.mpr z; omega
                     have y3 : kdZ b n x.2 ≠ 3 := fun z => by have := hk.2.2.2.mpr z; omega
                     have hA4 : oAll b n 701 sg0 0 = .inl (1, skZ b n x.2) := by rw [hA]; exact (if_neg y0).trans (if_pos y3)
                     rw [hA4]; exact ⟨AllS.l NO_q52.1, f52⟩)
                | (rw [hA3, if_neg (by omega)]
                   rw [hx] at *
                   exact ⟨AllS.l NO_q72.1, hF.tr NO_q72.2.fl⟩)
                | (have y5 : 0 < Sg.h x.1 5 := by
                     have z := (hl x hx).2.2.2.2.1.1
                     omega
                   rw [hA3, if_pos y5]
                   exact ⟨⟨by omega, hxx.2⟩, hF⟩)
            · refine v_aload_n C 0 dX11_readAll_69 rfl ?_
              refine v_bipush (z := 6) C dX11_readAll_70 (by decide) ?_
              refine v_callV (st := []) (n := 1) (q := 0) C [.int (iz (6))] (ct_StageRatiosModel_flaw C.2.2.2.2.2.2.1 mL (b) (n) (sndR y) (6) (by exact hyt) (by decide)) lR0 (eR0 _) rfl qw1382 qw16 qw1379 rfl rfl ⟨Nat.le_of_ble_eq_true rfl, Nat.le_of_ble_eq_true rfl⟩ (by decide +kernel) qw1381 qp45 rfl rfl (Nat.le_of_ble_eq_true rfl) dX11_readAll_72 (fun r m10 hq10 => ?_)
              obtain ⟨rfl, hq10⟩ := hq10
              show V E (wR D cy aa ad) 1 m10 75 [(0, .ref (aa 0))] []
              refine v_vret C X dX11_readAll_75 ⟨rfl, ?_⟩
              first
                | (have f52 := hF.tr NO_q52.2.fl
                   cases y with
                   | inl e => rw [hA]; exact ⟨AllS.l NO_q52.1, f52⟩
                   | inr x =>
                     have hk := (hy.d rfl).1.tk
                     have y0 : kdZ b n x.2 ≠ 0 := fun z => by have := hk.1.mpr z; omega
                     have y3 : kdZ b n x.2 ≠ 3 := fun z => by have := hk.2.2.2.mpr z; omega
                     have hA4 : oAll b n 701 sg0 0 = .inl (1, skZ b n x.2) := by rw [hA]; exact (if_neg y0).trans (if_pos y3)
                     rw [hA4]; exact ⟨AllS.l NO_q52.1, f52⟩)
                | (rw [hA3, if_neg (by omega)]
                   rw [hx] at *
                   exact ⟨AllS.l hq10.1, hF.tr hq10.2.fl⟩)
                | (have y5 : 0 < Sg.h x.1 5 := by
                     have z := (hl x hx).2.2.2.2.1.1
                     omega
                   rw [hA3, if_pos y5]
                   exact ⟨⟨by omega, hxx.2⟩, hF⟩)
        · refine v_aload_n C 0 dX11_readAll_50 rfl ?_
          refine v_iconst (z := 1) C dX11_readAll_51 rfl ?_
          refine v_callV (st := []) (n := 1) (q := 0) C [.int (iz (1))] (ct_StageRatiosModel_flaw C.2.2.2.2.2.2.1 mL (b) (n) (sndR y) (1) (by exact hyt) (by decide)) lR0 (eR0 _) rfl qw1382 qw16 qw1379 rfl rfl ⟨Nat.le_of_ble_eq_true rfl, Nat.le_of_ble_eq_true rfl⟩ (by decide +kernel) qw1381 qp45 rfl rfl (Nat.le_of_ble_eq_true rfl) dX11_readAll_52 (fun r m11 hq11 => ?_)
          obtain ⟨rfl, hq11⟩ := hq11
          show V E (wR D cy aa ad) 1 m11 55 [(0, .ref (aa 0))] []
          have f55 := hq11.1.f0
          obtain ⟨e9, he9⟩ := flO_l b n 1 (sndR y)
          refine v_aload_n C 0 dX11_readAll_55 rfl ?_
          refine v_get C 0 31 lR0 (eR0 _) rfl inX11 (by decide) rfl qw1171 dX11_readAll_56 ?_
          refine v_if_ne (tgt := 75) C dX11_readAll_59 (by decide) (by omega) (fun c12 => ?_) (fun c12 => ?_)
          · refine v_vret C X dX11_readAll_75 ⟨rfl, ?_⟩
            first
              | (have f52 := hF.tr hq11.2.fl
                 cases y with
                 | inl e => rw [hA]; exact ⟨AllS.l hq11.1, f52⟩
                 | inr x =>
                   have hk := (hy.d rfl).1.tk
                   have y0 : kdZ b n x.2 ≠ 0 := fun z => by have := hk.1.mpr z; omega
                   have y3 : kdZ b n x.2 ≠ 3 := fun z => by have := hk.2.2.2.mpr z; omega
                   have hA4 : oAll b n 701 sg0 0 = .inl (1, skZ b n x.2) := by rw [hA]; exact (if_neg y0).trans (if_pos y3)
                   rw [hA4]; exact ⟨AllS.l hq11.1, f52⟩)
              | (rw [hA3, if_neg (by omega)]
                 rw [hx] at *
                 exact ⟨AllS.l NO_q72.1, hF.tr NO_q72.2.fl⟩)
              | (have y5 : 0 < Sg.h x.1 5 := by
                   have z := (hl x hx).2.2.2.2.1.1
                   omega
                 rw [hA3, if_pos y5]
                 exact ⟨⟨by omega, hxx.2⟩, hF⟩)
          · exfalso; obtain ⟨p9, hp9⟩ := hq11.1.ok (by omega); rw [he9] at hp9; cases hp9
      · obtain ⟨x, hx⟩ : ∃ x, y = .inr x := by
          cases y with
          | inl e => have z : mL 0 28 = 0 := hy.2.2.2.2; omega
          | inr x => exact ⟨x, rfl⟩
        have hxx := hy.d hx
        have k3 : kdZ b n x.2 = 3 := hxx.1.tk.2.2.2.mp c6
        have hll := hl x hx
        have tr := tk_rngP (b := b) hll.2.1
        refine v_aload_n C 0 dX11_readAll_31 rfl ?_
        refine v_callV (st := []) (n := 0) (q := 0) C [] (ct_StageRatiosModel_next C.2.2.2.2.2.2.1 mL (b) (n) (.inr (nxZ b n x.2)) (by exact hB.fl hF) (by exact hxx.1.nx)) lR0 (eR0 _) rfl qw1348 qw16 qw1345 rfl rfl ⟨Nat.le_of_ble_eq_true rfl, Nat.le_of_ble_eq_true rfl⟩ (by decide +kernel) qw1347 qp38 rfl rfl (Nat.le_of_ble_eq_true rfl) dX11_readAll_32 (fun r m13 hq13 => ?_)
        obtain ⟨rfl, hq13⟩ := hq13
        show V E (wR D cy aa ad) 1 m13 35 [(0, .ref (aa 0))] []
        have F32 := hF.tr hq13.2.fl
        refine v_aload_n C 0 dX11_readAll_35 rfl ?_
        refine v_callV (st := []) (n := 0) (q := 0) C [] (ct_StageRatiosModel_readLine C.2.2.2.2.2.2.1 m13 (b) (n) (nxZ b n x.2) (x.1) (by exact hB.fl F32) (by exact hq13.1) (by exact hll.2.2) (by exact hxx.2.fz hq13.2)) lR0 (eR0 _) rfl qw1367 qw16 qw1364 rfl rfl ⟨Nat.le_of_ble_eq_true rfl, Nat.le_of_ble_eq_true rfl⟩ (by decide +kernel) qw1366 qp42 rfl rfl (Nat.le_of_ble_eq_true rfl) dX11_readAll_36 (fun r m14 hq14 => ?_)
        obtain ⟨rfl, hq14⟩ := hq14
        show V E (wR D cy aa ad) 1 m14 39 [(0, .ref (aa 0))] []
        have hA2 : oAll b n 701 sg0 0 = finO b n (lines + 1) (oLine b n x.1 (nxZ b n x.2)) := by
          rw [hA, hx]
          exact (if_neg (by omega)).trans ((if_neg (fun y => y k3)).trans (oAll_f (by omega)))
        refine v_goto (tgt := 23) C dX11_readAll_39 (by decide) ?_
        refine v_sub [0] rfl ?_
        exact ih23 (lines + 1) (oLine b n x.1 (nxZ b n x.2)) m14 (by omega) (by exact hq14.1) (by exact F32.tr hq14.2) (by exact hA2) (by intro x2 hx2; have y2 := oLine_i hx2 tr.2.2.2.1 hll.2.2; have y3 := tr.2.2.2.2 (by omega); exact ⟨by omega, y2.1.2, y2.2⟩) (by omega)
  refine v_sub [0] rfl ?_
  exact K23 _ (0) (oLine b n sg0 0) m5 (by omega) (by exact hq5.1) (by exact F20) (by exact oAll_f (l := 0) (by decide)) (by intro x hx; have y := oLine_i hx hn.1 sg0_ok; exact ⟨y.1.1, y.1.2, y.2⟩) (Nat.lt_succ_self _)
