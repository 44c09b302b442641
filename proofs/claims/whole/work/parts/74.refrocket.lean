/-! the reference's reader: its lines -/
def DrR (m : Mem) (σ : Sg) : Prop := m 0 13 = (if σ.h 7 = 1 then σ.h 2 else 0) ∧ m 0 18 = σ.h 5 ∧ m 0 19 = σ.h 6 ∧ (σ.h 7 = 1 → m 0 17 = σ.h 0 ∧ m 0 16 = σ.h 1 ∧ m 0 14 = σ.h 3 ∧ m 0 15 = σ.h 4) ∧ (∀ j : Int, 0 ≤ j → j < σ.h 5 * 9 → m 3 j = σ.fa j) ∧ (∀ s : Int, 0 ≤ s → s < σ.h 5 → m 5 s = enZ 256 0 (σ.nm s)) ∧ ∀ i : Int, 0 ≤ i → i < σ.h 6 → m 4 (3 * i) = σ.ft i ∧ m 4 (3 * i + 1) = σ.fk i ∧ m 4 (3 * i + 2) = σ.fc i
theorem DrR.fz {m m' : Mem} {σ : Sg} (h : DrR m σ) (g : FZ m m') : DrR m' σ := by
  unfold DrR at h ⊢
  rw [g.1 13 (by omega), g.1 18 (by omega), g.1 19 (by omega), g.1 17 (by omega), g.1 16 (by omega), g.1 14 (by omega), g.1 15 (by omega), g.2 3 (by decide), g.2 4 (by decide), g.2 5 (by decide)]; exact h
/-- the places of a draft and of the tokens alone -/
def FL (m m' : Mem) : Prop := (∀ j : Int, (j < 13 ∨ (19 < j ∧ j < 27) ∨ 32 < j) → m' 0 j = m 0 j) ∧ ∀ q, q ≠ 0 → q ≠ 3 → q ≠ 4 → q ≠ 5 → m' q = m q
theorem FL.rfl' (m : Mem) : FL m m := ⟨fun _ _ => rfl, fun _ _ _ _ _ => rfl⟩
theorem FL.tr {m m1 m2 : Mem} (h : FL m m1) (g : FL m1 m2) : FL m m2 := ⟨fun j a => (g.1 j a).trans (h.1 j a), fun q a c d e => (g.2 q a c d e).trans (h.2 q a c d e)⟩
theorem FZ.fl {m m' : Mem} (h : FZ m m') : FL m m' := ⟨fun j a => h.1 j (by omega), fun q a _ _ _ => h.2 q a⟩
theorem BtR.fl {m m' : Mem} {b : Int → Int} {n : Int} (h : BtR m b n) (f : FL m m') : BtR m' b n := by
  unfold BtR at h ⊢; rw [f.1 26 (by omega), f.2 8 (by decide) (by decide) (by decide) (by decide)]; exact h
theorem FL.p {m : Mem} {j v : Int} (h : 13 ≤ j ∧ j ≤ 19) : FL m (mup m 0 j v) := ⟨fun i a => by rw [mup_j _ _ (by omega)], fun q a _ _ _ => by rw [mup_k _ _ _ a]⟩
theorem FL.c {m : Mem} {q : Nat} {j v : Int} (h : q = 3 ∨ q = 4 ∨ q = 5) : FL m (mup m q j v) := ⟨fun i a => by rw [mup_k _ _ _ (by omega)], fun q a _ _ _ => by rw [mup_k _ _ _ (by omega)]⟩
theorem TkS.fl {m m' : Mem} {b : Int → Int} {n : Int} {x : Rs Int} (h : TkS m b n x) (g : ∀ j : Int, 27 ≤ j → j ≤ 32 → m' 0 j = m 0 j) : TkS m' b n x := by
  unfold TkS at h ⊢
  rw [g 31 (by decide) (by decide), g 29 (by decide) (by decide), g 28 (by decide) (by decide), g 27 (by decide) (by decide), g 32 (by decide) (by decide), g 30 (by decide) (by decide)]; exact h
theorem TkS.p {m : Mem} {b : Int → Int} {n : Int} {x : Rs Int} (h : TkS m b n x) {j v : Int} (g : 13 ≤ j ∧ j ≤ 19) : TkS (mup m 0 j v) b n x := h.fl fun i a c => mup_j _ _ (by omega)
def LnS (m : Mem) (b : Int → Int) (n : Int) (y : Rs (Sg × Int)) : Prop := match y with
  | .inl e => TkS m b n (.inl e)
  | .inr x => TkS m b n (.inr x.2) ∧ DrR m x.1
theorem ch_s {β : Type} {b : Int → Int} {n lo : Int} {X : Rs Int} {f : Int → Rs (Int × Int)} {k : Int → Int → Rs β} : bnd X (fun p => bnd (f p) fun x => k x.1 x.2) = bnd (sndR (bnd X f)) (fun q => k (vlR lo (bnd X f)) q) := by
  cases X with
  | inl e => rfl
  | inr p =>
    show bnd (f p) _ = bnd (sndR (f p)) (fun q => k (vlR lo (f p)) q)
    cases f p with
    | inl e => rfl
    | inr x => rfl
theorem bnd_as {α β γ : Type} {X : Rs α} {f : α → Rs β} {g : β → Rs γ} : bnd (bnd X f) g = bnd X fun a => bnd (f a) g := by cases X <;> rfl
def rk4 (b : Int → Int) (n : Int) (σ : Sg) (v0 v1 v2 v3 q : Int) : Rs (Sg × Int) := bnd (tPart b n w_pull 0 99 q) fun x => .inr ((hdR v0 v1 v2 v3 x.1 σ.h, σ.2), x.2)
def rk3 (b : Int → Int) (n : Int) (σ : Sg) (v0 v1 v2 q : Int) : Rs (Sg × Int) := bnd (tPart b n w_power 1 12 q) fun x => rk4 b n σ v0 v1 v2 x.1 x.2
def rk2 (b : Int → Int) (n : Int) (σ : Sg) (v0 v1 q : Int) : Rs (Sg × Int) := bnd (tPart b n w_by 1 (v1 - 1) q) fun x => rk3 b n σ v0 v1 x.1 x.2
def rk1 (b : Int → Int) (n : Int) (σ : Sg) (v0 q : Int) : Rs (Sg × Int) := bnd (tPart b n w_mark 2 99 q) fun x => rk2 b n σ v0 x.1 x.2
def rk0 (b : Int → Int) (n : Int) (σ : Sg) (q : Int) : Rs (Sg × Int) := bnd (tPart b n w_payload 1 40 q) fun x => rk1 b n σ x.1 x.2
theorem oRocket_0 {b : Int → Int} {n p : Int} {σ : Sg} (h : σ.h 7 ≠ 1) : oRocket b n σ p = rk0 b n σ (nxZ b n p) := if_neg h
theorem rk_end {b : Int → Int} {n : Int} {σ : Sg} {X s0 s1 s2 s3 s4 : Rs Int} {v0 v1 v2 v3 v4 : Int} (a0 : v0 = vlR 1 (bnd X (tPart b n w_payload 1 40))) (e0 : s0 = sndR (bnd X (tPart b n w_payload 1 40))) (a1 : v1 = vlR 2 (bnd s0 (tPart b n w_mark 2 99))) (e1 : s1 = sndR (bnd s0 (tPart b n w_mark 2 99))) (a2 : v2 = vlR 1 (bnd s1 (tPart b n w_by 1 (v1 - 1)))) (e2 : s2 = sndR (bnd s1 (tPart b n w_by 1 (v1 - 1)))) (a3 : v3 = vlR 1 (bnd s2 (tPart b n w_power 1 12))) (e3 : s3 = sndR (bnd s2 (tPart b n w_power 1 12))) (a4 : v4 = vlR 0 (bnd s3 (tPart b n w_pull 0 99))) (e4 : s4 = sndR (bnd s3 (tPart b n w_pull 0 99))) :
    bnd X (rk0 b n σ) = bnd s4 fun q => .inr ((hdR v0 v1 v2 v3 v4 σ.h, σ.2), q) := by
  have c0 : bnd X (rk0 b n σ) = bnd s0 (rk1 b n σ v0) := by rw [e0, a0]; exact ch_s (b := b) (n := n) (k := rk1 b n σ)
  have c1 : bnd s0 (rk1 b n σ v0) = bnd s1 (rk2 b n σ v0 v1) := by rw [e1, a1]; exact ch_s (b := b) (n := n) (k := rk2 b n σ v0)
  have c2 : bnd s1 (rk2 b n σ v0 v1) = bnd s2 (rk3 b n σ v0 v1 v2) := by rw [e2, a2]; exact ch_s (b := b) (n := n) (k := rk3 b n σ v0 v1)
  have c3 : bnd s2 (rk3 b n σ v0 v1 v2) = bnd s3 (rk4 b n σ v0 v1 v2 v3) := by rw [e3, a3]; exact ch_s (b := b) (n := n) (k := rk4 b n σ v0 v1 v2)
  have c4 : bnd s3 (rk4 b n σ v0 v1 v2 v3) = bnd s4 (fun q => .inr ((hdR v0 v1 v2 v3 v4 σ.h, σ.2), q)) := by rw [e4, a4]; exact ch_s (b := b) (n := n) (k := fun v q => .inr ((hdR v0 v1 v2 v3 v σ.h, σ.2), q))
  rw [c0, c1, c2, c3, c4]
theorem LnS.e {m : Mem} {b : Int → Int} {n : Int} {Y : Rs (Sg × Int)} {s : Rs Int} {f : Int → Sg × Int} (h : Y = bnd s (fun q => .inr (f q))) (hf : ∀ q, (f q).2 = q) (t : TkS m b n s) (d : ∀ q, s = .inr q → DrR m (f q).1) : LnS m b n Y := by
  rw [h]
  cases s with
  | inl e => exact t
  | inr q => exact ⟨by show TkS m b n (.inr (f q).2); rw [hf]; exact t, d q rfl⟩
theorem stF_ch {b : Int → Int} {n s w lo hi : Int} {k : Nat} {fa : Int → Int} {X t : Rs Int} {v : Int} {bs : List Int32} (hw : wdS w = bs) (hl : loS w = lo) (hh : (if w = 8 then fa (s * 9 + 4) - 1 else hiS w) = hi) (a : v = vlR lo (bnd X (tPart b n bs lo hi))) (e : t = sndR (bnd X (tPart b n bs lo hi))) : bnd X (stF b n s (k + 1) w fa) = bnd t (stF b n s k (w + 1) (ups fa (s * 9 + w) v)) := by
  subst hw; subst hl; subst hh
  rw [e, a]
  exact ch_s (b := b) (n := n) (k := fun v q => stF b n s k (w + 1) (ups fa (s * 9 + w) v) q)
noncomputable def stB (b : Int → Int) (n : Int) (σ : Sg) (q : Int) : Rs (Sg × Int) := bnd (tNew b n σ.nm (σ.h 5) q) fun r => bnd (tKind b n r) fun x => bnd (stF b n (σ.h 5) 8 1 (ups σ.fa (σ.h 5 * 9 + 0) x.1) x.2) fun y => .inr ((ups σ.h 5 (σ.h 5 + 1), y.1, ups σ.nm (σ.h 5) (wlZ b n q), σ.2.2.2), y.2)
theorem stg_end {b : Int → Int} {n gr : Int} {σ : Sg} {x2 x3 x4 x5 s8 : Rs Int} {f8 : Int → Int} (h4 : x4 = nxO b n x3) (hN : x4 = bnd x2 (tNew b n σ.nm (σ.h 5))) (h3 : ∀ q, x3 = .inr q → x2 = .inr q) (ag : gr = vlR (-1) (bnd x4 (tKind b n))) (e5 : x5 = sndR (bnd x4 (tKind b n))) (hF : bnd x5 (stF b n (σ.h 5) 8 1 (ups σ.fa (σ.h 5 * 9 + 0) gr)) = bnd s8 fun q => .inr (f8, q)) :
    ∃ q, bnd x2 (stB b n σ) = (bnd s8 fun r => .inr ((ups σ.h 5 (σ.h 5 + 1), f8, ups σ.nm (σ.h 5) (wlZ b n q), σ.2.2.2), r)) ∧ ∀ r, s8 = .inr r → x3 = .inr q := by
  cases x2 with
  | inl e =>
    refine ⟨0, ?_⟩
    have e4 : x4 = .inl e := hN
    have e5' : x5 = .inl e := by rw [e5, e4]; rfl
    rw [e5'] at hF
    cases s8 with
    | inl e' =>
      have he : e = e' := Sum.inl.inj hF
      subst he
      exact ⟨rfl, fun r h => by cases h⟩
    | inr r => cases hF
  | inr q =>
    refine ⟨q, ?_, fun r hr => ?_⟩
    · have hN2 : tNew b n σ.nm (σ.h 5) q = x4 := hN.symm
      show bnd (tNew b n σ.nm (σ.h 5) q) _ = _
      rw [hN2]
      refine (ch_s (b := b) (n := n) (lo := -1) (k := fun g t => bnd (stF b n (σ.h 5) 8 1 (ups σ.fa (σ.h 5 * 9 + 0) g) t) fun y => Sum.inr ((ups σ.h 5 (σ.h 5 + 1), y.1, ups σ.nm (σ.h 5) (wlZ b n q), σ.2.2.2), y.2))).trans ?_
      rw [← e5, ← ag, ← bnd_as, hF, bnd_as]; rfl
    · subst hr
      cases x5 with
      | inl e => cases hF
      | inr r5 =>
        cases x4 with
        | inl e => cases e5
        | inr r4 =>
          cases x3 with
          | inl e => cases h4
          | inr r3 => have := h3 r3 rfl; cases this; rfl
noncomputable def tOld (b : Int → Int) (n : Int) (nm : Int → List Int) (s q : Int) : Rs Int := @ite _ (isNm b n q) (Classical.propDecidable _) (if naZ nm (wlZ b n q) s = -1 then .inl (2, skZ b n q) else .inr (nxZ b n q)) (.inl (1, skZ b n q))
def laZ (b : Int → Int) (n : Int) (σ : Sg) (q : Int) : Int := laF σ.ft σ.fk (naZ σ.nm (wlZ b n q) (σ.h 5)) (σ.h 6).toNat + 1
def flR (b : Int → Int) (n : Int) (σ : Sg) (q v w : Int) : Sg := (ups σ.h 6 (σ.h 6 + 1), σ.fa, σ.nm, ups σ.ft (σ.h 6) (naZ σ.nm (wlZ b n q) (σ.h 5)), ups σ.fk (σ.h 6) v, ups σ.fc (σ.h 6) w)
noncomputable def flB (b : Int → Int) (n : Int) (σ : Sg) (q : Int) : Rs (Sg × Int) := bnd (tOld b n σ.nm (σ.h 5) q) fun r => bnd (tWhole b n (laZ b n σ q) 99 r) fun x => bnd (tWhole b n 1 9 x.2) fun y => .inr (flR b n σ q x.1 y.1, y.2)
theorem oFail_0 {b : Int → Int} {n p : Int} {σ : Sg} (h7 : σ.h 7 = 1) (h6 : σ.h 6 < 6) : oFail b n σ p = flB b n σ (nxZ b n p) := by
  refine (if_neg (fun y => y h7)).trans <| (if_neg (fun y => y h6)).trans ?_
  unfold flB tOld
  by_cases c : isNm b n (nxZ b n p)
  · rw [if_pos c, if_pos c]
    by_cases d : naZ σ.nm (wlZ b n (nxZ b n p)) (σ.h 5) = -1
    · rw [if_pos d, if_pos d]; rfl
    · rw [if_neg d, if_neg d]; rfl
  · rw [if_neg c, if_neg c]; rfl
theorem oStage_0 {b : Int → Int} {n p : Int} {σ : Sg} (h7 : σ.h 7 = 1) (h5 : σ.h 5 < 3) : oStage b n σ p = stB b n σ (nxZ b n p) := oStage_eq h7 rfl h5
theorem fail_end {b : Int → Int} {n lo v w sv : Int} {σ : Sg} {x2 x3 x4 s1 s2 : Rs Int} (h4 : x4 = nxO b n x3) (hN : x4 = bnd x2 (tOld b n σ.nm (σ.h 5))) (h3 : ∀ q, x3 = .inr q → x2 = .inr q ∧ sv = naZ σ.nm (wlZ b n q) (σ.h 5)) (hlo : ∀ q, x3 = .inr q → lo = laZ b n σ q) (a1 : v = vlR lo (bnd x4 (tWhole b n lo 99))) (e1 : s1 = sndR (bnd x4 (tWhole b n lo 99))) (a2 : w = vlR 1 (bnd s1 (tWhole b n 1 9))) (e2 : s2 = sndR (bnd s1 (tWhole b n 1 9))) :
    ∃ q, bnd x2 (flB b n σ) = (bnd s2 fun r => .inr (flR b n σ q v w, r)) ∧ ∀ r, s2 = .inr r → x3 = .inr q := by
  cases x2 with
  | inl e =>
    refine ⟨0, ?_⟩
    have e4 : x4 = .inl e := hN
    have e5' : s1 = .inl e := by rw [e1, e4]; rfl
    have e6 : s2 = .inl e := by rw [e2, e5']; rfl
    rw [e6]; exact ⟨rfl, fun r h => by cases h⟩
  | inr q =>
    refine ⟨q, ?_, fun r hr => ?_⟩
    · have hN2 : tOld b n σ.nm (σ.h 5) q = x4 := hN.symm
      show bnd (tOld b n σ.nm (σ.h 5) q) _ = _
      rw [hN2]
      have c1 : bnd x4 (fun r => bnd (tWhole b n (laZ b n σ q) 99 r) fun x => bnd (tWhole b n 1 9 x.2) fun y => (Sum.inr (flR b n σ q x.1 y.1, y.2) : Rs (Sg × Int))) = bnd s1 (fun r => bnd (tWhole b n 1 9 r) fun y => .inr (flR b n σ q v y.1, y.2)) := by
        cases x4 with
        | inl e => rw [e1]; rfl
        | inr r4 =>
          have hl : lo = laZ b n σ q := by
            cases x3 with
            | inl e => cases h4
            | inr r3 => have := (h3 r3 rfl).1; cases this; exact hlo _ rfl
          rw [← hl, e1, a1]
          exact ch_s (b := b) (n := n) (X := Sum.inr r4) (k := fun v t => bnd (tWhole b n 1 9 t) fun y => (Sum.inr (flR b n σ q v y.1, y.2) : Rs (Sg × Int)))
      rw [c1, e2, a2]
      exact ch_s (b := b) (n := n) (k := fun w t => (Sum.inr (flR b n σ q v w, t) : Rs (Sg × Int)))
    · subst hr
      cases s1 with
      | inl e => cases e2
      | inr r5 =>
        cases x4 with
        | inl e => cases e1
        | inr r4 =>
          cases x3 with
          | inl e => cases h4
          | inr r3 => have := (h3 r3 rfl).1; cases this; rfl
set_option maxHeartbeats 4000000 in
set_option maxRecDepth 100000 in
theorem ct_StageRatiosModel_readRocket {lau : Launch} {D : va_G} {cy : Nat → ClassId} {aa ad : Nat → Nat} (hI : wI (wR D cy aa ad)) (m : Mem) (b : Int → Int) (n p : Int) (σ : Sg) (hB : BtR m b n) (hx : TkS m b n (.inr p)) (hσ : SgOk σ) (hD : DrR m σ) : MT lau (wR D cy aa ad) yX11_readRocket cX11_readRocket 2 (none) ({ frames := 6, cells := 0, slots := 0, locals := 132 } : Room) m [.ref (aa 0)] (Pv (fun m' => LnS m' b n (oRocket b n σ p) ∧ FL m m')) := by
  refine v_entry hI RX11 (by decide) rfl (Nat.le_of_ble_eq_true rfl) (fun E hE C X => ?_)
  subst hE
  show V E (wR D cy aa ad) 2 m 0 [(0, .ref (aa 0))] []
  obtain ⟨d1, d2, d3, d4, d5, d6, d7⟩ := id hD
  obtain ⟨s1, s2, s3, s4, s5, s6, s7, s8⟩ := id hσ
  have hup : 0 ≤ m 0 13 ∧ m 0 13 ≤ 99 ∧ (m 0 13 = 0 ↔ σ.h 7 = 0) := by
    rw [d1]; split
    · have := s5 (by assumption); omega
    · omega
  have hp := hx.1
  refine v_aload_n C 0 dX11_readRocket_0 rfl ?_
  refine v_get C 0 13 lR0 (eR0 _) rfl inX11 (by decide) rfl qw1153 dX11_readRocket_1 ?_
  have K12 : ∀ (x1 : Rs Int) (mJ : Mem) (hJ : TkS mJ b n x1) (hJf : FZ m mJ) (hJo : oRocket b n σ p = bnd (nxO b n x1) (rk0 b n σ)) (hJ7 : σ.h 7 ≠ 1 ∨ ∃ e, x1 = .inl e), V E (wR D cy aa ad) 2 mJ 12 [(0, .ref (aa 0))] [] := by
    intro x1 mJ hJ hJf hJo hJ7
    refine v_aload_n C 0 dX11_readRocket_12 rfl ?_
    refine v_callV (st := []) (n := 0) (q := 0) C [] (ct_StageRatiosModel_next C.2.2.2.2.2.2.1 mJ (b) (n) (nxO b n x1) (by exact hB.fr hJf) (by exact hJ.nx)) lR0 (eR0 _) rfl qw1348 qw16 qw1345 rfl rfl ⟨Nat.le_of_ble_eq_true rfl, Nat.le_of_ble_eq_true rfl⟩ (by decide +kernel) qw1347 qp38 rfl rfl (Nat.le_of_ble_eq_true rfl) dX11_readRocket_13 (fun r m1 hq1 => ?_)
    obtain ⟨rfl, hq1⟩ := hq1
    show V E (wR D cy aa ad) 2 m1 16 [(0, .ref (aa 0))] []
    have F13 : FL m m1 := (hJf.tr hq1.2).fl
    refine v_aload_n C 0 dX11_readRocket_16 rfl ?_
    refine v_aload_n C 0 dX11_readRocket_17 rfl ?_
    refine v_ldcs C 20 rfl dX11_readRocket_18 ?_
    refine v_iconst (z := 1) C dX11_readRocket_20 rfl ?_
    refine v_bipush (z := 40) C dX11_readRocket_21 (by decide) ?_
    refine v_callV (st := [.ref (aa 0)]) (n := 3) (q := 0) C [.ref (ad (2 * 20)), .int (iz (1)), .int (iz (40))] (ct_StageRatiosModel_readPart C.2.2.2.2.2.2.1 m1 (b) (n) (nxO b n x1) (20) ("StageRatiosModel") (184) ("payload") (w_payload) (1) (40) (by exact hB.fl F13) (by exact hq1.1) rfl (by omega) (by omega)) lR0 (eR0 _) rfl qw1387 qw16 qw1384 rfl rfl ⟨Nat.le_of_ble_eq_true rfl, Nat.le_of_ble_eq_true rfl⟩ (by decide +kernel) qw1386 qp46 rfl rfl (Nat.le_of_ble_eq_true rfl) dX11_readRocket_23 (fun r m2 hq2 => ?_)
    obtain ⟨z2, rfl, rfl, hq2⟩ := hq2
    show V E (wR D cy aa ad) 2 m2 26 [(0, .ref (aa 0))] [.int (iz (vlR 1 (bnd (nxO b n x1) (tPart b n w_payload 1 40)))), .ref (aa 0)]
    obtain ⟨v0, hv0⟩ : ∃ v, v = vlR 1 (bnd (nxO b n x1) (tPart b n w_payload 1 40)) := ⟨_, rfl⟩
    obtain ⟨t0, ht0⟩ : ∃ t, t = sndR (bnd (nxO b n x1) (tPart b n w_payload 1 40)) := ⟨_, rfl⟩
    have T0 : TkS m2 b n t0 := by rw [ht0]; exact hq2.1
    have r0 := vlP_r (b := b) (n := n) (bs := w_payload) (x := nxO b n x1) (lo := 1) (hi := 40) (by omega)
    rw [← hv0] at r0
    refine v_st (st1 := [.int (iz (v0)), .ref (aa 0)]) (by rw [hv0]) ?_
    refine v_put C 0 17 (v0) 17 rfl lR0 (eR0 _) rfl inX11 tyX11 tyX11_ok nmX11 (by decide) qw1157 rfl rfl rfl (Nat.le_of_ble_eq_true rfl) (by rw [mup_r]; exact (eR0 _)) dX11_readRocket_26 (fun m3 em3 => ?_)
    have F26 : FL m m3 := by rw [em3]; exact (F13.tr hq2.2.fl).tr (FL.p (by decide))
    refine v_aload_n C 0 dX11_readRocket_29 rfl ?_
    refine v_ldcs C 21 rfl dX11_readRocket_30 ?_
    refine v_iconst (z := 2) C dX11_readRocket_32 rfl ?_
    refine v_bipush (z := 99) C dX11_readRocket_33 (by decide) ?_
    refine v_callV (st := []) (n := 3) (q := 0) C [.ref (ad (2 * 21)), .int (iz (2)), .int (iz (99))] (ct_StageRatiosModel_readPart C.2.2.2.2.2.2.1 m3 (b) (n) (t0) (21) ("StageRatiosModel") (193) ("mark") (w_mark) (2) (99) (by exact hB.fl F26) (by rw [em3]; exact T0.p (by decide)) rfl (by omega) (by omega)) lR0 (eR0 _) rfl qw1387 qw16 qw1384 rfl rfl ⟨Nat.le_of_ble_eq_true rfl, Nat.le_of_ble_eq_true rfl⟩ (by decide +kernel) qw1386 qp46 rfl rfl (Nat.le_of_ble_eq_true rfl) dX11_readRocket_35 (fun r m4 hq4 => ?_)
    obtain ⟨z4, rfl, rfl, hq4⟩ := hq4
    show V E (wR D cy aa ad) 2 m4 38 [(0, .ref (aa 0))] [.int (iz (vlR 2 (bnd t0 (tPart b n w_mark 2 99))))]
    obtain ⟨v1, hv1⟩ : ∃ v, v = vlR 2 (bnd (t0) (tPart b n w_mark 2 99)) := ⟨_, rfl⟩
    obtain ⟨t1, ht1⟩ : ∃ t, t = sndR (bnd (t0) (tPart b n w_mark 2 99)) := ⟨_, rfl⟩
    have T1 : TkS m4 b n t1 := by rw [ht1]; exact hq4.1
    have r1 := vlP_r (b := b) (n := n) (bs := w_mark) (x := t0) (lo := 2) (hi := 99) (by omega)
    rw [← hv1] at r1
    refine v_st (st1 := [.int (iz (v1))]) (by rw [hv1]) ?_
    have F35 : FL m m4 := F26.tr hq4.2.fl
    refine v_istore_n (L1 := [(1, .int (iz (v1))), (0, .ref (aa 0))]) C dX11_readRocket_38 (by decide) rfl ?_
    refine v_aload_n C 1 dX11_readRocket_39 rfl ?_
    refine v_aload_n C 1 dX11_readRocket_40 rfl ?_
    refine v_ldcs C 22 rfl dX11_readRocket_41 ?_
    refine v_iconst (z := 1) C dX11_readRocket_43 rfl ?_
    refine v_iload_n C 0 dX11_readRocket_44 rfl ?_
    refine v_iconst (z := 1) C dX11_readRocket_45 rfl ?_
    refine v_isub C dX11_readRocket_46 ?_
    refine v_callV (st := [.ref (aa 0)]) (n := 3) (q := 0) C [.ref (ad (2 * 22)), .int (iz (1)), .int (iz (v1 - 1))] (ct_StageRatiosModel_readPart C.2.2.2.2.2.2.1 m4 (b) (n) (t1) (22) ("StageRatiosModel") (195) ("by") (w_by) (1) (v1 - 1) (by exact hB.fl F35) (by exact T1) rfl (by omega) (by omega)) lR0 (eR0 _) rfl qw1387 qw16 qw1384 rfl rfl ⟨Nat.le_of_ble_eq_true rfl, Nat.le_of_ble_eq_true rfl⟩ (by decide +kernel) qw1386 qp46 rfl rfl (Nat.le_of_ble_eq_true rfl) dX11_readRocket_47 (fun r m5 hq5 => ?_)
    obtain ⟨z5, rfl, rfl, hq5⟩ := hq5
    show V E (wR D cy aa ad) 2 m5 50 [(1, .int (iz (v1))), (0, .ref (aa 0))] [.int (iz (vlR 1 (bnd t1 (tPart b n w_by 1 (v1 - 1))))), .ref (aa 0)]
    obtain ⟨v2, hv2⟩ : ∃ v, v = vlR 1 (bnd (t1) (tPart b n w_by 1 (v1 - 1))) := ⟨_, rfl⟩
    obtain ⟨t2, ht2⟩ : ∃ t, t = sndR (bnd (t1) (tPart b n w_by 1 (v1 - 1))) := ⟨_, rfl⟩
    have T2 : TkS m5 b n t2 := by rw [ht2]; exact hq5.1
    have r2 := vlP_r (b := b) (n := n) (bs := w_by) (x := t1) (lo := 1) (hi := (v1 - 1)) (by omega)
    rw [← hv2] at r2
    refine v_st (st1 := [.int (iz (v2)), .ref (aa 0)]) (by rw [hv2]) ?_
    refine v_put C 0 14 (v2) 14 rfl lR0 (eR0 _) rfl inX11 tyX11 tyX11_ok nmX11 (by decide) qw1154 rfl rfl rfl (Nat.le_of_ble_eq_true rfl) (by rw [mup_r]; exact (eR0 _)) dX11_readRocket_50 (fun m6 em6 => ?_)
    have F50 : FL m m6 := by rw [em6]; exact (F35.tr hq5.2.fl).tr (FL.p (by decide))
    refine v_aload_n C 1 dX11_readRocket_53 rfl ?_
    refine v_aload_n C 1 dX11_readRocket_54 rfl ?_
    refine v_ldcs C 23 rfl dX11_readRocket_55 ?_
    refine v_iconst (z := 1) C dX11_readRocket_57 rfl ?_
    refine v_bipush (z := 12) C dX11_readRocket_58 (by decide) ?_
    refine v_callV (st := [.ref (aa 0)]) (n := 3) (q := 0) C [.ref (ad (2 * 23)), .int (iz (1)), .int (iz (12))] (ct_StageRatiosModel_readPart C.2.2.2.2.2.2.1 m6 (b) (n) (t2) (23) ("StageRatiosModel") (200) ("power") (w_power) (1) (12) (by exact hB.fl F50) (by rw [em6]; exact T2.p (by decide)) rfl (by omega) (by omega)) lR0 (eR0 _) rfl qw1387 qw16 qw1384 rfl rfl ⟨Nat.le_of_ble_eq_true rfl, Nat.le_of_ble_eq_true rfl⟩ (by decide +kernel) qw1386 qp46 rfl rfl (Nat.le_of_ble_eq_true rfl) dX11_readRocket_60 (fun r m7 hq7 => ?_)
    obtain ⟨z7, rfl, rfl, hq7⟩ := hq7
    show V E (wR D cy aa ad) 2 m7 63 [(1, .int (iz (v1))), (0, .ref (aa 0))] [.int (iz (vlR 1 (bnd t2 (tPart b n w_power 1 12)))), .ref (aa 0)]
    obtain ⟨v3, hv3⟩ : ∃ v, v = vlR 1 (bnd (t2) (tPart b n w_power 1 12)) := ⟨_, rfl⟩
    obtain ⟨t3, ht3⟩ : ∃ t, t = sndR (bnd (t2) (tPart b n w_power 1 12)) := ⟨_, rfl⟩
    have T3 : TkS m7 b n t3 := by rw [ht3]; exact hq7.1
    have r3 := vlP_r (b := b) (n := n) (bs := w_power) (x := t2) (lo := 1) (hi := 12) (by omega)
    rw [← hv3] at r3
    refine v_st (st1 := [.int (iz (v3)), .ref (aa 0)]) (by rw [hv3]) ?_
    refine v_put C 0 16 (v3) 16 rfl lR0 (eR0 _) rfl inX11 tyX11 tyX11_ok nmX11 (by decide) qw1156 rfl rfl rfl (Nat.le_of_ble_eq_true rfl) (by rw [mup_r]; exact (eR0 _)) dX11_readRocket_63 (fun m8 em8 => ?_)
    have F63 : FL m m8 := by rw [em8]; exact (F50.tr hq7.2.fl).tr (FL.p (by decide))
    refine v_aload_n C 1 dX11_readRocket_66 rfl ?_
    refine v_aload_n C 1 dX11_readRocket_67 rfl ?_
    refine v_ldcs C 24 rfl dX11_readRocket_68 ?_
    refine v_iconst (z := 0) C dX11_readRocket_70 rfl ?_
    refine v_bipush (z := 99) C dX11_readRocket_71 (by decide) ?_
    refine v_callV (st := [.ref (aa 0)]) (n := 3) (q := 0) C [.ref (ad (2 * 24)), .int (iz (0)), .int (iz (99))] (ct_StageRatiosModel_readPart C.2.2.2.2.2.2.1 m8 (b) (n) (t3) (24) ("StageRatiosModel") (205) ("pull") (w_pull) (0) (99) (by exact hB.fl F63) (by rw [em8]; exact T3.p (by decide)) rfl (by omega) (by omega)) lR0 (eR0 _) rfl qw1387 qw16 qw1384 rfl rfl ⟨Nat.le_of_ble_eq_true rfl, Nat.le_of_ble_eq_true rfl⟩ (by decide +kernel) qw1386 qp46 rfl rfl (Nat.le_of_ble_eq_true rfl) dX11_readRocket_73 (fun r m9 hq9 => ?_)
    obtain ⟨z9, rfl, rfl, hq9⟩ := hq9
    show V E (wR D cy aa ad) 2 m9 76 [(1, .int (iz (v1))), (0, .ref (aa 0))] [.int (iz (vlR 0 (bnd t3 (tPart b n w_pull 0 99)))), .ref (aa 0)]
    obtain ⟨v4, hv4⟩ : ∃ v, v = vlR 0 (bnd (t3) (tPart b n w_pull 0 99)) := ⟨_, rfl⟩
    obtain ⟨t4, ht4⟩ : ∃ t, t = sndR (bnd (t3) (tPart b n w_pull 0 99)) := ⟨_, rfl⟩
    have T4 : TkS m9 b n t4 := by rw [ht4]; exact hq9.1
    have r4 := vlP_r (b := b) (n := n) (bs := w_pull) (x := t3) (lo := 0) (hi := 99) (by omega)
    rw [← hv4] at r4
    refine v_st (st1 := [.int (iz (v4)), .ref (aa 0)]) (by rw [hv4]) ?_
    refine v_put C 0 15 (v4) 15 rfl lR0 (eR0 _) rfl inX11 tyX11 tyX11_ok nmX11 (by decide) qw1155 rfl rfl rfl (Nat.le_of_ble_eq_true rfl) (by rw [mup_r]; exact (eR0 _)) dX11_readRocket_76 (fun m10 em10 => ?_)
    have F76 : FL m m10 := by rw [em10]; exact (F63.tr hq9.2.fl).tr (FL.p (by decide))
    have T5 : TkS m10 b n t4 := by rw [em10]; exact T4.p (by decide)
    have hE : oRocket b n σ p = bnd t4 fun q => .inr ((hdR v0 v1 v2 v3 v4 σ.h, σ.2), q) := hJo.trans (rk_end hv0 ht0 hv1 ht1 hv2 ht2 hv3 ht3 hv4 ht4)
    have f5 := T5.f0
    have kk : ∀ j : Int, 13 ≤ j → j ≤ 19 → m9 0 j = m8 0 j := fun j a c => hq9.2.1 j (by omega)
    have kj : ∀ j : Int, 13 ≤ j → j ≤ 19 → m7 0 j = m6 0 j := fun j a c => hq7.2.1 j (by omega)
    have ki : ∀ j : Int, 13 ≤ j → j ≤ 19 → m5 0 j = m4 0 j := fun j a c => hq5.2.1 j (by omega)
    have kh : ∀ j : Int, 13 ≤ j → j ≤ 19 → m4 0 j = m3 0 j := fun j a c => hq4.2.1 j (by omega)
    have w15 : m10 0 15 = v4 := by rw [em10, mup_s]
    have w16 : m10 0 16 = v3 := by rw [em10, mup_j _ _ (by decide), kk 16 (by decide) (by decide), em8, mup_s]
    have w14 : m10 0 14 = v2 := by rw [em10, mup_j _ _ (by decide), kk 14 (by decide) (by decide), em8, mup_j _ _ (by decide), kj 14 (by decide) (by decide), em6, mup_s]
    have w17 : m10 0 17 = v0 := by rw [em10, mup_j _ _ (by decide), kk 17 (by decide) (by decide), em8, mup_j _ _ (by decide), kj 17 (by decide) (by decide), em6, mup_j _ _ (by decide), ki 17 (by decide) (by decide), kh 17 (by decide) (by decide), em3, mup_s]
    have wo : ∀ j : Int, (j = 18 ∨ j = 19) → m10 0 j = m 0 j := fun j hj => by rw [em10, mup_j _ _ (by omega), kk j (by omega) (by omega), em8, mup_j _ _ (by omega), kj j (by omega) (by omega), em6, mup_j _ _ (by omega), ki j (by omega) (by omega), kh j (by omega) (by omega), em3, mup_j _ _ (by omega), hq2.2.1 j (by omega), hq1.2.1 j (by omega), hJf.1 j (by omega)]
    have wc : ∀ q, q ≠ 0 → m10 q = m q := fun q h => by rw [em10, mup_k _ _ _ h, hq9.2.2 q h, em8, mup_k _ _ _ h, hq7.2.2 q h, em6, mup_k _ _ _ h, hq5.2.2 q h, hq4.2.2 q h, em3, mup_k _ _ _ h, hq2.2.2 q h, hq1.2.2 q h, hJf.2 q h]
    refine v_aload_n C 1 dX11_readRocket_79 rfl ?_
    refine v_get C 0 31 lR0 (eR0 _) rfl inX11 (by decide) rfl qw1171 dX11_readRocket_80 ?_
    refine v_if_ne (tgt := 91) C dX11_readRocket_83 (by decide) (by omega) (fun c11 => ?_) (fun c11 => ?_)
    · obtain ⟨e9, he9⟩ := T5.bad c11
      refine v_vret C X dX11_readRocket_91 ⟨rfl, ?_⟩
      first
        | (refine ⟨LnS.e hE (fun _ => rfl) T5 (fun q hq => ?_), F76⟩
           rw [he9] at hq; cases hq)
        | (refine ⟨LnS.e hE (fun _ => rfl) (by rw [NO_em88]; exact T5.p (by decide)) (fun q hq => ?_), by rw [NO_em88]; exact F76.tr (FL.p (by decide))⟩
           have z2 := s2 (by omega)
           refine ⟨?_, ?_, ?_, fun _ => ⟨?_, ?_, ?_, ?_⟩, fun j a c => ?_, fun s a c => ?_, fun i a c => ?_⟩
           · show _ = if (1 : Int) = 1 then v1 else 0
             rw [if_pos rfl, NO_em88, mup_s]
           · rw [NO_em88, mup_j _ _ (by decide), wo 18 (by decide)]; exact d2
           · rw [NO_em88, mup_j _ _ (by decide), wo 19 (by decide)]; exact d3
           · rw [NO_em88, mup_j _ _ (by decide), w17]; rfl
           · rw [NO_em88, mup_j _ _ (by decide), w16]; rfl
           · rw [NO_em88, mup_j _ _ (by decide), w14]; rfl
           · rw [NO_em88, mup_j _ _ (by decide), w15]; rfl
           · have c2 : j < σ.h 5 * 9 := c
             omega
           · have c2 : s < σ.h 5 := c
             omega
           · have c2 : i < σ.h 6 := c
             omega)
    · obtain ⟨p9, hp9⟩ := T5.ok (by omega)
      have h7 : σ.h 7 ≠ 1 := fun y => by
        rcases hJ7 with z | z
        · exact z y
        · obtain ⟨e8, z⟩ := z
          rw [z] at ht0; rw [ht0] at ht1; rw [ht1] at ht2; rw [ht2] at ht3; rw [ht3] at ht4; rw [ht4] at hp9; cases hp9
      refine v_aload_n C 1 dX11_readRocket_86 rfl ?_
      refine v_iload_n C 0 dX11_readRocket_87 rfl ?_
      refine v_put C 0 13 (v1) 13 rfl lR0 (eR0 _) rfl inX11 tyX11 tyX11_ok nmX11 (by decide) qw1153 rfl rfl rfl (Nat.le_of_ble_eq_true rfl) (by rw [mup_r]; exact (eR0 _)) dX11_readRocket_88 (fun m12 em12 => ?_)
      refine v_vret C X dX11_readRocket_91 ⟨rfl, ?_⟩
      first
        | (refine ⟨LnS.e hE (fun _ => rfl) T5 (fun q hq => ?_), F76⟩
           rw [he9] at hq; cases hq)
        | (refine ⟨LnS.e hE (fun _ => rfl) (by rw [em12]; exact T5.p (by decide)) (fun q hq => ?_), by rw [em12]; exact F76.tr (FL.p (by decide))⟩
           have z2 := s2 (by omega)
           refine ⟨?_, ?_, ?_, fun _ => ⟨?_, ?_, ?_, ?_⟩, fun j a c => ?_, fun s a c => ?_, fun i a c => ?_⟩
           · show _ = if (1 : Int) = 1 then v1 else 0
             rw [if_pos rfl, em12, mup_s]
           · rw [em12, mup_j _ _ (by decide), wo 18 (by decide)]; exact d2
           · rw [em12, mup_j _ _ (by decide), wo 19 (by decide)]; exact d3
           · rw [em12, mup_j _ _ (by decide), w17]; rfl
           · rw [em12, mup_j _ _ (by decide), w16]; rfl
           · rw [em12, mup_j _ _ (by decide), w14]; rfl
           · rw [em12, mup_j _ _ (by decide), w15]; rfl
           · have c2 : j < σ.h 5 * 9 := c
             omega
           · have c2 : s < σ.h 5 := c
             omega
           · have c2 : i < σ.h 6 := c
             omega)
  refine v_if_le (tgt := 12) C dX11_readRocket_4 (by decide) (by omega) (fun c13 => ?_) (fun c13 => ?_)
  · have h7 : σ.h 7 ≠ 1 := by omega
    refine v_sub [0] rfl ?_
    exact K12  (.inr p) m (by 
            first
              | exact NO_q9.1
              | exact hx
          ) (by 
            first
              | exact NO_q9.2
              | exact FZ.rfl' m
          ) (by 
            first
              | exact (if_pos h7)
              | exact oRocket_0 h7
          ) (by 
            first
              | exact Or.inl h7
              | exact Or.inr ⟨_, rfl⟩
          )
  · have h7 : σ.h 7 = 1 := by omega
    refine v_aload_n C 0 dX11_readRocket_7 rfl ?_
    refine v_iconst (z := 3) C dX11_readRocket_8 rfl ?_
    refine v_callV (st := []) (n := 1) (q := 0) C [.int (iz (3))] (ct_StageRatiosModel_flaw C.2.2.2.2.2.2.1 m (b) (n) (.inr p) (3) (by exact hx) (by decide)) lR0 (eR0 _) rfl qw1382 qw16 qw1379 rfl rfl ⟨Nat.le_of_ble_eq_true rfl, Nat.le_of_ble_eq_true rfl⟩ (by decide +kernel) qw1381 qp45 rfl rfl (Nat.le_of_ble_eq_true rfl) dX11_readRocket_9 (fun r m14 hq14 => ?_)
    obtain ⟨rfl, hq14⟩ := hq14
    show V E (wR D cy aa ad) 2 m14 12 [(0, .ref (aa 0))] []
    refine v_sub [0] rfl ?_
    exact K12  (flO b n 3 (.inr p)) m14 (by 
            first
              | exact hq14.1
              | exact hx
          ) (by 
            first
              | exact hq14.2
              | exact FZ.rfl' m
          ) (by 
            first
              | exact (if_pos h7)
              | exact oRocket_0 h7
          ) (by 
            first
              | exact Or.inl h7
              | exact Or.inr ⟨_, rfl⟩
          )
