/-! how things stand on the class's side; what a query asks and leaves; the answers told once for both sides -/
def mstZ (fa : Int → Int) (n s : Int) : Int := if s < n then fa (s * 9 + 3) else 0
def XOk (fa : Int → Int) (n : Int) (X : Int → Int) : Prop := (1 ≤ X 0 ∧ X 0 ≤ 40) ∧ (1 ≤ X 1 ∧ X 1 ≤ 12) ∧ ∀ s : Int, 0 ≤ s → s < 3 → (0 ≤ X (2 + s) ∧ X (2 + s) ≤ mstZ fa n s) ∧ 0 ≤ X (5 + s) ∧ X (5 + s) ≤ X (8 + s) ∧ X (8 + s) ≤ mstZ fa n s
def uX (X : Int → Int) : Int → Int := fun s => X (2 + s)
def loX (X : Int → Int) : Int → Int := fun s => X (5 + s)
def hiX (X : Int → Int) : Int → Int := fun s => X (8 + s)
theorem mst_rng {fa : Int → Int} {n s : Int} (hF : FaOk fa n) (h0 : 0 ≤ s) : 0 ≤ mstZ fa n s ∧ mstZ fa n s ≤ 16 := by
  unfold mstZ; split
  · have := hF s h0 (by omega); omega
  · omega
theorem XOk.u {fa : Int → Int} {n : Int} {X : Int → Int} (h : XOk fa n X) (hF : FaOk fa n) : ∀ s : Int, 0 ≤ s → s < 3 → 0 ≤ uX X s ∧ uX X s ≤ 16 := fun s h0 h1 => by
  have a := (h.2.2 s h0 h1).1
  have b := mst_rng (n := n) hF h0
  unfold uX; omega
theorem XOk.dv {fa : Int → Int} {n : Int} {X : Int → Int} (h : XOk fa n X) (hF : FaOk fa n) (hn : 1 ≤ n ∧ n ≤ 3) : DvOk n (X 0) (uX X) := ⟨hn, h.1, fun j h0 h1 => h.u hF j h0 (by omega)⟩
def ChOk (m : Mem) (fa R : Int → Int) : Prop := (0 ≤ m 8 5 ∧ m 8 5 ≤ 40) ∧ (m 8 5 ≠ 0 → CeOk (m 9) fa (R 5) (R 2) (R 3) (m 8 5))
def OuOk (m : Mem) (fa R X : Int → Int) : Prop := (0 ≤ m 12 3 ∧ m 12 3 ≤ m 0 17) ∧ (m 12 3 = m 0 17 → FrC (cnA fa (R 5) (X 0) (loX X) (hiX X)) (weA fa (R 5) (X 0)) (fsA fa (R 5) (X 0)) (m 14) (m 12 2))
def PaOk (fa : Int → Int) (n : Int) (Pf : Int → Int) (K : Int) : Prop := ∀ r : Int, 0 ≤ r → r < K → XOk fa n (fun j => Pf (11 * r + j))
def TI (m : Mem) (k kf ks kt kc : Nat) : Prop := RkIs m k kf ks kt kc ∧ XOk (m kf) (m k 5) (m 5) ∧ ChOk m (m kf) (m k) ∧ OuOk m (m kf) (m k) (m 5) ∧ (0 ≤ m 0 16 ∧ m 0 16 ≤ 10) ∧ (1 ≤ m 0 17 ∧ m 0 17 ≤ 100000) ∧ PaOk (m kf) (m k 5) (m 6) (m 0 16)
def CI (m : Mem) (k kf ks kt kc : Nat) : Prop := RocketAt k kf ks kt kc ∧ (m 0 13).toNat = k ∧ (m 0 15 = 0 ∨ (m 0 15 = 1 ∧ TI m k kf ks kt kc)) ∧ (0 ≤ m 12 3 ∧ m 12 3 ≤ m 0 17)
/-- a query left it so, with trouble t -/
def CQ (t : Int) (m m' : Mem) : Prop := m' 0 18 = t ∧ (∀ j : Int, j ≠ 18 → m' 0 j = m 0 j) ∧ ∀ q : Nat, (q = 1 ∨ q = 2 ∨ q = 3 ∨ q = 5 ∨ q = 6 ∨ 73 ≤ q) → m' q = m q
def QP (B : Int → Int → Prop) (m m' : Mem) (z : Int) : Prop := ∃ t, B t z ∧ t ≠ 4 ∧ CQ t m m'
theorem CI.k73 {m : Mem} {k kf ks kt kc : Nat} (h : CI m k kf ks kt kc) : 73 ≤ k ∧ 73 ≤ kf ∧ 73 ≤ ks ∧ 73 ≤ kt ∧ 73 ≤ kc := by
  have := h.1; unfold RocketAt at this; omega
theorem TI.fr {m m' : Mem} {k kf ks kt kc : Nat} (h : TI m k kf ks kt kc) (hR : RocketAt k kf ks kt kc) (h0 : ∀ j : Int, j ≠ 18 → m' 0 j = m 0 j) (hq : ∀ q : Nat, (q = 5 ∨ q = 6 ∨ 73 ≤ q) → m' q = m q) (hc : ChOk m' (m kf) (m k)) (ho : OuOk m' (m kf) (m k) (m 5)) : TI m' k kf ks kt kc := by
  have kk : 73 ≤ k ∧ 73 ≤ kf ∧ 73 ≤ ks ∧ 73 ≤ kt ∧ 73 ≤ kc := by unfold RocketAt at hR; omega
  have e1 := hq k (by omega)
  have e2 := hq kf (by omega)
  have e5 := hq 5 (by omega)
  unfold TI
  rw [e1, e2, e5, h0 16 (by decide), h0 17 (by decide), hq 6 (by omega)]
  exact ⟨h.1.fr e1 e2 (hq ks (by omega)) (hq kt (by omega)) (hq kc (by omega)), h.2.1, hc, ho, h.2.2.2.2⟩
theorem CQ.of {m m1 : Mem} {t : Int} (h : ∀ q : Nat, (q < 15 ∨ 73 ≤ q) → m1 q = m q) : CQ t m (mup m1 0 18 t) := by
  refine ⟨mup_s _ _ _ _, fun j hj => ?_, fun q hq => ?_⟩
  · rw [mup_j _ _ hj, h 0 (by omega)]
  · rw [mup_k _ _ _ (by omega)]; exact h q (by omega)
theorem CI.of {m m1 : Mem} {t : Int} {k kf ks kt kc : Nat} (hi : CI m k kf ks kt kc) (h : ∀ q : Nat, (q < 15 ∨ 73 ≤ q) → m1 q = m q) : CI (mup m1 0 18 t) k kf ks kt kc := by
  obtain ⟨hR, hk, ht, hd⟩ := hi
  have z : ∀ q : Nat, q ≠ 0 → (q < 15 ∨ 73 ≤ q) → mup m1 0 18 t q = m q := fun q h1 h2 => by rw [mup_k _ _ _ h1]; exact h q h2
  have z0 : ∀ j : Int, j ≠ 18 → mup m1 0 18 t 0 j = m 0 j := fun j hj => by rw [mup_j _ _ hj, h 0 (by omega)]
  refine ⟨hR, by rw [z0 13 (by decide)]; exact hk, ?_, by rw [z 12 (by decide) (by omega), z0 17 (by decide)]; exact hd⟩
  rw [z0 15 (by decide)]
  refine ht.imp (fun a => a) (fun a => ⟨a.1, a.2.fr hR z0 (fun q hq => z q (by omega) (by omega)) ?_ ?_⟩)
  · unfold ChOk; rw [z 8 (by decide) (by decide), z 9 (by decide) (by decide)]; exact a.2.2.2.1
  · unfold OuOk; rw [z 12 (by decide) (by decide), z 14 (by decide) (by decide), z0 17 (by decide)]; exact a.2.2.2.2.1
theorem WtIs.cgU {m : Mem} {o t e : Nat} {fa : Int → Int} {n P : Int} {U W : Int → Int} (h : WtIs m o t e fa n P U) (hn : n ≤ 3) (hU : ∀ j : Int, 0 ≤ j → j < 3 → U j = W j) : WtIs m o t e fa n P W := by
  have c : ∀ s : Int, 0 ≤ s → stZ fa n P U s = stZ fa n P W s := fun s h0 => stZ_cg fun j h1 h2 => by rw [hU j (by omega) (by omega)]; exact ⟨rfl, rfl⟩
  refine ⟨by rw [h.1]; exact c 0 (by omega), fun s h0 h1 => ?_⟩
  rw [← c s h0, ← hU s h0 (by omega)]; exact h.2 s h0 h1
-- the answers, told once
def hsS (T : Int) (R : Int → Int) (s : Int) : Prop := T = 1 ∧ 0 ≤ s ∧ s < R 5
def qAbo (T : Int) (R X : Int → Int) (w t z : Int) : Prop := (T = 1 ∧ (0 ≤ w ∧ w ≤ 6) ∧ t = 0 ∧ z = (if w = 0 then X 0 else if w = 1 then R 2 else if w = 2 then R 3 else if w = 3 then X 1 else if w = 4 then R 4 else if w = 5 then R 5 else R 6)) ∨ (¬ (T = 1 ∧ 0 ≤ w ∧ w ≤ 6) ∧ t = 1 ∧ z = -1)
def qSta (T : Int) (fa R X : Int → Int) (s w t z : Int) : Prop := (hsS T R s ∧ (0 ≤ w ∧ w ≤ 9) ∧ t = 0 ∧ z = (if w = 9 then shZ fa s (uX X s) else fa (s * 9 + w))) ∨ (¬ (hsS T R s ∧ 0 ≤ w ∧ w ≤ 9) ∧ t = 1 ∧ z = -1)
/-- START of a stage, as it is -/
def stX (fa R X : Int → Int) (s : Int) : Int := stZ fa (R 5) (X 0) (uX X) s
def qPar (T : Int) (fa R X : Int → Int) (s w t z : Int) : Prop := (hsS T R s ∧ (0 ≤ w ∧ w ≤ 4) ∧ t = 0 ∧ (w = 0 → z = uX X s) ∧ (w = 1 → z = stX fa R X s) ∧ (w = 2 → z = stX fa R X s - uX X s) ∧ (w = 3 → (z = 1 ∧ hoZ fa s (stX fa R X s)) ∨ (z = 0 ∧ ¬ hoZ fa s (stX fa R X s))) ∧ (w = 4 → z = mgZ fa s (fa (s * 9 + 8)) (stX fa R X s))) ∨ (¬ (hsS T R s ∧ 0 ≤ w ∧ w ≤ 4) ∧ t = 1 ∧ z = -1)
def qMar (T : Int) (fa R X : Int → Int) (s w t z : Int) : Prop := (hsS T R s ∧ (0 ≤ w ∧ w ≤ fa (s * 9 + 4)) ∧ t = 0 ∧ z = mgZ fa s w (stX fa R X s)) ∨ (hsS T R s ∧ ¬ (0 ≤ w ∧ w ≤ fa (s * 9 + 4)) ∧ t = 2 ∧ z = -1) ∨ (¬ hsS T R s ∧ t = 1 ∧ z = -1)
def qSpa (T : Int) (fa R X : Int → Int) (s t z : Int) : Prop := (hsS T R s ∧ t = 0 ∧ ((z = -2 ∧ ∀ o : Int, 0 ≤ o → o ≤ fa (s * 9 + 4) → mgZ fa s o (stX fa R X s) < fa (s * 9 + 7)) ∨ ((0 ≤ z ∧ z ≤ fa (s * 9 + 4)) ∧ fa (s * 9 + 7) ≤ mgZ fa s z (stX fa R X s) ∧ ∀ o : Int, z < o → o ≤ fa (s * 9 + 4) → mgZ fa s o (stX fa R X s) < fa (s * 9 + 7)))) ∨ (¬ hsS T R s ∧ t = 1 ∧ z = -1)
def qMas (T : Int) (fa R X : Int → Int) (t z : Int) : Prop := (T = 1 ∧ t = 0 ∧ z = stX fa R X 0) ∨ (T ≠ 1 ∧ t = 1 ∧ z = -1)
/-- asked for a power -/
def kPw (k : Int) : Prop := 0 ≤ k ∧ k ≤ 40
def qRea (T : Int) (fa R X : Int → Int) (k t z : Int) : Prop := (T = 1 ∧ kPw k ∧ t = 0 ∧ ((z = 1 ∧ reA fa (R 5) (R 2) (R 3) (X 0) (uX X) k.toNat) ∨ (z = 0 ∧ ¬ reA fa (R 5) (R 2) (R 3) (X 0) (uX X) k.toNat))) ∨ (T = 1 ∧ ¬ kPw k ∧ t = 2 ∧ z = -1) ∨ (T ≠ 1 ∧ t = 1 ∧ z = -1)
def qGre (T : Int) (fa R X : Int → Int) (t z : Int) : Prop := (T = 1 ∧ t = 0 ∧ paA fa (R 5) (R 2) (R 3) (X 0) (uX X) z) ∨ (T ≠ 1 ∧ t = 1 ∧ z = -1)
def qSpe (T : Int) (fa R X : Int → Int) (up t z : Int) : Prop := (T = 1 ∧ t = 0 ∧ z = lowA (fun k => if up = 1 then exL k (spT fa (R 5) (X 0) (uX X)) else -exL k (spT fa (R 5) (X 0) (uX X))) 399) ∨ (T ≠ 1 ∧ t = 1 ∧ z = -1)
def qHol (T : Int) (fa R X : Int → Int) (t z : Int) : Prop := (T = 1 ∧ t = 0 ∧ ((z = 1 ∧ hoA fa (R 5) (X 0) (uX X)) ∨ (z = 0 ∧ ¬ hoA fa (R 5) (X 0) (uX X)))) ∨ (T ≠ 1 ∧ t = 1 ∧ z = -1)
/-- one unit more in a stage -/
def u1X (X : Int → Int) (s : Int) : Int → Int := fun j => if j = s then X (2 + j) + 1 else X (2 + j)
def cmZ (l k : List (Int × Int)) : Int := if numL k * denL l < numL l * denL k then 1 else if numL l * denL k < numL k * denL l then -1 else 0
def qRic (T : Int) (fa R X : Int → Int) (s o t z : Int) : Prop := ((hsS T R s ∧ hsS T R o ∧ s ≠ o) ∧ (X (2 + s) < fa (s * 9 + 3) ∧ X (2 + o) < fa (o * 9 + 3)) ∧ t = 0 ∧ z = cmZ (spT fa (R 5) (X 0) (u1X X s)) (spT fa (R 5) (X 0) (u1X X o))) ∨ ((hsS T R s ∧ hsS T R o ∧ s ≠ o) ∧ ¬ (X (2 + s) < fa (s * 9 + 3) ∧ X (2 + o) < fa (o * 9 + 3)) ∧ t = 5 ∧ z = -2) ∨ (¬ (hsS T R s ∧ hsS T R o ∧ s ≠ o) ∧ t = 1 ∧ z = -2)
/-- counted for a power; in THE BOX that is given -/
def cdA (fa R X lo hi : Int → Int) (k : Int) (c : Int) : Prop := cnA fa (R 5) (X 0) lo hi c ∧ reA fa (R 5) (R 2) (R 3) (X 0) (unZ c) k.toNat
def beA (fa R X lo hi : Int → Int) (k c : Int) : Prop := bsP (cdA fa R X lo hi k) (weA fa (R 5) (X 0)) 4913 c
def qLea (T : Int) (fa R X : Int → Int) (k t z : Int) : Prop := (T = 1 ∧ kPw k ∧ t = 0 ∧ ∃ c, beA fa R X (loX X) (hiX X) k c ∧ z = (if c < 0 then -2 else weA fa (R 5) (X 0) c)) ∨ (T = 1 ∧ ¬ kPw k ∧ t = 2 ∧ z = -1) ∨ (T ≠ 1 ∧ t = 1 ∧ z = -1)
def qFue (T : Int) (fa R X : Int → Int) (k s t z : Int) : Prop := (hsS T R s ∧ kPw k ∧ t = 0 ∧ ∃ c, beA fa R X (loX X) (hiX X) k c ∧ z = (if c < 0 then -2 else unZ c s)) ∨ (hsS T R s ∧ ¬ kPw k ∧ t = 2 ∧ z = -1) ∨ (¬ hsS T R s ∧ t = 1 ∧ z = -1)
def qFar (T : Int) (fa R X : Int → Int) (t z : Int) : Prop := (T = 1 ∧ t = 0 ∧ ((z = -2 ∧ ∀ c : Int, 0 ≤ c → c < 4913 → ¬ cnA fa (R 5) (X 0) (loX X) (hiX X) c) ∨ ((∃ c : Int, 0 ≤ c ∧ c < 4913 ∧ cnA fa (R 5) (X 0) (loX X) (hiX X) c ∧ paA fa (R 5) (R 2) (R 3) (X 0) (unZ c) z) ∧ ∀ d : Int, 0 ≤ d → d < 4913 → cnA fa (R 5) (X 0) (loX X) (hiX X) d → ∃ y, paA fa (R 5) (R 2) (R 3) (X 0) (unZ d) y ∧ y ≤ z))) ∨ (T ≠ 1 ∧ t = 1 ∧ z = -1)
def qLif (T : Int) (fa R X : Int → Int) (t z : Int) : Prop := (T = 1 ∧ t = 0 ∧ liP (fun v c => cnA fa (R 5) v (loX X) (hiX X) c ∧ reA fa (R 5) (R 2) (R 3) v (unZ c) (X 1).toNat) z) ∨ (T ≠ 1 ∧ t = 1 ∧ z = -1)
/-- THE BOX without fuel in a stage -/
def noX (f : Int → Int) (s : Int) : Int → Int := fun j => if j = s then 0 else f j
def qNee (T : Int) (fa R X : Int → Int) (s t z : Int) : Prop := (hsS T R s ∧ t = 0 ∧ ∃ c d, beA fa R X (loX X) (hiX X) (X 1) c ∧ beA fa R X (noX (loX X) s) (noX (hiX X) s) (X 1) d ∧ z = (if c < 0 ∨ d < 0 then -2 else weA fa (R 5) (X 0) d - weA fa (R 5) (X 0) c)) ∨ (¬ hsS T R s ∧ t = 1 ∧ z = -1)
def frX (fa R X : Int → Int) (l : List Int) : Prop := FrIs (cnA fa (R 5) (X 0) (loX X) (hiX X)) (weA fa (R 5) (X 0)) (fsA fa (R 5) (X 0)) l
def qFrs (T : Int) (fa R X : Int → Int) (t z : Int) : Prop := (T = 1 ∧ t = 0 ∧ ∃ l, frX fa R X l ∧ z = l.length) ∨ (T ≠ 1 ∧ t = 1 ∧ z = -1)
def qFro (T : Int) (fa R X : Int → Int) (i w t z : Int) : Prop := (∃ l, (T = 1 ∧ (0 ≤ i ∧ i < l.length) ∧ 0 ≤ w ∧ w ≤ 4) ∧ frX fa R X l ∧ t = 0 ∧ ∃ c, l[i.toNat]? = some c ∧ (w = 0 → z = weA fa (R 5) (X 0) c) ∧ (w = 1 → paA fa (R 5) (R 2) (R 3) (X 0) (unZ c) z) ∧ (2 ≤ w → z = if w - 2 < R 5 then unZ c (w - 2) else -2)) ∨ ((∀ l, (T = 1 ∧ (0 ≤ i ∧ i < l.length) ∧ 0 ≤ w ∧ w ≤ 4) → ¬ frX fa R X l) ∧ t = 1 ∧ z = -1)
/-- the division as it is weighs no less, has no more speed than a code's, and one of both tells them apart -/
def btX (fa R X : Int → Int) (c : Int) : Prop := weA fa (R 5) (X 0) c ≤ stX fa R X 0 ∧ 0 ≤ cmZ (spT fa (R 5) (X 0) (unZ c)) (spT fa (R 5) (X 0) (uX X)) ∧ (weA fa (R 5) (X 0) c < stX fa R X 0 ∨ 0 < cmZ (spT fa (R 5) (X 0) (unZ c)) (spT fa (R 5) (X 0) (uX X)))
def qBea (T : Int) (fa R X : Int → Int) (t z : Int) : Prop := (T = 1 ∧ t = 0 ∧ ∃ l, frX fa R X l ∧ ((z = 1 ∧ ∃ c, c ∈ l ∧ btX fa R X c) ∨ (z = 0 ∧ ∀ c, c ∈ l → ¬ btX fa R X c))) ∨ (T ≠ 1 ∧ t = 1 ∧ z = -1)
def qBox (T : Int) (R X : Int → Int) (s up t z : Int) : Prop := (hsS T R s ∧ t = 0 ∧ z = (if up = 1 then hiX X s else loX X s)) ∨ (¬ hsS T R s ∧ t = 1 ∧ z = -1)
def qRan (T : Int) (fa R X : Int → Int) (k s up t z : Int) : Prop := (hsS T R s ∧ kPw k ∧ t = 0 ∧ (up = 1 → mxP (cdA fa R X (loX X) (hiX X) k) (fun c => unZ c s) 4913 z) ∧ (up = 0 → mnP (cdA fa R X (loX X) (hiX X) k) (fun c => unZ c s) 4913 z)) ∨ (hsS T R s ∧ ¬ kPw k ∧ t = 2 ∧ z = -1) ∨ (¬ hsS T R s ∧ t = 1 ∧ z = -1)
def qWay (T : Int) (fa R X : Int → Int) (k t z : Int) : Prop := (T = 1 ∧ kPw k ∧ t = 0 ∧ z = cnP (cdA fa R X (loX X) (hiX X) k) 4913) ∨ (T = 1 ∧ ¬ kPw k ∧ t = 2 ∧ z = -1) ∨ (T ≠ 1 ∧ t = 1 ∧ z = -1)
theorem TI.keep {m m1 : Mem} {k kf ks kt kc : Nat} (h : TI m k kf ks kt kc) (hR : RocketAt k kf ks kt kc) (hq : ∀ q : Nat, (q < 15 ∨ 73 ≤ q) → m1 q = m q) : TI m1 k kf ks kt kc := by
  refine h.fr hR (fun j _ => by rw [hq 0 (by omega)]) (fun q h => hq q (by omega)) ?_ ?_
  · unfold ChOk; rw [hq 8 (by omega), hq 9 (by omega)]; exact h.2.2.1
  · unfold OuOk; rw [hq 12 (by omega), hq 14 (by omega), hq 0 (by omega)]; exact h.2.2.2.1
-- acts
def aKeep (K : Int) (Pf X : Int → Int) (K2 : Int) (Pg : Int → Int) : Prop := (K < 10 ∧ K2 = K + 1 ∧ (∀ i : Int, 0 ≤ i → i < 11 * K → Pg i = Pf i) ∧ ∀ i : Int, 0 ≤ i → i < 11 → Pg (11 * K + i) = X i) ∨ (10 ≤ K ∧ K2 = 10 ∧ (∀ i : Int, 0 ≤ i → i < 99 → Pg i = Pf (i + 11)) ∧ ∀ i : Int, 0 ≤ i → i < 11 → Pg (99 + i) = X i)
def AQ (t : Int) (m m' : Mem) : Prop := m' 0 18 = t ∧ m' 0 17 = m 0 17 + 1 ∧ (∀ j : Int, j ≠ 16 → j ≠ 17 → j ≠ 18 → m' 0 j = m 0 j) ∧ aKeep (m 0 16) (m 6) (m 5) (m' 0 16) (m' 6) ∧ ∀ q : Nat, (q = 1 ∨ q = 2 ∨ q = 3 ∨ 73 ≤ q) → m' q = m q
def UQ (t : Int) (m m' : Mem) : Prop := m' 0 18 = t ∧ m' 0 17 = m 0 17 + 1 ∧ m' 0 16 = m 0 16 - 1 ∧ (∀ j : Int, j ≠ 16 → j ≠ 17 → j ≠ 18 → m' 0 j = m 0 j) ∧ ∀ q : Nat, (q = 1 ∨ q = 2 ∨ q = 3 ∨ q = 6 ∨ 73 ≤ q) → m' q = m q
def AP (B : Int → Int → Int → (Int → Int) → Prop) (m m' : Mem) (z : Int) : Prop := ∃ t c, t ≠ 4 ∧ B t z c (m' 5) ∧ ((c = 0 ∧ CQ t m m') ∨ (c = 1 ∧ AQ t m m') ∨ (c = 2 ∧ UQ t m m'))
theorem XOk.cg {fa : Int → Int} {n : Int} {X Y : Int → Int} (h : XOk fa n X) (e : ∀ j : Int, 0 ≤ j → j < 11 → Y j = X j) : XOk fa n Y := by
  refine ⟨by rw [e 0 (by decide) (by decide)]; exact h.1, by rw [e 1 (by decide) (by decide)]; exact h.2.1, fun s h0 h1 => ?_⟩
  rw [e (2 + s) (by omega) (by omega), e (5 + s) (by omega) (by omega), e (8 + s) (by omega) (by omega)]; exact h.2.2 s h0 h1
theorem PaOk.keep {fa : Int → Int} {n K K2 : Int} {Pf Pg X : Int → Int} (h : PaOk fa n Pf K) (hk : 0 ≤ K ∧ K ≤ 10) (hX : XOk fa n X) (ha : aKeep K Pf X K2 Pg) : PaOk fa n Pg K2 ∧ 0 ≤ K2 ∧ K2 ≤ 10 := by
  rcases ha with ⟨a, b, c, d⟩ | ⟨a, b, c, d⟩
  · refine ⟨fun r r0 r1 => ?_, by omega⟩
    by_cases e : r = K
    · subst e; exact hX.cg fun j h0 h1 => d j h0 h1
    · exact (h r r0 (by omega)).cg fun j h0 h1 => c _ (by omega) (by omega)
  · refine ⟨fun r r0 r1 => ?_, by omega⟩
    by_cases e : r = 9
    · subst e; exact hX.cg fun j h0 h1 => d j h0 h1
    · refine (h (r + 1) (by omega) (by omega)).cg fun j h0 h1 => ?_
      show Pg (11 * r + j) = Pf (11 * (r + 1) + j)
      rw [c _ (by omega) (by omega)]; congr 1; omega
theorem CI.act {m m1 : Mem} {k kf ks kt kc : Nat} (hR : RocketAt k kf ks kt kc) (hk : (m 0 13).toNat = k) (hT : m 0 15 = 1) (hi : TI m k kf ks kt kc) (hch : m 0 17 < 100000) (h0 : ∀ j : Int, j ≠ 16 → j ≠ 17 → j ≠ 18 → m1 0 j = m 0 j) (h17 : m1 0 17 = m 0 17 + 1) (hq : ∀ q : Nat, (q = 12 ∨ 73 ≤ q) → m1 q = m q) (hc : ChOk m1 (m kf) (m k)) (hX : XOk (m kf) (m k 5) (m1 5)) (hp : PaOk (m kf) (m k 5) (m1 6) (m1 0 16) ∧ 0 ≤ m1 0 16 ∧ m1 0 16 ≤ 10) : CI m1 k kf ks kt kc := by
  have kk : 73 ≤ k ∧ 73 ≤ kf ∧ 73 ≤ ks ∧ 73 ≤ kt ∧ 73 ≤ kc := by unfold RocketAt at hR; omega
  have e1 := hq k (by omega)
  have e2 := hq kf (by omega)
  refine ⟨hR, by rw [h0 13 (by decide) (by decide) (by decide)]; exact hk, Or.inr ⟨by rw [h0 15 (by decide) (by decide) (by decide)]; exact hT, ?_⟩, by have := hi.2.2.2.1.1; rw [hq 12 (by omega), h17]; omega⟩
  unfold TI
  rw [e1, e2, h17]
  refine ⟨hi.1.fr e1 e2 (hq ks (by omega)) (hq kt (by omega)) (hq kc (by omega)), hX, hc, ?_, hp.2, by have := hi.2.2.2.2.2.1; omega, hp.1⟩
  have := hi.2.2.2.1.1
  exact ⟨by rw [hq 12 (by omega), h17]; omega, fun y => by rw [hq 12 (by omega), h17] at y; omega⟩
def qLoa (T : Int) (fa R X : Int → Int) (s w t z c : Int) (Y : Int → Int) : Prop := ((hsS T R s ∧ 0 ≤ w ∧ w ≤ fa (s * 9 + 3)) ∧ t = 0 ∧ z = X (2 + s) ∧ c = 1 ∧ ∀ j : Int, 0 ≤ j → j < 11 → Y j = if j = 2 + s then w else X j) ∨ (hsS T R s ∧ ¬ (0 ≤ w ∧ w ≤ fa (s * 9 + 3)) ∧ t = 2 ∧ z = -1 ∧ c = 0) ∨ (¬ hsS T R s ∧ t = 1 ∧ z = -1 ∧ c = 0)
def qBou (T : Int) (fa R X : Int → Int) (s lo hi t z c : Int) (Y : Int → Int) : Prop := ((hsS T R s ∧ 0 ≤ lo ∧ lo ≤ hi ∧ hi ≤ fa (s * 9 + 3)) ∧ t = 0 ∧ z = X (8 + s) - X (5 + s) ∧ c = 1 ∧ ∀ j : Int, 0 ≤ j → j < 11 → Y j = if j = 5 + s then lo else if j = 8 + s then hi else X j) ∨ (hsS T R s ∧ ¬ (0 ≤ lo ∧ lo ≤ hi ∧ hi ≤ fa (s * 9 + 3)) ∧ t = 2 ∧ z = -1 ∧ c = 0) ∨ (¬ hsS T R s ∧ t = 1 ∧ z = -1 ∧ c = 0)
def qPut (T : Int) (X : Int → Int) (p most v t z c : Int) (Y : Int → Int) : Prop := ((T = 1 ∧ 1 ≤ v ∧ v ≤ most) ∧ t = 0 ∧ z = X p ∧ c = 1 ∧ ∀ j : Int, 0 ≤ j → j < 11 → Y j = if j = p then v else X j) ∨ (T = 1 ∧ ¬ (1 ≤ v ∧ v ≤ most) ∧ t = 2 ∧ z = -1 ∧ c = 0) ∨ (T ≠ 1 ∧ t = 1 ∧ z = -1 ∧ c = 0)
def qAdo (T : Int) (fa R X : Int → Int) (t z c : Int) (Y : Int → Int) : Prop := (T = 1 ∧ ∃ b, beA fa R X (loX X) (hiX X) (X 1) b ∧ ((0 ≤ b ∧ t = 0 ∧ z = weA fa (R 5) (X 0) b ∧ c = 1 ∧ ∀ j : Int, 0 ≤ j → j < 11 → Y j = if 2 ≤ j ∧ j < 5 then unZ b (j - 2) else X j) ∨ (b < 0 ∧ t = 5 ∧ z = -1 ∧ c = 0))) ∨ (T ≠ 1 ∧ t = 1 ∧ z = -1 ∧ c = 0)
def qUnd (T K : Int) (Pf : Int → Int) (t z c : Int) (Y : Int → Int) : Prop := ((T = 1 ∧ 1 ≤ K) ∧ t = 0 ∧ z = 1 ∧ c = 2 ∧ ∀ j : Int, 0 ≤ j → j < 11 → Y j = Pf (11 * (K - 1) + j)) ∨ (¬ (T = 1 ∧ 1 ≤ K) ∧ t = 1 ∧ z = 0 ∧ c = 0)
