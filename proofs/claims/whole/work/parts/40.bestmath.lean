/-! from the cells to what they tell; what a query that lays them leaves -/
theorem inB_cg {lo hi lo2 hi2 : Int → Int} {c : Int} (h : ∀ j : Int, 0 ≤ j → j < 3 → lo j = lo2 j ∧ hi j = hi2 j) : inB lo hi c ↔ inB lo2 hi2 c := by
  constructor
  · intro a s h0 h1; have := a s h0 h1; rw [(h s h0 h1).1, (h s h0 h1).2] at this; exact this
  · intro a s h0 h1; rw [(h s h0 h1).1, (h s h0 h1).2]; exact a s h0 h1
theorem cnA_cg {fa : Int → Int} {n P : Int} {lo hi lo2 hi2 : Int → Int} (h : ∀ j : Int, 0 ≤ j → j < 3 → lo j = lo2 j ∧ hi j = hi2 j) : cnA fa n P lo hi = cnA fa n P lo2 hi2 := by
  funext c; unfold cnA; rw [propext (inB_cg (c := c) h)]
theorem Ce1.cd {g fa : Int → Int} {n up lw P c k : Int} {lo hi : Int → Int} (h : Ce1 g fa n up lw P c) (hF : FaOk fa n) (hn : 1 ≤ n ∧ n ≤ 3) (hP : 1 ≤ P ∧ P ≤ 40) (hL : 1 ≤ lw) (hU : lw < up) (h0 : 0 ≤ c) (h1 : c < 4913) (hk : kPw k) : caB g lo hi k c ↔ (cnA fa n P lo hi c ∧ reA fa n up lw P (unZ c) k.toNat) := by
  have al := (un_dv hn hP h0 h1).al hF
  have key : 0 ≤ g c → (k ≤ g c % 64 ↔ reA fa n up lw P (unZ c) k.toNat) := fun hg => by
    have p := (h.pos hg).2.2.1
    unfold paA at p
    exact p.iff (by omega) hL hU hk.1 hk.2
  constructor
  · intro a
    exact ⟨(h.cn hF hn hP h0 h1).mp ⟨a.1, a.2.1⟩, (key a.1).mp a.2.2⟩
  · intro a
    have b := (h.cn (lo := lo) (hi := hi) hF hn hP h0 h1).mpr a.1
    exact ⟨b.1, b.2, (key b.1).mpr a.2⟩
/-- cells laid for how things stand -/
def LdOk (m : Mem) (fa R X : Int → Int) : Prop := m 8 5 = X 0 ∧ CeOk (m 9) fa (R 5) (R 2) (R 3) (X 0)
def VdOk (fa R X : Int → Int) : Prop := (1 ≤ R 5 ∧ R 5 ≤ 3) ∧ FaOk fa (R 5) ∧ (2 ≤ R 2 ∧ R 2 ≤ 99) ∧ (1 ≤ R 3 ∧ R 3 < R 2) ∧ XOk fa (R 5) X
theorem LdOk.ch {m : Mem} {fa R X : Int → Int} (h : LdOk m fa R X) (hv : VdOk fa R X) : ChOk m fa R := by
  have := hv.2.2.2.2.1
  exact ⟨by rw [h.1]; omega, fun _ => by rw [h.1]; exact h.2⟩
theorem LdOk.ce {m : Mem} {fa R X : Int → Int} (h : LdOk m fa R X) (hv : VdOk fa R X) : ∀ c : Int, 0 ≤ c → c < 4913 → -1 ≤ m 9 c ∧ m 9 c ≤ 30000 := h.2.rng hv.2.1 hv.1 hv.2.2.2.2.1
theorem LdOk.be {m : Mem} {fa R X lo hi lo2 hi2 : Int → Int} {k z : Int} (h : LdOk m fa R X) (hv : VdOk fa R X) (hk : kPw k) (hb : ∀ j : Int, 0 ≤ j → j < 3 → lo j = lo2 j ∧ hi j = hi2 j) (hz : beB (m 9) lo hi k 4913 z) : beA fa R X lo2 hi2 k z ∧ (0 ≤ z → (0 ≤ z ∧ z < 4913) ∧ 0 ≤ m 9 z ∧ m 9 z / 64 = weA fa (R 5) (X 0) z) := by
  have hz2 : bsP (caB (m 9) lo hi k) (fun c => m 9 c / 64) 4913 z := hz
  refine ⟨hz2.cg (fun c h0 h1 => ?_) (fun c h0 h1 h2 => ((h.2 c h0 h1).pos h2.1).2.2.2), fun hp => ?_⟩
  · rw [(h.2 c h0 h1).cd hv.2.1 hv.1 hv.2.2.2.2.1 hv.2.2.2.1.1 hv.2.2.2.1.2 h0 h1 hk]
    unfold cdA; rw [cnA_cg hb]
  · rcases hz with ⟨a, -⟩ | ⟨a, b, c, -⟩
    · omega
    · exact ⟨⟨a, b⟩, c.1, ((h.2 z a b).pos c.1).2.2.2⟩
theorem LdOk.cd {m : Mem} {fa R X lo hi lo2 hi2 : Int → Int} {k c : Int} (h : LdOk m fa R X) (hv : VdOk fa R X) (hk : kPw k) (hb : ∀ j : Int, 0 ≤ j → j < 3 → lo j = lo2 j ∧ hi j = hi2 j) (h0 : 0 ≤ c) (h1 : c < 4913) : caB (m 9) lo hi k c ↔ cdA fa R X lo2 hi2 k c := by
  rw [(h.2 c h0 h1).cd hv.2.1 hv.1 hv.2.2.2.2.1 hv.2.2.2.1.1 hv.2.2.2.1.2 h0 h1 hk]
  unfold cdA; rw [cnA_cg hb]
theorem LdOk.far {m : Mem} {fa R X lo hi lo2 hi2 : Int → Int} {z : Int} (h : LdOk m fa R X) (hv : VdOk fa R X) (hb : ∀ j : Int, 0 ≤ j → j < 3 → lo j = lo2 j ∧ hi j = hi2 j) (hz : mxP (fun c => 0 ≤ m 9 c ∧ inB lo hi c) (fun c => m 9 c % 64) 4913 z) :
    (z = -2 ∧ ∀ c : Int, 0 ≤ c → c < 4913 → ¬ cnA fa (R 5) (X 0) lo2 hi2 c) ∨ ((∃ c : Int, 0 ≤ c ∧ c < 4913 ∧ cnA fa (R 5) (X 0) lo2 hi2 c ∧ paA fa (R 5) (R 2) (R 3) (X 0) (unZ c) z) ∧ ∀ d : Int, 0 ≤ d → d < 4913 → cnA fa (R 5) (X 0) lo2 hi2 d → ∃ y, paA fa (R 5) (R 2) (R 3) (X 0) (unZ d) y ∧ y ≤ z) := by
  have key : ∀ c : Int, 0 ≤ c → c < 4913 → ((0 ≤ m 9 c ∧ inB lo hi c) ↔ cnA fa (R 5) (X 0) lo2 hi2 c) := fun c h0 h1 => by
    rw [(h.2 c h0 h1).cn hv.2.1 hv.1 hv.2.2.2.2.1 h0 h1, cnA_cg hb]
  rcases hz with ⟨a, b⟩ | ⟨c, a, b, d, e, f⟩
  · exact Or.inl ⟨a, fun c h0 h1 h2 => b c h0 h1 ((key c h0 h1).mpr h2)⟩
  · refine Or.inr ⟨⟨c, a, b, (key c a b).mp d, by rw [← e]; exact ((h.2 c a b).pos d.1).2.2.1⟩, fun x h0 h1 h2 => ?_⟩
    have y := (key x h0 h1).mpr h2
    exact ⟨m 9 x % 64, ((h.2 x h0 h1).pos y.1).2.2.1, f x h0 h1 y⟩
theorem liP.cg {p q : Int → Int → Prop} {z : Int} (h : liP p z) (hp : ∀ v c : Int, 0 ≤ c → c < 4913 → (p v c ↔ q v c)) : liP q z := by
  rcases h with ⟨a, b⟩ | ⟨a, ⟨c, c0, c1, c2⟩, d⟩
  · exact Or.inl ⟨a, fun v c h1 h2 h3 h4 h5 => b v c h1 h2 h3 h4 ((hp v c h3 h4).mpr h5)⟩
  · exact Or.inr ⟨a, ⟨c, c0, c1, (hp z c c0 c1).mp c2⟩, fun v c h1 h2 h3 h4 h5 => d v c h1 h2 h3 h4 ((hp v c h3 h4).mpr h5)⟩
theorem okL_cn {fa R lo hi lo2 hi2 : Int → Int} {k v c : Int} (hb : ∀ j : Int, 0 ≤ j → j < 3 → lo j = lo2 j ∧ hi j = hi2 j) : okL fa (R 5) (R 2) (R 3) k lo hi v c ↔ (cnA fa (R 5) v lo2 hi2 c ∧ reA fa (R 5) (R 2) (R 3) v (unZ c) k.toNat) := by
  rw [← cnA_cg hb]; unfold okL cnA
  exact ⟨fun a => ⟨⟨a.1.2, a.1.1, a.2.1⟩, a.2.2⟩, fun a => ⟨⟨a.1.2.1, a.1.1⟩, a.1.2.2, a.2⟩⟩
theorem VdOk.bx {fa R X : Int → Int} (h : VdOk fa R X) : ∀ j : Int, 0 ≤ j → j < 3 → (0 ≤ loX X j ∧ loX X j ≤ 16) ∧ 0 ≤ hiX X j ∧ hiX X j ≤ 16 := fun j h0 h1 => by
  have a := (h.2.2.2.2.2.2 j h0 h1).2
  have b := mst_rng (n := R 5) h.2.1 h0
  unfold loX hiX; omega
theorem TI.vd {m : Mem} {k kf ks kt kc : Nat} (h : TI m k kf ks kt kc) : VdOk (m kf) (m k) (m 5) := ⟨h.1.1, h.1.2.1, h.1.2.2.1, h.1.2.2.2.1, h.2.1⟩
theorem CQ.of3 {m m1 : Mem} {t : Int} (h : ∀ q : Nat, (q < 8 ∨ 73 ≤ q) → m1 q = m q) : CQ t m (mup m1 0 18 t) := by
  refine ⟨mup_s _ _ _ _, fun j hj => ?_, fun q hq => ?_⟩
  · rw [mup_j _ _ hj, h 0 (by omega)]
  · rw [mup_k _ _ _ (by omega)]; exact h q (by omega)
theorem CI.of3 {m m1 : Mem} {t : Int} {k kf ks kt kc : Nat} (hR : RocketAt k kf ks kt kc) (hk : (m 0 13).toNat = k) (hT : m 0 15 = 1) (hi : TI m k kf ks kt kc) (h : ∀ q : Nat, (q < 8 ∨ 73 ≤ q) → m1 q = m q) (hc : ChOk m1 (m kf) (m k)) (ho : OuOk m1 (m kf) (m k) (m 5)) : CI (mup m1 0 18 t) k kf ks kt kc := by
  have z : ∀ q : Nat, q ≠ 0 → mup m1 0 18 t q = m1 q := fun q h1 => mup_k _ _ _ h1
  have z0 : ∀ j : Int, j ≠ 18 → mup m1 0 18 t 0 j = m 0 j := fun j hj => by rw [mup_j _ _ hj, h 0 (by omega)]
  refine ⟨hR, by rw [z0 13 (by decide)]; exact hk, Or.inr ⟨by rw [z0 15 (by decide)]; exact hT, hi.fr hR z0 (fun q hq => by rw [z q (by omega)]; exact h q (by omega)) ?_ ?_⟩, by rw [z 12 (by decide), z0 17 (by decide)]; have := ho.1; rw [h 0 (by omega)] at this; exact this⟩
  · unfold ChOk; rw [z 8 (by decide), z 9 (by decide)]; exact hc
  · unfold OuOk; rw [z 12 (by decide), z 14 (by decide), z0 17 (by decide)]
    unfold OuOk at ho; rw [h 0 (by omega)] at ho; exact ho
theorem OuOk.same {m m1 : Mem} {fa R X : Int → Int} (h : OuOk m fa R X) (e0 : m1 0 = m 0) (e1 : m1 12 = m 12) (e2 : m1 14 = m 14) : OuOk m1 fa R X := by
  unfold OuOk; rw [e0, e1, e2]; exact h
theorem FrC.cg {p q : Int → Prop} {w : Int → Int} {fs : Int → Int → Prop} {co : Int → Int} {n : Int} (h : FrC p w fs co n) (e : p = q) : FrC q w fs co n := by rw [← e]; exact h
