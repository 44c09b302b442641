/-! choosing over codes in their order: counted, greatest, least, best; THE FRONT; what both sides are held to -/
noncomputable def cnP (p : Int → Prop) : Nat → Int
  | 0 => 0
  | n + 1 => cnP p n + @ite Int (p n) (Classical.propDecidable _) 1 0
theorem cnP_y {p : Int → Prop} {n : Nat} (h : p n) : cnP p (n + 1) = cnP p n + 1 := by
  show _ + @ite Int (p n) (Classical.propDecidable _) 1 0 = _
  rw [if_pos h]
theorem cnP_n {p : Int → Prop} {n : Nat} (h : ¬ p n) : cnP p (n + 1) = cnP p n := by
  show _ + @ite Int (p n) (Classical.propDecidable _) 1 0 = _
  rw [if_neg h]; omega
theorem cnP_rng (p : Int → Prop) (n : Nat) : 0 ≤ cnP p n ∧ cnP p n ≤ n := by
  induction n with
  | zero => exact ⟨Int.le_refl _, Int.le_refl _⟩
  | succ n ih =>
    by_cases h : p n
    · rw [cnP_y h]; omega
    · rw [cnP_n h]; omega
theorem cnP_cg {p q : Int → Prop} (n : Nat) (h : ∀ c : Int, 0 ≤ c → c < n → (p c ↔ q c)) : cnP p n = cnP q n := by
  induction n with
  | zero => rfl
  | succ n ih =>
    have i := ih fun c h0 h1 => h c h0 (by omega)
    have k := h n (by omega) (by omega)
    by_cases z : p n
    · rw [cnP_y z, cnP_y (k.mp z), i]
    · rw [cnP_n z, cnP_n (fun y => z (k.mpr y)), i]
theorem cnP_to {p : Int → Prop} {a b : Nat} (hab : a ≤ b) (h : ∀ c : Int, a ≤ c → c < b → ¬ p c) : cnP p b = cnP p a := by
  obtain ⟨d, rfl⟩ : ∃ d, b = a + d := ⟨b - a, by omega⟩
  clear hab
  induction d with
  | zero => rfl
  | succ d ih =>
    rw [show a + (d + 1) = a + d + 1 by omega, cnP_n (h _ (by omega) (by omega))]
    exact ih fun c h0 h1 => h c h0 (by omega)
def mxP (p : Int → Prop) (v : Int → Int) (n z : Int) : Prop := (z = -2 ∧ ∀ c : Int, 0 ≤ c → c < n → ¬ p c) ∨ (∃ c : Int, 0 ≤ c ∧ c < n ∧ p c ∧ v c = z ∧ ∀ d : Int, 0 ≤ d → d < n → p d → v d ≤ z)
def mnP (p : Int → Prop) (v : Int → Int) (n z : Int) : Prop := (z = -2 ∧ ∀ c : Int, 0 ≤ c → c < n → ¬ p c) ∨ (∃ c : Int, 0 ≤ c ∧ c < n ∧ p c ∧ v c = z ∧ ∀ d : Int, 0 ≤ d → d < n → p d → z ≤ v d)
theorem mxP.to {p : Int → Prop} {v : Int → Int} {n k z : Int} (h : mxP p v n z) (hk : n ≤ k) (hn : ∀ c : Int, n ≤ c → c < k → ¬ p c) : mxP p v k z := by
  rcases h with ⟨a, b⟩ | ⟨c, a, b, d, e, f⟩
  · refine Or.inl ⟨a, fun c h0 h1 => ?_⟩
    by_cases q : c < n
    · exact b c h0 q
    · exact hn c (by omega) h1
  · refine Or.inr ⟨c, a, by omega, d, e, fun x h0 h1 h2 => ?_⟩
    by_cases q : x < n
    · exact f x h0 q h2
    · exact absurd h2 (hn x (by omega) h1)
theorem mxP.skip {p : Int → Prop} {v : Int → Int} {n z : Int} (h : mxP p v n z) (hn : ¬ p n) : mxP p v (n + 1) z := h.to (by omega) (fun c h0 h1 => by rw [show c = n by omega]; exact hn)
theorem mxP.new {p : Int → Prop} {v : Int → Int} {n z : Int} (h : mxP p v n z) (h0 : 0 ≤ n) (hn : p n) (hz : z = -2 ∧ (∀ c : Int, 0 ≤ c → c < n → p c → v c ≤ v n) ∨ z ≤ v n) : mxP p v (n + 1) (v n) := by
  refine Or.inr ⟨n, h0, by omega, hn, rfl, fun c h1 h2 h3 => ?_⟩
  by_cases e : c = n
  · rw [e]; exact Int.le_refl _
  · rcases h with ⟨a, b⟩ | ⟨c0, a, b, d, e0, f⟩
    · exact absurd h3 (b c h1 (by omega))
    · have := f c h1 (by omega) h3
      rcases hz with y | y
      · exact y.2 c h1 (by omega) h3
      · omega
theorem mxP.first {p : Int → Prop} {v : Int → Int} {n : Int} (h : mxP p v n (-2)) (h0 : 0 ≤ n) (hn : p n) (hv : ∀ c : Int, 0 ≤ v c) : mxP p v (n + 1) (v n) := by
  rcases h with ⟨a, b⟩ | ⟨c0, a, b, d, e0, f⟩
  · exact mxP.new (Or.inl ⟨rfl, b⟩) h0 hn (Or.inl ⟨rfl, fun c h1 h2 h3 => absurd h3 (b c h1 h2)⟩)
  · have := hv c0; omega
theorem mxP.keep {p : Int → Prop} {v : Int → Int} {n z : Int} (h : mxP p v n z) (h0 : z ≠ -2) (hz : v n ≤ z) : mxP p v (n + 1) z := by
  rcases h with ⟨a, b⟩ | ⟨c, a, b, d, e, f⟩
  · exact absurd a h0
  · refine Or.inr ⟨c, a, by omega, d, e, fun x h1 h2 h3 => ?_⟩
    by_cases q : x = n
    · rw [q]; exact hz
    · exact f x h1 (by omega) h3
theorem mnP.to {p : Int → Prop} {v : Int → Int} {n k z : Int} (h : mnP p v n z) (hk : n ≤ k) (hn : ∀ c : Int, n ≤ c → c < k → ¬ p c) : mnP p v k z := by
  rcases h with ⟨a, b⟩ | ⟨c, a, b, d, e, f⟩
  · refine Or.inl ⟨a, fun c h0 h1 => ?_⟩
    by_cases q : c < n
    · exact b c h0 q
    · exact hn c (by omega) h1
  · refine Or.inr ⟨c, a, by omega, d, e, fun x h0 h1 h2 => ?_⟩
    by_cases q : x < n
    · exact f x h0 q h2
    · exact absurd h2 (hn x (by omega) h1)
theorem mnP.skip {p : Int → Prop} {v : Int → Int} {n z : Int} (h : mnP p v n z) (hn : ¬ p n) : mnP p v (n + 1) z := h.to (by omega) (fun c h0 h1 => by rw [show c = n by omega]; exact hn)
theorem mnP.new {p : Int → Prop} {v : Int → Int} {n z : Int} (h : mnP p v n z) (h0 : 0 ≤ n) (hn : p n) (hz : v n ≤ z) : mnP p v (n + 1) (v n) := by
  refine Or.inr ⟨n, h0, by omega, hn, rfl, fun c h1 h2 h3 => ?_⟩
  by_cases e : c = n
  · rw [e]; exact Int.le_refl _
  · rcases h with ⟨a, b⟩ | ⟨c0, a, b, d, e0, f⟩
    · exact absurd h3 (b c h1 (by omega))
    · have := f c h1 (by omega) h3; omega
theorem mnP.first {p : Int → Prop} {v : Int → Int} {n : Int} (h : mnP p v n (-2)) (h0 : 0 ≤ n) (hn : p n) (hv : ∀ c : Int, 0 ≤ v c) : mnP p v (n + 1) (v n) := by
  rcases h with ⟨a, b⟩ | ⟨c0, a, b, d, e0, f⟩
  · refine Or.inr ⟨n, h0, by omega, hn, rfl, fun c h1 h2 h3 => ?_⟩
    by_cases e : c = n
    · rw [e]; exact Int.le_refl _
    · exact absurd h3 (b c h1 (by omega))
  · have := hv c0; omega
theorem mnP.keep {p : Int → Prop} {v : Int → Int} {n z : Int} (h : mnP p v n z) (h0 : z ≠ -2) (hz : z ≤ v n) : mnP p v (n + 1) z := by
  rcases h with ⟨a, b⟩ | ⟨c, a, b, d, e, f⟩
  · exact absurd a h0
  · refine Or.inr ⟨c, a, by omega, d, e, fun x h1 h2 h3 => ?_⟩
    by_cases q : x = n
    · rw [q]; exact hz
    · exact f x h1 (by omega) h3
theorem mxP.sgn {p : Int → Prop} {v : Int → Int} {n z : Int} (h : mxP p v n z) (hv : ∀ c : Int, 0 ≤ c → c < n → 0 ≤ v c ∧ v c ≤ 1000) : z = -2 ∨ (0 ≤ z ∧ z ≤ 1000) := by
  rcases h with ⟨a, b⟩ | ⟨c, a, b, d, e, f⟩
  · exact Or.inl a
  · have := hv c a b; omega
theorem mnP.sgn {p : Int → Prop} {v : Int → Int} {n z : Int} (h : mnP p v n z) (hv : ∀ c : Int, 0 ≤ c → c < n → 0 ≤ v c ∧ v c ≤ 1000) : z = -2 ∨ (0 ≤ z ∧ z ≤ 1000) := by
  rcases h with ⟨a, b⟩ | ⟨c, a, b, d, e, f⟩
  · exact Or.inl a
  · have := hv c a b; omega
theorem mxP.cg {p q : Int → Prop} {v w : Int → Int} {n z : Int} (h : mxP p v n z) (hp : ∀ c : Int, 0 ≤ c → c < n → (p c ↔ q c)) (hv : ∀ c : Int, 0 ≤ c → c < n → p c → v c = w c) : mxP q w n z := by
  rcases h with ⟨a, b⟩ | ⟨c, a, b, d, e, f⟩
  · exact Or.inl ⟨a, fun c h0 h1 h2 => b c h0 h1 ((hp c h0 h1).mpr h2)⟩
  · exact Or.inr ⟨c, a, b, (hp c a b).mp d, by rw [← hv c a b d]; exact e, fun x h0 h1 h2 => by have y := (hp x h0 h1).mpr h2; rw [← hv x h0 h1 y]; exact f x h0 h1 y⟩
theorem mnP.cg {p q : Int → Prop} {v w : Int → Int} {n z : Int} (h : mnP p v n z) (hp : ∀ c : Int, 0 ≤ c → c < n → (p c ↔ q c)) (hv : ∀ c : Int, 0 ≤ c → c < n → p c → v c = w c) : mnP q w n z := by
  rcases h with ⟨a, b⟩ | ⟨c, a, b, d, e, f⟩
  · exact Or.inl ⟨a, fun c h0 h1 h2 => b c h0 h1 ((hp c h0 h1).mpr h2)⟩
  · exact Or.inr ⟨c, a, b, (hp c a b).mp d, by rw [← hv c a b d]; exact e, fun x h0 h1 h2 => by have y := (hp x h0 h1).mpr h2; rw [← hv x h0 h1 y]; exact f x h0 h1 y⟩
theorem mxP.eq {p : Int → Prop} {v : Int → Int} {n z y : Int} (h : mxP p v n z) (h2 : mxP p v n y) : z = y := by
  rcases h with ⟨a, b⟩ | ⟨c, a, b, d, e, f⟩ <;> rcases h2 with ⟨a2, b2⟩ | ⟨c2, a2, b2, d2, e2, f2⟩
  · omega
  · exact absurd d2 (b c2 a2 b2)
  · exact absurd d (b2 c a b)
  · have x := f c2 a2 b2 d2
    have w := f2 c a b d
    omega
theorem mnP.eq {p : Int → Prop} {v : Int → Int} {n z y : Int} (h : mnP p v n z) (h2 : mnP p v n y) : z = y := by
  rcases h with ⟨a, b⟩ | ⟨c, a, b, d, e, f⟩ <;> rcases h2 with ⟨a2, b2⟩ | ⟨c2, a2, b2, d2, e2, f2⟩
  · omega
  · exact absurd d2 (b c2 a2 b2)
  · exact absurd d (b2 c a b)
  · have x := f c2 a2 b2 d2
    have w := f2 c a b d
    omega
def bsP (p : Int → Prop) (w : Int → Int) (n z : Int) : Prop := (z = -1 ∧ ∀ c : Int, 0 ≤ c → c < n → ¬ p c) ∨ (0 ≤ z ∧ z < n ∧ p z ∧ ∀ c : Int, 0 ≤ c → c < n → p c → w z < w c ∨ (w z = w c ∧ z ≤ c))
theorem bsP.to {p : Int → Prop} {w : Int → Int} {n k z : Int} (h : bsP p w n z) (hk : n ≤ k) (hn : ∀ c : Int, n ≤ c → c < k → ¬ p c) : bsP p w k z := by
  rcases h with ⟨a, b⟩ | ⟨a, b, d, f⟩
  · refine Or.inl ⟨a, fun c h0 h1 => ?_⟩
    by_cases q : c < n
    · exact b c h0 q
    · exact hn c (by omega) h1
  · refine Or.inr ⟨a, by omega, d, fun x h0 h1 h2 => ?_⟩
    by_cases q : x < n
    · exact f x h0 q h2
    · exact absurd h2 (hn x (by omega) h1)
theorem bsP.skip {p : Int → Prop} {w : Int → Int} {n z : Int} (h : bsP p w n z) (hn : ¬ p n) : bsP p w (n + 1) z := h.to (by omega) (fun c h0 h1 => by rw [show c = n by omega]; exact hn)
theorem bsP.new {p : Int → Prop} {w : Int → Int} {n z : Int} (h : bsP p w n z) (h0 : 0 ≤ n) (hn : p n) (hz : z < 0 ∨ w n < w z) : bsP p w (n + 1) n := by
  refine Or.inr ⟨h0, by omega, hn, fun c h1 h2 h3 => ?_⟩
  by_cases e : c = n
  · rw [e]; exact Or.inr ⟨rfl, Int.le_refl _⟩
  · rcases h with ⟨a, b⟩ | ⟨a, b, c0, d⟩
    · exact absurd h3 (b c h1 (by omega))
    · have := d c h1 (by omega) h3; omega
theorem bsP.keep {p : Int → Prop} {w : Int → Int} {n z : Int} (h : bsP p w n z) (h0 : 0 ≤ z) (hz : w z ≤ w n) : bsP p w (n + 1) z := by
  rcases h with ⟨a, b⟩ | ⟨a, b, c0, d⟩
  · omega
  · refine Or.inr ⟨a, by omega, c0, fun c h1 h2 h3 => ?_⟩
    by_cases e : c = n
    · rw [e]; omega
    · exact d c h1 (by omega) h3
theorem bsP.cg {p q : Int → Prop} {w y : Int → Int} {n z : Int} (h : bsP p w n z) (hp : ∀ c : Int, 0 ≤ c → c < n → (p c ↔ q c)) (hv : ∀ c : Int, 0 ≤ c → c < n → p c → w c = y c) : bsP q y n z := by
  rcases h with ⟨a, b⟩ | ⟨a, b, d, f⟩
  · exact Or.inl ⟨a, fun c h0 h1 h2 => b c h0 h1 ((hp c h0 h1).mpr h2)⟩
  · exact Or.inr ⟨a, b, (hp z a b).mp d, fun x h0 h1 h2 => by have k := (hp x h0 h1).mpr h2; rw [← hv x h0 h1 k, ← hv z a b d]; exact f x h0 h1 k⟩
theorem bsP.eq {p : Int → Prop} {w : Int → Int} {n z y : Int} (h : bsP p w n z) (h2 : bsP p w n y) : z = y := by
  rcases h with ⟨a, b⟩ | ⟨a, b, d, f⟩ <;> rcases h2 with ⟨a2, b2⟩ | ⟨a2, b2, d2, f2⟩
  · omega
  · exact absurd d2 (b y a2 b2)
  · exact absurd d (b2 z a b)
  · have x := f y a2 b2 d2
    have k := f2 z a b d
    omega
-- THE FRONT
def BmOk (p : Int → Prop) (w : Int → Int) (fs : Int → Int → Prop) (n M : Int) (bm : Int → Int) : Prop := ∀ x : Int, 0 ≤ x → x < M → (bm x = -1 ∧ ∀ c : Int, 0 ≤ c → c < n → p c → w c ≠ x) ∨ ((0 ≤ bm x ∧ bm x < n) ∧ p (bm x) ∧ w (bm x) = x ∧ ∀ c : Int, 0 ≤ c → c < n → p c → w c = x → ¬ fs c (bm x) ∧ (¬ fs (bm x) c → bm x ≤ c))
def cdR (c : Int) : Prop := 0 ≤ c ∧ c < 4913
/-- a greater speed: cross-multiplied, it is an order -/
def OrdS (fs : Int → Int → Prop) : Prop := (∀ a b, cdR a → cdR b → fs a b → ¬ fs b a) ∧ (∀ a b c, cdR a → cdR b → cdR c → fs a b → ¬ fs c b → fs a c)
theorem BmOk.to {p : Int → Prop} {w : Int → Int} {fs : Int → Int → Prop} {n k M : Int} {bm : Int → Int} (h : BmOk p w fs n M bm) (hk : n ≤ k) (hn : ∀ c : Int, n ≤ c → c < k → ¬ p c) : BmOk p w fs k M bm := by
  intro x x0 x1
  rcases h x x0 x1 with ⟨a, b⟩ | ⟨a, b, d, f⟩
  · refine Or.inl ⟨a, fun c h0 h1 h2 => ?_⟩
    by_cases q : c < n
    · exact b c h0 q h2
    · exact absurd h2 (hn c (by omega) h1)
  · refine Or.inr ⟨by omega, b, d, fun c h0 h1 h2 => ?_⟩
    by_cases q : c < n
    · exact f c h0 q h2
    · exact absurd h2 (hn c (by omega) h1)
theorem BmOk.skip {p : Int → Prop} {w : Int → Int} {fs : Int → Int → Prop} {n M : Int} {bm : Int → Int} (h : BmOk p w fs n M bm) (hn : ¬ p n) : BmOk p w fs (n + 1) M bm := h.to (by omega) (fun c h0 h1 => by rw [show c = n by omega]; exact hn)
theorem BmOk.keep {p : Int → Prop} {w : Int → Int} {fs : Int → Int → Prop} {n M : Int} {bm : Int → Int} (h : BmOk p w fs n M bm) (h0 : 0 ≤ bm (w n)) (hf : ¬ fs n (bm (w n))) : BmOk p w fs (n + 1) M bm := by
  intro x x0 x1
  rcases h x x0 x1 with ⟨a, b⟩ | ⟨a, b, d, f⟩
  · refine Or.inl ⟨a, fun c h1 h2 h3 => ?_⟩
    by_cases q : c = n
    · intro e; rw [q] at e; rw [e] at h0; omega
    · exact b c h1 (by omega) h3
  · refine Or.inr ⟨by omega, b, d, fun c h1 h2 h3 h4 => ?_⟩
    by_cases q : c = n
    · subst q; rw [h4] at hf; exact ⟨hf, fun _ => by omega⟩
    · exact f c h1 (by omega) h3 h4
theorem BmOk.new {p : Int → Prop} {w : Int → Int} {fs : Int → Int → Prop} {n M : Int} {bm bn : Int → Int} (h : BmOk p w fs n M bm) (ho : OrdS fs) (hp : p n) (h0 : 0 ≤ n) (hn : n < 4913) (hf : bm (w n) < 0 ∨ fs n (bm (w n))) (he : bn (w n) = n) (hr : ∀ x : Int, x ≠ w n → bn x = bm x) : BmOk p w fs (n + 1) M bn := by
  intro x x0 x1
  by_cases e : x = w n
  · subst e
    rw [he]
    refine Or.inr ⟨by omega, hp, rfl, fun c h1 h2 h3 h4 => ?_⟩
    have irr : ¬ fs n n := fun y => ho.1 n n ⟨h0, hn⟩ ⟨h0, hn⟩ y y
    by_cases q : c = n
    · subst q; exact ⟨irr, fun _ => Int.le_refl _⟩
    · rcases h (w n) x0 x1 with ⟨a, b⟩ | ⟨a, b, d, f⟩
      · exact absurd h4 (b c h1 (by omega) h3)
      · have g := f c h1 (by omega) h3 h4
        have k : fs n (bm (w n)) := by rcases hf with y | y; · omega
                                       · exact y
        have k2 := ho.2 n _ c ⟨h0, hn⟩ ⟨a.1, by omega⟩ ⟨h1, by omega⟩ k g.1
        exact ⟨ho.1 _ _ ⟨h0, hn⟩ ⟨h1, by omega⟩ k2, fun y => absurd k2 y⟩
  · rw [hr x e]
    rcases h x x0 x1 with ⟨a, b⟩ | ⟨a, b, d, f⟩
    · refine Or.inl ⟨a, fun c h1 h2 h3 => ?_⟩
      by_cases q : c = n
      · rw [q]; exact fun y => e y.symm
      · exact b c h1 (by omega) h3
    · refine Or.inr ⟨by omega, b, d, fun c h1 h2 h3 h4 => ?_⟩
      by_cases q : c = n
      · rw [q] at h4; exact absurd h4.symm e
      · exact f c h1 (by omega) h3 h4
theorem BmOk.eq {p : Int → Prop} {w : Int → Int} {fs : Int → Int → Prop} {n M : Int} {bm bn : Int → Int} (h : BmOk p w fs n M bm) (h2 : BmOk p w fs n M bn) {x : Int} (x0 : 0 ≤ x) (x1 : x < M) : bm x = bn x := by
  rcases h x x0 x1 with ⟨a, b⟩ | ⟨a, b, d, f⟩ <;> rcases h2 x x0 x1 with ⟨a2, b2⟩ | ⟨a2, b2, d2, f2⟩
  · omega
  · exact absurd d2 (b _ a2.1 a2.2 b2)
  · exact absurd d (b2 _ a.1 a.2 b)
  · have k := f _ a2.1 a2.2 b2 d2
    have j := f2 _ a.1 a.2 b d
    have k2 := k.2 j.1
    have j2 := j.2 k.1
    omega
theorem BmOk.cg {p q : Int → Prop} {w y : Int → Int} {fs : Int → Int → Prop} {n M : Int} {bm : Int → Int} (h : BmOk p w fs n M bm) (hp : ∀ c : Int, 0 ≤ c → c < n → (p c ↔ q c)) (hv : ∀ c : Int, 0 ≤ c → c < n → p c → w c = y c) : BmOk q y fs n M bm := by
  intro x x0 x1
  rcases h x x0 x1 with ⟨a, b⟩ | ⟨a, b, d, f⟩
  · exact Or.inl ⟨a, fun c h0 h1 h2 => by have k := (hp c h0 h1).mpr h2; rw [← hv c h0 h1 k]; exact b c h0 h1 k⟩
  · exact Or.inr ⟨a, (hp _ a.1 a.2).mp b, by rw [← hv _ a.1 a.2 b]; exact d, fun c h0 h1 h2 h3 => by have k := (hp c h0 h1).mpr h2; exact f c h0 h1 k (by rw [hv c h0 h1 k]; exact h3)⟩
noncomputable def frL (fs : Int → Int → Prop) (bm : Int → Int) : Nat → List Int
  | 0 => []
  | M + 1 => @ite (List Int) (0 ≤ bm M ∧ ∀ b, (frL fs bm M).getLast? = some b → fs (bm M) b) (Classical.propDecidable _) (frL fs bm M ++ [bm M]) (frL fs bm M)
theorem frL_y {fs : Int → Int → Prop} {bm : Int → Int} {M : Nat} (h : 0 ≤ bm M ∧ ∀ b, (frL fs bm M).getLast? = some b → fs (bm M) b) : frL fs bm (M + 1) = frL fs bm M ++ [bm M] := by
  show @ite (List Int) _ (Classical.propDecidable _) _ _ = _
  rw [if_pos h]
theorem frL_n {fs : Int → Int → Prop} {bm : Int → Int} {M : Nat} (h : ¬ (0 ≤ bm M ∧ ∀ b, (frL fs bm M).getLast? = some b → fs (bm M) b)) : frL fs bm (M + 1) = frL fs bm M := by
  show @ite (List Int) _ (Classical.propDecidable _) _ _ = _
  rw [if_neg h]
theorem frL_cg {fs : Int → Int → Prop} {bm bn : Int → Int} : ∀ M : Nat, (∀ x : Int, 0 ≤ x → x < M → bm x = bn x) → frL fs bm M = frL fs bn M := by
  intro M
  induction M with
  | zero => intro _; rfl
  | succ M ih =>
    intro h
    have e := ih fun x h0 h1 => h x h0 (by omega)
    have k := h M (by omega) (by omega)
    by_cases c : 0 ≤ bm M ∧ ∀ b, (frL fs bm M).getLast? = some b → fs (bm M) b
    · rw [frL_y c]; rw [e, k] at c ⊢; rw [frL_y c]
    · rw [frL_n c]; rw [e, k] at c; rw [frL_n c]; exact e
theorem frL_to {fs : Int → Int → Prop} {bm : Int → Int} {A B : Nat} (hab : A ≤ B) (h : ∀ x : Int, A ≤ x → x < B → bm x < 0) : frL fs bm B = frL fs bm A := by
  obtain ⟨d, rfl⟩ : ∃ d, B = A + d := ⟨B - A, by omega⟩
  clear hab
  induction d with
  | zero => rfl
  | succ d ih =>
    rw [show A + (d + 1) = A + d + 1 by omega, frL_n (fun y => by have := h (A + d : Nat) (by omega) (by omega); omega)]
    exact ih fun x h0 h1 => h x h0 (by omega)
theorem frL_len (fs : Int → Int → Prop) (bm : Int → Int) (M : Nat) : (frL fs bm M).length ≤ M := by
  induction M with
  | zero => exact Nat.le_refl _
  | succ M ih =>
    by_cases c : 0 ≤ bm M ∧ ∀ b, (frL fs bm M).getLast? = some b → fs (bm M) b
    · rw [frL_y c, List.length_append]; show _ + 1 ≤ _; omega
    · rw [frL_n c]; omega
theorem frL_mem {fs : Int → Int → Prop} {bm : Int → Int} {M : Nat} {q : Int} (h : q ∈ frL fs bm M) : ∃ x : Int, 0 ≤ x ∧ x < M ∧ q = bm x ∧ 0 ≤ q := by
  induction M with
  | zero => cases h
  | succ M ih =>
    by_cases c : 0 ≤ bm M ∧ ∀ b, (frL fs bm M).getLast? = some b → fs (bm M) b
    · rw [frL_y c] at h
      rcases List.mem_append.mp h with z | z
      · obtain ⟨x, a, b, d, e⟩ := ih z; exact ⟨x, a, by omega, d, e⟩
      · rcases List.mem_cons.mp z with rfl | z
        · exact ⟨M, by omega, by omega, rfl, c.1⟩
        · cases z
    · rw [frL_n c] at h
      obtain ⟨x, a, b, d, e⟩ := ih h; exact ⟨x, a, by omega, d, e⟩
/-- codes co, so many, are THE FRONT's -/
def FrIs (p : Int → Prop) (w : Int → Int) (fs : Int → Int → Prop) (l : List Int) : Prop := ∃ bm : Int → Int, BmOk p w fs 4913 400 bm ∧ l = frL fs bm 400
theorem FrIs.eq {p : Int → Prop} {w : Int → Int} {fs : Int → Int → Prop} {l k : List Int} (h : FrIs p w fs l) (h2 : FrIs p w fs k) : l = k := by
  obtain ⟨a, b, rfl⟩ := h
  obtain ⟨c, d, rfl⟩ := h2
  exact frL_cg 400 fun x h0 h1 => b.eq d h0 (by omega)
theorem crs_tr {Na Da Nb Db Nc Dc : Int} (h1 : 1 ≤ Da) (h2 : 1 ≤ Db) (h3 : 1 ≤ Dc) (h : Nb * Da < Na * Db) (k : ¬ Nb * Dc < Nc * Db) : Nc * Da < Na * Dc := by
  have k2 : Nc * Db ≤ Nb * Dc := by omega
  have c1 : Nc * Db * Da ≤ Nb * Dc * Da := Int.mul_le_mul_of_nonneg_right k2 (by omega)
  have c2 : Nb * Da * Dc < Na * Db * Dc := Int.mul_lt_mul_of_pos_right h (by omega)
  have e1 : Nc * Db * Da = Nc * Da * Db := by rw [Int.mul_assoc, Int.mul_comm Db, ← Int.mul_assoc]
  have e2 : Nb * Dc * Da = Nb * Da * Dc := by rw [Int.mul_assoc, Int.mul_comm Dc, ← Int.mul_assoc]
  have e3 : Na * Db * Dc = Na * Dc * Db := by rw [Int.mul_assoc, Int.mul_comm Db, ← Int.mul_assoc]
  rw [e1, e2] at c1; rw [e3] at c2
  exact Int.lt_of_mul_lt_mul_right (Int.lt_of_le_of_lt c1 c2) (by omega)
