/-! a division's SPEED as a list, what it HOLDS, REACHES; what a greater load does to both -/
theorem spL_cg {fa fb T T2 En En2 : Int → Int} : ∀ c : Nat, (∀ s : Int, 0 ≤ s → s < c → fa (s * 9 + 0) = fb (s * 9 + 0) ∧ T s = T2 s ∧ En s = En2 s) → spL fa T En c = spL fb T2 En2 c := by
  intro c
  induction c with
  | zero => intro _; rfl
  | succ c ih =>
    intro h
    have a := h c (by omega) (by omega)
    show spL fa T En c ++ _ = spL fb T2 En2 c ++ _
    rw [ih (fun s h0 h1 => h s h0 (by omega)), a.1, a.2.1, a.2.2]
def spT (fa : Int → Int) (n P : Int) (U : Int → Int) : List (Int × Int) := spL fa (stZ fa n P U) (fun s => stZ fa n P U s - U s) n.toNat
def hoA (fa : Int → Int) (n P : Int) (U : Int → Int) : Prop := ∀ j : Int, 0 ≤ j → j < n → hoZ fa j (stZ fa n P U j)
def reA (fa : Int → Int) (n up lw P : Int) (U : Int → Int) (k : Nat) : Prop := rch (numL (spT fa n P U)) (denL (spT fa n P U)) up lw k
def paA (fa : Int → Int) (n up lw P : Int) (U : Int → Int) (z : Int) : Prop := PwIs (numL (spT fa n P U)) (denL (spT fa n P U)) up lw z
theorem WtIs.spT {m : Mem} {o t e : Nat} {fa : Int → Int} {n P : Int} {U : Int → Int} (h : WtIs m o t e fa n P U) : spL fa (m t) (m e) n.toNat = spT fa n P U := spL_cg _ fun s h0 h1 => ⟨rfl, h.2 s h0 (by omega)⟩
theorem WtIs.hoA {m : Mem} {o t e : Nat} {fa : Int → Int} {n P : Int} {U : Int → Int} (h : WtIs m o t e fa n P U) : (∀ j : Int, 0 ≤ j → j < n → hoZ fa j (m t j)) ↔ hoA fa n P U := by
  constructor
  · intro a j h0 h1; have := a j h0 h1; rwa [(h.2 j h0 h1).1] at this
  · intro a j h0 h1; rw [(h.2 j h0 h1).1]; exact a j h0 h1
theorem spT_cg {fa fb : Int → Int} {n P : Int} {U W : Int → Int} (hf : ∀ s : Int, 0 ≤ s → s < n → fa (s * 9 + 0) = fb (s * 9 + 0) ∧ shZ fa s (U s) = shZ fb s (W s)) (hU : ∀ s : Int, 0 ≤ s → s < n → U s = W s) : spT fa n P U = spT fb n P W := by
  have e : ∀ s : Int, 0 ≤ s → s < n → stZ fa n P U s = stZ fb n P W s := fun s h0 h1 => stZ_cg fun j h2 h3 => ⟨(hf j (by omega) h3).2, hU j (by omega) h3⟩
  refine spL_cg _ fun s h0 h1 => ⟨(hf s h0 (by omega)).1, e s h0 (by omega), ?_⟩
  show stZ fa n P U s - U s = stZ fb n P W s - W s
  rw [e s h0 (by omega), hU s h0 (by omega)]
theorem spL_num {fa T En : Int → Int} {c : Nat} (h : 0 ≤ fa ((c : Int) * 9 + 0)) : numL (spL fa T En (c + 1)) = numL (spL fa T En c) * T c ^ (fa ((c : Int) * 9 + 0)).toNat := by
  show numL (spL fa T En c ++ _) = _
  rw [numL_app]
  show _ * (T c ^ (fa ((c : Int) * 9 + 0)).toNat * (En c ^ (-fa ((c : Int) * 9 + 0)).toNat * 1)) = _
  rw [show (-fa ((c : Int) * 9 + 0)).toNat = 0 by omega, Int.pow_zero, Int.mul_one, Int.mul_one]
theorem spL_den {fa T En : Int → Int} {c : Nat} (h : 0 ≤ fa ((c : Int) * 9 + 0)) : denL (spL fa T En (c + 1)) = denL (spL fa T En c) * En c ^ (fa ((c : Int) * 9 + 0)).toNat := by
  show denL (spL fa T En c ++ _) = _
  rw [denL_app]
  show _ * (T c ^ (-fa ((c : Int) * 9 + 0)).toNat * (En c ^ (- -fa ((c : Int) * 9 + 0)).toNat * 1)) = _
  rw [show (-fa ((c : Int) * 9 + 0)).toNat = 0 by omega, Int.pow_zero, Int.mul_one, Int.one_mul, Int.neg_neg]
def spOk (fa T En : Int → Int) (c : Nat) : Prop := ∀ s : Int, 0 ≤ s → s < c → (2 ≤ fa (s * 9 + 0) ∧ fa (s * 9 + 0) ≤ 4) ∧ (1 ≤ T s ∧ T s ≤ 400) ∧ (1 ≤ En s ∧ En s ≤ T s)
theorem pw_4 {x : Int} {g : Int} (h : 1 ≤ x) (h2 : x ≤ 400) (h3 : g ≤ 4) : x ^ g.toNat ≤ 25600000000 := by
  have a := pw_le h (show g.toNat ≤ 4 by omega)
  have b := pw_up (x := x) (y := 400) (by omega) h2 4
  have c : (400 : Int) ^ 4 ≤ 25600000000 := by decide +kernel
  omega
theorem spL_b {fa T En : Int → Int} : ∀ c : Nat, spOk fa T En c → (1 ≤ denL (spL fa T En c) ∧ denL (spL fa T En c) ≤ numL (spL fa T En c)) ∧ numL (spL fa T En c) ≤ 25600000000 ^ c ∧ wtL (spL fa T En c) ≤ 8 * c ∧ ∀ q ∈ spL fa T En c, 1 ≤ q.1 ∧ q.1 ≤ 400 ∧ -60 ≤ q.2 ∧ q.2 ≤ 60 := by
  intro c
  induction c with
  | zero => intro _; exact ⟨⟨Int.le_refl _, Int.le_refl _⟩, Int.le_refl _, Nat.le_refl _, fun q hq => by cases hq⟩
  | succ c ih =>
    intro h
    obtain ⟨⟨a1, a2⟩, a3, a4, a5⟩ := ih fun s h0 h1 => h s h0 (by omega)
    obtain ⟨⟨g1, g2⟩, ⟨t1, t2⟩, e1, e2⟩ := h c (by omega) (by omega)
    have p1 := pw_pos t1 (fa ((c : Int) * 9 + 0)).toNat
    have p2 := pw_pos e1 (fa ((c : Int) * 9 + 0)).toNat
    have p3 := pw_up (x := En c) (by omega) e2 (fa ((c : Int) * 9 + 0)).toNat
    have p4 := pw_4 t1 t2 g2
    refine ⟨?_, ?_, ?_, ?_⟩
    · rw [spL_num (by omega), spL_den (by omega)]
      exact ⟨mul_1 a1 p2, Int.mul_le_mul a2 p3 (by omega) (by omega)⟩
    · rw [spL_num (by omega), pw_s]
      exact Int.mul_le_mul a3 p4 (by omega) (by omega)
    · show wtL (spL fa T En c ++ _) ≤ _
      rw [wtL_app]
      show wtL (spL fa T En c) + ((fa ((c : Int) * 9 + 0)).natAbs + ((-fa ((c : Int) * 9 + 0)).natAbs + 0)) ≤ _
      omega
    · intro q hq
      rcases List.mem_append.mp (show q ∈ spL fa T En c ++ _ from hq) with z | z
      · exact a5 q z
      · rcases List.mem_cons.mp z with rfl | z
        · show 1 ≤ T c ∧ T c ≤ 400 ∧ -60 ≤ fa ((c : Int) * 9 + 0) ∧ fa ((c : Int) * 9 + 0) ≤ 60; omega
        · rcases List.mem_cons.mp z with rfl | z
          · show 1 ≤ En c ∧ En c ≤ 400 ∧ -60 ≤ -fa ((c : Int) * 9 + 0) ∧ -fa ((c : Int) * 9 + 0) ≤ 60; omega
          · cases z
/-- a division with FUEL in bounds, and a load: its lists are in bounds -/
def DvOk (n P : Int) (U : Int → Int) : Prop := (1 ≤ n ∧ n ≤ 3) ∧ (1 ≤ P ∧ P ≤ 40) ∧ ∀ j : Int, 0 ≤ j → j < n → 0 ≤ U j ∧ U j ≤ 16
theorem DvOk.sp {fa : Int → Int} {n P : Int} {U : Int → Int} (h : DvOk n P U) (hF : FaOk fa n) : spOk fa (stZ fa n P U) (fun s => stZ fa n P U s - U s) n.toNat := by
  intro s h0 h1
  have a := stZ_rng (s := s) hF h.1.2 h.2.1 h.2.2 h0 (by omega)
  have b := enZ_rng (s := s) hF h.1.2 h.2.1 h.2.2 h0 (by omega)
  have c := h.2.2 s h0 (by omega)
  have f := hF s h0 (by omega)
  exact ⟨f.1, ⟨by omega, by omega⟩, b.1, by show stZ fa n P U s - U s ≤ stZ fa n P U s; omega⟩
theorem p104 {c : Nat} (h : c ≤ 3) : (25600000000 : Int) ^ c ≤ 2 ^ 104 := by
  have a := pw_le (x := 25600000000) (by omega) h
  have b : (25600000000 : Int) ^ 3 ≤ 2 ^ 104 := by decide +kernel
  omega
theorem nb_ok {N L : Int} (h0 : 0 ≤ N) (h : N ≤ 2 ^ 450) (hL : 1 ≤ L) (hL2 : L ≤ 99) : N * L ^ 40 < 281474976710656 ^ 16 := by
  have a := pw_up (x := L) (y := 128) (by omega) (by omega) 40
  have b := pw_pos hL 40
  have c := Int.mul_le_mul h a (by omega) (by decide +kernel)
  have d : (2 : Int) ^ 450 * 128 ^ 40 < 281474976710656 ^ 16 := by decide +kernel
  omega
/-- all that the scale asks of a speed -/
theorem DvOk.al {fa : Int → Int} {n P : Int} {U : Int → Int} (h : DvOk n P U) (hF : FaOk fa n) : RatOk (spT fa n P U) ∧ wtL (spT fa n P U) ≤ 200 ∧ numL (spT fa n P U) ≤ 2 ^ 104 ∧ 1 ≤ denL (spT fa n P U) ∧ denL (spT fa n P U) ≤ numL (spT fa n P U) := by
  obtain ⟨⟨a1, a2⟩, a3, a4, a5⟩ := spL_b _ (h.sp hF)
  have b := p104 (c := n.toNat) (by have := h.1; omega)
  have l := spL_len fa (stZ fa n P U) (fun s => stZ fa n P U s - U s) n.toNat
  have hn := h.1
  exact ⟨⟨by unfold spT; rw [l]; omega, a5⟩, by unfold spT; omega, by unfold spT; omega, a1, a2⟩
theorem le_560 {x : Int} (h : x ≤ 2 ^ 104) : x ≤ 2 ^ 560 := by
  have : (2 : Int) ^ 104 ≤ 2 ^ 560 := by decide +kernel
  omega
theorem le_450 {x : Int} (h : x ≤ 2 ^ 104) : x ≤ 2 ^ 450 := by
  have : (2 : Int) ^ 104 ≤ 2 ^ 450 := by decide +kernel
  omega
theorem lt_768 {x y : Int} (h0 : 0 ≤ x) (h1 : 0 ≤ y) (h : x ≤ 2 ^ 104) (h2 : y ≤ 2 ^ 104) : x * y < 281474976710656 ^ 16 := by
  have a := Int.mul_le_mul h h2 h1 (by decide +kernel)
  have d : (2 : Int) ^ 104 * 2 ^ 104 < 281474976710656 ^ 16 := by decide +kernel
  omega
-- powers
theorem rch_dn {N D U L : Int} {k : Nat} (hN : 0 ≤ N) (hL : 1 ≤ L) (hU : L < U) (h : rch N D U L (k + 1)) : rch N D U L k := by
  unfold rch at h ⊢
  rw [pw_s, pw_s, ← Int.mul_assoc, ← Int.mul_assoc] at h
  have a : 0 ≤ N * L ^ k := Int.mul_nonneg hN (Int.pow_nonneg (by omega))
  have b : N * L ^ k * L ≤ N * L ^ k * U := Int.mul_le_mul_of_nonneg_left (by omega) a
  exact Int.le_of_mul_le_mul_right (Int.le_trans h b) (by omega)
theorem rch_le {N D U L : Int} {k j : Nat} (hN : 0 ≤ N) (hL : 1 ≤ L) (hU : L < U) (hkj : k ≤ j) (h : rch N D U L j) : rch N D U L k := by
  obtain ⟨d, rfl⟩ : ∃ d, j = k + d := ⟨j - k, by omega⟩
  clear hkj
  induction d with
  | zero => exact h
  | succ d ih => exact ih (rch_dn hN hL hU h)
theorem PwIs.iff {N D U L z k : Int} (h : PwIs N D U L z) (hN : 0 ≤ N) (hL : 1 ≤ L) (hU : L < U) (h0 : 0 ≤ k) (h1 : k ≤ 40) : k ≤ z ↔ rch N D U L k.toNat := by
  rcases h with ⟨a, b⟩ | ⟨a, b, c, d⟩
  · exact ⟨fun x => by omega, fun x => absurd (rch_le hN hL hU (Nat.zero_le _) x) b⟩
  · constructor
    · intro x; exact c _ (by omega)
    · intro x
      rcases d with d | d
      · omega
      · apply Classical.byContradiction; intro y; exact d (rch_le hN hL hU (by omega) x)
theorem PwIs.eq {N D U L z y : Int} (h : PwIs N D U L z) (h2 : PwIs N D U L y) (hN : 0 ≤ N) (hL : 1 ≤ L) (hU : L < U) : z = y := by
  have a : -2 ≤ z ∧ z ≤ 40 ∧ z ≠ -1 := by rcases h with ⟨a, -⟩ | ⟨a, b, -, -⟩ <;> omega
  have b : -2 ≤ y ∧ y ≤ 40 ∧ y ≠ -1 := by rcases h2 with ⟨a, -⟩ | ⟨a, b, -, -⟩ <;> omega
  apply Classical.byContradiction; intro c
  by_cases d : z < y
  · have := (h.iff hN hL hU (k := y) (by omega) (by omega)).mpr ((h2.iff hN hL hU (k := y) (by omega) (by omega)).mp (Int.le_refl _)); omega
  · have := (h2.iff hN hL hU (k := z) (by omega) (by omega)).mpr ((h.iff hN hL hU (k := z) (by omega) (by omega)).mp (Int.le_refl _)); omega
theorem PwIs.rng {N D U L z : Int} (h : PwIs N D U L z) : -2 ≤ z ∧ z ≤ 40 := by rcases h with ⟨a, -⟩ | ⟨a, b, -, -⟩ <;> omega
theorem PwIs.pos {N D U L z : Int} (h : PwIs N D U L z) (hD : D ≤ N) : 0 ≤ z ∧ z ≤ 40 := by
  rcases h with ⟨a, b⟩ | ⟨a, b, -, -⟩
  · exact absurd (by unfold rch; rw [Int.pow_zero, Int.pow_zero]; omega) b
  · exact ⟨a, b⟩
theorem PwIs.fst {N D M E U L z y : Int} (h : PwIs N D U L z) (h2 : PwIs M E U L y) (hD : 1 ≤ D) (hE : 1 ≤ E) (hN : 0 ≤ N) (hM : 0 ≤ M) (hL : 1 ≤ L) (hU : L < U) (hy : 0 ≤ y) (hlt : y < z) : M * D < N * E := by
  have r := h.rng
  have a := (h.iff hN hL hU (k := y + 1) (by omega) (by omega)).mp (by omega)
  have b : ¬ rch M E U L (y + 1).toNat := fun x => by have := (h2.iff hM hL hU (k := y + 1) (by omega) (by omega)).mpr x; omega
  unfold rch at a b
  have pl := pw_pos hL (y + 1).toNat
  have b2 : M * L ^ (y + 1).toNat < E * U ^ (y + 1).toNat := Int.not_le.mp b
  have c1 : M * L ^ (y + 1).toNat * D < E * U ^ (y + 1).toNat * D := Int.mul_lt_mul_of_pos_right b2 (by omega)
  have c2 : E * (D * U ^ (y + 1).toNat) ≤ E * (N * L ^ (y + 1).toNat) := Int.mul_le_mul_of_nonneg_left a (by omega)
  have e1 : M * L ^ (y + 1).toNat * D = M * D * L ^ (y + 1).toNat := by rw [Int.mul_assoc, Int.mul_comm (L ^ _), ← Int.mul_assoc]
  have e2 : E * U ^ (y + 1).toNat * D = E * (D * U ^ (y + 1).toNat) := by rw [Int.mul_assoc, Int.mul_comm (U ^ _)]
  have e3 : E * (N * L ^ (y + 1).toNat) = N * E * L ^ (y + 1).toNat := by rw [← Int.mul_assoc, Int.mul_comm E]
  rw [e1, e2] at c1; rw [e3] at c2
  exact Int.lt_of_mul_lt_mul_right (Int.lt_of_lt_of_le c1 c2) (by omega)
-- a greater load
theorem abZ_P {fa : Int → Int} {P d : Int} {U : Int → Int} : ∀ (c : Nat) (s : Int), abZ fa (P + d) U s c = abZ fa P U s c + d := by
  intro c
  induction c with
  | zero => intro s; rfl
  | succ c ih =>
    intro s
    show abZ fa (P + d) U (s + 1) c + _ + _ = abZ fa P U (s + 1) c + _ + _ + d
    rw [ih]; omega
theorem stZ_P {fa : Int → Int} {n P d : Int} {U : Int → Int} {s : Int} : stZ fa n (P + d) U s = stZ fa n P U s + d := abZ_P _ _
theorem hoZ_dn {fa : Int → Int} {n s x : Int} (hF : FaOk fa n) (h0 : 0 ≤ s) (h1 : s < n) (hx : 1 ≤ x) (h : hoZ fa s (x + 1)) : hoZ fa s x := by
  unfold hoZ mgZ at h ⊢
  have f := hF s h0 h1
  have a : 0 ≤ 100 * (fa (s * 9 + 5) * (fa (s * 9 + 4) - fa (s * 9 + 8))) := Int.mul_nonneg (by omega) (Int.mul_nonneg (by omega) (by omega))
  generalize 100 * (fa (s * 9 + 5) * (fa (s * 9 + 4) - fa (s * 9 + 8))) = A at a h ⊢
  have b : 0 ≤ A / (x + 1) := Int.ediv_nonneg a (by omega)
  have c : A / (x + 1) * (x + 1) ≤ A := Int.ediv_mul_le A (by omega)
  have d : A / (x + 1) * x ≤ A / (x + 1) * (x + 1) := Int.mul_le_mul_of_nonneg_left (by omega) b
  have e : A / (x + 1) ≤ A / x := Int.le_ediv_of_mul_le (by omega) (by omega)
  omega
theorem hoA_dn {fa : Int → Int} {n P : Int} {U : Int → Int} (hF : FaOk fa n) (hD : DvOk n P U) (h : hoA fa n (P + 1) U) : hoA fa n P U := by
  intro j h0 h1
  have z := h j h0 h1
  rw [stZ_P] at z
  exact hoZ_dn hF h0 h1 (stZ_rng hF hD.1.2 hD.2.1 hD.2.2 h0 (by omega)).1 z
theorem spL_dn {fa T En T2 En2 : Int → Int} : ∀ c : Nat, spOk fa T En c → (∀ s : Int, 0 ≤ s → s < c → T2 s = T s + 1 ∧ En2 s = En s + 1) → 0 ≤ numL (spL fa T2 En2 c) ∧ 0 ≤ denL (spL fa T2 En2 c) ∧ numL (spL fa T2 En2 c) * denL (spL fa T En c) ≤ numL (spL fa T En c) * denL (spL fa T2 En2 c) := by
  intro c
  induction c with
  | zero => intro _ _; exact ⟨show (0 : Int) ≤ 1 by decide, show (0 : Int) ≤ 1 by decide, Int.le_refl _⟩
  | succ c ih =>
    intro h h2
    obtain ⟨i1, i2, i3⟩ := ih (fun s h0 h1 => h s h0 (by omega)) (fun s h0 h1 => h2 s h0 (by omega))
    obtain ⟨⟨a1, a2⟩, -⟩ := spL_b _ (show spOk fa T En c from fun s h0 h1 => h s h0 (by omega))
    obtain ⟨⟨g1, g2⟩, ⟨t1, t2⟩, e1, e2⟩ := h c (by omega) (by omega)
    obtain ⟨u1, u2⟩ := h2 c (by omega) (by omega)
    have y1 : 0 ≤ T2 c ^ (fa ((c : Int) * 9 + 0)).toNat := Int.pow_nonneg (by omega)
    have y2 : 0 ≤ En2 c ^ (fa ((c : Int) * 9 + 0)).toNat := Int.pow_nonneg (by omega)
    rw [spL_num (by omega), spL_den (by omega), spL_num (by omega), spL_den (by omega)]
    refine ⟨Int.mul_nonneg i1 y1, Int.mul_nonneg i2 y2, ?_⟩
    have k : T2 c * En c ≤ T c * En2 c := by rw [u1, u2, Int.add_mul, Int.mul_add]; omega
    have k2 := pw_up (Int.mul_nonneg (show 0 ≤ T2 c by omega) (show 0 ≤ En c by omega)) k (fa ((c : Int) * 9 + 0)).toNat
    rw [Int.mul_pow, Int.mul_pow] at k2
    generalize T2 c ^ (fa ((c : Int) * 9 + 0)).toNat = A at *
    generalize En2 c ^ (fa ((c : Int) * 9 + 0)).toNat = B at *
    have z1 : 0 ≤ En c ^ (fa ((c : Int) * 9 + 0)).toNat := Int.pow_nonneg (by omega)
    generalize En c ^ (fa ((c : Int) * 9 + 0)).toNat = F at *
    generalize T c ^ (fa ((c : Int) * 9 + 0)).toNat = G at *
    generalize numL (spL fa T2 En2 c) = N2 at *
    generalize numL (spL fa T En c) = N1 at *
    generalize denL (spL fa T2 En2 c) = D2 at *
    generalize denL (spL fa T En c) = D1 at *
    have r1 : N2 * A * (D1 * F) = N2 * D1 * (A * F) := by rw [Int.mul_assoc, Int.mul_assoc, ← Int.mul_assoc A, Int.mul_comm A, Int.mul_assoc]
    have r2 : N1 * G * (D2 * B) = N1 * D2 * (G * B) := by rw [Int.mul_assoc, Int.mul_assoc, ← Int.mul_assoc G, Int.mul_comm G, Int.mul_assoc]
    rw [r1, r2]
    exact Int.mul_le_mul i3 k2 (Int.mul_nonneg y1 z1) (Int.mul_nonneg (by omega) i2)
theorem reA_dn {fa : Int → Int} {n up lw P : Int} {U : Int → Int} {k : Nat} (hF : FaOk fa n) (hD : DvOk n P U) (hD2 : DvOk n (P + 1) U) (hU : 1 ≤ up) (hL : 1 ≤ lw) (h : reA fa n up lw (P + 1) U k) : reA fa n up lw P U k := by
  obtain ⟨-, -, i3⟩ := spL_dn n.toNat (hD.sp hF) (T2 := stZ fa n (P + 1) U) (En2 := fun s => stZ fa n (P + 1) U s - U s) (fun s h0 h1 => ⟨stZ_P, by show stZ fa n (P + 1) U s - U s = stZ fa n P U s - U s + 1; rw [stZ_P]; omega⟩)
  have o2 := hD2.al hF
  have o1 := hD.al hF
  unfold reA rch at h ⊢
  change numL (spT fa n (P + 1) U) * denL (spT fa n P U) ≤ numL (spT fa n P U) * denL (spT fa n (P + 1) U) at i3
  have d1 := o1.2.2.2.1
  have d2 := o2.2.2.2.1
  generalize numL (spT fa n (P + 1) U) = N2 at *
  generalize numL (spT fa n P U) = N1 at *
  generalize denL (spT fa n (P + 1) U) = D2 at *
  generalize denL (spT fa n P U) = D1 at *
  have pl := pw_pos hL k
  generalize up ^ k = A at *
  generalize lw ^ k = B at *
  refine Int.le_of_mul_le_mul_left (a := D2) ?_ (by omega)
  have c1 : D1 * (D2 * A) ≤ D1 * (N2 * B) := Int.mul_le_mul_of_nonneg_left h (by omega)
  have c2 : N2 * D1 * B ≤ N1 * D2 * B := Int.mul_le_mul_of_nonneg_right i3 (by omega)
  have r1 : D2 * (D1 * A) = D1 * (D2 * A) := by rw [← Int.mul_assoc, Int.mul_comm D2, Int.mul_assoc]
  have r2 : D1 * (N2 * B) = N2 * D1 * B := by rw [← Int.mul_assoc, Int.mul_comm D1]
  have r3 : N1 * D2 * B = D2 * (N1 * B) := by rw [Int.mul_comm N1, Int.mul_assoc]
  rw [r1, ← r3]; rw [r2] at c1
  exact Int.le_trans c1 c2
theorem up_load {Q : Int → Prop} (h : ∀ P : Int, 1 ≤ P → P < 40 → Q (P + 1) → Q P) {a b : Int} (ha : 1 ≤ a) (hab : a ≤ b) (hb : b ≤ 40) (hQ : Q b) : Q a := by
  obtain ⟨d, rfl⟩ : ∃ d : Nat, b = a + d := ⟨(b - a).toNat, by omega⟩
  clear hab
  induction d with
  | zero => rwa [show a + ((0 : Nat) : Int) = a by omega] at hQ
  | succ d ih => exact ih (by omega) (h (a + d) (by omega) (by omega) (by rwa [show a + ((d + 1 : Nat) : Int) = a + d + 1 by omega] at hQ))
