/-! what a division weighs, in whole numbers: fa tells the facts of a STAGE s at s * 9 + what -/
def FaOk (fa : Int → Int) (n : Int) : Prop := ∀ s : Int, 0 ≤ s → s < n → (2 ≤ fa (s * 9 + 0) ∧ fa (s * 9 + 0) ≤ 4) ∧ (1 ≤ fa (s * 9 + 1) ∧ fa (s * 9 + 1) ≤ 50) ∧ (0 ≤ fa (s * 9 + 2) ∧ fa (s * 9 + 2) ≤ 90) ∧ (1 ≤ fa (s * 9 + 3) ∧ fa (s * 9 + 3) ≤ 16) ∧ (1 ≤ fa (s * 9 + 4) ∧ fa (s * 9 + 4) ≤ 9) ∧ (1 ≤ fa (s * 9 + 5) ∧ fa (s * 9 + 5) ≤ 999) ∧ (1 ≤ fa (s * 9 + 6) ∧ fa (s * 9 + 6) ≤ 9) ∧ (0 ≤ fa (s * 9 + 7) ∧ fa (s * 9 + 7) ≤ 400) ∧ (0 ≤ fa (s * 9 + 8) ∧ fa (s * 9 + 8) < fa (s * 9 + 4))
def shZ (fa : Int → Int) (s u : Int) : Int := fa (s * 9 + 1) + (u * fa (s * 9 + 2) + 99) / 100 + (if fa (s * 9 + 0) = 4 then fa (s * 9 + 1) / 2 else 0)
theorem tk_rng {u t : Int} (hu : 0 ≤ u ∧ u ≤ 16) (ht : 0 ≤ t ∧ t ≤ 90) : 0 ≤ u * t ∧ u * t ≤ 1440 := by
  have h1 : 0 ≤ u * t := Int.mul_nonneg hu.1 ht.1
  have h2 : u * t ≤ 16 * t := Int.mul_le_mul_of_nonneg_right hu.2 ht.1
  omega
theorem shZ_rng {fa : Int → Int} {n s u : Int} (hF : FaOk fa n) (h0 : 0 ≤ s) (h1 : s < n) (hu : 0 ≤ u ∧ u ≤ 16) : 1 ≤ shZ fa s u ∧ shZ fa s u ≤ 90 := by
  have f := hF s h0 h1
  have t := tk_rng hu f.2.2.1
  unfold shZ
  split <;> omega
def abZ (fa : Int → Int) (P : Int) (U : Int → Int) : Int → Nat → Int
  | _, 0 => P
  | s, c + 1 => abZ fa P U (s + 1) c + shZ fa s (U s) + U s
def stZ (fa : Int → Int) (n P : Int) (U : Int → Int) (s : Int) : Int := abZ fa P U s (n - s).toNat
theorem stZ_n (fa : Int → Int) (n P : Int) (U : Int → Int) : stZ fa n P U n = P := by
  unfold stZ; rw [show (n - n).toNat = 0 by omega]; rfl
theorem stZ_s {fa : Int → Int} {n P : Int} {U : Int → Int} {s : Int} (h : s < n) : stZ fa n P U s = stZ fa n P U (s + 1) + shZ fa s (U s) + U s := by
  unfold stZ; rw [show (n - s).toNat = (n - (s + 1)).toNat + 1 by omega]; rfl
theorem abZ_cg {fa fb : Int → Int} {P : Int} {U W : Int → Int} : ∀ (c : Nat) (s : Int), (∀ j : Int, s ≤ j → j < s + c → shZ fa j (U j) = shZ fb j (W j) ∧ U j = W j) → abZ fa P U s c = abZ fb P W s c := by
  intro c
  induction c with
  | zero => intro s _; rfl
  | succ c ih =>
    intro s h
    show abZ fa P U (s + 1) c + _ + _ = abZ fb P W (s + 1) c + _ + _
    rw [ih (s + 1) (fun j h0 h1 => h j (by omega) (by omega)), (h s (by omega) (by omega)).1, (h s (by omega) (by omega)).2]
theorem stZ_cg {fa fb : Int → Int} {n P : Int} {U W : Int → Int} {s : Int} (h : ∀ j : Int, s ≤ j → j < n → shZ fa j (U j) = shZ fb j (W j) ∧ U j = W j) : stZ fa n P U s = stZ fb n P W s := by
  unfold stZ
  by_cases q : s ≤ n
  · exact abZ_cg _ _ (fun j h0 h1 => h j h0 (by omega))
  · rw [show (n - s).toNat = 0 by omega]; rfl
theorem abZ_rng {fa : Int → Int} {n P : Int} {U : Int → Int} (hF : FaOk fa n) (hP : 1 ≤ P ∧ P ≤ 40) (hU : ∀ j : Int, 0 ≤ j → j < n → 0 ≤ U j ∧ U j ≤ 16) : ∀ (c : Nat) (s : Int), 0 ≤ s → s + c ≤ n → 1 ≤ abZ fa P U s c ∧ abZ fa P U s c ≤ 40 + 106 * c := by
  intro c
  induction c with
  | zero => intro s _ _; show 1 ≤ P ∧ P ≤ _; omega
  | succ c ih =>
    intro s h0 h1
    have a := ih (s + 1) (by omega) (by omega)
    have b := shZ_rng hF h0 (by omega) (hU s h0 (by omega))
    have d := hU s h0 (by omega)
    show 1 ≤ abZ fa P U (s + 1) c + shZ fa s (U s) + U s ∧ _
    show 1 ≤ abZ fa P U (s + 1) c + shZ fa s (U s) + U s ∧ abZ fa P U (s + 1) c + shZ fa s (U s) + U s ≤ _
    omega
theorem stZ_rng {fa : Int → Int} {n P : Int} {U : Int → Int} {s : Int} (hF : FaOk fa n) (hn : n ≤ 3) (hP : 1 ≤ P ∧ P ≤ 40) (hU : ∀ j : Int, 0 ≤ j → j < n → 0 ≤ U j ∧ U j ≤ 16) (h0 : 0 ≤ s) (h1 : s ≤ n) : 1 ≤ stZ fa n P U s ∧ stZ fa n P U s ≤ 358 := by
  have := abZ_rng hF hP hU (n - s).toNat s h0 (by omega)
  unfold stZ
  omega
theorem enZ_rng {fa : Int → Int} {n P : Int} {U : Int → Int} {s : Int} (hF : FaOk fa n) (hn : n ≤ 3) (hP : 1 ≤ P ∧ P ≤ 40) (hU : ∀ j : Int, 0 ≤ j → j < n → 0 ≤ U j ∧ U j ≤ 16) (h0 : 0 ≤ s) (h1 : s < n) : 1 ≤ stZ fa n P U s - U s ∧ stZ fa n P U s - U s ≤ 358 := by
  have a := stZ_rng (s := s + 1) hF hn hP hU (by omega) (by omega)
  have b := shZ_rng hF h0 h1 (hU s h0 h1)
  have d := stZ_rng (s := s) hF hn hP hU h0 (by omega)
  have e := hU s h0 h1
  rw [stZ_s h1] at d ⊢
  omega
def WtIs (m : Mem) (o t e : Nat) (fa : Int → Int) (n P : Int) (U : Int → Int) : Prop := m o 3 = stZ fa n P U 0 ∧ ∀ s : Int, 0 ≤ s → s < n → m t s = stZ fa n P U s ∧ m e s = stZ fa n P U s - U s
/-- MARGIN of a STAGE with START x and so many out -/
def mgZ (fa : Int → Int) (s out x : Int) : Int := 100 * (fa (s * 9 + 5) * (fa (s * 9 + 4) - out)) / x
def hoZ (fa : Int → Int) (s x : Int) : Prop := fa (s * 9 + 7) ≤ mgZ fa s (fa (s * 9 + 8)) x
def unZ (c s : Int) : Int := if s = 0 then c / 289 else if s = 1 then c / 17 % 17 else c % 17
theorem unZ_rng {c s : Int} (h0 : 0 ≤ c) (h1 : c < 4913) : 0 ≤ unZ c s ∧ unZ c s ≤ 16 := by
  unfold unZ; split
  · omega
  · split <;> omega
/-- a Ratio's cells as a list of bases and powers -/
def RatL (m : Mem) (o b p : Nat) (l : List (Int × Int)) : Prop := m o 3 = l.length ∧ ∀ (i : Nat) (q : Int × Int), l[i]? = some q → m b i = q.1 ∧ m p i = q.2
def spL (fa T En : Int → Int) : Nat → List (Int × Int)
  | 0 => []
  | c + 1 => spL fa T En c ++ [(T c, fa ((c : Int) * 9 + 0)), (En c, -fa ((c : Int) * 9 + 0))]
theorem spL_len (fa T En : Int → Int) (c : Nat) : (spL fa T En c).length = 2 * c := by
  induction c with
  | zero => rfl
  | succ c ih => show (spL fa T En c ++ _).length = _; rw [List.length_append, ih]; show 2 * c + 2 = _; omega
theorem RatL.push {m : Mem} {o b p : Nat} {l : List (Int × Int)} {x y : Int} (h : RatL m o b p l) (h1 : b ≠ o) (h2 : p ≠ o) (h3 : p ≠ b) : RatL (mup (mup (mup m b (m o 3) x) p (m o 3) y) o 3 (m o 3 + 1)) o b p (l ++ [(x, y)]) := by
  refine ⟨by rw [mup_s, h.1, List.length_append]; rfl, fun i q hq => ?_⟩
  rw [mup_k _ _ _ h1, mup_k _ _ _ h2, mup_k _ _ _ (Ne.symm h3), h.1]
  by_cases hi : i < l.length
  · rw [List.getElem?_append_left hi] at hq
    have := h.2 i q hq
    rw [mup_j _ _ (by omega), mup_j _ _ (by omega), mup_k _ _ _ h3]
    exact this
  · rw [List.getElem?_append_right (by omega)] at hq
    by_cases hj : i = l.length
    · subst hj
      rw [Nat.sub_self] at hq
      cases hq
      rw [mup_s, mup_s]; exact ⟨rfl, rfl⟩
    · obtain ⟨k, hk⟩ : ∃ k, i - l.length = k + 1 := ⟨i - l.length - 1, by omega⟩
      rw [hk] at hq
      simp at hq
