/-! trial division: what is left has no divisor met before -/
theorem rmv_dvd {p : Int} : ∀ (f : Nat) (r : Int), rmv p f r ∣ r := by
  intro f
  induction f with
  | zero => intro r; exact Int.dvd_refl r
  | succ f ih =>
    intro r
    show ite _ _ _ ∣ r
    split
    · rename_i c
      exact Int.dvd_trans (ih _) ⟨p, by have := Int.emod_add_mul_ediv r p; rw [c.2.2, Int.zero_add, Int.mul_comm] at this; exact this.symm⟩
    · exact Int.dvd_refl r
theorem rmv_nd {p : Int} (hp : 2 ≤ p) : ∀ (f : Nat) (r : Int), 1 ≤ r → r ≤ f → ¬ (1 < rmv p f r ∧ rmv p f r % p = 0) := by
  intro f
  induction f with
  | zero => intro r h0 h1; omega
  | succ f ih =>
    intro r h0 h1
    by_cases c : 1 < r ∧ 1 < p ∧ r % p = 0
    · have e : rmv p (f + 1) r = rmv p f (r / p) := if_pos c
      have a := div_lt (r := r) (p := p) c.1 c.2.1
      have b := div_1 c.1 c.2.1 c.2.2
      rw [e]; exact ih _ b (by omega)
    · have e : rmv p (f + 1) r = r := if_neg c
      rw [e]; omega
theorem rsA_dvd (n : Int) (k : Nat) : rsA n (k + 1) ∣ rsA n k := rmv_dvd _ _
theorem rsA_nd {n : Int} (h0 : 1 ≤ n) (h1 : n ≤ 400) : ∀ (k : Nat) (q : Int), 2 ≤ q → q < (k : Int) + 2 → ¬ (1 < rsA n k ∧ rsA n k % q = 0) := by
  intro k
  induction k with
  | zero => intro q a b; omega
  | succ k ih =>
    intro q a b
    have r := rsA_rng h0 k
    by_cases e : q = (k : Int) + 2
    · rw [e]; exact rmv_nd (by omega) 400 _ r.1 (by omega)
    · intro z
      have r2 := rsA_rng h0 (k + 1)
      have d1 : q ∣ rsA n (k + 1) := Int.dvd_of_emod_eq_zero z.2
      have d2 := Int.dvd_trans d1 (rsA_dvd n k)
      have le : rsA n (k + 1) ≤ rsA n k := Int.le_of_dvd (by omega) (rsA_dvd n k)
      exact ih q a (by omega) ⟨by omega, Int.emod_eq_zero_of_dvd d2⟩
theorem rsA_ge {n : Int} (h0 : 1 ≤ n) (h1 : n ≤ 400) {k : Nat} (h : 1 < rsA n k) : (k : Int) + 2 ≤ rsA n k ∧ k ≤ 397 := by
  have r := rsA_rng h0 k
  have a : (k : Int) + 2 ≤ rsA n k := by
    apply Classical.byContradiction; intro c
    exact rsA_nd h0 h1 k (rsA n k) (by omega) (by omega) ⟨h, Int.emod_self⟩
  refine ⟨a, ?_⟩
  apply Classical.byContradiction; intro c
  have e : rsA n k = 400 := by omega
  exact rsA_nd h0 h1 k 2 (by decide) (by omega) ⟨h, by rw [e]; decide⟩
theorem ev_0 {n : Int} {k : Nat} (h : ¬ 1 < rsA n k) : evA n k = 0 := by
  show cntv _ (399 + 1) _ = 0
  exact if_neg (fun c => h c.1)
theorem rs_1 {n : Int} {k : Nat} (h : ¬ 1 < rsA n k) : rsA n (k + 1) = rsA n k := by
  show rmv _ (399 + 1) _ = _
  exact if_neg (fun c => h c.1)
theorem ev_0s {n : Int} {k : Nat} (h : ¬ 1 < rsA n k) (d : Nat) : evA n (k + d) = 0 ∧ ¬ 1 < rsA n (k + d) := by
  induction d with
  | zero => exact ⟨ev_0 h, h⟩
  | succ d ih =>
    have e := rs_1 ih.2
    have g : ¬ 1 < rsA n (k + (d + 1)) := by rw [show k + (d + 1) = k + d + 1 by omega, e]; exact ih.2
    exact ⟨ev_0 g, g⟩
theorem ev_398 {n : Int} (h0 : 1 ≤ n) (h1 : n ≤ 400) : evA n 398 = 0 := ev_0 fun h => by have := (rsA_ge h0 h1 h).2; omega
theorem ex_398 {l : List (Int × Int)} (h : ∀ q ∈ l, 1 ≤ q.1 ∧ q.1 ≤ 400) : exL 398 l = 0 := by
  induction l with
  | nil => rfl
  | cons q l ih =>
    show exL 398 l + q.2 * evA q.1 398 = 0
    have a := h q (List.mem_cons_self ..)
    rw [ih fun r hr => h r (List.mem_cons_of_mem _ hr), ev_398 a.1 a.2]; omega
theorem low_s (E : Nat → Int) (n : Nat) (h : (E n).toNat = 0) : lowA E (n + 1) = lowA E n := by
  show pwM (lowA E n) _ (E n).toNat = lowA E n
  rw [h]; rfl
theorem low_399 {l : List (Int × Int)} {up : Int} (h : ∀ q ∈ l, 1 ≤ q.1 ∧ q.1 ≤ 400) : lowA (fun k => if up = 1 then exL k l else -exL k l) 399 = lowA (fun k => if up = 1 then exL k l else -exL k l) 398 := by
  refine low_s _ 398 ?_
  have e := ex_398 h
  show (if up = 1 then exL 398 l else -exL 398 l).toNat = 0
  rw [e]; split <;> rfl
/-- exponents laid for a product -/
def EX (m : Mem) (l : List (Int × Int)) : Prop := ∀ k : Nat, k < 398 → m 12 ((k : Int) + 2) = exL k l
/-- a row of cells told as a code -/
def cdZ (U : Int → Int) : Int := U 0 * 289 + U 1 * 17 + U 2
theorem unZ_cd {U : Int → Int} (h : ∀ j : Int, 0 ≤ j → j < 3 → 0 ≤ U j ∧ U j ≤ 16) : (0 ≤ cdZ U ∧ cdZ U < 4913) ∧ ∀ j : Int, 0 ≤ j → j < 3 → unZ (cdZ U) j = U j := by
  have a := h 0 (by decide) (by decide)
  have b := h 1 (by decide) (by decide)
  have c := h 2 (by decide) (by decide)
  refine ⟨by unfold cdZ; omega, fun j h0 h1 => ?_⟩
  unfold unZ cdZ
  by_cases e0 : j = 0
  · subst e0; rw [if_pos rfl]; omega
  · by_cases e1 : j = 1
    · subst e1; rw [if_neg (by decide), if_pos rfl]; omega
    · have : j = 2 := by omega
      subst this; rw [if_neg (by decide), if_neg (by decide)]; omega
theorem cd_unZ {c : Int} (h0 : 0 ≤ c) : cdZ (unZ c) = c := by
  unfold cdZ unZ
  rw [if_pos rfl, if_neg (by decide), if_pos rfl, if_neg (by decide), if_neg (by decide)]; omega
/-- THE BOX in the reference's rows; a division of it at hand -/
def BxOk (m : Mem) (lo hi : Int → Int) : Prop := ∀ j : Int, 0 ≤ j → j < 3 → m 13 j = lo j ∧ m 14 j = hi j ∧ 0 ≤ lo j ∧ lo j ≤ hi j ∧ hi j ≤ 16
def AtC (m : Mem) (lo hi : Int → Int) (n : Int) : Prop := (0 ≤ n ∧ n < 4913) ∧ inB lo hi n ∧ ∀ j : Int, 0 ≤ j → j < 3 → m 9 j = unZ n j
theorem inB_3 {lo hi : Int → Int} {c : Int} (h0 : 0 ≤ c) (h : inB lo hi c) : ∃ a b d : Int, c = a * 289 + b * 17 + d ∧ (0 ≤ b ∧ b ≤ 16) ∧ (0 ≤ d ∧ d ≤ 16) ∧ (lo 0 ≤ a ∧ a ≤ hi 0) ∧ (lo 1 ≤ b ∧ b ≤ hi 1) ∧ lo 2 ≤ d ∧ d ≤ hi 2 := by
  have x := h 0 (by decide) (by decide)
  have y := h 1 (by decide) (by decide)
  have z := h 2 (by decide) (by decide)
  unfold unZ at x y z
  rw [if_pos rfl] at x
  rw [if_neg (by decide), if_pos rfl] at y
  rw [if_neg (by decide), if_neg (by decide)] at z
  exact ⟨c / 289, c / 17 % 17, c % 17, by omega, by omega, by omega, x, y, z⟩
theorem first_box {lo hi : Int → Int} (h : ∀ j : Int, 0 ≤ j → j < 3 → 0 ≤ lo j ∧ lo j ≤ hi j ∧ hi j ≤ 16) : inB lo hi (cdZ lo) ∧ ∀ c : Int, 0 ≤ c → c < cdZ lo → ¬ inB lo hi c := by
  have u := unZ_cd (U := lo) (fun j h0 h1 => by have := h j h0 h1; omega)
  refine ⟨fun s h0 h1 => by rw [u.2 s h0 h1]; have := h s h0 h1; omega, fun c h0 h1 hb => ?_⟩
  obtain ⟨a, b, d, e, -, -, x, y, z⟩ := inB_3 h0 hb
  unfold cdZ at h1; omega
/-- on to the next: FUEL of stage s one more, of those above as little as can be -/
theorem next_box {lo hi D F : Int → Int} {s : Int} (h : ∀ j : Int, 0 ≤ j → j < 3 → 0 ≤ lo j ∧ lo j ≤ hi j ∧ hi j ≤ 16) (hD : ∀ j : Int, 0 ≤ j → j < 3 → lo j ≤ D j ∧ D j ≤ hi j) (s0 : 0 ≤ s) (s1 : s < 3) (hlt : D s < hi s) (hup : ∀ j : Int, s < j → j < 3 → D j = hi j) (hF : ∀ j : Int, 0 ≤ j → j < 3 → F j = if j = s then D j + 1 else if s < j then lo j else D j) :
    cdZ D < cdZ F ∧ inB lo hi (cdZ F) ∧ ∀ c : Int, cdZ D < c → c < cdZ F → ¬ inB lo hi c := by
  have f0 := hF 0 (by decide) (by decide)
  have f1 := hF 1 (by decide) (by decide)
  have f2 := hF 2 (by decide) (by decide)
  have h0 := h 0 (by decide) (by decide)
  have h1 := h 1 (by decide) (by decide)
  have h2 := h 2 (by decide) (by decide)
  have d0 := hD 0 (by decide) (by decide)
  have d1 := hD 1 (by decide) (by decide)
  have d2 := hD 2 (by decide) (by decide)
  have g1 := hup 1
  have g2 := hup 2
  have hFr : ∀ j : Int, 0 ≤ j → j < 3 → lo j ≤ F j ∧ F j ≤ hi j := fun j j0 j1 => by
    have a := h j j0 j1
    have b := hD j j0 j1
    rw [hF j j0 j1]; split
    · rename_i e; subst e; omega
    · split <;> omega
  have u := unZ_cd (U := F) (fun j a b => by have := hFr j a b; have := h j a b; omega)
  refine ⟨?_, fun t t0 t1 => by rw [u.2 t t0 t1]; exact hFr t t0 t1, fun c c0 c1 hb => ?_⟩
  · unfold cdZ
    rcases (show s = 0 ∨ s = 1 ∨ s = 2 by omega) with e | e | e <;> subst e <;> simp at f0 f1 f2 g1 g2 hlt <;> omega
  · have : 0 ≤ cdZ D := by unfold cdZ; omega
    obtain ⟨a, b, d, e, -, -, x, y, z⟩ := inB_3 (by omega) hb
    unfold cdZ at c0 c1
    rcases (show s = 0 ∨ s = 1 ∨ s = 2 by omega) with e | e | e <;> subst e <;> simp at f0 f1 f2 g1 g2 hlt <;> omega
theorem last_box {lo hi D : Int → Int} (hD : ∀ j : Int, 0 ≤ j → j < 3 → D j = hi j) {c : Int} (h0 : 0 ≤ c) (hc : cdZ D < c) : ¬ inB lo hi c := by
  intro hb
  obtain ⟨a, b, d, e, -, -, x, y, z⟩ := inB_3 h0 hb
  have d0 := hD 0 (by decide) (by decide)
  have d1 := hD 1 (by decide) (by decide)
  have d2 := hD 2 (by decide) (by decide)
  unfold cdZ at hc; omega
theorem AtC.dt {m : Mem} {lo hi : Int → Int} {n N P : Int} (h : AtC m lo hi n) (hn : 1 ≤ N ∧ N ≤ 3) (hP : 1 ≤ P ∧ P ≤ 40) (h34 : m 0 34 = P) : DT m N P (unZ n) := ⟨h34, h.2.2, un_dv hn hP h.1.1 h.1.2⟩
