/-! products of bases to powers, as lists -/
def numL : List (Int × Int) → Int
  | [] => 1
  | q :: l => q.1 ^ q.2.toNat * numL l
def denL : List (Int × Int) → Int
  | [] => 1
  | q :: l => q.1 ^ (-q.2).toNat * denL l
def RatOk (l : List (Int × Int)) : Prop := l.length ≤ 8 ∧ ∀ q ∈ l, 1 ≤ q.1 ∧ q.1 ≤ 400 ∧ -60 ≤ q.2 ∧ q.2 ≤ 60
theorem pw_pos {x : Int} (h : 1 ≤ x) (n : Nat) : 1 ≤ x ^ n := by
  have : 0 < x ^ n := Int.pow_pos (by omega)
  omega
theorem pw_s (x : Int) (n : Nat) : x ^ (n + 1) = x ^ n * x := Int.pow_succ _ _
theorem numL_app (a b : List (Int × Int)) : numL (a ++ b) = numL a * numL b := by
  induction a with
  | nil => show numL b = 1 * numL b; rw [Int.one_mul]
  | cons q a ih => show _ * numL (a ++ b) = _ * numL a * numL b; rw [ih, Int.mul_assoc]
theorem denL_app (a b : List (Int × Int)) : denL (a ++ b) = denL a * denL b := by
  induction a with
  | nil => show denL b = 1 * denL b; rw [Int.one_mul]
  | cons q a ih => show _ * denL (a ++ b) = _ * denL a * denL b; rw [ih, Int.mul_assoc]
theorem mul_1 {a b : Int} (ha : 1 ≤ a) (hb : 1 ≤ b) : 1 ≤ a * b := by
  have := Int.mul_le_mul ha hb (by omega) (by omega); omega
theorem mul_up {a b : Int} (ha : 0 ≤ a) (hb : 1 ≤ b) : a ≤ a * b := by
  have := Int.mul_le_mul_of_nonneg_left hb ha; omega
theorem numL_pos {l : List (Int × Int)} (h : ∀ q ∈ l, 1 ≤ q.1) : 1 ≤ numL l := by
  induction l with
  | nil => exact Int.le_refl _
  | cons q l ih => exact mul_1 (pw_pos (h q List.mem_cons_self) _) (ih fun r hr => h r (List.mem_cons_of_mem _ hr))
theorem denL_pos {l : List (Int × Int)} (h : ∀ q ∈ l, 1 ≤ q.1) : 1 ≤ denL l := by
  induction l with
  | nil => exact Int.le_refl _
  | cons q l ih => exact mul_1 (pw_pos (h q List.mem_cons_self) _) (ih fun r hr => h r (List.mem_cons_of_mem _ hr))
theorem cut_l {l : List (Int × Int)} {i : Nat} {q : Int × Int} (h : l[i]? = some q) : l = l.take i ++ (q :: l.drop (i + 1)) := by
  obtain ⟨hi, rfl⟩ := List.getElem?_eq_some_iff.mp h
  rw [← List.drop_eq_getElem_cons hi, List.take_append_drop]
theorem take_l {l : List (Int × Int)} {i : Nat} {q : Int × Int} (h : l[i]? = some q) : l.take (i + 1) = l.take i ++ [q] := by
  rw [List.take_add_one, h]; rfl
theorem numL_s {l : List (Int × Int)} {i : Nat} {q : Int × Int} (h : l[i]? = some q) : numL (l.take (i + 1)) = numL (l.take i) * q.1 ^ q.2.toNat := by
  rw [take_l h, numL_app]; show _ * (_ * 1) = _; rw [Int.mul_one]
theorem denL_s {l : List (Int × Int)} {i : Nat} {q : Int × Int} (h : l[i]? = some q) : denL (l.take (i + 1)) = denL (l.take i) * q.1 ^ (-q.2).toNat := by
  rw [take_l h, denL_app]; show _ * (_ * 1) = _; rw [Int.mul_one]
theorem pw_le {x : Int} (h : 1 ≤ x) {a b : Nat} (hab : a ≤ b) : x ^ a ≤ x ^ b := by
  obtain ⟨k, rfl⟩ : ∃ k, b = a + k := ⟨b - a, by omega⟩
  rw [Int.pow_add]
  exact mul_up (by have := pw_pos h a; omega) (pw_pos h k)
theorem numL_le {l : List (Int × Int)} {i e : Nat} {q : Int × Int} (hp : ∀ q ∈ l, 1 ≤ q.1) (h : l[i]? = some q) (he : e ≤ q.2.toNat) : numL (l.take i) * q.1 ^ e ≤ numL l := by
  have hq : q ∈ l := List.mem_of_getElem? h
  have e1 : numL l = numL (l.take i) * (q.1 ^ q.2.toNat * numL (l.drop (i + 1))) := by
    conv => lhs; rw [cut_l h]
    rw [numL_app]; rfl
  have a1 : 1 ≤ numL (l.take i) := numL_pos fun r hr => hp r (List.mem_of_mem_take hr)
  have a2 : 1 ≤ numL (l.drop (i + 1)) := numL_pos fun r hr => hp r (List.mem_of_mem_drop hr)
  have a3 := pw_le (hp q hq) he
  have a4 := pw_pos (hp q hq) q.2.toNat
  have a5 := mul_up (a := q.1 ^ q.2.toNat) (by omega) a2
  rw [e1]
  exact Int.mul_le_mul_of_nonneg_left (by omega) (by omega)
theorem denL_le {l : List (Int × Int)} {i e : Nat} {q : Int × Int} (hp : ∀ q ∈ l, 1 ≤ q.1) (h : l[i]? = some q) (he : e ≤ (-q.2).toNat) : denL (l.take i) * q.1 ^ e ≤ denL l := by
  have hq : q ∈ l := List.mem_of_getElem? h
  have e1 : denL l = denL (l.take i) * (q.1 ^ (-q.2).toNat * denL (l.drop (i + 1))) := by
    conv => lhs; rw [cut_l h]
    rw [denL_app]; rfl
  have a1 : 1 ≤ denL (l.take i) := denL_pos fun r hr => hp r (List.mem_of_mem_take hr)
  have a2 : 1 ≤ denL (l.drop (i + 1)) := denL_pos fun r hr => hp r (List.mem_of_mem_drop hr)
  have a3 := pw_le (hp q hq) he
  have a4 := pw_pos (hp q hq) (-q.2).toNat
  have a5 := mul_up (a := q.1 ^ (-q.2).toNat) (by omega) a2
  rw [e1]
  exact Int.mul_le_mul_of_nonneg_left (by omega) (by omega)
/-- how often p divides r, and what is left then -/
def rmv (p : Int) : Nat → Int → Int
  | 0, r => r
  | f + 1, r => if 1 < r ∧ 1 < p ∧ r % p = 0 then rmv p f (r / p) else r
def cntv (p : Int) : Nat → Int → Int
  | 0, _ => 0
  | f + 1, r => if 1 < r ∧ 1 < p ∧ r % p = 0 then 1 + cntv p f (r / p) else 0
theorem div_lt {r p : Int} (hr : 1 < r) (hp : 1 < p) : r / p < r := Int.ediv_lt_of_lt_mul (by omega) (by have := Int.mul_le_mul_of_nonneg_left (a := 2) (b := p) (c := r) (by omega) (by omega); omega)
theorem div_1 {r p : Int} (hr : 1 < r) (hp : 1 < p) (h : r % p = 0) : 1 ≤ r / p := by
  have e := Int.emod_add_mul_ediv r p
  rcases Int.lt_or_le (r / p) 1 with q | q
  · have h0 : r / p = 0 := by have := Int.ediv_nonneg (show 0 ≤ r by omega) (show 0 ≤ p by omega); omega
    rw [h0, h, Int.mul_zero] at e; omega
  · exact q
theorem rmv_1 {p : Int} : ∀ (f : Nat) (r : Int), 1 ≤ r → 1 ≤ rmv p f r ∧ rmv p f r ≤ r := by
  intro f
  induction f with
  | zero => intro r h; exact ⟨h, Int.le_refl _⟩
  | succ f ih =>
    intro r h
    show 1 ≤ ite _ _ _ ∧ ite _ _ _ ≤ r
    split
    · rename_i c
      have a := ih (r / p) (div_1 c.1 c.2.1 c.2.2)
      have b := div_lt c.1 c.2.1
      omega
    · omega
theorem cntv_rng {p : Int} : ∀ (c f : Nat) (r : Int), r < 2 ^ c → 0 ≤ cntv p f r ∧ cntv p f r ≤ c := by
  intro c
  induction c with
  | zero =>
    intro f r h
    cases f with
    | zero => exact ⟨Int.le_refl _, Int.le_refl _⟩
    | succ f =>
      show 0 ≤ ite _ _ _ ∧ ite _ _ _ ≤ _
      rw [if_neg (by intro q; have : r < 1 := h; omega)]
      omega
  | succ c ih =>
    intro f r h
    cases f with
    | zero => show (0 : Int) ≤ 0 ∧ (0 : Int) ≤ _; omega
    | succ f =>
      show 0 ≤ ite _ _ _ ∧ ite _ _ _ ≤ _
      split
      · rename_i q
        have h2 : r < 2 ^ c * 2 := h
        have : r / p < 2 ^ c := Int.ediv_lt_of_lt_mul (by omega) (by
          have e : (2 : Int) ^ c * 2 ≤ 2 ^ c * p := Int.mul_le_mul_of_nonneg_left (by omega) (by have := pw_pos (x := 2) (by omega) c; omega)
          omega)
        have := ih f (r / p) this
        omega
      · omega
/-- more fuel changes nothing -/
theorem rmv_fuel {p : Int} : ∀ (f g : Nat) (r : Int), r ≤ f → r ≤ g → rmv p f r = rmv p g r ∧ cntv p f r = cntv p g r := by
  intro f
  induction f with
  | zero =>
    intro g r h _
    cases g with
    | zero => exact ⟨rfl, rfl⟩
    | succ g =>
      have e : ¬ (1 < r ∧ 1 < p ∧ r % p = 0) := by intro q; omega
      exact ⟨(if_neg e).symm, (if_neg e).symm⟩
  | succ f ih =>
    intro g r h h2
    cases g with
    | zero =>
      have e : ¬ (1 < r ∧ 1 < p ∧ r % p = 0) := by intro q; omega
      exact ⟨if_neg e, if_neg e⟩
    | succ g =>
      show ite _ _ _ = ite _ _ _ ∧ ite _ _ _ = ite _ _ _
      by_cases c : 1 < r ∧ 1 < p ∧ r % p = 0
      · rw [if_pos c, if_pos c, if_pos c, if_pos c]
        have b := div_lt c.1 c.2.1
        have := ih g (r / p) (by omega) (by omega)
        exact ⟨this.1, by rw [this.2]⟩
      · rw [if_neg c, if_neg c, if_neg c, if_neg c]; exact ⟨rfl, rfl⟩
/-- r without the factors 2 .. k + 1; how often k + 2 divides that -/
def rsA (r : Int) : Nat → Int
  | 0 => r
  | k + 1 => rmv ((k : Int) + 2) 400 (rsA r k)
def evA (r : Int) (k : Nat) : Int := cntv ((k : Int) + 2) 400 (rsA r k)
theorem rsA_rng {r : Int} (h : 1 ≤ r) (k : Nat) : 1 ≤ rsA r k ∧ rsA r k ≤ r := by
  induction k with
  | zero => exact ⟨h, Int.le_refl _⟩
  | succ k ih =>
    have := rmv_1 (p := (k : Int) + 2) 400 (rsA r k) ih.1
    show 1 ≤ rmv _ _ _ ∧ rmv _ _ _ ≤ r
    omega
theorem evA_rng {r : Int} (h : 1 ≤ r) (h2 : r ≤ 400) (k : Nat) : 0 ≤ evA r k ∧ evA r k ≤ 9 := by
  have := rsA_rng h k
  exact cntv_rng 9 400 (rsA r k) (by show rsA r k < 512; omega)
/-- the exponent of k + 2 in a product -/
def exL (k : Nat) : List (Int × Int) → Int
  | [] => 0
  | q :: l => exL k l + q.2 * evA q.1 k
theorem exL_app (k : Nat) (a b : List (Int × Int)) : exL k (a ++ b) = exL k a + exL k b := by
  induction a with
  | nil => show exL k b = 0 + _; omega
  | cons q a ih => show exL k (a ++ b) + _ = exL k a + _ + _; rw [ih]; omega
theorem exL_s {k : Nat} {l : List (Int × Int)} {i : Nat} {q : Int × Int} (h : l[i]? = some q) : exL k (l.take (i + 1)) = exL k (l.take i) + q.2 * evA q.1 k := by
  rw [take_l h, exL_app]; show _ + (0 + _) = _; omega
theorem exL_rng {k : Nat} {l : List (Int × Int)} (h : ∀ q ∈ l, 1 ≤ q.1 ∧ q.1 ≤ 400 ∧ -60 ≤ q.2 ∧ q.2 ≤ 60) : -540 * (l.length : Int) ≤ exL k l ∧ exL k l ≤ 540 * (l.length : Int) := by
  induction l with
  | nil => show _ ∧ _; exact ⟨Int.le_refl _, Int.le_refl _⟩
  | cons q l ih =>
    have a := ih fun r hr => h r (List.mem_cons_of_mem _ hr)
    have b := h q List.mem_cons_self
    have c := evA_rng b.1 b.2.1 k
    have d : q.2 * evA q.1 k ≤ 60 * evA q.1 k := Int.mul_le_mul_of_nonneg_right b.2.2.2 c.1
    have e : -60 * evA q.1 k ≤ q.2 * evA q.1 k := Int.mul_le_mul_of_nonneg_right b.2.2.1 c.1
    show _ ≤ exL k l + q.2 * evA q.1 k ∧ exL k l + q.2 * evA q.1 k ≤ _
    rw [List.length_cons]
    omega
/-- numerator or denominator modulo 1000003, factor by factor -/
def pwM (v p : Int) : Nat → Int
  | 0 => v
  | n + 1 => pwM v p n * p % 1000003
def lowA (E : Nat → Int) : Nat → Int
  | 0 => 1
  | k + 1 => pwM (lowA E k) ((k : Int) + 2) (E k).toNat
theorem pwM_rng {v p : Int} (h : 0 ≤ v ∧ v < 1000003) (n : Nat) : 0 ≤ pwM v p n ∧ pwM v p n < 1000003 := by
  cases n with
  | zero => exact h
  | succ n => exact ⟨Int.emod_nonneg _ (by omega), Int.emod_lt_of_pos _ (by omega)⟩
theorem lowA_rng (E : Nat → Int) (k : Nat) : 0 ≤ lowA E k ∧ lowA E k < 1000003 := by
  cases k with
  | zero => show (0 : Int) ≤ 1 ∧ (1 : Int) < 1000003; omega
  | succ k => exact pwM_rng (lowA_rng E k) _
theorem lowA_cg {E F : Nat → Int} {n : Nat} (h : ∀ k, k < n → (E k).toNat = (F k).toNat) : lowA E n = lowA F n := by
  induction n with
  | zero => rfl
  | succ n ih => show pwM _ _ _ = pwM _ _ _; rw [ih fun k hk => h k (by omega), h n (by omega)]
/-- engines that fail; the last one told -/
def faC (A B Cn : Int → Int) (s t : Int) : Nat → Int
  | 0 => 0
  | n + 1 => faC A B Cn s t n + (if A n = s ∧ B n = t then Cn n else 0)
def laF (A B : Int → Int) (s : Int) : Nat → Int
  | 0 => 0
  | n + 1 => if A n = s then B n else laF A B s n
theorem faC_rng {A B Cn : Int → Int} {s t : Int} : ∀ n : Nat, (∀ i : Int, 0 ≤ i → i < n → 1 ≤ Cn i ∧ Cn i ≤ 9) → 0 ≤ faC A B Cn s t n ∧ faC A B Cn s t n ≤ 9 * n := by
  intro n
  induction n with
  | zero => intro _; exact ⟨Int.le_refl _, Int.le_refl _⟩
  | succ n ih =>
    intro h
    have a := ih fun i h0 h1 => h i h0 (by omega)
    have b := h n (by omega) (by omega)
    show 0 ≤ faC A B Cn s t n + ite _ _ _ ∧ faC A B Cn s t n + ite _ _ _ ≤ _
    split <;> omega
theorem laF_rng {A B : Int → Int} {s : Int} : ∀ n : Nat, (∀ i : Int, 0 ≤ i → i < n → 1 ≤ B i ∧ B i ≤ 99) → 0 ≤ laF A B s n ∧ laF A B s n ≤ 99 := by
  intro n
  induction n with
  | zero => intro _; show (0 : Int) ≤ 0 ∧ (0 : Int) ≤ 99; omega
  | succ n ih =>
    intro h
    have a := ih fun i h0 h1 => h i h0 (by omega)
    have b := h n (by omega) (by omega)
    show 0 ≤ ite _ _ _ ∧ ite _ _ _ ≤ _
    split <;> omega
theorem BigIs.fr {m m1 : Mem} {g gl : Nat} {v : Int} (h : BigIs m g gl v) (e1 : m1 g = m g) (e2 : m1 gl = m gl) : BigIs m1 g gl v := by
  unfold BigIs at h ⊢; rw [e1, e2]; exact h
theorem RatL.fr {m m1 : Mem} {o b p : Nat} {l : List (Int × Int)} (h : RatL m o b p l) (e1 : m1 o = m o) (e2 : m1 b = m b) (e3 : m1 p = m p) : RatL m1 o b p l := by
  unfold RatL at h ⊢; rw [e1, e2, e3]; exact h
theorem mulpw (v n q : Int) (e : Nat) : v * n * q ^ e * q = v * (n * q ^ (e + 1)) := by rw [pw_s, Int.mul_assoc, Int.mul_assoc]
