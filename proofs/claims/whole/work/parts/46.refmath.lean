def bgW (f : Int → Int) : Nat → Int
  | 0 => 0
  | n + 1 => bgW f n + f n * 32768 ^ n
theorem bgW_cg {f g : Int → Int} {n : Nat} (h : ∀ j : Int, 0 ≤ j → j < n → f j = g j) : bgW f n = bgW g n := by
  induction n with
  | zero => rfl
  | succ n ih =>
    have e1 := ih (fun j h0 h1 => h j h0 (by omega))
    have e2 := h n (by omega) (by omega)
    show bgW f n + f n * _ = bgW g n + g n * _
    rw [e1, e2]
theorem pwW_pos (n : Nat) : 0 < (32768 : Int) ^ n := Int.pow_pos (by omega)
theorem pwW_succ (n : Nat) : (32768 : Int) ^ (n + 1) = 32768 ^ n * 32768 := Int.pow_succ _ _
theorem bgW_rng {f : Int → Int} {n : Nat} (h : ∀ j : Int, 0 ≤ j → j < n → 0 ≤ f j ∧ f j < 32768) : 0 ≤ bgW f n ∧ bgW f n < 32768 ^ n := by
  induction n with
  | zero => exact ⟨Int.le_refl _, by show (0 : Int) < 1; omega⟩
  | succ n ih =>
    obtain ⟨a, b⟩ := ih (fun j h0 h1 => h j h0 (by omega))
    obtain ⟨c, d⟩ := h n (by omega) (by omega)
    have p := pwW_pos n
    have e1 : 0 ≤ f n * 32768 ^ n := Int.mul_nonneg c (Int.le_of_lt p)
    have e2 : f n * 32768 ^ n ≤ 32767 * 32768 ^ n := Int.mul_le_mul_of_nonneg_right (by omega) (Int.le_of_lt p)
    show 0 ≤ bgW f n + f n * 32768 ^ n ∧ bgW f n + f n * 32768 ^ n < 32768 ^ (n + 1)
    rw [pwW_succ]
    omega
def BwIs (m : Mem) (f : Int) (gl : Nat) (v : Int) : Prop := ∃ n : Nat, 1 ≤ n ∧ n ≤ 240 ∧ m 0 f = n ∧ (∀ j : Int, 0 ≤ j → j < n → 0 ≤ m gl j ∧ m gl j < 32768) ∧ 0 < m gl ((n : Int) - 1) ∧ bgW (m gl) n = v
/-- the top limb is above 0: the value is no less than its weight -/
theorem bgW_top {f : Int → Int} {n : Nat} (h1 : 1 ≤ n) (h : ∀ j : Int, 0 ≤ j → j < n → 0 ≤ f j ∧ f j < 32768) (ht : 0 < f ((n : Int) - 1)) : (32768 : Int) ^ (n - 1) ≤ bgW f n := by
  obtain ⟨k, rfl⟩ : ∃ k, n = k + 1 := ⟨n - 1, by omega⟩
  have e : ((k + 1 : Nat) : Int) - 1 = (k : Int) := by omega
  rw [e] at ht
  obtain ⟨a, -⟩ := bgW_rng (n := k) (fun j h0 h2 => h j h0 (by omega))
  have p := pwW_pos k
  have e2 : 1 * 32768 ^ k ≤ f k * 32768 ^ k := Int.mul_le_mul_of_nonneg_right (by omega) (Int.le_of_lt p)
  show 32768 ^ k ≤ bgW f k + f k * 32768 ^ k
  omega
/-- the top limb is above 0, told from the value -/
theorem bgW_top2 {f : Int → Int} {n : Nat} (h1 : 1 ≤ n) (h : ∀ j : Int, 0 ≤ j → j < n → 0 ≤ f j ∧ f j < 32768) (hv : (32768 : Int) ^ (n - 1) ≤ bgW f n) : 0 < f ((n : Int) - 1) := by
  obtain ⟨k, rfl⟩ : ∃ k, n = k + 1 := ⟨n - 1, by omega⟩
  have e : ((k + 1 : Nat) : Int) - 1 = (k : Int) := by omega
  rw [e]
  obtain ⟨-, b⟩ := bgW_rng (n := k) (fun j h0 h2 => h j h0 (by omega))
  have hv : (32768 : Int) ^ k ≤ bgW f k + f k * 32768 ^ k := hv
  have h0 := (h k (by omega) (by omega)).1
  rcases Int.lt_or_eq_of_le h0 with q | q
  · exact q
  · rw [← q, Int.zero_mul] at hv
    omega
/-- one step of multiply: the carry goes on -/
theorem bgW_step {f g : Int → Int} {n : Nat} {c x : Int} (hV : bgW f n + c * 32768 ^ n = bgW g n * x) (hf : f n = (g n * x + c) % 32768) : bgW f (n + 1) + (g n * x + c) / 32768 * 32768 ^ (n + 1) = bgW g (n + 1) * x := by
  show bgW f n + f n * 32768 ^ n + _ = (bgW g n + g n * 32768 ^ n) * x
  rw [pwW_succ, hf]
  have e := Int.emod_add_mul_ediv (g n * x + c) 32768
  have e2 : (g n * x + c) % 32768 * 32768 ^ n + (g n * x + c) / 32768 * (32768 ^ n * 32768) = (g n * x + c) * 32768 ^ n := by
    rw [Int.mul_comm (32768 ^ n) 32768, ← Int.mul_assoc, ← Int.add_mul]
    congr 1
    omega
  rw [Int.add_assoc, e2, Int.add_mul, Int.add_mul, ← hV, Int.mul_right_comm (g n)]
  omega
/-- two rows of limbs, compared from the top -/
theorem bgW_lt {f g : Int → Int} {n k : Nat} (hk : k < n) (hf : ∀ j : Int, 0 ≤ j → j < n → 0 ≤ f j ∧ f j < 32768) (hg : ∀ j : Int, 0 ≤ j → j < n → 0 ≤ g j ∧ g j < 32768) (he : ∀ j : Int, (k : Int) < j → j < n → f j = g j) (hlt : f k < g k) : bgW f n < bgW g n := by
  induction n with
  | zero => omega
  | succ n ih =>
    show bgW f n + f n * 32768 ^ n < bgW g n + g n * 32768 ^ n
    have p := pwW_pos n
    by_cases h : k = n
    · subst h
      obtain ⟨-, b⟩ := bgW_rng (n := k) (fun j h0 h2 => hf j h0 (by omega))
      obtain ⟨a, -⟩ := bgW_rng (n := k) (fun j h0 h2 => hg j h0 (by omega))
      have e : (f k + 1) * 32768 ^ k ≤ g k * 32768 ^ k := Int.mul_le_mul_of_nonneg_right (by omega) (Int.le_of_lt p)
      rw [Int.add_mul] at e
      omega
    · have e := ih (by omega) (fun j h0 h2 => hf j h0 (by omega)) (fun j h0 h2 => hg j h0 (by omega)) (fun j h0 h2 => he j h0 (by omega))
      rw [he n (by omega) (by omega)]
      omega
theorem pwW_mono (a k : Nat) : (32768 : Int) ^ a ≤ 32768 ^ (a + k) := by
  induction k with
  | zero => exact Int.le_refl _
  | succ k ih =>
    have p := pwW_pos (a + k)
    have e := pwW_succ (a + k)
    show _ ≤ (32768 : Int) ^ (a + k + 1)
    omega
theorem bgW_lt_len {f g : Int → Int} {a b : Nat} (hab : a < b) (hf : ∀ j : Int, 0 ≤ j → j < a → 0 ≤ f j ∧ f j < 32768) (hg : ∀ j : Int, 0 ≤ j → j < b → 0 ≤ g j ∧ g j < 32768) (ht : 0 < g ((b : Int) - 1)) : bgW f a < bgW g b := by
  obtain ⟨-, h1⟩ := bgW_rng hf
  have h2 := bgW_top (by omega) hg ht
  have h3 : (32768 : Int) ^ a ≤ 32768 ^ (b - 1) := by have := pwW_mono a (b - 1 - a); rwa [show a + (b - 1 - a) = b - 1 by omega] at this
  omega

theorem bw_end0 {m : Mem} {f : Int} {gl n : Nat} {w : Int} (hn1 : 1 ≤ n) (hn2 : n ≤ 240) (hu : m 0 f = n) (hlo : ∀ j : Int, 0 ≤ j → j < n → 0 ≤ m gl j ∧ m gl j < 32768) (hV : bgW (m gl) n = w) (hw : (32768 : Int) ^ (n - 1) ≤ w) : BwIs m f gl w :=
  ⟨n, hn1, hn2, hu, hlo, bgW_top2 hn1 hlo (hV ▸ hw), hV⟩
theorem bw_end1 {m : Mem} {f : Int} {gl n : Nat} {w c : Int} (hne : gl ≠ 0) (hn2 : n < 240) (hlo : ∀ j : Int, 0 ≤ j → j < n → 0 ≤ m gl j ∧ m gl j < 32768) (hV : bgW (m gl) n + c * 32768 ^ n = w) (hc0 : 0 < c) (hc1 : c < 32768) : BwIs (mup (mup m gl n c) 0 f ((n : Int) + 1)) f gl w := by
  have e : ∀ j : Int, mup (mup m gl n c) 0 f ((n : Int) + 1) gl j = if j = n then c else m gl j := fun j => by rw [mup_k _ _ _ hne, mup_r]
  refine ⟨n + 1, by omega, by omega, by rw [mup_s]; omega, fun j h0 h1 => ?_, ?_, ?_⟩
  · rw [e]
    by_cases q : j = n
    · rw [if_pos q]; omega
    · rw [if_neg q]; exact hlo j h0 (by omega)
  · rw [e, if_pos (by omega)]; exact hc0
  · show bgW _ n + mup (mup m gl n c) 0 f ((n : Int) + 1) gl n * _ = w
    rw [e, if_pos rfl, ← hV]
    congr 1
    exact bgW_cg fun j h0 h1 => by rw [e, if_neg (by omega)]
theorem BwIs.fr {m m1 : Mem} {f : Int} {gl : Nat} {v : Int} (h : BwIs m f gl v) (e1 : m1 0 f = m 0 f) (e2 : m1 gl = m gl) : BwIs m1 f gl v := by
  unfold BwIs at h ⊢; rw [e1, e2]; exact h
/-- how things stand on the reference's side: what a rocket that is told and its state are held to -/
def RT (m : Mem) (fa A B Cn R X : Int → Int) : Prop := (m 0 11 = R 5 ∧ m 0 8 = R 2 ∧ m 0 9 = R 3 ∧ m 0 10 = R 4 ∧ m 0 12 = R 6) ∧ (∀ s w : Int, 0 ≤ s → s < R 5 → 0 ≤ w → w ≤ 8 → m 1 (9 * s + w) = fa (s * 9 + w)) ∧ (∀ i : Int, 0 ≤ i → i < R 6 → m 2 (3 * i) = A i ∧ m 2 (3 * i + 1) = B i ∧ m 2 (3 * i + 2) = Cn i) ∧ (∀ j : Int, 0 ≤ j → j < 11 → m 6 j = X j) ∧ VdOk fa R X ∧ faOk A B Cn R
def CKj (j : Int) : Prop := (8 ≤ j ∧ j ≤ 12) ∨ j = 20 ∨ j = 23 ∨ j = 25 ∨ j = 31
theorem RT.fr {m m1 : Mem} {fa A B Cn R X : Int → Int} (h : RT m fa A B Cn R X) (h0 : ∀ j : Int, CKj j → m1 0 j = m 0 j) (h1 : m1 1 = m 1) (h2 : m1 2 = m 2) (h6 : m1 6 = m 6) : RT m1 fa A B Cn R X := by
  have a := fun (j : Int) (hj : 8 ≤ j ∧ j ≤ 12) => h0 j (Or.inl hj)
  unfold RT; rw [a 11 (by decide), a 8 (by decide), a 9 (by decide), a 10 (by decide), a 12 (by decide), h1, h2, h6]; exact h
/-- the division at hand -/
def DT (m : Mem) (n P : Int) (D : Int → Int) : Prop := m 0 34 = P ∧ (∀ j : Int, 0 ≤ j → j < 3 → m 9 j = D j) ∧ DvOk n P D
theorem DT.fr {m m1 : Mem} {n P : Int} {D : Int → Int} (h : DT m n P D) (h0 : m1 0 34 = m 0 34) (h9 : m1 9 = m 9) : DT m1 n P D := by
  unfold DT; rw [h0, h9]; exact h
/-- a query's trace on the reference -/
def RQ (t : Int) (m m' : Mem) : Prop := m' 0 1 = t ∧ m' 0 2 = -1 ∧ (∀ j : Int, CKj j → m' 0 j = m 0 j) ∧ ∀ q : Nat, (q = 1 ∨ q = 2 ∨ q = 6 ∨ q = 7 ∨ q = 8) → m' q = m q
def RP (B : Int → Int → Prop) (m m' : Mem) (z : Int) : Prop := ∃ t, B t z ∧ t ≠ 4 ∧ RQ t m m'
theorem RQ.of {m m1 : Mem} {t : Int} (h0 : ∀ j : Int, CKj j → m1 0 j = m 0 j) (hq : ∀ q : Nat, (q = 1 ∨ q = 2 ∨ q = 6 ∨ q = 7 ∨ q = 8) → m1 q = m q) : RQ t m (mup (mup m1 0 1 t) 0 2 (-1)) := by
  refine ⟨by rw [mup_j _ _ (by decide), mup_s], mup_s _ _ _ _, fun j hj => ?_, fun q h => by rw [mup_k _ _ _ (by omega), mup_k _ _ _ (by omega)]; exact hq q h⟩
  have : j ≠ 1 ∧ j ≠ 2 := by unfold CKj at hj; omega
  rw [mup_j _ _ this.2, mup_j _ _ this.1]; exact h0 j hj
theorem st_sum {fa : Int → Int} {n P : Int} {D : Int → Int} {k : Int} (h : k < n) (x : Int) : x + (shZ fa k (D k) + D k) + stZ fa n P D (k + 1) = x + stZ fa n P D k := by
  rw [stZ_s h]; omega
