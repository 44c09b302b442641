/-! long arithmetic by whole numbers; the value of a row of limbs -/
theorem lz_toNat {p : Int} (h0 : 0 ≤ p) (h1 : p < 9223372036854775808) : (lz p).toBitVec.toNat = p.toNat := by
  unfold lz
  rw [Int64.toBitVec_ofInt, BitVec.toNat_ofInt, Int.emod_eq_of_lt h0 (by omega)]
theorem lz_mask {p : Int} (h0 : 0 ≤ p) (h1 : p < 9223372036854775808) : lz p &&& lz 281474976710655 = lz (p % 281474976710656) := by
  apply Int64.toBitVec_inj.mp
  apply BitVec.eq_of_toNat_eq
  rw [Int64.toBitVec_and, BitVec.toNat_and, lz_toNat h0 h1, lz_toNat (p := 281474976710655) (by omega) (by omega), lz_toNat (by omega) (by omega)]
  have := Nat.and_two_pow_sub_one_eq_mod p.toNat 48
  rw [show (281474976710655 : Int).toNat = 2 ^ 48 - 1 from rfl, this]
  omega
theorem lz_sh48 {p : Int} (h0 : 0 ≤ p) (h1 : p < 9223372036854775808) : ((lz p).toUInt64 >>> ((iz 48).toInt64.toUInt64 &&& Int64.toUInt64 63)).toInt64 = lz (p / 281474976710656) := by
  apply Int64.toBitVec_inj.mp
  apply BitVec.eq_of_toNat_eq
  rw [lz_toNat (by omega) (by omega)]
  have e : ((lz p).toUInt64 >>> ((iz 48).toInt64.toUInt64 &&& Int64.toUInt64 63)).toInt64.toBitVec.toNat = (lz p).toBitVec.toNat / 2 ^ 48 := by
    show ((lz p).toUInt64 >>> ((iz 48).toInt64.toUInt64 &&& Int64.toUInt64 63)).toNat = _
    rw [UInt64.toNat_shiftRight, show ((iz 48).toInt64.toUInt64 &&& Int64.toUInt64 63).toNat % 64 = 48 from by decide, Nat.shiftRight_eq_div_pow]
    rfl
  rw [e, lz_toNat h0 h1]
  omega
def bigV (f : Int → Int) : Nat → Int
  | 0 => 0
  | n + 1 => bigV f n + f n * 281474976710656 ^ n
theorem bigV_cg {f g : Int → Int} {n : Nat} (h : ∀ j : Int, 0 ≤ j → j < n → f j = g j) : bigV f n = bigV g n := by
  induction n with
  | zero => rfl
  | succ n ih =>
    have e1 := ih (fun j h0 h1 => h j h0 (by omega))
    have e2 := h n (by omega) (by omega)
    show bigV f n + f n * _ = bigV g n + g n * _
    rw [e1, e2]
theorem powB_pos (n : Nat) : 0 < (281474976710656 : Int) ^ n := Int.pow_pos (by omega)
theorem powB_succ (n : Nat) : (281474976710656 : Int) ^ (n + 1) = 281474976710656 ^ n * 281474976710656 := Int.pow_succ _ _
theorem bigV_rng {f : Int → Int} {n : Nat} (h : ∀ j : Int, 0 ≤ j → j < n → 0 ≤ f j ∧ f j < 281474976710656) : 0 ≤ bigV f n ∧ bigV f n < 281474976710656 ^ n := by
  induction n with
  | zero => exact ⟨Int.le_refl _, by show (0 : Int) < 1; omega⟩
  | succ n ih =>
    obtain ⟨a, b⟩ := ih (fun j h0 h1 => h j h0 (by omega))
    obtain ⟨c, d⟩ := h n (by omega) (by omega)
    have p := powB_pos n
    have e1 : 0 ≤ f n * 281474976710656 ^ n := Int.mul_nonneg c (Int.le_of_lt p)
    have e2 : f n * 281474976710656 ^ n ≤ 281474976710655 * 281474976710656 ^ n := Int.mul_le_mul_of_nonneg_right (by omega) (Int.le_of_lt p)
    show 0 ≤ bigV f n + f n * 281474976710656 ^ n ∧ bigV f n + f n * 281474976710656 ^ n < 281474976710656 ^ (n + 1)
    rw [powB_succ]
    omega
def BigIs (m : Mem) (g gl : Nat) (v : Int) : Prop := ∃ n : Nat, 1 ≤ n ∧ n ≤ 16 ∧ m g 1 = n ∧ (∀ j : Int, 0 ≤ j → j < n → 0 ≤ m gl j ∧ m gl j < 281474976710656) ∧ 0 < m gl ((n : Int) - 1) ∧ bigV (m gl) n = v
/-- the top limb is above 0: the value is no less than its weight -/
theorem bigV_top {f : Int → Int} {n : Nat} (h1 : 1 ≤ n) (h : ∀ j : Int, 0 ≤ j → j < n → 0 ≤ f j ∧ f j < 281474976710656) (ht : 0 < f ((n : Int) - 1)) : (281474976710656 : Int) ^ (n - 1) ≤ bigV f n := by
  obtain ⟨k, rfl⟩ : ∃ k, n = k + 1 := ⟨n - 1, by omega⟩
  have e : ((k + 1 : Nat) : Int) - 1 = (k : Int) := by omega
  rw [e] at ht
  obtain ⟨a, -⟩ := bigV_rng (n := k) (fun j h0 h2 => h j h0 (by omega))
  have p := powB_pos k
  have e2 : 1 * 281474976710656 ^ k ≤ f k * 281474976710656 ^ k := Int.mul_le_mul_of_nonneg_right (by omega) (Int.le_of_lt p)
  show 281474976710656 ^ k ≤ bigV f k + f k * 281474976710656 ^ k
  omega
/-- the top limb is above 0, told from the value -/
theorem bigV_top2 {f : Int → Int} {n : Nat} (h1 : 1 ≤ n) (h : ∀ j : Int, 0 ≤ j → j < n → 0 ≤ f j ∧ f j < 281474976710656) (hv : (281474976710656 : Int) ^ (n - 1) ≤ bigV f n) : 0 < f ((n : Int) - 1) := by
  obtain ⟨k, rfl⟩ : ∃ k, n = k + 1 := ⟨n - 1, by omega⟩
  have e : ((k + 1 : Nat) : Int) - 1 = (k : Int) := by omega
  rw [e]
  obtain ⟨-, b⟩ := bigV_rng (n := k) (fun j h0 h2 => h j h0 (by omega))
  have hv : (281474976710656 : Int) ^ k ≤ bigV f k + f k * 281474976710656 ^ k := hv
  have h0 := (h k (by omega) (by omega)).1
  rcases Int.lt_or_eq_of_le h0 with q | q
  · exact q
  · rw [← q, Int.zero_mul] at hv
    omega
/-- one step of multiply: the carry goes on -/
theorem bigV_step {f g : Int → Int} {n : Nat} {c x : Int} (hV : bigV f n + c * 281474976710656 ^ n = bigV g n * x) (hf : f n = (g n * x + c) % 281474976710656) : bigV f (n + 1) + (g n * x + c) / 281474976710656 * 281474976710656 ^ (n + 1) = bigV g (n + 1) * x := by
  show bigV f n + f n * 281474976710656 ^ n + _ = (bigV g n + g n * 281474976710656 ^ n) * x
  rw [powB_succ, hf]
  have e := Int.emod_add_mul_ediv (g n * x + c) 281474976710656
  have e2 : (g n * x + c) % 281474976710656 * 281474976710656 ^ n + (g n * x + c) / 281474976710656 * (281474976710656 ^ n * 281474976710656) = (g n * x + c) * 281474976710656 ^ n := by
    rw [Int.mul_comm (281474976710656 ^ n) 281474976710656, ← Int.mul_assoc, ← Int.add_mul]
    congr 1
    omega
  rw [Int.add_assoc, e2, Int.add_mul, Int.add_mul, ← hV, Int.mul_right_comm (g n)]
  omega
/-- two rows of limbs, compared from the top -/
theorem bigV_lt {f g : Int → Int} {n k : Nat} (hk : k < n) (hf : ∀ j : Int, 0 ≤ j → j < n → 0 ≤ f j ∧ f j < 281474976710656) (hg : ∀ j : Int, 0 ≤ j → j < n → 0 ≤ g j ∧ g j < 281474976710656) (he : ∀ j : Int, (k : Int) < j → j < n → f j = g j) (hlt : f k < g k) : bigV f n < bigV g n := by
  induction n with
  | zero => omega
  | succ n ih =>
    show bigV f n + f n * 281474976710656 ^ n < bigV g n + g n * 281474976710656 ^ n
    have p := powB_pos n
    by_cases h : k = n
    · subst h
      obtain ⟨-, b⟩ := bigV_rng (n := k) (fun j h0 h2 => hf j h0 (by omega))
      obtain ⟨a, -⟩ := bigV_rng (n := k) (fun j h0 h2 => hg j h0 (by omega))
      have e : (f k + 1) * 281474976710656 ^ k ≤ g k * 281474976710656 ^ k := Int.mul_le_mul_of_nonneg_right (by omega) (Int.le_of_lt p)
      rw [Int.add_mul] at e
      omega
    · have e := ih (by omega) (fun j h0 h2 => hf j h0 (by omega)) (fun j h0 h2 => hg j h0 (by omega)) (fun j h0 h2 => he j h0 (by omega))
      rw [he n (by omega) (by omega)]
      omega
theorem powB_mono (a k : Nat) : (281474976710656 : Int) ^ a ≤ 281474976710656 ^ (a + k) := by
  induction k with
  | zero => exact Int.le_refl _
  | succ k ih =>
    have p := powB_pos (a + k)
    have e := powB_succ (a + k)
    show _ ≤ (281474976710656 : Int) ^ (a + k + 1)
    omega
theorem bigV_lt_len {f g : Int → Int} {a b : Nat} (hab : a < b) (hf : ∀ j : Int, 0 ≤ j → j < a → 0 ≤ f j ∧ f j < 281474976710656) (hg : ∀ j : Int, 0 ≤ j → j < b → 0 ≤ g j ∧ g j < 281474976710656) (ht : 0 < g ((b : Int) - 1)) : bigV f a < bigV g b := by
  obtain ⟨-, h1⟩ := bigV_rng hf
  have h2 := bigV_top (by omega) hg ht
  have h3 : (281474976710656 : Int) ^ a ≤ 281474976710656 ^ (b - 1) := by have := powB_mono a (b - 1 - a); rwa [show a + (b - 1 - a) = b - 1 by omega] at this
  omega

theorem big_end0 {m : Mem} {g gl n : Nat} {w : Int} (hn1 : 1 ≤ n) (hn2 : n ≤ 16) (hu : m g 1 = n) (hlo : ∀ j : Int, 0 ≤ j → j < n → 0 ≤ m gl j ∧ m gl j < 281474976710656) (hV : bigV (m gl) n = w) (hw : (281474976710656 : Int) ^ (n - 1) ≤ w) : BigIs m g gl w :=
  ⟨n, hn1, hn2, hu, hlo, bigV_top2 hn1 hlo (hV ▸ hw), hV⟩
theorem big_end1 {m : Mem} {g gl n : Nat} {w c : Int} (hne : gl ≠ g) (hn2 : n < 16) (hlo : ∀ j : Int, 0 ≤ j → j < n → 0 ≤ m gl j ∧ m gl j < 281474976710656) (hV : bigV (m gl) n + c * 281474976710656 ^ n = w) (hc0 : 0 < c) (hc1 : c < 281474976710656) : BigIs (mup (mup m gl n c) g 1 ((n : Int) + 1)) g gl w := by
  have e : ∀ j : Int, mup (mup m gl n c) g 1 ((n : Int) + 1) gl j = if j = n then c else m gl j := fun j => by rw [mup_k _ _ _ hne, mup_r]
  refine ⟨n + 1, by omega, by omega, by rw [mup_s]; omega, fun j h0 h1 => ?_, ?_, ?_⟩
  · rw [e]
    by_cases q : j = n
    · rw [if_pos q]; omega
    · rw [if_neg q]; exact hlo j h0 (by omega)
  · rw [e, if_pos (by omega)]; exact hc0
  · show bigV _ n + mup (mup m gl n c) g 1 ((n : Int) + 1) gl n * _ = w
    rw [e, if_pos rfl, ← hV]
    congr 1
    exact bigV_cg fun j h0 h1 => by rw [e, if_neg (by omega)]
