/-! THE TEXT: tokens and lines, as functions of the bytes b, so many n, and a place; what both sides are held to -/
abbrev Rs (α : Type) : Type := Sum (Int × Int) α
def bnd {α β : Type} (x : Rs α) (f : α → Rs β) : Rs β := match x with
  | .inl e => .inl e
  | .inr a => f a
theorem bnd_r {α β : Type} {x : Rs α} {a : α} (h : x = .inr a) (f : α → Rs β) : bnd x f = f a := by rw [h]; rfl
theorem bnd_l {α β : Type} {x : Rs α} {e : Int × Int} (h : x = .inl e) (f : α → Rs β) : bnd x f = .inl e := by rw [h]; rfl
def ups {α : Type} (f : Int → α) (i : Int) (v : α) : Int → α := fun j => if j = i then v else f j
theorem ups_s {α : Type} (f : Int → α) (i : Int) (v : α) : ups f i v i = v := if_pos rfl
theorem ups_n {α : Type} (f : Int → α) {i j : Int} (v : α) (h : j ≠ i) : ups f i v j = f j := if_neg h
def cls (x : Int) : Int := if 97 ≤ x ∧ x ≤ 122 then 1 else if 48 ≤ x ∧ x ≤ 57 then 2 else if x = 59 then 3 else 4
def skF (b : Int → Int) : Nat → Int → Int
  | 0, p => p
  | k + 1, p => if b p = 32 then skF b k (p + 1) else p
def skZ (b : Int → Int) (n p : Int) : Int := skF b (n - p).toNat p
def rnF (b : Int → Int) (c : Int) : Nat → Int → Int
  | 0, p => p
  | k + 1, p => if cls (b p) = c then rnF b c k (p + 1) else p
def rnZ (b : Int → Int) (n c p : Int) : Int := rnF b c (n - p).toNat p
theorem skZ_s {b : Int → Int} {n p : Int} (h : p < n) (hb : b p = 32) : skZ b n p = skZ b n (p + 1) := by
  unfold skZ
  rw [show (n - p).toNat = (n - (p + 1)).toNat + 1 by omega]
  exact if_pos hb
theorem skZ_e {b : Int → Int} {n p : Int} (h : ¬ (p < n ∧ b p = 32)) : skZ b n p = p := by
  unfold skZ
  by_cases c : p < n
  · rw [show (n - p).toNat = (n - (p + 1)).toNat + 1 by omega]
    exact if_neg (fun y => h ⟨c, y⟩)
  · rw [show (n - p).toNat = 0 by omega]; rfl
theorem rnZ_s {b : Int → Int} {n c p : Int} (h : p < n) (hb : cls (b p) = c) : rnZ b n c p = rnZ b n c (p + 1) := by
  unfold rnZ
  rw [show (n - p).toNat = (n - (p + 1)).toNat + 1 by omega]
  exact if_pos hb
theorem rnZ_e {b : Int → Int} {n c p : Int} (h : ¬ (p < n ∧ cls (b p) = c)) : rnZ b n c p = p := by
  unfold rnZ
  by_cases d : p < n
  · rw [show (n - p).toNat = (n - (p + 1)).toNat + 1 by omega]
    exact if_neg (fun y => h ⟨d, y⟩)
  · rw [show (n - p).toNat = 0 by omega]; rfl
theorem skZ_rng {b : Int → Int} {n : Int} : ∀ (k : Nat) (p : Int), (n - p).toNat = k → p ≤ n → p ≤ skZ b n p ∧ skZ b n p ≤ n := by
  intro k
  induction k with
  | zero => intro p h h1; rw [skZ_e (by omega)]; omega
  | succ k ih =>
    intro p h h1
    by_cases c : b p = 32
    · rw [skZ_s (by omega) c]; have := ih (p + 1) (by omega) (by omega); omega
    · rw [skZ_e (fun y => c y.2)]; omega
theorem rnZ_rng {b : Int → Int} {n c : Int} : ∀ (k : Nat) (p : Int), (n - p).toNat = k → p ≤ n → p ≤ rnZ b n c p ∧ rnZ b n c p ≤ n := by
  intro k
  induction k with
  | zero => intro p h h1; rw [rnZ_e (by omega)]; omega
  | succ k ih =>
    intro p h h1
    by_cases d : cls (b p) = c
    · rw [rnZ_s (by omega) d]; have := ih (p + 1) (by omega) (by omega); omega
    · rw [rnZ_e (fun y => d y.2)]; omega
theorem rnZ_all {b : Int → Int} {n c : Int} : ∀ (k : Nat) (p : Int), (n - p).toNat = k → ∀ i : Int, p ≤ i → i < rnZ b n c p → cls (b i) = c := by
  intro k
  induction k with
  | zero => intro p h i h0 h1; rw [rnZ_e (by omega)] at h1; omega
  | succ k ih =>
    intro p h i h0 h1
    by_cases d : cls (b p) = c
    · rw [rnZ_s (by omega) d] at h1
      by_cases e : i = p
      · rw [e]; exact d
      · exact ih (p + 1) (by omega) i (by omega) h1
    · rw [rnZ_e (fun y => d y.2)] at h1; omega
/-- a token at the place q: its kind (0 END, 1 WORD, 2 WHOLE, 3 ;, 4 none), and where the next begins to be sought -/
def kqZ (b : Int → Int) (n q : Int) : Int := if q < n then (if cls (b q) = 1 then (if rnZ b n 1 q - q ≤ 7 then 1 else 4) else if cls (b q) = 2 then (if rnZ b n 2 q - q ≤ 3 then 2 else 4) else cls (b q)) else 0
def nqZ (b : Int → Int) (n q : Int) : Int := if q < n then (if cls (b q) = 1 then rnZ b n 1 q else if cls (b q) = 2 then rnZ b n 2 q else q + 1) else q
def lsR (b : Int → Int) (q : Int) : Nat → List Int
  | 0 => []
  | k + 1 => b (q + k) :: lsR b q k
def nmR (b : Int → Int) (q : Int) : Nat → Int
  | 0 => 0
  | k + 1 => nmR b q k * 10 + b (q + k) - 48
def enZ (B D : Int) : List Int → Int
  | [] => 0
  | c :: r => enZ B D r * B + (c - D)
def wqZ (b : Int → Int) (n q : Int) : List Int := lsR b q (rnZ b n 1 q - q).toNat
def mqZ (b : Int → Int) (n q : Int) : Int := nmR b q (rnZ b n 2 q - q).toNat
-- by the place from which the token is sought
def kdZ (b : Int → Int) (n p : Int) : Int := kqZ b n (skZ b n p)
def nxZ (b : Int → Int) (n p : Int) : Int := nqZ b n (skZ b n p)
def wlZ (b : Int → Int) (n p : Int) : List Int := wqZ b n (skZ b n p)
def nmZ (b : Int → Int) (n p : Int) : Int := mqZ b n (skZ b n p)
theorem cls_rng (x : Int) : 1 ≤ cls x ∧ cls x ≤ 4 := by
  unfold cls; split
  · omega
  · split
    · omega
    · split <;> omega
theorem kqZ_rng (b : Int → Int) (n q : Int) : 0 ≤ kqZ b n q ∧ kqZ b n q ≤ 4 := by
  have c := cls_rng (b q)
  unfold kqZ; split
  · split
    · split <;> omega
    · split
      · split <;> omega
      · omega
  · omega
theorem nqZ_rng {b : Int → Int} {n q : Int} (h : q ≤ n) : q ≤ nqZ b n q ∧ nqZ b n q ≤ n ∧ (kqZ b n q ≠ 0 → q + 1 ≤ nqZ b n q) := by
  unfold nqZ kqZ
  by_cases c : q < n
  · rw [if_pos c, if_pos c]
    by_cases d : cls (b q) = 1
    · rw [if_pos d, rnZ_s c d]
      have := rnZ_rng (b := b) (n := n) (c := 1) (n - (q + 1)).toNat (q + 1) rfl (by omega)
      exact ⟨by omega, by omega, fun _ => by omega⟩
    · rw [if_neg d]
      by_cases e : cls (b q) = 2
      · rw [if_pos e, rnZ_s c e]
        have := rnZ_rng (b := b) (n := n) (c := 2) (n - (q + 1)).toNat (q + 1) rfl (by omega)
        exact ⟨by omega, by omega, fun _ => by omega⟩
      · rw [if_neg e]; exact ⟨by omega, by omega, fun _ => by omega⟩
  · rw [if_neg c, if_neg c]; exact ⟨by omega, by omega, fun y => absurd rfl y⟩
theorem tk_rngP {b : Int → Int} {n p : Int} (h : p ≤ n) : (p ≤ skZ b n p ∧ skZ b n p ≤ n) ∧ (0 ≤ kdZ b n p ∧ kdZ b n p ≤ 4) ∧ skZ b n p ≤ nxZ b n p ∧ nxZ b n p ≤ n ∧ (kdZ b n p ≠ 0 → p + 1 ≤ nxZ b n p) := by
  have a := skZ_rng (b := b) (n := n) (n - p).toNat p rfl h
  have c := nqZ_rng (b := b) a.2
  refine ⟨a, kqZ_rng b n _, c.1, c.2.1, fun y => ?_⟩
  have := c.2.2 y
  show p + 1 ≤ nqZ b n (skZ b n p)
  omega
/-- letters alone, seven at most -/
def wdOk (l : List Int) : Prop := l.length ≤ 7 ∧ ∀ c ∈ l, 97 ≤ c ∧ c ≤ 122
theorem lsR_len (b : Int → Int) (q : Int) (k : Nat) : (lsR b q k).length = k := by
  induction k with
  | zero => rfl
  | succ k ih => show (lsR b q k).length + 1 = k + 1; rw [ih]
theorem lsR_mem {b : Int → Int} {q : Int} {k : Nat} {c : Int} (h : c ∈ lsR b q k) : ∃ i : Int, q ≤ i ∧ i < q + k ∧ c = b i := by
  induction k with
  | zero => cases h
  | succ k ih =>
    rcases List.mem_cons.mp h with e | e
    · exact ⟨q + k, by omega, by omega, e⟩
    · obtain ⟨i, i0, i1, i2⟩ := ih e; exact ⟨i, i0, by omega, i2⟩
theorem cls_1 {x : Int} (h : cls x = 1) : 97 ≤ x ∧ x ≤ 122 := by
  unfold cls at h
  split at h
  · assumption
  · split at h
    · omega
    · split at h <;> omega
theorem cls_2 {x : Int} (h : cls x = 2) : 48 ≤ x ∧ x ≤ 57 := by
  unfold cls at h
  split at h
  · omega
  · split at h
    · assumption
    · split at h <;> omega
theorem wl_ok {b : Int → Int} {n p : Int} (h : p ≤ n) (hk : kdZ b n p = 1) : wdOk (wlZ b n p) := by
  have a := skZ_rng (b := b) (n := n) (n - p).toNat p rfl h
  unfold kdZ kqZ at hk
  unfold wlZ wqZ
  generalize skZ b n p = q at hk a ⊢
  split at hk
  · rename_i hq
    split at hk
    · rename_i hc
      split at hk
      · rename_i h7
        have r := rnZ_rng (b := b) (n := n) (c := 1) (n - q).toNat q rfl a.2
        refine ⟨by rw [lsR_len]; omega, fun c hc2 => ?_⟩
        obtain ⟨i, i0, i1, i2⟩ := lsR_mem hc2
        rw [i2]; exact cls_1 (rnZ_all (n - q).toNat q rfl i i0 (by omega))
      · omega
    · rename_i hc
      split at hk
      · split at hk <;> omega
      · exact absurd hk hc
  · omega
theorem nmR_rng {b : Int → Int} {q : Int} : ∀ k : Nat, k ≤ 3 → (∀ i : Int, q ≤ i → i < q + k → 48 ≤ b i ∧ b i ≤ 57) → 0 ≤ nmR b q k ∧ nmR b q k < 10 ^ k := by
  intro k
  induction k with
  | zero => intro _ _; exact ⟨Int.le_refl _, by show (0 : Int) < 10 ^ 0; rw [Int.pow_zero]; decide⟩
  | succ k ih =>
    intro hk h
    have a := ih (by omega) (fun i h0 h1 => h i h0 (by omega))
    have d := h (q + k) (by omega) (by omega)
    show 0 ≤ nmR b q k * 10 + b (q + k) - 48 ∧ nmR b q k * 10 + b (q + k) - 48 < 10 ^ (k + 1)
    rw [pw_s]; omega
theorem nm_rng {b : Int → Int} {n p : Int} (h : p ≤ n) (hk : kdZ b n p = 2) : 0 ≤ nmZ b n p ∧ nmZ b n p ≤ 999 := by
  have a := skZ_rng (b := b) (n := n) (n - p).toNat p rfl h
  unfold kdZ kqZ at hk
  unfold nmZ mqZ
  generalize skZ b n p = q at hk a ⊢
  split at hk
  · rename_i hq
    split at hk
    · split at hk <;> omega
    · split at hk
      · rename_i hc
        split at hk
        · rename_i h3
          have r := rnZ_rng (b := b) (n := n) (c := 2) (n - q).toNat q rfl a.2
          have w := nmR_rng (b := b) (q := q) (rnZ b n 2 q - q).toNat (by omega) (fun i i0 i1 => cls_2 (rnZ_all (n - q).toNat q rfl i i0 (by omega)))
          have e : (10 : Int) ^ (rnZ b n 2 q - q).toNat ≤ 10 ^ 3 := pw_le (by decide) (by omega)
          have f : (10 : Int) ^ 3 = 1000 := by decide
          omega
        · omega
      · have := cls_rng (b q); rename_i c1 c2; exact absurd hk c2
  · omega
/-- a word told as one number: both ways are one to one -/
theorem en27_0 {l : List Int} (h : ∀ c ∈ l, 97 ≤ c ∧ c ≤ 122) : 0 ≤ enZ 27 96 l := by
  induction l with
  | nil => exact Int.le_refl _
  | cons c r ih =>
    have a := ih fun x hx => h x (List.mem_cons_of_mem _ hx)
    have d := h c (List.mem_cons_self ..)
    show 0 ≤ enZ 27 96 r * 27 + (c - 96); omega
theorem en27_inj : ∀ {l k : List Int}, (∀ c ∈ l, 97 ≤ c ∧ c ≤ 122) → (∀ c ∈ k, 97 ≤ c ∧ c ≤ 122) → enZ 27 96 l = enZ 27 96 k → l = k := by
  intro l
  induction l with
  | nil =>
    intro k _ hk e
    cases k with
    | nil => rfl
    | cons c r =>
      have a := en27_0 fun x hx => hk x (List.mem_cons_of_mem _ hx)
      have d := hk c (List.mem_cons_self ..)
      have e2 : (0 : Int) = enZ 27 96 r * 27 + (c - 96) := e
      omega
  | cons c r ih =>
    intro k hl hk e
    have a := en27_0 fun x hx => hl x (List.mem_cons_of_mem _ hx)
    have d := hl c (List.mem_cons_self ..)
    cases k with
    | nil => have e2 : enZ 27 96 r * 27 + (c - 96) = 0 := e; omega
    | cons c2 r2 =>
      have a2 := en27_0 fun x hx => hk x (List.mem_cons_of_mem _ hx)
      have d2 := hk c2 (List.mem_cons_self ..)
      have e2 : enZ 27 96 r * 27 + (c - 96) = enZ 27 96 r2 * 27 + (c2 - 96) := e
      rw [ih (fun x hx => hl x (List.mem_cons_of_mem _ hx)) (fun x hx => hk x (List.mem_cons_of_mem _ hx)) (by omega), show c = c2 by omega]
theorem en256_0 {l : List Int} (h : ∀ c ∈ l, 97 ≤ c ∧ c ≤ 122) : 0 ≤ enZ 256 0 l := by
  induction l with
  | nil => exact Int.le_refl _
  | cons c r ih =>
    have a := ih fun x hx => h x (List.mem_cons_of_mem _ hx)
    have d := h c (List.mem_cons_self ..)
    show 0 ≤ enZ 256 0 r * 256 + (c - 0); omega
theorem en256_inj : ∀ {l k : List Int}, (∀ c ∈ l, 97 ≤ c ∧ c ≤ 122) → (∀ c ∈ k, 97 ≤ c ∧ c ≤ 122) → enZ 256 0 l = enZ 256 0 k → l = k := by
  intro l
  induction l with
  | nil =>
    intro k _ hk e
    cases k with
    | nil => rfl
    | cons c r =>
      have a := en256_0 fun x hx => hk x (List.mem_cons_of_mem _ hx)
      have d := hk c (List.mem_cons_self ..)
      have e2 : (0 : Int) = enZ 256 0 r * 256 + (c - 0) := e
      omega
  | cons c r ih =>
    intro k hl hk e
    have a := en256_0 fun x hx => hl x (List.mem_cons_of_mem _ hx)
    have d := hl c (List.mem_cons_self ..)
    cases k with
    | nil => have e2 : enZ 256 0 r * 256 + (c - 0) = 0 := e; omega
    | cons c2 r2 =>
      have a2 := en256_0 fun x hx => hk x (List.mem_cons_of_mem _ hx)
      have d2 := hk c2 (List.mem_cons_self ..)
      have e2 : enZ 256 0 r * 256 + (c - 0) = enZ 256 0 r2 * 256 + (c2 - 0) := e
      rw [ih (fun x hx => hl x (List.mem_cons_of_mem _ hx)) (fun x hx => hk x (List.mem_cons_of_mem _ hx)) (by omega), show c = c2 by omega]
theorem en27_b : ∀ {l : List Int}, (∀ c ∈ l, 97 ≤ c ∧ c ≤ 122) → enZ 27 96 l < 27 ^ l.length := by
  intro l
  induction l with
  | nil => intro _; decide
  | cons c r ih =>
    intro h
    have a := ih fun x hx => h x (List.mem_cons_of_mem _ hx)
    have d := h c (List.mem_cons_self ..)
    show enZ 27 96 r * 27 + (c - 96) < 27 ^ (r.length + 1)
    rw [pw_s]; omega
theorem en256_b : ∀ {l : List Int}, (∀ c ∈ l, 97 ≤ c ∧ c ≤ 122) → enZ 256 0 l < 256 ^ l.length := by
  intro l
  induction l with
  | nil => intro _; decide
  | cons c r ih =>
    intro h
    have a := ih fun x hx => h x (List.mem_cons_of_mem _ hx)
    have d := h c (List.mem_cons_self ..)
    show enZ 256 0 r * 256 + (c - 0) < 256 ^ (r.length + 1)
    rw [pw_s]; omega
theorem wdOk.r27 {l : List Int} (h : wdOk l) : 0 ≤ enZ 27 96 l ∧ enZ 27 96 l ≤ 10460353203 := by
  have a := en27_b h.2
  have b : (27 : Int) ^ l.length ≤ 27 ^ 7 := pw_le (by decide) h.1
  have c : (27 : Int) ^ 7 = 10460353203 := by decide
  have d := en27_0 h.2
  omega
theorem wdOk.r256 {l : List Int} (h : wdOk l) : 0 ≤ enZ 256 0 l ∧ enZ 256 0 l ≤ 72057594037927936 := by
  have a := en256_b h.2
  have b : (256 : Int) ^ l.length ≤ 256 ^ 7 := pw_le (by decide) h.1
  have c : (256 : Int) ^ 7 = 72057594037927936 := by decide
  have d := en256_0 h.2
  omega
/-- a constant's letters, the last first -/
def wdC (bs : List Int32) : List Int := (bs.map Int32.toInt).reverse
theorem wdC_ok {i : Nat} {q : String × Nat × String × List Int32} (hq : strS[i]? = some q) : wdOk (wdC q.2.2.2) := by
  have a := strS_ok q (List.mem_of_getElem? hq)
  refine ⟨by unfold wdC; rw [List.length_reverse, List.length_map]; exact a.1, fun c hc => ?_⟩
  unfold wdC at hc
  obtain ⟨x, hx, rfl⟩ := List.mem_map.mp (List.mem_reverse.mp hc)
  exact a.2 x hx
theorem wdC_s {bs : List Int32} {k : Nat} (h : k < bs.length) : wdC (bs.take (k + 1)) = chZ bs k :: wdC (bs.take k) := by
  unfold wdC
  rw [List.take_add_one, List.getElem?_eq_getElem h]
  show ((bs.take k ++ [bs[k]]).map Int32.toInt).reverse = _
  rw [List.map_append, List.reverse_append]
  show (bs[k]).toInt :: _ = _
  unfold chZ
  rw [show ((k : Nat) : Int).toNat = k by omega, List.getD_eq_getElem?_getD, List.getElem?_eq_getElem h]; rfl
-- the words of the lines
abbrev w_rocket : List Int32 := [114, 111, 99, 107, 101, 116]
abbrev w_stage : List Int32 := [115, 116, 97, 103, 101]
abbrev w_fail : List Int32 := [102, 97, 105, 108]
abbrev w_solid : List Int32 := [115, 111, 108, 105, 100]
abbrev w_oil : List Int32 := [111, 105, 108]
abbrev w_gas : List Int32 := [103, 97, 115]
abbrev w_payload : List Int32 := [112, 97, 121, 108, 111, 97, 100]
abbrev w_mark : List Int32 := [109, 97, 114, 107]
abbrev w_by : List Int32 := [98, 121]
abbrev w_power : List Int32 := [112, 111, 119, 101, 114]
abbrev w_pull : List Int32 := [112, 117, 108, 108]
abbrev w_dry : List Int32 := [100, 114, 121]
abbrev w_tank : List Int32 := [116, 97, 110, 107]
abbrev w_most : List Int32 := [109, 111, 115, 116]
abbrev w_engines : List Int32 := [101, 110, 103, 105, 110, 101, 115]
abbrev w_thrust : List Int32 := [116, 104, 114, 117, 115, 116]
abbrev w_flow : List Int32 := [102, 108, 111, 119]
abbrev w_least : List Int32 := [108, 101, 97, 115, 116]
abbrev w_out : List Int32 := [111, 117, 116]
-- reading, step by step
def tWord (b : Int → Int) (n : Int) (w : List Int32) (p : Int) : Rs Int := if kdZ b n p = 1 ∧ wlZ b n p = wdC w then .inr (nxZ b n p) else .inl (1, skZ b n p)
def tWhole (b : Int → Int) (n lo hi p : Int) : Rs (Int × Int) := if kdZ b n p = 2 then (if lo ≤ nmZ b n p ∧ nmZ b n p ≤ hi then .inr (nmZ b n p, nxZ b n p) else .inl (4, skZ b n p)) else .inl (1, skZ b n p)
def tPart (b : Int → Int) (n : Int) (w : List Int32) (lo hi p : Int) : Rs (Int × Int) := bnd (tWord b n w p) (tWhole b n lo hi)
def isNm (b : Int → Int) (n p : Int) : Prop := kdZ b n p = 1 ∧ wlZ b n p ≠ wdC w_rocket ∧ wlZ b n p ≠ wdC w_stage ∧ wlZ b n p ≠ wdC w_fail
def naF (nm : Int → List Int) (w : List Int) : Nat → Int → Int
  | 0, _ => -1
  | k + 1, s => if nm s = w then s else naF nm w k (s + 1)
def naZ (nm : Int → List Int) (w : List Int) (n : Int) : Int := naF nm w n.toNat 0
def grZ (l : List Int) : Int := if l = wdC w_solid then 2 else if l = wdC w_oil then 3 else if l = wdC w_gas then 4 else 0
abbrev Sg : Type := (Int → Int) × (Int → Int) × (Int → List Int) × (Int → Int) × (Int → Int) × (Int → Int)
abbrev Sg.h (σ : Sg) : Int → Int := σ.1
abbrev Sg.fa (σ : Sg) : Int → Int := σ.2.1
abbrev Sg.nm (σ : Sg) : Int → List Int := σ.2.2.1
abbrev Sg.ft (σ : Sg) : Int → Int := σ.2.2.2.1
abbrev Sg.fk (σ : Sg) : Int → Int := σ.2.2.2.2.1
abbrev Sg.fc (σ : Sg) : Int → Int := σ.2.2.2.2.2
def hdR (v0 v1 v2 v3 v4 : Int) (h : Int → Int) : Int → Int := fun j => if j = 0 then v0 else if j = 1 then v3 else if j = 2 then v1 else if j = 3 then v2 else if j = 4 then v4 else if j = 7 then 1 else h j
def oRocket (b : Int → Int) (n : Int) (σ : Sg) (p : Int) : Rs (Sg × Int) :=
  if σ.h 7 = 1 then .inl (3, skZ b n p) else
  bnd (tPart b n w_payload 1 40 (nxZ b n p)) fun x0 => bnd (tPart b n w_mark 2 99 x0.2) fun x1 => bnd (tPart b n w_by 1 (x1.1 - 1) x1.2) fun x2 => bnd (tPart b n w_power 1 12 x2.2) fun x3 => bnd (tPart b n w_pull 0 99 x3.2) fun x4 =>
  .inr ((hdR x0.1 x1.1 x2.1 x3.1 x4.1 σ.h, σ.2), x4.2)
def wdS (w : Int) : List Int32 := if w = 1 then w_dry else if w = 2 then w_tank else if w = 3 then w_most else if w = 4 then w_engines else if w = 5 then w_thrust else if w = 6 then w_flow else if w = 7 then w_least else w_out
def loS (w : Int) : Int := if w = 2 ∨ w = 7 ∨ w = 8 then 0 else 1
def hiS (w : Int) : Int := if w = 1 then 50 else if w = 2 then 90 else if w = 3 then 16 else if w = 5 then 999 else if w = 7 then 400 else 9
def stF (b : Int → Int) (n s : Int) : Nat → Int → (Int → Int) → Int → Rs ((Int → Int) × Int)
  | 0, _, fa, p => .inr (fa, p)
  | k + 1, w, fa, p => bnd (tPart b n (wdS w) (loS w) (if w = 8 then fa (s * 9 + 4) - 1 else hiS w) p) fun x => stF b n s k (w + 1) (ups fa (s * 9 + w) x.1) x.2
noncomputable def oStage (b : Int → Int) (n : Int) (σ : Sg) (p : Int) : Rs (Sg × Int) :=
  if σ.h 7 ≠ 1 then .inl (6, skZ b n p) else if ¬ σ.h 5 < 3 then .inl (5, skZ b n p) else
  @ite _ (isNm b n (nxZ b n p)) (Classical.propDecidable _)
    (if naZ σ.nm (wlZ b n (nxZ b n p)) (σ.h 5) ≠ -1 then .inl (3, skZ b n (nxZ b n p)) else
     if kdZ b n (nxZ b n (nxZ b n p)) = 1 ∧ grZ (wlZ b n (nxZ b n (nxZ b n p))) ≠ 0 then
       bnd (stF b n (σ.h 5) 8 1 (ups σ.fa (σ.h 5 * 9 + 0) (grZ (wlZ b n (nxZ b n (nxZ b n p))))) (nxZ b n (nxZ b n (nxZ b n p)))) fun x =>
       .inr ((ups σ.h 5 (σ.h 5 + 1), x.1, ups σ.nm (σ.h 5) (wlZ b n (nxZ b n p)), σ.2.2.2), x.2)
     else .inl (1, skZ b n (nxZ b n (nxZ b n p))))
    (.inl (1, skZ b n (nxZ b n p)))
noncomputable def oFail (b : Int → Int) (n : Int) (σ : Sg) (p : Int) : Rs (Sg × Int) :=
  if σ.h 7 ≠ 1 then .inl (6, skZ b n p) else if ¬ σ.h 6 < 6 then .inl (5, skZ b n p) else
  @ite _ (isNm b n (nxZ b n p)) (Classical.propDecidable _)
    (if naZ σ.nm (wlZ b n (nxZ b n p)) (σ.h 5) = -1 then .inl (2, skZ b n (nxZ b n p)) else
     bnd (tWhole b n (laF σ.ft σ.fk (naZ σ.nm (wlZ b n (nxZ b n p)) (σ.h 5)) (σ.h 6).toNat + 1) 99 (nxZ b n (nxZ b n p))) fun x =>
     bnd (tWhole b n 1 9 x.2) fun y =>
     .inr ((ups σ.h 6 (σ.h 6 + 1), σ.fa, σ.nm, ups σ.ft (σ.h 6) (naZ σ.nm (wlZ b n (nxZ b n p)) (σ.h 5)), ups σ.fk (σ.h 6) x.1, ups σ.fc (σ.h 6) y.1), y.2))
    (.inl (1, skZ b n (nxZ b n p)))
noncomputable def oLine (b : Int → Int) (n : Int) (σ : Sg) (p : Int) : Rs (Sg × Int) :=
  if kdZ b n p ≠ 1 then .inl (1, skZ b n p) else if wlZ b n p = wdC w_rocket then oRocket b n σ p else if wlZ b n p = wdC w_stage then oStage b n σ p else if wlZ b n p = wdC w_fail then oFail b n σ p else .inl (1, skZ b n p)
noncomputable def oAll (b : Int → Int) (n : Int) : Nat → Sg → Int → Rs Sg
  | 0, _, p => .inl (1, p)
  | k + 1, σ, p => bnd (oLine b n σ p) fun x => if kdZ b n x.2 = 0 then (if 0 < Sg.h x.1 5 then .inr x.1 else .inl (6, skZ b n x.2)) else if kdZ b n x.2 ≠ 3 then .inl (1, skZ b n x.2) else oAll b n k x.1 (nxZ b n x.2)
/-- a draft so far -/
def SgOk (σ : Sg) : Prop := (σ.h 7 = 0 ∨ σ.h 7 = 1) ∧ (σ.h 7 = 0 → σ.h 5 = 0 ∧ σ.h 6 = 0) ∧ (0 ≤ σ.h 5 ∧ σ.h 5 ≤ 3) ∧ (0 ≤ σ.h 6 ∧ σ.h 6 ≤ 6) ∧ (σ.h 7 = 1 → (1 ≤ σ.h 0 ∧ σ.h 0 ≤ 40) ∧ (1 ≤ σ.h 1 ∧ σ.h 1 ≤ 12) ∧ (2 ≤ σ.h 2 ∧ σ.h 2 ≤ 99) ∧ (1 ≤ σ.h 3 ∧ σ.h 3 < σ.h 2) ∧ (0 ≤ σ.h 4 ∧ σ.h 4 ≤ 99)) ∧ FaOk σ.fa (σ.h 5) ∧ (∀ s : Int, 0 ≤ s → s < σ.h 5 → wdOk (σ.nm s)) ∧ ∀ i : Int, 0 ≤ i → i < σ.h 6 → (0 ≤ σ.ft i ∧ σ.ft i < σ.h 5) ∧ (1 ≤ σ.fk i ∧ σ.fk i ≤ 99) ∧ (1 ≤ σ.fc i ∧ σ.fc i ≤ 9)
theorem naF_rng {nm : Int → List Int} {w : List Int} : ∀ (k : Nat) (s : Int), naF nm w k s = -1 ∨ (s ≤ naF nm w k s ∧ naF nm w k s < s + k) := by
  intro k
  induction k with
  | zero => intro s; exact Or.inl rfl
  | succ k ih =>
    intro s
    by_cases c : nm s = w
    · have e : naF nm w (k + 1) s = s := if_pos c
      rw [e]; omega
    · have e : naF nm w (k + 1) s = naF nm w k (s + 1) := if_neg c
      rw [e]; have := ih (s + 1); omega
theorem naZ_rng {nm : Int → List Int} {w : List Int} {n : Int} (h : 0 ≤ n) : naZ nm w n = -1 ∨ (0 ≤ naZ nm w n ∧ naZ nm w n < n) := by
  have := naF_rng (nm := nm) (w := w) n.toNat 0
  unfold naZ; omega
theorem tWord_i {b : Int → Int} {n p q : Int} {w : List Int32} (h : tWord b n w p = .inr q) (hp : p ≤ n) : p < q ∧ q ≤ n ∧ q = nxZ b n p := by
  unfold tWord at h
  split at h
  · rename_i c
    cases h
    have := tk_rngP (b := b) hp
    exact ⟨by have := this.2.2.2.2 (by omega); omega, this.2.2.2.1, rfl⟩
  · cases h
theorem tWhole_i {b : Int → Int} {n lo hi p : Int} {x : Int × Int} (h : tWhole b n lo hi p = .inr x) (hp : p ≤ n) : (lo ≤ x.1 ∧ x.1 ≤ hi) ∧ p < x.2 ∧ x.2 ≤ n := by
  unfold tWhole at h
  split at h
  · rename_i c
    split at h
    · rename_i d
      cases h
      have := tk_rngP (b := b) hp
      exact ⟨d, by have := this.2.2.2.2 (by omega); show p < nxZ b n p; omega, this.2.2.2.1⟩
    · cases h
  · cases h
theorem bnd_i {α β : Type} {x : Rs α} {f : α → Rs β} {z : β} (h : bnd x f = .inr z) : ∃ a, x = .inr a ∧ f a = .inr z := by
  cases x with
  | inl e => cases h
  | inr a => exact ⟨a, rfl, h⟩
theorem tPart_i {b : Int → Int} {n lo hi p : Int} {w : List Int32} {x : Int × Int} (h : tPart b n w lo hi p = .inr x) (hp : p ≤ n) : (lo ≤ x.1 ∧ x.1 ≤ hi) ∧ p < x.2 ∧ x.2 ≤ n := by
  obtain ⟨q, h1, h2⟩ := bnd_i h
  have a := tWord_i h1 hp
  have c := tWhole_i h2 a.2.1
  exact ⟨c.1, by omega, c.2.2⟩
theorem stF_i {b : Int → Int} {n s : Int} (hs : 0 ≤ s) : ∀ (k : Nat) (w : Int) (fa : Int → Int) (p : Int) (x : (Int → Int) × Int), stF b n s k w fa p = .inr x → p ≤ n → 1 ≤ w → w + k = 9 → (2 ≤ fa (s * 9 + 0) ∧ fa (s * 9 + 0) ≤ 4) → (∀ j : Int, 1 ≤ j → j < w → loS j ≤ fa (s * 9 + j) ∧ fa (s * 9 + j) ≤ hiS j) →
    (p ≤ x.2 ∧ x.2 ≤ n) ∧ (2 ≤ x.1 (s * 9 + 0) ∧ x.1 (s * 9 + 0) ≤ 4) ∧ (∀ j : Int, 1 ≤ j → j < 9 → loS j ≤ x.1 (s * 9 + j) ∧ (j < 8 → x.1 (s * 9 + j) ≤ hiS j)) ∧ (w ≤ 8 → x.1 (s * 9 + 8) ≤ x.1 (s * 9 + 4) - 1) ∧ ∀ j : Int, j < s * 9 + w → x.1 j = fa j := by
  intro k
  induction k with
  | zero =>
    intro w fa p x h hp hw1 hw hg hf
    cases h
    exact ⟨⟨Int.le_refl _, hp⟩, hg, fun j j1 j9 => ⟨(hf j j1 (by omega)).1, fun _ => (hf j j1 (by omega)).2⟩, fun y => by omega, fun _ _ => rfl⟩
  | succ k ih =>
    intro w fa p x h hp hw1 hw hg hf
    obtain ⟨a, h1, h2⟩ := bnd_i (show bnd (tPart b n (wdS w) (loS w) (if w = 8 then fa (s * 9 + 4) - 1 else hiS w) p) _ = .inr x from h)
    have c := tPart_i h1 hp
    have i := ih (w + 1) (ups fa (s * 9 + w) a.1) a.2 x h2 c.2.2 (by omega) (by omega) (by rw [ups_n _ _ (by omega)]; exact hg) (fun j j1 j2 => by
      by_cases e : j = w
      · subst e; rw [ups_s]
        refine ⟨c.1.1, ?_⟩
        have c2 := c.1.2
        by_cases w8 : j = 8
        · rw [if_pos w8] at c2
          have e4 := hf 4 (by decide) (by omega)
          have : hiS 4 = 9 := by decide
          have h8 : hiS j = 9 := by rw [w8]; decide
          omega
        · rw [if_neg w8] at c2; exact c2
      · rw [ups_n _ _ (by omega)]; exact hf j j1 (by omega))
    refine ⟨by omega, i.2.1, i.2.2.1, fun w8 => ?_, fun j hj => by rw [i.2.2.2.2 j (by omega), ups_n _ _ (by omega)]⟩
    by_cases e : w = 8
    · subst e
      have k0 : k = 0 := by omega
      subst k0
      cases h2
      have c2 := c.1.2
      rw [if_pos rfl] at c2
      show ups fa (s * 9 + 8) a.1 (s * 9 + 8) ≤ ups fa (s * 9 + 8) a.1 (s * 9 + 4) - 1
      rw [ups_s, ups_n _ _ (by omega)]; exact c2
    · exact i.2.2.2.1 (by omega)
theorem laF_rng2 {A B : Int → Int} {s : Int} (n : Nat) (h : ∀ i : Int, 0 ≤ i → i < n → 1 ≤ B i ∧ B i ≤ 99) : 0 ≤ laF A B s n ∧ laF A B s n ≤ 99 := laF_rng n h
theorem grZ_rng {l : List Int} (h : grZ l ≠ 0) : 2 ≤ grZ l ∧ grZ l ≤ 4 := by
  unfold grZ at h ⊢
  split
  · omega
  · split
    · omega
    · split
      · omega
      · rename_i a b c; rw [if_neg a, if_neg b, if_neg c] at h; exact absurd rfl h
theorem oLine_i {b : Int → Int} {n : Int} {σ : Sg} {p : Int} {x : Sg × Int} (h : oLine b n σ p = .inr x) (hp : p ≤ n) (hs : SgOk σ) : (p < x.2 ∧ x.2 ≤ n) ∧ SgOk x.1 := by
  obtain ⟨s1, s2, s3, s4, s5, s6, s7, s8⟩ := hs
  have t := tk_rngP (b := b) hp
  unfold oLine at h
  split at h
  · cases h
  · rename_i hk
    have hx := t.2.2.2.2 (by omega)
    have hx2 := t.2.2.2.1
    split at h
    · unfold oRocket at h
      split at h
      · cases h
      · rename_i h7
        have z := s2 (by omega)
        obtain ⟨a0, e0, h⟩ := bnd_i h
        have c0 := tPart_i e0 hx2
        obtain ⟨a1, e1, h⟩ := bnd_i h
        have c1 := tPart_i e1 c0.2.2
        obtain ⟨a2, e2, h⟩ := bnd_i h
        have c2 := tPart_i e2 c1.2.2
        obtain ⟨a3, e3, h⟩ := bnd_i h
        have c3 := tPart_i e3 c2.2.2
        obtain ⟨a4, e4, h⟩ := bnd_i h
        have c4 := tPart_i e4 c3.2.2
        cases h
        refine ⟨⟨by omega, c4.2.2⟩, ?_⟩
        refine ⟨Or.inr rfl, fun y => absurd (show (1 : Int) = 0 from y) (by decide), ?_, ?_, fun _ => ⟨c0.1, c3.1, c1.1, ⟨c2.1.1, ?_⟩, c4.1⟩, ?_, ?_, ?_⟩
        · show 0 ≤ σ.h 5 ∧ σ.h 5 ≤ 3; exact s3
        · show 0 ≤ σ.h 6 ∧ σ.h 6 ≤ 6; exact s4
        · show a2.1 < a1.1; omega
        · show FaOk σ.fa (σ.h 5); exact s6
        · show ∀ s : Int, 0 ≤ s → s < σ.h 5 → wdOk (σ.nm s); exact s7
        · show ∀ i : Int, 0 ≤ i → i < σ.h 6 → _; intro i i0 i1; have : σ.h 6 = 0 := z.2; omega
    · split at h
      · unfold oStage at h
        split at h
        · cases h
        · rename_i h7
          split at h
          · cases h
          · rename_i h3
            have t1 := tk_rngP (b := b) hx2
            split at h
            · rename_i hn
              have hx3 := t1.2.2.2.2 (by have := hn.1; omega)
              have t2 := tk_rngP (b := b) t1.2.2.2.1
              split at h
              · cases h
              · split at h
                · rename_i hg
                  have hx4 := t2.2.2.2.2 (by have := hg.1; omega)
                  obtain ⟨a, e, h⟩ := bnd_i h
                  have gr := grZ_rng hg.2
                  have i := stF_i s3.1 8 1 _ _ a e t2.2.2.2.1 (by decide) (by decide) (by rw [ups_s]; exact gr) (fun j j1 j2 => by omega)
                  cases h
                  refine ⟨⟨by show p < a.2; omega, i.1.2⟩, ?_⟩
                  refine ⟨?_, ?_, ?_, ?_, ?_, ?_, ?_, ?_⟩
                  · show σ.h 7 = 0 ∨ σ.h 7 = 1; exact s1
                  · show σ.h 7 = 0 → _; intro y; omega
                  · show 0 ≤ σ.h 5 + 1 ∧ σ.h 5 + 1 ≤ 3; omega
                  · show 0 ≤ σ.h 6 ∧ σ.h 6 ≤ 6; exact s4
                  · show σ.h 7 = 1 → _; intro y; exact s5 y
                  · show FaOk a.1 (σ.h 5 + 1)
                    intro s h0 h1
                    by_cases q : s = σ.h 5
                    · subst q
                      have f := i.2.2.1
                      have f1 := f 1 (by decide) (by decide)
                      have f2 := f 2 (by decide) (by decide)
                      have f3 := f 3 (by decide) (by decide)
                      have f4 := f 4 (by decide) (by decide)
                      have f5 := f 5 (by decide) (by decide)
                      have f6 := f 6 (by decide) (by decide)
                      have f7 := f 7 (by decide) (by decide)
                      have f8 := f 8 (by decide) (by decide)
                      have f9 := i.2.2.2.1 (by decide)
                      simp [loS, hiS] at f1 f2 f3 f4 f5 f6 f7 f8
                      exact ⟨i.2.1, by omega, by omega, by omega, by omega, by omega, by omega, by omega, by omega⟩
                    · have f := s6 s h0 (by omega)
                      have g : ∀ w : Int, w ≤ 8 → a.1 (s * 9 + w) = σ.fa (s * 9 + w) := fun w hw => by rw [i.2.2.2.2 _ (by omega), ups_n _ _ (by omega)]
                      rw [g 0 (by decide), g 1 (by decide), g 2 (by decide), g 3 (by decide), g 4 (by decide), g 5 (by decide), g 6 (by decide), g 7 (by decide), g 8 (by decide)]; exact f
                  · show ∀ s : Int, 0 ≤ s → s < σ.h 5 + 1 → wdOk (ups σ.nm (σ.h 5) (wlZ b n (nxZ b n p)) s)
                    intro s h0 h1
                    by_cases q : s = σ.h 5
                    · rw [q, ups_s]; exact wl_ok hx2 hn.1
                    · rw [ups_n _ _ q]; exact s7 s h0 (by omega)
                  · show ∀ i : Int, 0 ≤ i → i < σ.h 6 → (0 ≤ σ.ft i ∧ σ.ft i < σ.h 5 + 1) ∧ _
                    intro i i0 i1; have := s8 i i0 i1; exact ⟨by omega, this.2⟩
                · cases h
            · cases h
      · split at h
        · unfold oFail at h
          split at h
          · cases h
          · rename_i h7
            split at h
            · cases h
            · rename_i h6
              have t1 := tk_rngP (b := b) hx2
              split at h
              · rename_i hn
                have hx3 := t1.2.2.2.2 (by have := hn.1; omega)
                split at h
                · cases h
                · rename_i hna
                  have nr := (naZ_rng (nm := σ.nm) (w := wlZ b n (nxZ b n p)) s3.1).resolve_left hna
                  obtain ⟨a, e, h⟩ := bnd_i h
                  have c := tWhole_i e t1.2.2.2.1
                  obtain ⟨a2, e2, h⟩ := bnd_i h
                  have c2 := tWhole_i e2 c.2.2
                  have la := laF_rng (A := σ.ft) (B := σ.fk) (s := naZ σ.nm (wlZ b n (nxZ b n p)) (σ.h 5)) (σ.h 6).toNat (fun i i0 i1 => (s8 i i0 (by omega)).2.1)
                  cases h
                  refine ⟨⟨by show p < a2.2; omega, c2.2.2⟩, ?_⟩
                  refine ⟨?_, ?_, ?_, ?_, ?_, ?_, ?_, ?_⟩
                  · show σ.h 7 = 0 ∨ σ.h 7 = 1; exact s1
                  · show σ.h 7 = 0 → _; intro y; omega
                  · show 0 ≤ σ.h 5 ∧ σ.h 5 ≤ 3; exact s3
                  · show 0 ≤ σ.h 6 + 1 ∧ σ.h 6 + 1 ≤ 6; omega
                  · show σ.h 7 = 1 → _; intro y; exact s5 y
                  · show FaOk σ.fa (σ.h 5); exact s6
                  · show ∀ s : Int, 0 ≤ s → s < σ.h 5 → wdOk (σ.nm s); exact s7
                  · show ∀ i : Int, 0 ≤ i → i < σ.h 6 + 1 → (0 ≤ ups σ.ft (σ.h 6) (naZ σ.nm (wlZ b n (nxZ b n p)) (σ.h 5)) i ∧ ups σ.ft (σ.h 6) (naZ σ.nm (wlZ b n (nxZ b n p)) (σ.h 5)) i < σ.h 5) ∧ (1 ≤ ups σ.fk (σ.h 6) a.1 i ∧ ups σ.fk (σ.h 6) a.1 i ≤ 99) ∧ (1 ≤ ups σ.fc (σ.h 6) a2.1 i ∧ ups σ.fc (σ.h 6) a2.1 i ≤ 9)
                    intro i i0 i1
                    by_cases q : i = σ.h 6
                    · rw [q, ups_s, ups_s, ups_s]; exact ⟨nr, by omega, c2.1⟩
                    · rw [ups_n _ _ q, ups_n _ _ q, ups_n _ _ q]; exact s8 i i0 (by omega)
              · cases h
        · cases h
