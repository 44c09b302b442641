/-! the reference's flight: rows of ticks; its product, tick by tick, against the class's, stage by stage -/
def TkR (m : Mem) (l : List Tk) : Prop := m 0 58 = l.length ∧ ∀ (i : Nat) (q : Tk), l[i]? = some q → m 20 i = q.1 ∧ m 21 i = q.2.1 ∧ m 22 i = q.2.2.1 ∧ m 23 i = q.2.2.2.1 ∧ m 24 i = q.2.2.2.2.1 ∧ m 25 i = q.2.2.2.2.2
theorem TkR.fr {m m1 : Mem} {l : List Tk} (h : TkR m l) (e : m1 0 58 = m 0 58) (e0 : m1 20 = m 20) (e1 : m1 21 = m 21) (e2 : m1 22 = m 22) (e3 : m1 23 = m 23) (e4 : m1 24 = m 24) (e5 : m1 25 = m 25) : TkR m1 l := by
  unfold TkR; rw [e, e0, e1, e2, e3, e4, e5]; exact h
theorem TkR.push {m m1 m2 m3 m4 m5 m6 m7 m8 : Mem} {l : List Tk} {X s t y z r p : Int} (h : TkR m l) (e1 : m1 = mup m 0 60 X) (e2 : m2 = mup m1 20 (m1 0 58) s) (e3 : m3 = mup m2 21 (m2 0 58) t) (e4 : m4 = mup m3 22 (m3 0 58) y) (e5 : m5 = mup m4 24 (m4 0 58) r) (e6 : m6 = mup m5 25 (m5 0 58) p) (e7 : m7 = mup m6 23 (m6 0 58) z) (e8 : m8 = mup m7 0 58 (m7 0 58 + 1)) :
    TkR m8 (l ++ [(s, t, y, z, r, p)]) ∧ m8 0 60 = X ∧ (∀ j : Int, j ≠ 58 → j ≠ 60 → m8 0 j = m 0 j) ∧ ∀ q : Nat, q ≠ 0 → q ≠ 20 → q ≠ 21 → q ≠ 22 → q ≠ 23 → q ≠ 24 → q ≠ 25 → m8 q = m q := by
  have i1 : m1 0 58 = m 0 58 := by rw [e1, mup_j _ _ (by decide)]
  have i2 : m2 0 58 = m 0 58 := by rw [e2, mup_k _ _ _ (by decide)]; exact i1
  have i3 : m3 0 58 = m 0 58 := by rw [e3, mup_k _ _ _ (by decide)]; exact i2
  have i4 : m4 0 58 = m 0 58 := by rw [e4, mup_k _ _ _ (by decide)]; exact i3
  have i5 : m5 0 58 = m 0 58 := by rw [e5, mup_k _ _ _ (by decide)]; exact i4
  have i6 : m6 0 58 = m 0 58 := by rw [e6, mup_k _ _ _ (by decide)]; exact i5
  have i7 : m7 0 58 = m 0 58 := by rw [e7, mup_k _ _ _ (by decide)]; exact i6
  rw [i1] at e2; rw [i2] at e3; rw [i3] at e4; rw [i4] at e5; rw [i5] at e6; rw [i6] at e7; rw [i7] at e8
  have h7 := h.1
  have c20 : m8 20 = fun j => if j = m 0 58 then s else m 20 j := by rw [e8, mup_k _ _ _ (by decide), e7, mup_k _ _ _ (by decide), e6, mup_k _ _ _ (by decide), e5, mup_k _ _ _ (by decide), e4, mup_k _ _ _ (by decide), e3, mup_k _ _ _ (by decide), e2, mup_r, e1, mup_k _ _ _ (by decide)]
  have c21 : m8 21 = fun j => if j = m 0 58 then t else m 21 j := by rw [e8, mup_k _ _ _ (by decide), e7, mup_k _ _ _ (by decide), e6, mup_k _ _ _ (by decide), e5, mup_k _ _ _ (by decide), e4, mup_k _ _ _ (by decide), e3, mup_r, e2, mup_k _ _ _ (by decide), e1, mup_k _ _ _ (by decide)]
  have c22 : m8 22 = fun j => if j = m 0 58 then y else m 22 j := by rw [e8, mup_k _ _ _ (by decide), e7, mup_k _ _ _ (by decide), e6, mup_k _ _ _ (by decide), e5, mup_k _ _ _ (by decide), e4, mup_r, e3, mup_k _ _ _ (by decide), e2, mup_k _ _ _ (by decide), e1, mup_k _ _ _ (by decide)]
  have c24 : m8 24 = fun j => if j = m 0 58 then r else m 24 j := by rw [e8, mup_k _ _ _ (by decide), e7, mup_k _ _ _ (by decide), e6, mup_k _ _ _ (by decide), e5, mup_r, e4, mup_k _ _ _ (by decide), e3, mup_k _ _ _ (by decide), e2, mup_k _ _ _ (by decide), e1, mup_k _ _ _ (by decide)]
  have c25 : m8 25 = fun j => if j = m 0 58 then p else m 25 j := by rw [e8, mup_k _ _ _ (by decide), e7, mup_k _ _ _ (by decide), e6, mup_r, e5, mup_k _ _ _ (by decide), e4, mup_k _ _ _ (by decide), e3, mup_k _ _ _ (by decide), e2, mup_k _ _ _ (by decide), e1, mup_k _ _ _ (by decide)]
  have c23 : m8 23 = fun j => if j = m 0 58 then z else m 23 j := by rw [e8, mup_k _ _ _ (by decide), e7, mup_r, e6, mup_k _ _ _ (by decide), e5, mup_k _ _ _ (by decide), e4, mup_k _ _ _ (by decide), e3, mup_k _ _ _ (by decide), e2, mup_k _ _ _ (by decide), e1, mup_k _ _ _ (by decide)]
  have c0 : ∀ j : Int, j ≠ 58 → m8 0 j = m1 0 j := fun j hj => by rw [e8, mup_j _ _ hj, e7, mup_k _ _ _ (by decide), e6, mup_k _ _ _ (by decide), e5, mup_k _ _ _ (by decide), e4, mup_k _ _ _ (by decide), e3, mup_k _ _ _ (by decide), e2, mup_k _ _ _ (by decide)]
  refine ⟨⟨?_, fun i q hq => ?_⟩, ?_, fun j j1 j2 => ?_, fun q q0 q1 q2 q3 q4 q5 q6 => ?_⟩
  · rw [e8, mup_s, h7, List.length_append]; show (l.length : Int) + 1 = ((l.length + 1 : Nat) : Int); omega
  · rw [c20, c21, c22, c23, c24, c25]
    by_cases c : i < l.length
    · rw [List.getElem?_append_left c] at hq
      have w := h.2 i q hq
      have n : ¬ (i : Int) = m 0 58 := by omega
      exact ⟨(if_neg n).trans w.1, (if_neg n).trans w.2.1, (if_neg n).trans w.2.2.1, (if_neg n).trans w.2.2.2.1, (if_neg n).trans w.2.2.2.2.1, (if_neg n).trans w.2.2.2.2.2⟩
    · have hi := (List.getElem?_eq_some_iff.mp hq).1
      rw [List.length_append] at hi
      have hi2 : i < l.length + 1 := hi
      have ei : i = l.length := by omega
      rw [ei, List.getElem?_append_right (Nat.le_refl _), Nat.sub_self] at hq
      cases hq
      have n : (i : Int) = m 0 58 := by omega
      exact ⟨if_pos n, if_pos n, if_pos n, if_pos n, if_pos n, if_pos n⟩
  · rw [c0 60 (by decide), e1, mup_s]
  · rw [c0 j j1, e1, mup_j _ _ j2]
  · rw [e8, mup_k _ _ _ q0, e7, mup_k _ _ _ q4, e6, mup_k _ _ _ q6, e5, mup_k _ _ _ q5, e4, mup_k _ _ _ q3, e3, mup_k _ _ _ q2, e2, mup_k _ _ _ q1, e1, mup_k _ _ _ q0]
-- the product tick by tick
def plZ (pl x : Int) : Int := if 0 < pl then x else 1
def FN (fa : Int → Int) (pl : Int) : List Tk → Int
  | [] => 1
  | q :: l => q.2.2.1 ^ (fa (q.1 * 9 + 0)).toNat * plZ pl pl * FN fa pl l
def FD (fa : Int → Int) (pl : Int) : List Tk → Int
  | [] => 1
  | q :: l => q.2.2.2.1 ^ (fa (q.1 * 9 + 0)).toNat * plZ pl (pl + 1) * FD fa pl l
theorem FN_app (fa : Int → Int) (pl : Int) (a b : List Tk) : FN fa pl (a ++ b) = FN fa pl a * FN fa pl b := by
  induction a with
  | nil => show FN fa pl b = 1 * _; rw [Int.one_mul]
  | cons q a ih => show _ * FN fa pl (a ++ b) = _ * FN fa pl a * _; rw [ih]; ac_rfl
theorem FD_app (fa : Int → Int) (pl : Int) (a b : List Tk) : FD fa pl (a ++ b) = FD fa pl a * FD fa pl b := by
  induction a with
  | nil => show FD fa pl b = 1 * _; rw [Int.one_mul]
  | cons q a ih => show _ * FD fa pl (a ++ b) = _ * FD fa pl a * _; rw [ih]; ac_rfl
theorem take_t {l : List Tk} {i : Nat} {q : Tk} (h : l[i]? = some q) : l.take (i + 1) = l.take i ++ [q] := by rw [List.take_add_one, h]; rfl
theorem FN_s {fa : Int → Int} {pl : Int} {l : List Tk} {i : Nat} {q : Tk} (h : l[i]? = some q) : FN fa pl (l.take (i + 1)) = FN fa pl (l.take i) * q.2.2.1 ^ (fa (q.1 * 9 + 0)).toNat * plZ pl pl := by
  rw [take_t h, FN_app]; show _ * (_ * _ * 1) = _; rw [Int.mul_one, Int.mul_assoc]
theorem FD_s {fa : Int → Int} {pl : Int} {l : List Tk} {i : Nat} {q : Tk} (h : l[i]? = some q) : FD fa pl (l.take (i + 1)) = FD fa pl (l.take i) * q.2.2.2.1 ^ (fa (q.1 * 9 + 0)).toNat * plZ pl (pl + 1) := by
  rw [take_t h, FD_app]; show _ * (_ * _ * 1) = _; rw [Int.mul_one, Int.mul_assoc]
/-- each factor's bounds -/
def tkOk (fa : Int → Int) (n : Int) (l : List Tk) : Prop := ∀ q ∈ l, (0 ≤ q.1 ∧ q.1 < n) ∧ (1 ≤ q.2.2.1 ∧ q.2.2.1 ≤ 400) ∧ (1 ≤ q.2.2.2.1 ∧ q.2.2.2.1 ≤ 400)
theorem fac_42 {fa : Int → Int} {x g p : Int} (hx : 1 ≤ x ∧ x ≤ 400) (hg : g ≤ 4) (hp : 1 ≤ p ∧ p ≤ 100) : 1 ≤ x ^ g.toNat * p ∧ x ^ g.toNat * p ≤ 2 ^ 42 := by
  have a := pw_4 hx.1 hx.2 hg
  have b := pw_pos hx.1 g.toNat
  refine ⟨mul_1 b hp.1, ?_⟩
  have c := Int.mul_le_mul a hp.2 (by omega) (by decide)
  have d : (25600000000 : Int) * 100 ≤ 2 ^ 42 := by decide +kernel
  omega
theorem plZ_rng {pl x : Int} (h : 0 ≤ pl ∧ pl ≤ 99) (hx : x = pl ∨ x = pl + 1) : 1 ≤ plZ pl x ∧ plZ pl x ≤ 100 := by
  unfold plZ; split <;> omega
theorem FN_b {fa : Int → Int} {n pl : Int} (hF : FaOk fa n) (hp : 0 ≤ pl ∧ pl ≤ 99) : ∀ l : List Tk, tkOk fa n l → (1 ≤ FN fa pl l ∧ FN fa pl l ≤ (2 ^ 42) ^ l.length) ∧ 1 ≤ FD fa pl l ∧ FD fa pl l ≤ (2 ^ 42) ^ l.length := by
  intro l
  induction l with
  | nil => intro _; exact ⟨⟨Int.le_refl _, Int.le_refl _⟩, Int.le_refl _, Int.le_refl _⟩
  | cons q l ih =>
    intro h
    have a := ih fun r hr => h r (List.mem_cons_of_mem _ hr)
    have b := h q (List.mem_cons_self ..)
    have f := hF q.1 b.1.1 b.1.2
    have c := fac_42 (fa := fa) b.2.1 (show fa (q.1 * 9 + 0) ≤ 4 by omega) (plZ_rng hp (Or.inl rfl))
    have d := fac_42 (fa := fa) b.2.2 (show fa (q.1 * 9 + 0) ≤ 4 by omega) (plZ_rng hp (Or.inr rfl))
    have e : ((2 : Int) ^ 42) ^ (q :: l).length = (2 ^ 42) ^ l.length * 2 ^ 42 := pw_s _ _
    have g : (0 : Int) ≤ (2 ^ 42) ^ l.length := Int.pow_nonneg (by decide)
    rw [e]
    refine ⟨⟨mul_1 c.1 a.1.1, ?_⟩, mul_1 d.1 a.2.1, ?_⟩
    · rw [Int.mul_comm ((2 ^ 42) ^ l.length)]; exact Int.mul_le_mul c.2 a.1.2 (by omega) (by decide +kernel)
    · rw [Int.mul_comm ((2 ^ 42) ^ l.length)]; exact Int.mul_le_mul d.2 a.2.2 (by omega) (by decide +kernel)
theorem p2200 {k : Nat} (h : k ≤ 51) : ((2 : Int) ^ 42) ^ k ≤ 2 ^ 2200 := by
  have a := pw_le (x := (2 : Int) ^ 42) (by decide +kernel) h
  have b : ((2 : Int) ^ 42) ^ 51 ≤ 2 ^ 2200 := by decide +kernel
  omega
theorem tkOk.take {fa : Int → Int} {n : Int} {l : List Tk} (h : tkOk fa n l) (i : Nat) : tkOk fa n (l.take i) := fun q hq => h q (List.mem_of_mem_take hq)
theorem pw_add (x : Int) (a b : Nat) : x ^ (a + b) = x ^ a * x ^ b := by
  induction b with
  | zero => rw [Nat.add_zero, Int.pow_zero, Int.mul_one]
  | succ b ih => rw [← Nat.add_assoc, pw_s, pw_s, ih, Int.mul_assoc]
theorem pw_1 (k : Nat) : (1 : Int) ^ k = 1 := by
  induction k with
  | zero => rfl
  | succ k ih => rw [pw_s, ih]; rfl
theorem ch_alg (A p N E P1 p1 Bh D P : Int) (e : N * E * P1 = Bh * D * P) : A * p * N * E * (P1 * p1) = A * (Bh * p1 * D) * (P * p) := by
  have h1 : A * p * N * E * (P1 * p1) = A * p * p1 * (N * E * P1) := by ac_rfl
  have h2 : A * (Bh * p1 * D) * (P * p) = A * p * p1 * (Bh * D * P) := by ac_rfl
  rw [h1, h2, e]
theorem ch_alg2 (N1 N2 D1 E2 P1 Q1 M1 A2 F1 F2 P Q : Int) (e : N1 * D1 * P1 = M1 * F1 * P) (f : N2 * E2 * Q1 = A2 * F2 * Q) : N1 * N2 * (D1 * E2) * (P1 * Q1) = M1 * A2 * (F1 * F2) * (P * Q) := by
  have h1 : N1 * N2 * (D1 * E2) * (P1 * Q1) = N1 * D1 * P1 * (N2 * E2 * Q1) := by ac_rfl
  have h2 : M1 * A2 * (F1 * F2) * (P * Q) = M1 * F1 * P * (A2 * F2 * Q) := by ac_rfl
  rw [h1, h2, e, f]
/-- a stage's ticks: what flew ahead of each by what flew behind, all but the first and last fall out -/
theorem bu_chain {fa : Int → Int} {s : Int} {fl : Int → Int} {flow thr pl : Int} : ∀ (n : Nat) (t left eng fy : Int),
    FN fa pl (buF s fl flow thr n t left eng fy).1 * (buF s fl flow thr n t left eng fy).2.2.2 ^ (fa (s * 9 + 0)).toNat * plZ pl (pl + 1) ^ (buF s fl flow thr n t left eng fy).1.length = fy ^ (fa (s * 9 + 0)).toNat * FD fa pl (buF s fl flow thr n t left eng fy).1 * plZ pl pl ^ (buF s fl flow thr n t left eng fy).1.length := by
  intro n
  induction n with
  | zero => intro t left eng fy; show 1 * fy ^ (fa (s * 9 + 0)).toNat * plZ pl (pl + 1) ^ 0 = fy ^ (fa (s * 9 + 0)).toNat * 1 * plZ pl pl ^ 0; rw [Int.pow_zero, Int.pow_zero, Int.one_mul, Int.mul_one, Int.mul_one]
  | succ n ih =>
    intro t left eng fy
    by_cases c : 0 < left ∧ 0 < eng
    · rw [buF_s c]
      have e := ih (t + 1) (left - brnZ flow (eng - stopZ fl t eng) left) (eng - stopZ fl t eng) (fy - brnZ flow (eng - stopZ fl t eng) left)
      generalize (buF s fl flow thr n (t + 1) (left - brnZ flow (eng - stopZ fl t eng) left) (eng - stopZ fl t eng) (fy - brnZ flow (eng - stopZ fl t eng) left)) = B at e ⊢
      show fy ^ (fa (s * 9 + 0)).toNat * plZ pl pl * FN fa pl B.1 * B.2.2.2 ^ (fa (s * 9 + 0)).toNat * plZ pl (pl + 1) ^ (B.1.length + 1) = fy ^ (fa (s * 9 + 0)).toNat * ((fy - brnZ flow (eng - stopZ fl t eng) left) ^ (fa (s * 9 + 0)).toNat * plZ pl (pl + 1) * FD fa pl B.1) * plZ pl pl ^ (B.1.length + 1)
      rw [pw_s, pw_s]
      exact ch_alg _ _ _ _ _ _ _ _ _ e
    · rw [buF_e c]; show 1 * fy ^ (fa (s * 9 + 0)).toNat * plZ pl (pl + 1) ^ 0 = fy ^ (fa (s * 9 + 0)).toNat * 1 * plZ pl pl ^ 0; rw [Int.pow_zero, Int.pow_zero, Int.one_mul, Int.mul_one, Int.mul_one]
def BuS (fa T : Int → Int) (S : Int → List Tk × Int × Int × Int) (n : Int) : Prop := ∀ s : Int, 0 ≤ s → s < n → ∃ (fl : Int → Int) (flow thr left eng : Int), S s = buF s fl flow thr 18 1 left eng (T s)
theorem fl_cross {fa T : Int → Int} {S : Int → List Tk × Int × Int × Int} {n pl : Int} (hg : ∀ s : Int, 0 ≤ s → s < n → 0 ≤ fa (s * 9 + 0)) (h : BuS fa T S n) : ∀ c : Nat, (c : Int) ≤ n →
    FN fa pl (tkA S c) * denL (spL fa T (fun s => (S s).2.2.2) c) * plZ pl (pl + 1) ^ (tkA S c).length = numL (spL fa T (fun s => (S s).2.2.2) c) * FD fa pl (tkA S c) * plZ pl pl ^ (tkA S c).length := by
  intro c
  induction c with
  | zero => intro _; show 1 * 1 * plZ pl (pl + 1) ^ 0 = 1 * 1 * plZ pl pl ^ 0; rw [Int.pow_zero, Int.pow_zero]
  | succ c ih =>
    intro hc
    have e := ih (by omega)
    obtain ⟨fl, flow, thr, left, eng, hS⟩ := h c (by omega) (by omega)
    have f := bu_chain (fa := fa) (s := c) (fl := fl) (flow := flow) (thr := thr) (pl := pl) 18 1 left eng (T c)
    rw [← hS] at f
    rw [spL_num (hg c (by omega) (by omega)), spL_den (hg c (by omega) (by omega))]
    show FN fa pl (tkA S c ++ (S c).1) * _ * plZ pl (pl + 1) ^ (tkA S c ++ (S c).1).length = _ * FD fa pl (tkA S c ++ (S c).1) * plZ pl pl ^ (tkA S c ++ (S c).1).length
    rw [FN_app, FD_app, List.length_append, pw_add, pw_add]
    exact ch_alg2 _ _ _ _ _ _ _ _ _ _ _ _ e f
theorem flS_bu {fa A B Cn R X : Int → Int} {xs xt : Int} : BuS fa (stX fa R X) (flS fa A B Cn R X xs xt) (R 5) := fun s _ _ => ⟨_, _, _, _, _, rfl⟩
theorem fpl_nd {fa A B Cn R X : Int → Int} {xs xt : Int} (hp : 0 ≤ R 4) : numL (fpl fa A B Cn R X xs xt) = numL (spL fa (stX fa R X) (fun s => (flS fa A B Cn R X xs xt s).2.2.2) (R 5).toNat) * plZ (R 4) (R 4) ^ (ftl fa A B Cn R X xs xt).length ∧ denL (fpl fa A B Cn R X xs xt) = denL (spL fa (stX fa R X) (fun s => (flS fa A B Cn R X xs xt s).2.2.2) (R 5).toNat) * plZ (R 4) (R 4 + 1) ^ (ftl fa A B Cn R X xs xt).length := by
  unfold fpl
  rw [prA_sp]
  generalize ftl fa A B Cn R X xs xt = L
  generalize spL fa (stX fa R X) (fun s => (flS fa A B Cn R X xs xt s).2.2.2) (R 5).toNat = S
  unfold plZ
  by_cases c : 0 < R 4
  · rw [if_pos c, if_pos c, if_pos c]
    constructor
    · rw [numL_app]
      show _ * (R 4 ^ ((L.length : Int)).toNat * ((R 4 + 1) ^ (-(L.length : Int)).toNat * 1)) = _
      rw [show (-(L.length : Int)).toNat = 0 by omega, Int.pow_zero, Int.mul_one, Int.mul_one, Int.toNat_natCast]
    · rw [denL_app]
      show _ * (R 4 ^ (-(L.length : Int)).toNat * ((R 4 + 1) ^ (- -(L.length : Int)).toNat * 1)) = _
      rw [show (-(L.length : Int)).toNat = 0 by omega, Int.pow_zero, Int.mul_one, Int.one_mul, Int.neg_neg, Int.toNat_natCast]
  · rw [if_neg c, if_neg c, if_neg c, List.append_nil, pw_1, Int.mul_one, Int.mul_one]
    exact ⟨rfl, rfl⟩
theorem fpl_cross {fa A B Cn R X : Int → Int} {xs xt : Int} (h : VdOk fa R X) (hf : faOk A B Cn R) : FN fa (R 4) (ftl fa A B Cn R X xs xt) * denL (fpl fa A B Cn R X xs xt) = numL (fpl fa A B Cn R X xs xt) * FD fa (R 4) (ftl fa A B Cn R X xs xt) := by
  have e := fl_cross (pl := R 4) (fun s h0 h1 => by have := h.2.1 s h0 h1; omega) (flS_bu (fa := fa) (A := A) (B := B) (Cn := Cn) (R := R) (X := X) (xs := xs) (xt := xt)) (R 5).toNat (by have := h.1; omega)
  obtain ⟨a, b⟩ := fpl_nd (fa := fa) (A := A) (B := B) (Cn := Cn) (R := R) (X := X) (xs := xs) (xt := xt) hf.1.1
  rw [a, b]
  unfold ftl at *
  rw [← Int.mul_assoc, e, Int.mul_assoc, Int.mul_assoc, Int.mul_comm (FD _ _ _)]
theorem rch_x {N D N2 D2 U L : Int} {k : Nat} (hD : 1 ≤ D) (hD2 : 1 ≤ D2) (h : N * D2 = N2 * D) (hr : rch N D U L k) : rch N2 D2 U L k := by
  unfold rch at hr ⊢
  have a : D2 * (D * U ^ k) ≤ D2 * (N * L ^ k) := Int.mul_le_mul_of_nonneg_left hr (by omega)
  have e1 : D2 * (D * U ^ k) = D * (D2 * U ^ k) := by ac_rfl
  have e2 : D2 * (N * L ^ k) = D * (N2 * L ^ k) := by
    have y : D2 * (N * L ^ k) = N * D2 * L ^ k := by ac_rfl
    have z : D * (N2 * L ^ k) = N2 * D * L ^ k := by ac_rfl
    rw [y, z, h]
  rw [e1, e2] at a
  exact Int.le_of_mul_le_mul_left a (by omega)
theorem PwIs.x {N D N2 D2 U L z : Int} (hD : 1 ≤ D) (hD2 : 1 ≤ D2) (h : N * D2 = N2 * D) (hr : PwIs N D U L z) : PwIs N2 D2 U L z := by
  have f := fun (k : Nat) (y : rch N D U L k) => rch_x hD hD2 h y
  have g := fun (k : Nat) (y : rch N2 D2 U L k) => rch_x hD2 hD h.symm y
  rcases hr with ⟨a, b⟩ | ⟨a, b, c, d⟩
  · exact Or.inl ⟨a, fun y => b (g _ y)⟩
  · exact Or.inr ⟨a, b, fun j hj => f _ (c j hj), d.imp (fun y => y) (fun y w => y (g _ w))⟩
theorem ftl_ok {fa A B Cn R X : Int → Int} {xs xt : Int} (h : VdOk fa R X) (hf : faOk A B Cn R) : tkOk fa (R 5) (ftl fa A B Cn R X xs xt) := fun q hq => by
  have := ftl_rng h hf q hq
  omega
-- exponents tick by tick
def fx1 (fa : Int → Int) (pl : Int) (q : Tk) : List (Int × Int) := [(q.2.2.1, fa (q.1 * 9 + 0)), (q.2.2.2.1, -fa (q.1 * 9 + 0))] ++ (if 0 < pl then [(pl, 1), (pl + 1, -1)] else [])
def fxL (fa : Int → Int) (pl : Int) : List Tk → List (Int × Int)
  | [] => []
  | q :: l => fx1 fa pl q ++ fxL fa pl l
theorem fxL_app (fa : Int → Int) (pl : Int) (a b : List Tk) : fxL fa pl (a ++ b) = fxL fa pl a ++ fxL fa pl b := by
  induction a with
  | nil => rfl
  | cons q a ih => show fx1 fa pl q ++ fxL fa pl (a ++ b) = fx1 fa pl q ++ fxL fa pl a ++ fxL fa pl b; rw [ih, List.append_assoc]
theorem fxL_s {fa : Int → Int} {pl : Int} {l : List Tk} {i : Nat} {q : Tk} (h : l[i]? = some q) : fxL fa pl (l.take (i + 1)) = fxL fa pl (l.take i) ++ fx1 fa pl q := by
  rw [take_t h, fxL_app]; show _ ++ (fx1 fa pl q ++ []) = _; rw [List.append_nil]
def peZ (pl : Int) (k : Nat) : Int := if 0 < pl then evA pl k - evA (pl + 1) k else 0
theorem ex_1 {fa : Int → Int} {pl : Int} {k : Nat} {q : Tk} : exL k (fx1 fa pl q) = fa (q.1 * 9 + 0) * evA q.2.2.1 k - fa (q.1 * 9 + 0) * evA q.2.2.2.1 k + peZ pl k := by
  unfold fx1 peZ
  rw [exL_app]
  have e : exL k [(q.2.2.1, fa (q.1 * 9 + 0)), (q.2.2.2.1, -fa (q.1 * 9 + 0))] = 0 + -fa (q.1 * 9 + 0) * evA q.2.2.2.1 k + fa (q.1 * 9 + 0) * evA q.2.2.1 k := rfl
  rw [e, Int.neg_mul]
  by_cases c : 0 < pl
  · rw [if_pos c, if_pos c]
    have f : exL k [(pl, 1), (pl + 1, -1)] = 0 + -1 * evA (pl + 1) k + 1 * evA pl k := rfl
    rw [f]; omega
  · rw [if_neg c, if_neg c]
    have f : exL k ([] : List (Int × Int)) = 0 := rfl
    rw [f]; omega
theorem bu_ex {fa : Int → Int} {s : Int} {fl : Int → Int} {flow thr pl : Int} {k : Nat} : ∀ (n : Nat) (t left eng fy : Int),
    exL k (fxL fa pl (buF s fl flow thr n t left eng fy).1) + fa (s * 9 + 0) * evA (buF s fl flow thr n t left eng fy).2.2.2 k = fa (s * 9 + 0) * evA fy k + ((buF s fl flow thr n t left eng fy).1.length : Int) * peZ pl k := by
  intro n
  induction n with
  | zero => intro t left eng fy; show 0 + _ = _ + 0 * _; show 0 + fa (s * 9 + 0) * evA fy k = fa (s * 9 + 0) * evA fy k + 0 * peZ pl k; rw [Int.zero_mul]; omega
  | succ n ih =>
    intro t left eng fy
    by_cases c : 0 < left ∧ 0 < eng
    · rw [buF_s c]
      have e := ih (t + 1) (left - brnZ flow (eng - stopZ fl t eng) left) (eng - stopZ fl t eng) (fy - brnZ flow (eng - stopZ fl t eng) left)
      generalize (buF s fl flow thr n (t + 1) (left - brnZ flow (eng - stopZ fl t eng) left) (eng - stopZ fl t eng) (fy - brnZ flow (eng - stopZ fl t eng) left)) = B at e ⊢
      show exL k (fx1 fa pl (s, t, fy, fy - brnZ flow (eng - stopZ fl t eng) left, eng - stopZ fl t eng, 100 * (thr * (eng - stopZ fl t eng)) / fy) ++ fxL fa pl B.1) + fa (s * 9 + 0) * evA B.2.2.2 k = fa (s * 9 + 0) * evA fy k + ((B.1.length + 1 : Nat) : Int) * peZ pl k
      rw [exL_app, ex_1]
      dsimp only
      rw [show ((B.1.length + 1 : Nat) : Int) = (B.1.length : Int) + 1 by omega, Int.add_mul, Int.one_mul]
      omega
    · rw [buF_e c]; show 0 + fa (s * 9 + 0) * evA fy k = fa (s * 9 + 0) * evA fy k + 0 * peZ pl k; rw [Int.zero_mul]; omega
theorem fl_ex {fa T : Int → Int} {S : Int → List Tk × Int × Int × Int} {n pl : Int} {k : Nat} (h : BuS fa T S n) : ∀ c : Nat, (c : Int) ≤ n →
    exL k (fxL fa pl (tkA S c)) = exL k (spL fa T (fun s => (S s).2.2.2) c) + ((tkA S c).length : Int) * peZ pl k := by
  intro c
  induction c with
  | zero => intro _; show (0 : Int) = 0 + 0 * _; rw [Int.zero_mul]; rfl
  | succ c ih =>
    intro hc
    have e := ih (by omega)
    obtain ⟨fl, flow, thr, left, eng, hS⟩ := h c (by omega) (by omega)
    have f := bu_ex (fa := fa) (s := c) (fl := fl) (flow := flow) (thr := thr) (pl := pl) (k := k) 18 1 left eng (T c)
    rw [← hS] at f
    show exL k (fxL fa pl (tkA S c ++ (S c).1)) = exL k (spL fa T (fun s => (S s).2.2.2) c ++ [(T c, fa ((c : Int) * 9 + 0)), ((S c).2.2.2, -fa ((c : Int) * 9 + 0))]) + ((tkA S c ++ (S c).1).length : Int) * peZ pl k
    rw [fxL_app, exL_app, exL_app, e, List.length_append]
    have g : exL k [(T c, fa ((c : Int) * 9 + 0)), ((S c).2.2.2, -fa ((c : Int) * 9 + 0))] = 0 + -fa ((c : Int) * 9 + 0) * evA (S c).2.2.2 k + fa ((c : Int) * 9 + 0) * evA (T c) k := rfl
    rw [g, Int.neg_mul, show (((tkA S c).length + (S c).1.length : Nat) : Int) = ((tkA S c).length : Int) + ((S c).1.length : Int) by omega, Int.add_mul]
    omega
theorem fpl_ex {fa A B Cn R X : Int → Int} {xs xt : Int} {k : Nat} (h : VdOk fa R X) : exL k (fxL fa (R 4) (ftl fa A B Cn R X xs xt)) = exL k (fpl fa A B Cn R X xs xt) := by
  have e := fl_ex (pl := R 4) (k := k) (flS_bu (fa := fa) (A := A) (B := B) (Cn := Cn) (R := R) (X := X) (xs := xs) (xt := xt)) (R 5).toNat (by have := h.1; omega)
  unfold fpl
  rw [prA_sp, exL_app]
  unfold ftl at *
  rw [e]
  congr 1
  unfold peZ
  generalize (tkA (flS fa A B Cn R X xs xt) (R 5).toNat) = L
  by_cases c : 0 < R 4
  · rw [if_pos c, if_pos c]
    show _ = 0 + -(L.length : Int) * evA (R 4 + 1) k + (L.length : Int) * evA (R 4) k
    rw [Int.mul_sub, Int.neg_mul]; omega
  · rw [if_neg c, if_neg c, Int.mul_zero]; rfl
theorem flS_m1 {fa A B Cn R X : Int → Int} (s : Int) (h : 0 ≤ s) : flS fa A B Cn R X (-1) (-1) s = flS fa A B Cn R X (-1) 0 s := by
  unfold flS stA
  rw [if_neg (show ¬ s = -1 by omega), if_neg (show ¬ s = -1 by omega)]
