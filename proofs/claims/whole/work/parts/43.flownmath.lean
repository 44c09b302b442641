/-! the flight as it is: told by the rocket and how things stand; its product's bounds -/
theorem stA_cg {fa A B Cn : Int → Int} {nF : Nat} {U T U2 T2 : Int → Int} {xs xt s : Int} (h1 : U s = U2 s) (h2 : T s = T2 s) : stA fa A B Cn nF U T xs xt s = stA fa A B Cn nF U2 T2 xs xt s := by
  unfold stA; rw [h1, h2]
theorem tkA_cg {S S2 : Int → List Tk × Int × Int × Int} : ∀ c : Nat, (∀ s : Int, 0 ≤ s → s < c → S s = S2 s) → tkA S c = tkA S2 c := by
  intro c
  induction c with
  | zero => intro _; rfl
  | succ c ih =>
    intro h
    show tkA S c ++ (S c).1 = tkA S2 c ++ (S2 c).1
    rw [ih fun s h0 h1 => h s h0 (by omega), h c (by omega) (by omega)]
theorem drA_cg {S S2 : Int → List Tk × Int × Int × Int} : ∀ c : Nat, (∀ s : Int, 0 ≤ s → s < c → S s = S2 s) → drA S c = drA S2 c := by
  intro c
  induction c with
  | zero => intro _; rfl
  | succ c ih =>
    intro h
    show drA S c + (S c).2.1 = drA S2 c + (S2 c).2.1
    rw [ih fun s h0 h1 => h s h0 (by omega), h c (by omega) (by omega)]
theorem spA_cg {fa : Int → Int} {S S2 : Int → List Tk × Int × Int × Int} : ∀ c : Nat, (∀ s : Int, 0 ≤ s → s < c → S s = S2 s) → spA fa S c = spA fa S2 c := by
  intro c
  induction c with
  | zero => intro _; rfl
  | succ c ih =>
    intro h
    show spA fa S c + (fa ((c : Int) * 9 + 4) - (S c).2.2.1) = spA fa S2 c + (fa ((c : Int) * 9 + 4) - (S2 c).2.2.1)
    rw [ih fun s h0 h1 => h s h0 (by omega), h c (by omega) (by omega)]
theorem prA_cg {fa T T2 : Int → Int} {S S2 : Int → List Tk × Int × Int × Int} : ∀ c : Nat, (∀ s : Int, 0 ≤ s → s < c → S s = S2 s ∧ T s = T2 s) → prA fa T S c = prA fa T2 S2 c := by
  intro c
  induction c with
  | zero => intro _; rfl
  | succ c ih =>
    intro h
    have a := h c (by omega) (by omega)
    show prA fa T S c ++ _ = prA fa T2 S2 c ++ _
    rw [ih fun s h0 h1 => h s h0 (by omega), a.1, a.2]
theorem prA_sp {fa T : Int → Int} {S : Int → List Tk × Int × Int × Int} : ∀ c : Nat, prA fa T S c = spL fa T (fun s => (S s).2.2.2) c := by
  intro c
  induction c with
  | zero => rfl
  | succ c ih =>
    show prA fa T S c ++ _ = spL fa T (fun s => (S s).2.2.2) c ++ _
    rw [ih]
def flS (fa A B Cn R X : Int → Int) (xs xt : Int) : Int → List Tk × Int × Int × Int := stA fa A B Cn (R 6).toNat (uX X) (stX fa R X) xs xt
def ftl (fa A B Cn R X : Int → Int) (xs xt : Int) : List Tk := tkA (flS fa A B Cn R X xs xt) (R 5).toNat
def fpl (fa A B Cn R X : Int → Int) (xs xt : Int) : List (Int × Int) := prA fa (stX fa R X) (flS fa A B Cn R X xs xt) (R 5).toNat ++ if 0 < R 4 then [(R 4, ((ftl fa A B Cn R X xs xt).length : Int)), (R 4 + 1, -((ftl fa A B Cn R X xs xt).length : Int))] else []
def faOk (A B Cn R : Int → Int) : Prop := (0 ≤ R 4 ∧ R 4 ≤ 99) ∧ (0 ≤ R 6 ∧ R 6 ≤ 6) ∧ ∀ i : Int, 0 ≤ i → i < R 6 → (0 ≤ A i ∧ A i < R 5) ∧ (1 ≤ B i ∧ B i ≤ 99) ∧ (1 ≤ Cn i ∧ Cn i ≤ 9)
theorem VdOk.ut {fa R X : Int → Int} (h : VdOk fa R X) : UTok fa (R 5) (uX X) (stX fa R X) := fun s h0 h1 => by
  have d := h.2.2.2.2.dv h.2.1 h.1
  have a := stZ_rng (s := s) h.2.1 h.1.2 d.2.1 d.2.2 h0 (by omega)
  have b := enZ_rng (s := s) h.2.1 h.1.2 d.2.1 d.2.2 h0 h1
  have c := d.2.2 s h0 h1
  unfold stX; exact ⟨c, b.1, by omega⟩
theorem fl_sp {fa A B Cn R X : Int → Int} {xs xt : Int} (h : VdOk fa R X) (hf : faOk A B Cn R) : spOk fa (stX fa R X) (fun s => (flS fa A B Cn R X xs xt s).2.2.2) (R 5).toNat := by
  intro s h0 h1
  have hn := h.1
  have u := h.ut s h0 (by omega)
  have f := h.2.1 s h0 (by omega)
  have e := buF_end (s := s) (thr := fa (s * 9 + 5)) (flZ_0 (fa := fa) (A := A) (B := B) (Cn := Cn) (nF := (R 6).toNat) (s := s) (xt := if s = xs then xt else 0) (fun i a b => (hf.2.2 i a (by omega)).2.2)) (show 1 ≤ fa (s * 9 + 6) by omega) 18 1 (uX X s) (fa (s * 9 + 4)) (stX fa R X s) (by omega) (by omega)
  have e2 : (flS fa A B Cn R X xs xt s) = buF s (flZ fa A B Cn (R 6).toNat s (if s = xs then xt else 0)) (fa (s * 9 + 6)) (fa (s * 9 + 5)) 18 1 (uX X s) (fa (s * 9 + 4)) (stX fa R X s) := rfl
  rw [← e2] at e
  refine ⟨f.1, ⟨by omega, u.2.2⟩, ?_, ?_⟩
  · show 1 ≤ (flS fa A B Cn R X xs xt s).2.2.2; omega
  · show (flS fa A B Cn R X xs xt s).2.2.2 ≤ stX fa R X s; omega
theorem ftl_len {fa A B Cn R X : Int → Int} {xs xt : Int} (h : VdOk fa R X) (hf : faOk A B Cn R) : (ftl fa A B Cn R X xs xt).length ≤ 51 := by
  have hn := h.1
  have := tkA_len (S := flS fa A B Cn R X xs xt) (n := (R 5).toNat) (fun s h0 h1 => stA_len h.2.1 (fun i a b => (hf.2.2 i a (by omega)).2.2) h.ut h0 (by omega))
  unfold ftl; omega
theorem p339 {p : Int} {t : Nat} (h0 : 1 ≤ p) (h1 : p ≤ 100) (ht : t ≤ 51) : p ^ t ≤ 2 ^ 339 := by
  have a := pw_le h0 ht
  have b := pw_up (x := p) (y := 100) (by omega) h1 51
  have c : (100 : Int) ^ 51 ≤ 2 ^ 339 := by decide +kernel
  omega
theorem fpl_ok {fa A B Cn R X : Int → Int} {xs xt : Int} (h : VdOk fa R X) (hf : faOk A B Cn R) : RatOk (fpl fa A B Cn R X xs xt) ∧ wtL (fpl fa A B Cn R X xs xt) ≤ 200 ∧ (1 ≤ numL (fpl fa A B Cn R X xs xt) ∧ numL (fpl fa A B Cn R X xs xt) ≤ 2 ^ 450) ∧ 1 ≤ denL (fpl fa A B Cn R X xs xt) ∧ denL (fpl fa A B Cn R X xs xt) ≤ 2 ^ 450 := by
  have hn := h.1
  obtain ⟨⟨a1, a2⟩, a3, a4, a5⟩ := spL_b _ (fl_sp (A := A) (B := B) (Cn := Cn) (xs := xs) (xt := xt) h hf)
  have p := p104 (c := (R 5).toNat) (by omega)
  have l := spL_len fa (stX fa R X) (fun s => (flS fa A B Cn R X xs xt s).2.2.2) (R 5).toNat
  have k := ftl_len (xs := xs) (xt := xt) h hf
  unfold fpl
  rw [prA_sp]
  generalize ftl fa A B Cn R X xs xt = L at k ⊢
  generalize spL fa (stX fa R X) (fun s => (flS fa A B Cn R X xs xt s).2.2.2) (R 5).toNat = S at a1 a2 a3 a4 a5 l ⊢
  have q104 : (2 : Int) ^ 104 ≤ 2 ^ 450 := by decide +kernel
  by_cases c : 0 < R 4
  · rw [if_pos c]
    have hp := hf.1
    have u1 := pw_pos (x := R 4) (by omega) L.length
    have u2 := pw_pos (x := R 4 + 1) (by omega) L.length
    have v1 := p339 (p := R 4) (t := L.length) (by omega) (by omega) k
    have v2 := p339 (p := R 4 + 1) (t := L.length) (by omega) (by omega) k
    have eN : numL (S ++ [(R 4, (L.length : Int)), (R 4 + 1, -(L.length : Int))]) = numL S * R 4 ^ L.length := by
      rw [numL_app]
      show _ * (R 4 ^ ((L.length : Int)).toNat * ((R 4 + 1) ^ (-(L.length : Int)).toNat * 1)) = _
      rw [show (-(L.length : Int)).toNat = 0 by omega, Int.pow_zero, Int.mul_one, Int.mul_one, Int.toNat_natCast]
    have eD : denL (S ++ [(R 4, (L.length : Int)), (R 4 + 1, -(L.length : Int))]) = denL S * (R 4 + 1) ^ L.length := by
      rw [denL_app]
      show _ * (R 4 ^ (-(L.length : Int)).toNat * ((R 4 + 1) ^ (- -(L.length : Int)).toNat * 1)) = _
      rw [show (-(L.length : Int)).toNat = 0 by omega, Int.pow_zero, Int.mul_one, Int.one_mul, Int.neg_neg, Int.toNat_natCast]
    have q443 : (2 : Int) ^ 104 * 2 ^ 339 ≤ 2 ^ 450 := by decide +kernel
    have b1 := Int.mul_le_mul (show numL S ≤ 2 ^ 104 by omega) v1 (by omega) (by decide +kernel)
    have b2 := Int.mul_le_mul (show denL S ≤ 2 ^ 104 by omega) v2 (by omega) (by decide +kernel)
    rw [eN, eD]
    refine ⟨⟨?_, fun q hq => ?_⟩, ?_, ⟨mul_1 (by omega) u1, by omega⟩, mul_1 a1 u2, by omega⟩
    · rw [List.length_append, l]; show 2 * (R 5).toNat + 2 ≤ 8; omega
    · rcases List.mem_append.mp hq with z | z
      · exact a5 q z
      · rcases List.mem_cons.mp z with rfl | z
        · show 1 ≤ R 4 ∧ R 4 ≤ 400 ∧ -60 ≤ (L.length : Int) ∧ (L.length : Int) ≤ 60; omega
        · rcases List.mem_cons.mp z with rfl | z
          · show 1 ≤ R 4 + 1 ∧ R 4 + 1 ≤ 400 ∧ -60 ≤ -(L.length : Int) ∧ -(L.length : Int) ≤ 60; omega
          · cases z
    · rw [wtL_app]
      show wtL S + (((L.length : Int)).natAbs + ((-(L.length : Int)).natAbs + 0)) ≤ 200
      omega
  · rw [if_neg c, List.append_nil]
    exact ⟨⟨by omega, a5⟩, by omega, ⟨by omega, by omega⟩, a1, by omega⟩
theorem le_560b {x : Int} (h : x ≤ 2 ^ 450) : x ≤ 2 ^ 560 := by
  have : (2 : Int) ^ 450 ≤ 2 ^ 560 := by decide +kernel
  omega
def pshF (l : List Tk) : Int → Int := fun i => match l[i.toNat]? with
  | some q => q.2.2.2.2.2
  | none => 0
theorem TkL.psh {m : Mem} {f fs ft fa fb fr fp : Nat} {l : List Tk} (h : TkL m f fs ft fa fb fr fp l) : ∀ i : Int, 0 ≤ i → i < l.length → m fp i = pshF l i := fun i h0 h1 => by
  obtain ⟨q, hq⟩ : ∃ q, l[i.toNat]? = some q := ⟨_, List.getElem?_eq_getElem (by omega)⟩
  have := (h.2 _ q hq).2.2.2.2.2
  rw [show ((i.toNat : Nat) : Int) = i by omega] at this
  unfold pshF; rw [hq]; exact this
theorem TkL.fr {m m1 : Mem} {f fs ft fa fb fr fp : Nat} {l : List Tk} (h : TkL m f fs ft fa fb fr fp l) (e : m1 f 7 = m f 7) (e1 : m1 fs = m fs) (e2 : m1 ft = m ft) (e3 : m1 fa = m fa) (e4 : m1 fb = m fb) (e5 : m1 fr = m fr) (e6 : m1 fp = m fp) : TkL m1 f fs ft fa fb fr fp l := by
  unfold TkL; rw [e, e1, e2, e3, e4, e5, e6]; exact h
/-- each tick's bounds -/
theorem ftl_rng {fa A B Cn R X : Int → Int} {xs xt : Int} (h : VdOk fa R X) (hf : faOk A B Cn R) : ∀ q ∈ ftl fa A B Cn R X xs xt, (0 ≤ q.1 ∧ q.1 < R 5) ∧ (1 ≤ q.2.1 ∧ q.2.1 ≤ 18) ∧ (1 ≤ q.2.2.1 ∧ q.2.2.1 ≤ 400) ∧ (1 ≤ q.2.2.2.1 ∧ q.2.2.2.1 ≤ q.2.2.1) ∧ (0 ≤ q.2.2.2.2.1 ∧ q.2.2.2.2.1 ≤ 9) ∧ 0 ≤ q.2.2.2.2.2 ∧ q.2.2.2.2.2 ≤ 10000000 := by
  have key : ∀ (s : Int) (fl : Int → Int) (flow thr : Int), (∀ t, 0 ≤ fl t) → 1 ≤ flow → (1 ≤ thr ∧ thr ≤ 999) → ∀ (n : Nat) (t left eng fy : Int), 1 ≤ t → t + n ≤ 19 → 0 ≤ left → (0 ≤ eng ∧ eng ≤ 9) → 1 ≤ fy - left → fy ≤ 400 → ∀ q ∈ (buF s fl flow thr n t left eng fy).1, q.1 = s ∧ (1 ≤ q.2.1 ∧ q.2.1 ≤ 18) ∧ (1 ≤ q.2.2.1 ∧ q.2.2.1 ≤ 400) ∧ (1 ≤ q.2.2.2.1 ∧ q.2.2.2.1 ≤ q.2.2.1) ∧ (0 ≤ q.2.2.2.2.1 ∧ q.2.2.2.2.1 ≤ 9) ∧ 0 ≤ q.2.2.2.2.2 ∧ q.2.2.2.2.2 ≤ 10000000 := by
    intro s fl flow thr hfl hfw hth n
    induction n with
    | zero => intro t left eng fy _ _ _ _ _ _ q hq; cases hq
    | succ n ih =>
      intro t left eng fy h1 h2 h3 h4 h5 h6 q hq
      by_cases c : 0 < left ∧ 0 < eng
      · have a := stop_rng (fl := fl) (t := t) (hfl t) c.2
        have b := brn_rng (flow := flow) (e := eng - stopZ fl t eng) (left := left) hfw (by omega) c.1
        rw [buF_s c] at hq
        have hq2 : q = (s, t, fy, fy - brnZ flow (eng - stopZ fl t eng) left, eng - stopZ fl t eng, 100 * (thr * (eng - stopZ fl t eng)) / fy) ∨ q ∈ (buF s fl flow thr n (t + 1) (left - brnZ flow (eng - stopZ fl t eng) left) (eng - stopZ fl t eng) (fy - brnZ flow (eng - stopZ fl t eng) left)).1 := List.mem_cons.mp hq
        rcases hq2 with rfl | z
        · generalize hE : eng - stopZ fl t eng = E at *
          have m1 : 0 ≤ thr * E := Int.mul_nonneg (by omega) (by omega)
          have m2 : thr * E ≤ 999 * E := Int.mul_le_mul_of_nonneg_right (by omega) (by omega)
          have d1 : 0 ≤ 100 * (thr * E) / fy := Int.ediv_nonneg (by omega) (by omega)
          have d2 : 100 * (thr * E) / fy ≤ 100 * (thr * E) := Int.ediv_le_self _ (by omega)
          show s = s ∧ (1 ≤ t ∧ t ≤ 18) ∧ (1 ≤ fy ∧ fy ≤ 400) ∧ (1 ≤ fy - brnZ flow E left ∧ fy - brnZ flow E left ≤ fy) ∧ (0 ≤ E ∧ E ≤ 9) ∧ 0 ≤ 100 * (thr * E) / fy ∧ 100 * (thr * E) / fy ≤ 10000000
          refine ⟨rfl, ⟨h1, by omega⟩, ⟨by omega, h6⟩, ⟨by omega, by omega⟩, ⟨by omega, by omega⟩, d1, by omega⟩
        · exact ih _ _ _ _ (by omega) (by omega) (by omega) (by omega) (by omega) (by omega) q z
      · rw [buF_e c] at hq; cases hq
  have hn := h.1
  have all : ∀ c : Nat, (c : Int) ≤ R 5 → ∀ q ∈ tkA (flS fa A B Cn R X xs xt) c, (0 ≤ q.1 ∧ q.1 < c) ∧ (1 ≤ q.2.1 ∧ q.2.1 ≤ 18) ∧ (1 ≤ q.2.2.1 ∧ q.2.2.1 ≤ 400) ∧ (1 ≤ q.2.2.2.1 ∧ q.2.2.2.1 ≤ q.2.2.1) ∧ (0 ≤ q.2.2.2.2.1 ∧ q.2.2.2.2.1 ≤ 9) ∧ 0 ≤ q.2.2.2.2.2 ∧ q.2.2.2.2.2 ≤ 10000000 := by
    intro c
    induction c with
    | zero => intro _ q hq; cases hq
    | succ c ih =>
      intro hc q hq
      rcases List.mem_append.mp (show q ∈ tkA (flS fa A B Cn R X xs xt) c ++ (flS fa A B Cn R X xs xt c).1 from hq) with z | z
      · have := ih (by omega) q z; exact ⟨⟨this.1.1, by omega⟩, this.2⟩
      · have f := h.2.1 c (by omega) (by omega)
        have u := h.ut c (by omega) (by omega)
        have := key c _ _ _ (flZ_0 (fa := fa) (A := A) (B := B) (Cn := Cn) (nF := (R 6).toNat) (s := c) (xt := if (c : Int) = xs then xt else 0) (fun i a b => (hf.2.2 i a (by omega)).2.2)) (show 1 ≤ fa (c * 9 + 6) by omega) (show 1 ≤ fa ((c : Int) * 9 + 5) ∧ fa ((c : Int) * 9 + 5) ≤ 999 by omega) 18 1 (uX X c) (fa (c * 9 + 4)) (stX fa R X c) (by omega) (by omega) (by omega) (by omega) u.2.1 u.2.2 q z
        exact ⟨by rw [this.1]; omega, this.2⟩
  intro q hq
  have := all (R 5).toNat (by omega) q hq
  exact ⟨⟨this.1.1, by omega⟩, this.2⟩
-- the answers about the flight, told once
def pfA (fa A B Cn R X : Int → Int) (xs xt z : Int) : Prop := PwIs (numL (fpl fa A B Cn R X xs xt)) (denL (fpl fa A B Cn R X xs xt)) (R 2) (R 3) z
def qFli (T : Int) (fa A B Cn R X : Int → Int) (w t z : Int) : Prop := (T = 1 ∧ (0 ≤ w ∧ w ≤ 5) ∧ t = 0 ∧ (w = 0 → z = (ftl fa A B Cn R X (-1) 0).length) ∧ (w = 1 → z = if mnA (pshF (ftl fa A B Cn R X (-1) 0)) (ftl fa A B Cn R X (-1) 0).length < 1 then -2 else pshF (ftl fa A B Cn R X (-1) 0) (mnA (pshF (ftl fa A B Cn R X (-1) 0)) (ftl fa A B Cn R X (-1) 0).length - 1)) ∧ (w = 2 → z = mnA (pshF (ftl fa A B Cn R X (-1) 0)) (ftl fa A B Cn R X (-1) 0).length) ∧ (w = 3 → z = drA (flS fa A B Cn R X (-1) 0) (R 5).toNat) ∧ (w = 4 → z = spA fa (flS fa A B Cn R X (-1) 0) (R 5).toNat) ∧ (w = 5 → pfA fa A B Cn R X (-1) 0 z)) ∨ (¬ (T = 1 ∧ 0 ≤ w ∧ w ≤ 5) ∧ t = 1 ∧ z = -1)
def tkF (q : Tk) (w : Int) : Int := if w = 0 then q.1 else if w = 1 then q.2.2.1 else if w = 2 then q.2.2.2.1 else if w = 3 then q.2.2.2.2.1 else q.2.2.2.2.2
def qTic (T : Int) (fa A B Cn R X : Int → Int) (i w t z : Int) : Prop := ((T = 1 ∧ (1 ≤ i ∧ i ≤ (ftl fa A B Cn R X (-1) 0).length) ∧ 0 ≤ w ∧ w ≤ 4) ∧ t = 0 ∧ ∃ q, (ftl fa A B Cn R X (-1) 0)[(i - 1).toNat]? = some q ∧ z = tkF q w) ∨ (¬ (T = 1 ∧ (1 ≤ i ∧ i ≤ (ftl fa A B Cn R X (-1) 0).length) ∧ 0 ≤ w ∧ w ≤ 4) ∧ t = 1 ∧ z = -1)
def qRis (T : Int) (fa A B Cn R X : Int → Int) (s w t z : Int) : Prop := (hsS T R s ∧ (1 ≤ w ∧ w ≤ 99) ∧ t = 0 ∧ pfA fa A B Cn R X s w z) ∨ (hsS T R s ∧ ¬ (1 ≤ w ∧ w ≤ 99) ∧ t = 2 ∧ z = -1) ∨ (¬ hsS T R s ∧ t = 1 ∧ z = -1)
/-- the first of the least of so many powers; -2 of none -/
def rkP (pw : Int → Int → Prop) (n z : Int) : Prop := (z = -2 ∧ n ≤ 0) ∨ ((1 ≤ z ∧ z ≤ n) ∧ ∃ y, pw (z - 1) y ∧ ∀ i : Int, 0 ≤ i → i < n → ∃ x, pw i x ∧ (y < x ∨ (y = x ∧ z - 1 ≤ i)))
def qRkt (T : Int) (fa A B Cn R X : Int → Int) (t z : Int) : Prop := (T = 1 ∧ t = 0 ∧ rkP (fun i y => ∃ q, (ftl fa A B Cn R X (-1) 0)[i.toNat]? = some q ∧ pfA fa A B Cn R X q.1 q.2.1 y) (ftl fa A B Cn R X (-1) 0).length z) ∨ (T ≠ 1 ∧ t = 1 ∧ z = -1)
def qArr (T : Int) (fa A B Cn R X : Int → Int) (t z : Int) : Prop := (T = 1 ∧ t = 0 ∧ ((z = 1 ∧ rch (numL (fpl fa A B Cn R X (-1) 0)) (denL (fpl fa A B Cn R X (-1) 0)) (R 2) (R 3) (X 1).toNat) ∨ (z = 0 ∧ ¬ rch (numL (fpl fa A B Cn R X (-1) 0)) (denL (fpl fa A B Cn R X (-1) 0)) (R 2) (R 3) (X 1).toNat))) ∨ (T ≠ 1 ∧ t = 1 ∧ z = -1)
def qFlo (T : Int) (fa A B Cn R X : Int → Int) (up t z : Int) : Prop := (T = 1 ∧ t = 0 ∧ z = lowA (fun k => if up = 1 then exL k (fpl fa A B Cn R X (-1) 0) else -exL k (fpl fa A B Cn R X (-1) 0)) 399) ∨ (T ≠ 1 ∧ t = 1 ∧ z = -1)
/-- the i-th stage that doesn't hold; -1 if there is none such -/
def wkP (p : Int → Prop) (n i z : Int) : Prop := (z = -1 ∧ (i < 0 ∨ cnP (fun c => ¬ p c) n.toNat ≤ i)) ∨ ((0 ≤ z ∧ z < n) ∧ ¬ p z ∧ cnP (fun c => ¬ p c) z.toNat = i)
def qWek (T : Int) (fa R X : Int → Int) (i z : Int) : Prop := (T = 1 ∧ wkP (fun s => hoZ fa s (stX fa R X s)) (R 5) i z) ∨ (T ≠ 1 ∧ z = -1)
theorem mnA_cg {g h : Int → Int} : ∀ n : Nat, (∀ i : Int, 0 ≤ i → i < n → g i = h i) → mnA g n = mnA h n := by
  intro n
  induction n with
  | zero => intro _; rfl
  | succ n ih =>
    intro e
    have i1 := ih fun i h0 h1 => e i h0 (by omega)
    show ite _ _ _ = ite _ _ _
    rw [i1]
    by_cases c : mnA h n < 1
    · rw [if_pos c, if_pos c]
    · rw [if_neg c, if_neg c]
      have r := mnA_rng h n
      have hn : 0 < n := by
        apply Classical.byContradiction; intro z
        have := r.1 (by omega); omega
      have r2 := r.2 hn
      rw [e n (by omega) (by omega), e (mnA h n - 1) (by omega) (by omega)]
