/-! the troubles that there are; weak; what is told of itself -/
theorem t5_Abo {R X : Int → Int} {T w : Int} : T5 (qAbo T R X w) := by
  intro t z h
  rcases h with ⟨a, b, c, d⟩ | ⟨a, c, d⟩ <;> omega
theorem t5_Sta {fa R X : Int → Int} {T s w : Int} : T5 (qSta T fa R X s w) := by
  intro t z h
  rcases h with ⟨a, b, c, d⟩ | ⟨a, c, d⟩ <;> omega
theorem t5_Par {fa R X : Int → Int} {T s w : Int} : T5 (qPar T fa R X s w) := by
  intro t z h
  rcases h with ⟨a, b, c, e, f, g, i, j⟩ | ⟨a, c, d⟩ <;> omega
theorem t5_Mar {fa R X : Int → Int} {T s w : Int} : T5 (qMar T fa R X s w) := by
  intro t z h
  rcases h with ⟨a, b, c, d⟩ | ⟨a, b, c, d⟩ | ⟨a, c, d⟩ <;> omega
theorem t5_Spa {fa R X : Int → Int} {T s : Int} : T5 (qSpa T fa R X s) := by
  intro t z h
  rcases h with ⟨a, c, d⟩ | ⟨a, c, d⟩ <;> omega
theorem t5_Mas {fa R X : Int → Int} {T : Int} : T5 (qMas T fa R X) := by
  intro t z h
  rcases h with ⟨a, c, d⟩ | ⟨a, c, d⟩ <;> omega
theorem t5_Rea {fa R X : Int → Int} {T k : Int} : T5 (qRea T fa R X k) := by
  intro t z h
  rcases h with ⟨a, b, c, d⟩ | ⟨a, b, c, d⟩ | ⟨a, c, d⟩ <;> omega
theorem t5_Gre {fa R X : Int → Int} {T : Int} : T5 (qGre T fa R X) := by
  intro t z h
  rcases h with ⟨a, c, d⟩ | ⟨a, c, d⟩ <;> omega
theorem t5_Spe {fa R X : Int → Int} {T up : Int} : T5 (qSpe T fa R X up) := by
  intro t z h
  rcases h with ⟨a, c, d⟩ | ⟨a, c, d⟩ <;> omega
theorem t5_Hol {fa R X : Int → Int} {T : Int} : T5 (qHol T fa R X) := by
  intro t z h
  rcases h with ⟨a, c, d⟩ | ⟨a, c, d⟩ <;> omega
theorem t5_Ric {fa R X : Int → Int} {T s w : Int} : T5 (qRic T fa R X s w) := by
  intro t z h
  rcases h with ⟨a, b, c, d⟩ | ⟨a, b, c, d⟩ | ⟨a, c, d⟩ <;> omega
theorem t5_Lea {fa R X : Int → Int} {T k : Int} : T5 (qLea T fa R X k) := by
  intro t z h
  rcases h with ⟨a, b, c, d⟩ | ⟨a, b, c, d⟩ | ⟨a, c, d⟩ <;> omega
theorem t5_Fue {fa R X : Int → Int} {T k s : Int} : T5 (qFue T fa R X k s) := by
  intro t z h
  rcases h with ⟨a, b, c, d⟩ | ⟨a, b, c, d⟩ | ⟨a, c, d⟩ <;> omega
theorem t5_Far {fa R X : Int → Int} {T : Int} : T5 (qFar T fa R X) := by
  intro t z h
  rcases h with ⟨a, c, d⟩ | ⟨a, c, d⟩ <;> omega
theorem t5_Lif {fa R X : Int → Int} {T : Int} : T5 (qLif T fa R X) := by
  intro t z h
  rcases h with ⟨a, c, d⟩ | ⟨a, c, d⟩ <;> omega
theorem t5_Nee {fa R X : Int → Int} {T s : Int} : T5 (qNee T fa R X s) := by
  intro t z h
  rcases h with ⟨a, c, d⟩ | ⟨a, c, d⟩ <;> omega
theorem t5_Frs {fa R X : Int → Int} {T : Int} : T5 (qFrs T fa R X) := by
  intro t z h
  rcases h with ⟨a, c, d⟩ | ⟨a, c, d⟩ <;> omega
theorem t5_Fro {fa R X : Int → Int} {T i w : Int} : T5 (qFro T fa R X i w) := by
  intro t z h
  rcases h with ⟨l, a, b, c, q, d, e, f, g⟩ | ⟨a, c, d⟩ <;> omega
theorem t5_Bea {fa R X : Int → Int} {T : Int} : T5 (qBea T fa R X) := by
  intro t z h
  rcases h with ⟨a, c, l, f, d⟩ | ⟨a, c, d⟩ <;> omega
theorem t5_Box {R X : Int → Int} {T s up : Int} : T5 (qBox T R X s up) := by
  intro t z h
  rcases h with ⟨a, c, d⟩ | ⟨a, c, d⟩ <;> omega
theorem t5_Ran {fa R X : Int → Int} {T k s up : Int} : T5 (qRan T fa R X k s up) := by
  intro t z h
  rcases h with ⟨a, b, c, d, e⟩ | ⟨a, b, c, d⟩ | ⟨a, c, d⟩ <;> omega
theorem t5_Way {fa R X : Int → Int} {T k : Int} : T5 (qWay T fa R X k) := by
  intro t z h
  rcases h with ⟨a, b, c, d⟩ | ⟨a, b, c, d⟩ | ⟨a, c, d⟩ <;> omega
theorem t5_Fli {fa A B Cn R X : Int → Int} {T w : Int} : T5 (qFli T fa A B Cn R X w) := by
  intro t z h
  rcases h with ⟨a, b, c, e, f, g, i, j, k⟩ | ⟨a, c, d⟩ <;> omega
theorem t5_Tic {fa A B Cn R X : Int → Int} {T i w : Int} : T5 (qTic T fa A B Cn R X i w) := by
  intro t z h
  rcases h with ⟨a, c, q, d, e⟩ | ⟨a, c, d⟩ <;> omega
theorem t5_Ris {fa A B Cn R X : Int → Int} {T s w : Int} : T5 (qRis T fa A B Cn R X s w) := by
  intro t z h
  rcases h with ⟨a, b, c, d⟩ | ⟨a, b, c, d⟩ | ⟨a, c, d⟩ <;> omega
theorem t5_Rkt {fa A B Cn R X : Int → Int} {T : Int} : T5 (qRkt T fa A B Cn R X) := by
  intro t z h
  rcases h with ⟨a, c, d⟩ | ⟨a, c, d⟩ <;> omega
theorem t5_Arr {fa A B Cn R X : Int → Int} {T : Int} : T5 (qArr T fa A B Cn R X) := by
  intro t z h
  rcases h with ⟨a, c, d⟩ | ⟨a, c, d⟩ <;> omega
theorem t5_Flo {fa A B Cn R X : Int → Int} {T up : Int} : T5 (qFlo T fa A B Cn R X up) := by
  intro t z h
  rcases h with ⟨a, c, d⟩ | ⟨a, c, d⟩ <;> omega
theorem t6_Loa {fa R X : Int → Int} {T s w : Int} : T6 T (qLoa T fa R X s w) := by
  intro t z c Y h
  rcases h with ⟨a, b, d, e, f⟩ | ⟨a, g, b, d, e⟩ | ⟨a, b, d, e⟩ <;> (try unfold hsS at *) <;> exact ⟨by omega, fun _ => by omega⟩
theorem t6_Bou {fa R X : Int → Int} {T s lo hi : Int} : T6 T (qBou T fa R X s lo hi) := by
  intro t z c Y h
  rcases h with ⟨a, b, d, e, f⟩ | ⟨a, g, b, d, e⟩ | ⟨a, b, d, e⟩ <;> (try unfold hsS at *) <;> exact ⟨by omega, fun _ => by omega⟩
theorem t6_Put {X : Int → Int} {T p most v : Int} : T6 T (qPut T X p most v) := by
  intro t z c Y h
  rcases h with ⟨a, b, d, e, f⟩ | ⟨a, g, b, d, e⟩ | ⟨a, b, d, e⟩ <;> (try unfold hsS at *) <;> exact ⟨by omega, fun _ => by omega⟩
theorem t6_Und {Pf : Int → Int} {T K : Int} : T6 T (qUnd T K Pf) := by
  intro t z c Y h
  rcases h with ⟨a, b, d, e, f⟩ | ⟨a, b, d, e⟩ <;> (try unfold hsS at *) <;> exact ⟨by omega, fun _ => by omega⟩
theorem t6_Ado {fa R X : Int → Int} {T : Int} : T6 T (qAdo T fa R X) := by
  intro t z c Y h
  rcases h with ⟨a, b, hb, d⟩ | ⟨a, b, d, e⟩
  · refine ⟨by rcases d with ⟨d1, d2, d3, d4, d5⟩ | ⟨d1, d2, d3, d4⟩ <;> omega, fun _ => a⟩
  · exact ⟨by omega, fun q => absurd e q⟩
/-- the reference forgets that it threw -/
theorem LKs.m {n : Int} {C R : Mem} {k kf ks kt kc d df ds dt dc : Nat} (h : LKs n C R k kf ks kt kc d df ds dt dc) {v : Int} : LKs n C (mup R 0 0 v) k kf ks kt kc d df ds dt dc := by
  obtain ⟨⟨a1, a2, a3, a4, a5, a6, a7⟩, ⟨b1, b2, b3⟩, ⟨c1, c2, c3, c4, c5⟩, d1, d2, d3, d4⟩ := h
  have e : ∀ j : Int, j ≠ 0 → mup R 0 0 v 0 j = R 0 j := fun j hj => mup_j _ _ hj
  have eq : ∀ q : Nat, q ≠ 0 → mup R 0 0 v q = R q := fun q hq => mup_k _ _ _ hq
  refine ⟨⟨a1, a2, a3, a4, a5, a6, a7⟩, ⟨b1, ?_, ?_⟩, ⟨c1, ?_, ?_, ?_, ?_⟩, d1, ?_, d3, ?_⟩
  · rw [e 25 (by decide)]; exact b2
  · rw [eq 8 (by decide)]; exact b3
  · rw [e 1 (by decide)]; exact c2
  · rw [e 2 (by decide)]; exact c3
  · rw [e 31 (by decide)]; exact c4
  · rw [e 20 (by decide)]; exact c5
  · rw [e 23 (by decide)]; exact d2
  · rw [e 23 (by decide), eq 7 (by decide)]
    exact fun y => ⟨(d4 y).1.fr (fun j hj => e j (by unfold CKj at hj; omega)) (eq 1 (by decide)) (eq 2 (by decide)) (eq 6 (by decide)), (d4 y).2⟩
theorem LKs.size {n : Int} {C R : Mem} {k kf ks kt kc d df ds dt dc : Nat} (h : LKs n C R k kf ks kt kc d df ds dt dc) (w : Int) : (if w = 0 then C 1 1 else if w = 1 then C 0 16 else -1) = (if w = 0 then R 0 25 else if w = 1 then (if R 0 20 = 1 then R 0 23 else 0) else -1) := by
  obtain ⟨⟨a1, a2, a3, a4, a5, a6, a7⟩, ⟨b1, b2, b3⟩, ⟨c1, c2, c3, c4, c5⟩, d1, d2, d3, d4⟩ := h
  rw [b2, c5]
  by_cases w0 : w = 0
  · rw [if_pos w0, if_pos w0]
  rw [if_neg w0, if_neg w0]
  by_cases w1 : w = 1
  · rw [if_pos w1, if_pos w1]
    rcases a1.2.2.1 with y | y
    · rw [if_neg (by omega), d3 y]
    · rw [if_pos y.1, (d4 y.1).2.1]
  rw [if_neg w1, if_neg w1]
theorem LKs.t01 {n : Int} {C R : Mem} {k kf ks kt kc d df ds dt dc : Nat} (h : LKs n C R k kf ks kt kc d df ds dt dc) : R 0 20 = 0 ∨ R 0 20 = 1 := by
  rcases h.1.1.2.2.1 with y | y
  · exact Or.inl (h.2.2.1.2.2.2.2.trans y)
  · exact Or.inr (h.2.2.1.2.2.2.2.trans y.1)
theorem CI.k15 {m m1 : Mem} {k kf ks kt kc : Nat} (h : CI m k kf ks kt kc) (hq : ∀ q : Nat, (q < 15 ∨ 73 ≤ q) → m1 q = m q) : CI m1 k kf ks kt kc := by
  have g := h.k73
  unfold CI TI ChOk OuOk RkIs at *
  rw [hq 0 (by decide), hq 5 (by decide), hq 6 (by decide), hq 8 (by decide), hq 9 (by decide), hq 12 (by decide), hq 14 (by decide), hq k (by omega), hq kf (by omega), hq ks (by omega), hq kt (by omega), hq kc (by omega)]
  exact h
theorem LKs.w {n : Int} {C R C1 R1 : Mem} {k kf ks kt kc d df ds dt dc : Nat} {i z b : Int} {f : Nat → Int64} (h : LKs n C R k kf ks kt kc d df ds dt dc) (hC : lwP C kf k i z C1 f)
    (hR : ((R1 0 0 = 0 ∧ qWek (R 0 20) (C kf) (C k) (C 5) i b ∧ 0 ≤ b ∧ b ≤ 2) ∨ (R1 0 0 = 1 ∧ qWek (R 0 20) (C kf) (C k) (C 5) i (-1))) ∧ FK R R1 ∧ R1 0 1 = R 0 1 ∧ R1 0 2 = R 0 2) : LKs n C1 R1 k kf ks kt kc d df ds dt dc ∧ R1 0 0 = z ∧ (z = 0 ∨ z = 1) ∧ (z = 0 → f 0 = lz b ∧ 0 ≤ b ∧ b ≤ 2) := by
  obtain ⟨hC, eq⟩ := hC
  obtain ⟨hR, ⟨f3, f4⟩, f1, f2⟩ := hR
  rw [h.2.2.1.2.2.2.2] at hR
  have hv : R1 0 0 = z ∧ (z = 0 ∨ z = 1) ∧ (z = 0 → f 0 = lz b ∧ 0 ≤ b ∧ b ≤ 2) := by
    rcases hC with ⟨c1, r, c2, c3, c4, c5⟩ | ⟨c1, c2⟩ <;> rcases hR with ⟨e1, e2, e3, e4⟩ | ⟨e1, e2⟩
    · have := u_Wek c5 e2
      subst this
      exact ⟨by omega, Or.inl c1, fun _ => ⟨c2, c3, c4⟩⟩
    · have := u_Wek c5 e2; omega
    · have := u_Wek c2 e2; omega
    · exact ⟨by omega, Or.inr c1, fun y => by omega⟩
  refine ⟨?_, hv⟩
  obtain ⟨⟨a1, a2, a3, a4, a5, a6, a7⟩, ⟨b1, b2, b3⟩, ⟨c1, c2, c3, c4, c5⟩, d1, d2, d3, d4⟩ := h
  have g := a1.k73
  have ck := ck4
  have z0 := eq 0 (by decide)
  refine ⟨⟨a1.k15 eq, a2, a3, ?_, ?_, ?_, ?_⟩, ⟨?_, ?_, ?_⟩, ⟨?_, ?_, ?_, ?_, ?_⟩, ?_, ?_, ?_, ?_⟩
  · rw [z0]; exact a4
  · rw [z0]; exact a5
  · exact a6.fr3 fun j _ _ => by rw [eq 3 (by decide)]
  · rw [eq 2 (by decide)]; exact a7
  · rw [eq 1 (by decide)]; exact b1
  · rw [eq 1 (by decide), f3 25 ck.1]; exact b2
  · rw [eq 2 (by decide), f4 8 (by decide)]; exact b3
  · rw [z0]; exact c1
  · rw [z0, f1]; exact c2
  · rw [z0, f2, eq 3 (by decide)]; exact c3
  · rw [f3 31 ck.2.1, z0]; exact c4
  · rw [f3 20 ck.2.2.1, z0]; exact c5
  · rw [z0]; exact d1
  · rw [f3 23 ck.2.2.2]; exact d2
  · rw [z0]; exact d3
  · rw [z0, f3 23 ck.2.2.2, eq kf (by omega), eq ks (by omega), eq kt (by omega), eq kc (by omega), eq k (by omega), eq 5 (by omega), eq 6 (by omega), f4 7 (by decide)]
    exact fun y => ⟨(d4 y).1.fr f3 (f4 1 (by decide)) (f4 2 (by decide)) (f4 6 (by decide)), (d4 y).2⟩

