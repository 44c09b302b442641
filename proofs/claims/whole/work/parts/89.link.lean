/-! the class and its reference side by side -/
def LKs (n : Int) (C R : Mem) (k kf ks kt kc d df ds dt dc : Nat) : Prop :=
  (CI C k kf ks kt kc ∧ RocketAt d df ds dt dc ∧ d ≠ k ∧ C 0 13 = (k : Int) ∧ C 0 14 = (d : Int) ∧ RdOk C ∧ BtOk (C 2)) ∧
  ((0 ≤ C 1 1 ∧ C 1 1 ≤ 700) ∧ R 0 25 = C 1 1 ∧ ∀ j : Int, 0 ≤ j → j < 700 → R 8 j % 256 = C 2 j) ∧
  ((0 ≤ C 0 18 ∧ C 0 18 ≤ 5) ∧ R 0 1 = C 0 18 ∧ R 0 2 = (if C 0 18 = 4 then C 3 11 else -1) ∧ R 0 31 = C 0 19 ∧ R 0 20 = C 0 15) ∧
  ((0 ≤ C 0 17 ∧ C 0 17 ≤ n) ∧ (0 ≤ R 0 23 ∧ R 0 23 ≤ 10) ∧ (C 0 15 = 0 → C 0 16 = 0) ∧ (C 0 15 = 1 → RT R (C kf) (C ks) (C kt) (C kc) (C k) (C 5) ∧ R 0 23 = C 0 16 ∧ ∀ j : Int, 0 ≤ j → j < 11 * C 0 16 → R 7 j = C 6 j))
def LK (n : Int) (C R : Mem) : Prop := ∃ k kf ks kt kc d df ds dt dc : Nat, LKs n C R k kf ks kt kc d df ds dt dc
theorem LK.mono {n n' : Int} {C R : Mem} (h : LK n C R) (hn : n ≤ n') : LK n' C R := by
  obtain ⟨k, kf, ks, kt, kc, d, df, ds, dt, dc, h1, h2, h3, h4, h5⟩ := h
  exact ⟨k, kf, ks, kt, kc, d, df, ds, dt, dc, h1, h2, h3, ⟨h4.1, by omega⟩, h5⟩
theorem LKs.tt {n : Int} {C R : Mem} {k kf ks kt kc d df ds dt dc : Nat} (h : LKs n C R k kf ks kt kc d df ds dt dc) : TT R (C kf) (C ks) (C kt) (C kc) (C k) (C 5) := by
  obtain ⟨h1, h2, h3, h4⟩ := h
  have e := h3.2.2.2.2
  rcases h1.1.2.2.1 with y | y
  · exact Or.inl (e.trans y)
  · exact Or.inr ⟨e.trans y.1, (h4.2.2.2 y.1).1⟩
theorem LKs.vd {n : Int} {C R : Mem} {k kf ks kt kc d df ds dt dc : Nat} (h : LKs n C R k kf ks kt kc d df ds dt dc) : C 0 15 = 1 → VdOk (C kf) (C k) (C 5) ∧ faOk (C ks) (C kt) (C kc) (C k) := fun e => by
  rcases h.1.1.2.2.1 with y | y
  · omega
  · exact ⟨y.2.vd, y.2.1.2.2.2.2.1, y.2.1.2.2.2.2.2.1, y.2.1.2.2.2.2.2.2.1⟩
theorem CI.fa {C : Mem} {k kf ks kt kc : Nat} (h : CI C k kf ks kt kc) (e : C 0 15 = 1) : VdOk (C kf) (C k) (C 5) ∧ faOk (C ks) (C kt) (C kc) (C k) := by
  rcases h.2.2.1 with y | y
  · omega
  · exact ⟨y.2.vd, y.2.1.2.2.2.2.1, y.2.1.2.2.2.2.2.1, y.2.1.2.2.2.2.2.2.1⟩
theorem RdOk.fr3 {m m' : Mem} (h : RdOk m) (e : ∀ j : Int, 2 ≤ j → j ≤ 7 → m' 3 j = m 3 j) : RdOk m' := by
  unfold RdOk at *
  rw [e 2 (by decide) (by decide), e 3 (by decide) (by decide), e 4 (by decide) (by decide), e 5 (by decide) (by decide), e 6 (by decide) (by decide), e 7 (by decide) (by decide)]
  exact h
theorem RocketAt.at7 {k kf ks kt kc : Nat} (h : RocketAt k kf ks kt kc) : 73 ≤ k ∧ kf = k + 1 ∧ ks = k + 2 ∧ kt = k + 3 ∧ kc = k + 4 ∧ (k = 73 ∨ k = 78) := by unfold RocketAt at h; omega
theorem ck4 : CKj 25 ∧ CKj 31 ∧ CKj 20 ∧ CKj 23 := by unfold CKj; omega
def T5 (B : Int → Int → Prop) : Prop := ∀ t z, B t z → 0 ≤ t ∧ t ≤ 5
/-- a question, asked of both -/
theorem LKs.q {n : Int} {C R C1 R1 : Mem} {k kf ks kt kc d df ds dt dc : Nat} {B : Int → Int → Prop} {z z1 : Int} (h : LKs n C R k kf ks kt kc d df ds dt dc) (hC : QP B C C1 z) (hR : RP B R R1 z1) (hci : CI C1 k kf ks kt kc) (hu : U2 B) (h5 : T5 B) : z = z1 ∧ LK n C1 R1 := by
  obtain ⟨⟨a1, a2, a3, a4, a5, a6, a7⟩, ⟨b1, b2, b3⟩, ⟨c1, c2, c3, c4, c5⟩, d1, d2, d3, d4⟩ := h
  obtain ⟨t, hb, t4, e18, e0, eq⟩ := hC
  obtain ⟨t1, hb1, -, f1, f2, f3, f4⟩ := hR
  obtain ⟨et, ez⟩ := hu t z t1 z1 hb hb1
  subst et
  have g := a1.k73
  have ck := ck4
  refine ⟨ez, k, kf, ks, kt, kc, d, df, ds, dt, dc, ⟨hci, a2, a3, ?_, ?_, ?_, ?_⟩, ⟨?_, ?_, ?_⟩, ⟨?_, ?_, ?_, ?_, ?_⟩, ?_, ?_, ?_, ?_⟩
  · rw [e0 13 (by decide)]; exact a4
  · rw [e0 14 (by decide)]; exact a5
  · exact a6.fr3 fun j _ _ => by rw [eq 3 (by decide)]
  · rw [eq 2 (by decide)]; exact a7
  · rw [eq 1 (by decide)]; exact b1
  · rw [eq 1 (by decide), f3 25 ck.1]; exact b2
  · rw [eq 2 (by decide), f4 8 (by decide)]; exact b3
  · rw [e18]; exact h5 t z hb
  · rw [e18]; exact f1
  · rw [e18, if_neg t4]; exact f2
  · rw [f3 31 ck.2.1, e0 19 (by decide)]; exact c4
  · rw [f3 20 ck.2.2.1, e0 15 (by decide)]; exact c5
  · rw [e0 17 (by decide)]; exact d1
  · rw [f3 23 ck.2.2.2]; exact d2
  · rw [e0 15 (by decide), e0 16 (by decide)]; exact d3
  · rw [e0 15 (by decide), e0 16 (by decide), f3 23 ck.2.2.2, eq kf (by omega), eq ks (by omega), eq kt (by omega), eq kc (by omega), eq k (by omega), eq 5 (by omega), eq 6 (by omega), f4 7 (by decide)]
    exact fun y => ⟨(d4 y).1.fr f3 (f4 1 (by decide)) (f4 2 (by decide)) (f4 6 (by decide)), (d4 y).2⟩
theorem RT.act {m m1 : Mem} {fa A B Cn R X Y : Int → Int} (h : RT m fa A B Cn R X) (c : ∀ j : Int, 8 ≤ j → j ≤ 12 → m1 0 j = m 0 j) (h1 : m1 1 = m 1) (h2 : m1 2 = m 2) (h6 : ∀ j : Int, 0 ≤ j → j < 11 → m1 6 j = Y j) (hv : VdOk fa R Y) : RT m1 fa A B Cn R Y := by
  obtain ⟨r1, r2, r3, r4, r5, r6⟩ := h
  refine ⟨?_, ?_, ?_, h6, hv, r6⟩
  · rw [c 11 (by decide) (by decide), c 8 (by decide) (by decide), c 9 (by decide) (by decide), c 10 (by decide) (by decide), c 12 (by decide) (by decide)]; exact r1
  · rw [h1]; exact r2
  · rw [h2]; exact r3
theorem keep_eq {K K2 K3 : Int} {Pf Pg X Qf Qg Y : Int → Int} (h : aKeep K Pf X K2 Pg) (h2 : aKeep K Qf Y K3 Qg) (hk : 0 ≤ K ∧ K ≤ 10) (e : ∀ j : Int, 0 ≤ j → j < 11 * K → Qf j = Pf j) (ex : ∀ j : Int, 0 ≤ j → j < 11 → Y j = X j) : K3 = K2 ∧ (0 ≤ K2 ∧ K2 ≤ 10) ∧ ∀ j : Int, 0 ≤ j → j < 11 * K2 → Qg j = Pg j := by
  rcases h with ⟨a1, a2, a3, a4⟩ | ⟨a1, a2, a3, a4⟩ <;> rcases h2 with ⟨b1, b2, b3, b4⟩ | ⟨b1, b2, b3, b4⟩
  · refine ⟨by omega, by omega, fun j j0 j1 => ?_⟩
    by_cases c : j < 11 * K
    · rw [a3 j j0 c, b3 j j0 c]; exact e j j0 c
    · have u := a4 (j - 11 * K) (by omega) (by omega)
      have v := b4 (j - 11 * K) (by omega) (by omega)
      rw [show 11 * K + (j - 11 * K) = j by omega] at u v
      rw [u, v]; exact ex _ (by omega) (by omega)
  · omega
  · omega
  · refine ⟨by omega, by omega, fun j j0 j1 => ?_⟩
    by_cases c : j < 99
    · rw [a3 j j0 c, b3 j j0 c]; exact e _ (by omega) (by omega)
    · have u := a4 (j - 99) (by omega) (by omega)
      have v := b4 (j - 99) (by omega) (by omega)
      rw [show 99 + (j - 99) = j by omega] at u v
      rw [u, v]; exact ex _ (by omega) (by omega)
def T6 (T : Int) (B : Int → Int → Int → (Int → Int) → Prop) : Prop := ∀ t z c Y, B t z c Y → (0 ≤ t ∧ t ≤ 5) ∧ (c ≠ 0 → T = 1)
/-- an act, asked of both -/
theorem LKs.a {n : Int} {C R C1 R1 : Mem} {k kf ks kt kc d df ds dt dc : Nat} {B : Int → Int → Int → (Int → Int) → Prop} {z z1 : Int} (h : LKs n C R k kf ks kt kc d df ds dt dc) (hC : AP B C C1 z) (hR : RAP B R R1 z1) (hci : CI C1 k kf ks kt kc) (hu : U4 B) (h5 : T6 (C 0 15) B) : z = z1 ∧ LK (n + 1) C1 R1 := by
  obtain ⟨⟨a1, a2, a3, a4, a5, a6, a7⟩, ⟨b1, b2, b3⟩, ⟨c1, c2, c3, c4, c5⟩, d1, d2, d3, d4⟩ := id h
  obtain ⟨t, c, t4, hb, hc⟩ := hC
  obtain ⟨t1, c1x, -, hb1, hc1⟩ := hR
  obtain ⟨et, ez, ec, eY⟩ := hu t z c _ t1 z1 c1x _ hb hb1
  subst et; subst ec
  have h5 := h5 t z c _ hb
  have g := a1.k73
  have ck := ck4
  have hv := CI.fa hci
  rcases hc with ⟨y, e18, e0, eq⟩ | ⟨y, e18, e17, e0, ek, eq⟩ | ⟨y, e18, e17, e16, e0, eq⟩ <;> rcases hc1 with ⟨w, f1, f2, f3, f4⟩ | ⟨w, f1, f2, fk, f3, f4⟩ | ⟨w, f1, f2, f23, f3, f4⟩ <;> try omega
  · refine ⟨ez, k, kf, ks, kt, kc, d, df, ds, dt, dc, ⟨hci, a2, a3, ?_, ?_, ?_, ?_⟩, ⟨?_, ?_, ?_⟩, ⟨?_, ?_, ?_, ?_, ?_⟩, ?_, ?_, ?_, ?_⟩
    · rw [e0 13 (by decide)]; exact a4
    · rw [e0 14 (by decide)]; exact a5
    · exact a6.fr3 fun j _ _ => by rw [eq 3 (by decide)]
    · rw [eq 2 (by decide)]; exact a7
    · rw [eq 1 (by decide)]; exact b1
    · rw [eq 1 (by decide), f3 25 ck.1]; exact b2
    · rw [eq 2 (by decide), f4 8 (by decide)]; exact b3
    · rw [e18]; exact h5.1
    · rw [e18]; exact f1
    · rw [e18, if_neg t4]; exact f2
    · rw [f3 31 ck.2.1, e0 19 (by decide)]; exact c4
    · rw [f3 20 ck.2.2.1, e0 15 (by decide)]; exact c5
    · rw [e0 17 (by decide)]; omega
    · rw [f3 23 ck.2.2.2]; exact d2
    · rw [e0 15 (by decide), e0 16 (by decide)]; exact d3
    · rw [e0 15 (by decide), e0 16 (by decide), f3 23 ck.2.2.2, eq kf (by omega), eq ks (by omega), eq kt (by omega), eq kc (by omega), eq k (by omega), eq 5 (by omega), eq 6 (by omega), f4 7 (by decide)]
      exact fun y => ⟨(d4 y).1.fr f3 (f4 1 (by decide)) (f4 2 (by decide)) (f4 6 (by decide)), (d4 y).2⟩
  · have hT := h5.2 (by omega)
    obtain ⟨r1, r2, r3⟩ := d4 hT
    have hT1 : C1 0 15 = 1 := by rw [e0 15 (by decide) (by decide) (by decide)]; exact hT
    have v := hv hT1
    rw [r2] at fk
    have kk := keep_eq ek fk (by omega) r3 r1.2.2.2.1
    rw [eq kf (by omega), eq ks (by omega), eq kt (by omega), eq kc (by omega), eq k (by omega)] at v
    refine ⟨ez, k, kf, ks, kt, kc, d, df, ds, dt, dc, ⟨hci, a2, a3, ?_, ?_, ?_, ?_⟩, ⟨?_, ?_, ?_⟩, ⟨?_, ?_, ?_, ?_, ?_⟩, ?_, ?_, ?_, ?_⟩
    · rw [e0 13 (by decide) (by decide) (by decide)]; exact a4
    · rw [e0 14 (by decide) (by decide) (by decide)]; exact a5
    · exact a6.fr3 fun j _ _ => by rw [eq 3 (by decide)]
    · rw [eq 2 (by decide)]; exact a7
    · rw [eq 1 (by decide)]; exact b1
    · rw [eq 1 (by decide), f3 25 ck.1 (by decide)]; exact b2
    · rw [eq 2 (by decide), f4 8 (by decide)]; exact b3
    · rw [e18]; exact h5.1
    · rw [e18]; exact f1
    · rw [e18, if_neg t4]; exact f2
    · rw [f3 31 ck.2.1 (by decide), e0 19 (by decide) (by decide) (by decide)]; exact c4
    · rw [f3 20 ck.2.2.1 (by decide), e0 15 (by decide) (by decide) (by decide)]; exact c5
    · rw [e17]; omega
    · rw [kk.1]; exact kk.2.1
    · intro q; omega
    · intro _
      refine ⟨?_, kk.1, kk.2.2⟩
      rw [eq kf (by omega), eq ks (by omega), eq kt (by omega), eq kc (by omega), eq k (by omega)]
      exact r1.act (fun j x y => f3 j (Or.inl ⟨x, y⟩) (by omega)) (f4 1 (by decide)) (f4 2 (by decide)) (fun j j0 j1 => (eY (by omega) j j0 j1).symm) v.1
  · have hT := h5.2 (by omega)
    obtain ⟨r1, r2, r3⟩ := d4 hT
    have hT1 : C1 0 15 = 1 := by rw [e0 15 (by decide) (by decide) (by decide)]; exact hT
    have v := hv hT1
    have hK : 0 ≤ C1 0 16 ∧ C1 0 16 ≤ 10 := by
      rcases hci.2.2.1 with y | y
      · omega
      · exact y.2.2.2.2.2.1
    rw [eq kf (by omega), eq ks (by omega), eq kt (by omega), eq kc (by omega), eq k (by omega)] at v
    refine ⟨ez, k, kf, ks, kt, kc, d, df, ds, dt, dc, ⟨hci, a2, a3, ?_, ?_, ?_, ?_⟩, ⟨?_, ?_, ?_⟩, ⟨?_, ?_, ?_, ?_, ?_⟩, ?_, ?_, ?_, ?_⟩
    · rw [e0 13 (by decide) (by decide) (by decide)]; exact a4
    · rw [e0 14 (by decide) (by decide) (by decide)]; exact a5
    · exact a6.fr3 fun j _ _ => by rw [eq 3 (by decide)]
    · rw [eq 2 (by decide)]; exact a7
    · rw [eq 1 (by decide)]; exact b1
    · rw [eq 1 (by decide), f3 25 ck.1 (by decide)]; exact b2
    · rw [eq 2 (by decide), f4 8 (by decide)]; exact b3
    · rw [e18]; exact h5.1
    · rw [e18]; exact f1
    · rw [e18, if_neg t4]; exact f2
    · rw [f3 31 ck.2.1 (by decide), e0 19 (by decide) (by decide) (by decide)]; exact c4
    · rw [f3 20 ck.2.2.1 (by decide), e0 15 (by decide) (by decide) (by decide)]; exact c5
    · rw [e17]; omega
    · omega
    · intro q; omega
    · intro _
      refine ⟨?_, by omega, ?_⟩
      · rw [eq kf (by omega), eq ks (by omega), eq kt (by omega), eq kc (by omega), eq k (by omega)]
        exact r1.act (fun j x y => f3 j (Or.inl ⟨x, y⟩) (by omega)) (f4 1 (by decide)) (f4 2 (by decide)) (fun j j0 j1 => (eY (by omega) j j0 j1).symm) v.1
      · rw [eq 6 (by omega), f4 7 (by decide)]
        exact fun j j0 j1 => r3 j j0 (by omega)
theorem CI.cg {m m1 : Mem} {k kf ks kt kc : Nat} (h : CI m k kf ks kt kc) (hq : ∀ q : Nat, q ≠ 1 → q ≠ 2 → m1 q = m q) : CI m1 k kf ks kt kc := by
  have g := h.k73
  unfold CI TI ChOk OuOk RkIs at *
  rw [hq 0 (by decide) (by decide), hq 5 (by decide) (by decide), hq 6 (by decide) (by decide), hq 8 (by decide) (by decide), hq 9 (by decide) (by decide), hq 12 (by decide) (by decide), hq 14 (by decide) (by decide), hq k (by omega) (by omega), hq kf (by omega) (by omega), hq ks (by omega) (by omega), hq kt (by omega) (by omega), hq kc (by omega) (by omega)]
  exact h
theorem by_rng {v i : Int} : 0 ≤ byZ v i ∧ byZ v i ≤ 255 := by
  unfold byZ
  split
  · omega
  · split
    · omega
    · split <;> omega
theorem fd_rng {a b c d e k : Int} : 0 ≤ fdZ a b c d e k ∧ fdZ a b c d e k ≤ 255 := by
  unfold fdZ
  split
  · exact by_rng
  · split
    · exact by_rng
    · split
      · exact by_rng
      · split <;> exact by_rng
theorem LKs.f {n : Int} {C R C1 R1 : Mem} {k kf ks kt kc d df ds dt dc : Nat} {a b c u v z z1 : Int} (h : LKs n C R k kf ks kt kc d df ds dt dc)
    (hC : ((C 1 1 + 20 ≤ 700 ∧ z = C 1 1 + 20) ∨ (¬ C 1 1 + 20 ≤ 700 ∧ z = -1)) ∧ C1 1 1 = (if C 1 1 + 20 ≤ 700 then C 1 1 + 20 else C 1 1) ∧ (∀ j : Int, C1 2 j = if C 1 1 + 20 ≤ 700 ∧ C 1 1 ≤ j ∧ j < C 1 1 + 20 then fdZ a b c u v (j - C 1 1) else C 2 j) ∧ ∀ q, q ≠ 1 → q ≠ 2 → C1 q = C q)
    (hR : ((R 0 25 + 20 ≤ 700 ∧ z1 = R 0 25 + 20) ∨ (¬ R 0 25 + 20 ≤ 700 ∧ z1 = -1)) ∧ R1 0 25 = (if R 0 25 + 20 ≤ 700 then R 0 25 + 20 else R 0 25) ∧ (∀ j : Int, R1 8 j % 256 = if R 0 25 + 20 ≤ 700 ∧ R 0 25 ≤ j ∧ j < R 0 25 + 20 then fdZ a b c u v (j - R 0 25) else R 8 j % 256) ∧ (∀ j : Int, j ≠ 0 → j ≠ 25 → R1 0 j = R 0 j) ∧ ∀ q, q ≠ 0 → q ≠ 8 → R1 q = R q) : z = z1 ∧ LK n C1 R1 := by
  obtain ⟨⟨a1, a2, a3, a4, a5, a6, a7⟩, ⟨b1, b2, b3⟩, ⟨c1, c2, c3, c4, c5⟩, d1, d2, d3, d4⟩ := h
  obtain ⟨e1, e2, e3, e4⟩ := hC
  obtain ⟨f1, f2, f3, f4, f5⟩ := hR
  have g := a1.k73
  rw [b2] at f1 f2
  have z0 := e4 0 (by decide) (by decide)
  refine ⟨by omega, k, kf, ks, kt, kc, d, df, ds, dt, dc, ⟨a1.cg e4, a2, a3, ?_, ?_, ?_, ?_⟩, ⟨?_, ?_, ?_⟩, ⟨?_, ?_, ?_, ?_, ?_⟩, ?_, ?_, ?_, ?_⟩
  · rw [z0]; exact a4
  · rw [z0]; exact a5
  · exact a6.fr3 fun j _ _ => by rw [e4 3 (by decide) (by decide)]
  · intro j j0 j1
    rw [e3 j]
    split
    · exact fd_rng
    · exact a7 j j0 j1
  · rw [e2]; split <;> omega
  · rw [e2, f2]
  · intro j j0 j1
    rw [e3 j, f3 j, b2, b3 j j0 j1]
  · rw [z0]; exact c1
  · rw [z0, f4 1 (by decide) (by decide)]; exact c2
  · rw [z0, f4 2 (by decide) (by decide), e4 3 (by decide) (by decide)]; exact c3
  · rw [z0, f4 31 (by decide) (by decide)]; exact c4
  · rw [z0, f4 20 (by decide) (by decide)]; exact c5
  · rw [z0]; exact d1
  · rw [f4 23 (by decide) (by decide)]; exact d2
  · rw [z0]; exact d3
  · rw [z0, f4 23 (by decide) (by decide), e4 kf (by omega) (by omega), e4 ks (by omega) (by omega), e4 kt (by omega) (by omega), e4 kc (by omega) (by omega), e4 k (by omega) (by omega), e4 5 (by omega) (by omega), e4 6 (by omega) (by omega), f5 7 (by decide) (by decide)]
    exact fun y => ⟨(d4 y).1.act (fun j hj hk => f4 j (by omega) (by omega)) (f5 1 (by decide) (by decide)) (f5 2 (by decide) (by decide)) (by rw [f5 6 (by decide) (by decide)]; exact (d4 y).1.2.2.2.1) (d4 y).1.2.2.2.2.1, (d4 y).2⟩

theorem fiX_cg {fa fb R Q : Int → Int} {j : Int} (e0 : Q 0 = R 0) (e1 : Q 1 = R 1) (e5 : Q 5 = R 5) (e : ∀ i : Int, 0 ≤ i → i < R 5 * 9 → fb i = fa i) (h0 : 0 ≤ j) (h1 : j < 11) : fiX fb Q j = fiX fa R j := by
  have ms : ∀ s : Int, 0 ≤ s → mstZ fb (Q 5) s = mstZ fa (R 5) s := fun s s0 => by
    unfold mstZ
    rw [e5]
    by_cases c : s < R 5
    · rw [if_pos c, if_pos c]; exact e _ (by omega) (by omega)
    · rw [if_neg c, if_neg c]
  unfold fiX
  by_cases c0 : j = 0
  · rw [if_pos c0, if_pos c0, e0]
  rw [if_neg c0, if_neg c0]
  by_cases c1 : j = 1
  · rw [if_pos c1, if_pos c1, e1]
  rw [if_neg c1, if_neg c1]
  by_cases c2 : j < 5
  · rw [if_pos c2, if_pos c2]; exact ms _ (by omega)
  rw [if_neg c2, if_neg c2]
  by_cases c3 : j < 8
  · rw [if_pos c3, if_pos c3]
  rw [if_neg c3, if_neg c3]; exact ms _ (by omega)
set_option maxHeartbeats 8000000 in
theorem LKs.r {n : Int} {C R C1 R1 : Mem} {k kf ks kt kc d df ds dt dc : Nat} {x z z1 : Int} (h : LKs n C R k kf ks kt kc d df ds dt dc) (hC : RocketPost C C1 k d df ds dt dc x z) (hR : RocketR R R1 (C 2) x z1) (hci : ∃ k1 k2 k3 k4 k5, CI C1 k1 k2 k3 k4 k5 ∧ ((C1 0 13 = C 0 13 ∧ k1 = k ∧ k2 = kf ∧ k3 = ks ∧ k4 = kt ∧ k5 = kc) ∨ (C1 0 13 = (d : Int) ∧ k1 = d ∧ k2 = df ∧ k3 = ds ∧ k4 = dt ∧ k5 = dc))) : z = z1 ∧ LK (n + 1) C1 R1 := by
  obtain ⟨⟨a1, a2, a3, a4, a5, a6, a7⟩, ⟨b1, b2, b3⟩, ⟨c1, c2, c3, c4, c5⟩, d1, d2, d3, d4⟩ := id h
  obtain ⟨k1, k2, k3, k4, k5, hci, hwh⟩ := hci
  have g := a1.k73
  have ck := ck4
  have hk := a1.1.at7
  have hd := a2.at7
  unfold RocketR at hR
  rw [b2] at hR
  rcases hC with ⟨u1, u2, e18, e0, eq⟩ | ⟨u1, e, u2, u3, e18, e19, e11, e0, e1, e3, eq⟩ | ⟨u1, σ, u2, u3, hs, h5, hdr, e18, e19, e13, e14, e15, e16, e17, e1, e3, e2, e5⟩ <;> rcases hR with ⟨v1, v2, f1, f2, f3, f4⟩ | ⟨v1, f, v2, v3, f1, f2, f31, f25, f3, f4⟩ | ⟨v1, τ, v2, v3, f1, f2, f31, f25, f20, f23, fr, ffa, ffl, f6, f8⟩ <;> try first | exact absurd v1 u1 | exact absurd u1 v1
  · have h13 : C1 0 13 = C 0 13 := e0 13 (by decide)
    have hci : CI C1 k kf ks kt kc := by
      rcases hwh with ⟨-, rfl, rfl, rfl, rfl, rfl⟩ | ⟨w, -⟩
      · exact hci
      · omega
    refine ⟨by omega, k, kf, ks, kt, kc, d, df, ds, dt, dc, ⟨hci, a2, a3, ?_, ?_, ?_, ?_⟩, ⟨?_, ?_, ?_⟩, ⟨?_, ?_, ?_, ?_, ?_⟩, ?_, ?_, ?_, ?_⟩
    · rw [e0 13 (by decide)]; exact a4
    · rw [e0 14 (by decide)]; exact a5
    · exact a6.fr3 fun j _ _ => by rw [eq 3 (by decide)]
    · rw [eq 2 (by decide)]; exact a7
    · rw [eq 1 (by decide)]; exact b1
    · rw [eq 1 (by decide), f3 25 ck.1]; exact b2
    · rw [eq 2 (by decide), f4 8 (by decide)]; exact b3
    · rw [e18]; omega
    · rw [e18]; exact f1
    · rw [e18, if_neg (by decide)]; exact f2
    · rw [f3 31 ck.2.1, e0 19 (by decide)]; exact c4
    · rw [f3 20 ck.2.2.1, e0 15 (by decide)]; exact c5
    · rw [e0 17 (by decide)]; omega
    · rw [f3 23 ck.2.2.2]; exact d2
    · rw [e0 15 (by decide), e0 16 (by decide)]; exact d3
    · rw [e0 15 (by decide), e0 16 (by decide), f3 23 ck.2.2.2, eq kf (by omega), eq ks (by omega), eq kt (by omega), eq kc (by omega), eq k (by omega), eq 5 (by omega), eq 6 (by omega), f4 7 (by decide)]
      exact fun y => ⟨(d4 y).1.fr f3 (f4 1 (by decide)) (f4 2 (by decide)) (f4 6 (by decide)), (d4 y).2⟩
  · have ef : e = f := Sum.inl.inj (u2.symm.trans v2)
    subst ef
    have hci : CI C1 k kf ks kt kc := by
      rcases hwh with ⟨-, rfl, rfl, rfl, rfl, rfl⟩ | ⟨w, -⟩
      · exact hci
      · have := e0 13 (by decide) (by decide); omega
    refine ⟨by omega, k, kf, ks, kt, kc, d, df, ds, dt, dc, ⟨hci, a2, a3, ?_, ?_, ?_, ?_⟩, ⟨?_, ?_, ?_⟩, ⟨?_, ?_, ?_, ?_, ?_⟩, ?_, ?_, ?_, ?_⟩
    · rw [e0 13 (by decide) (by decide)]; exact a4
    · rw [e0 14 (by decide) (by decide)]; exact a5
    · exact a6.fr3 e3
    · rw [eq 2 (Or.inl rfl)]; exact a7
    · rw [e1]; omega
    · rw [e1, f25]
    · rw [eq 2 (Or.inl rfl), f4 8 (by decide)]; exact b3
    · rw [e18]; omega
    · rw [e18]; exact f1
    · rw [e18, if_pos rfl, e11]; exact f2
    · rw [f31, e19]
    · rw [f3 20 ck.2.2.1 (by decide) (by decide), e0 15 (by decide) (by decide)]; exact c5
    · rw [e0 17 (by decide) (by decide)]; omega
    · rw [f3 23 ck.2.2.2 (by decide) (by decide)]; exact d2
    · rw [e0 15 (by decide) (by decide), e0 16 (by decide) (by decide)]; exact d3
    · rw [e0 15 (by decide) (by decide), e0 16 (by decide) (by decide), f3 23 ck.2.2.2 (by decide) (by decide), eq kf (by omega), eq ks (by omega), eq kt (by omega), eq kc (by omega), eq k (by omega), eq 5 (by omega), eq 6 (by omega), f4 7 (by decide)]
      exact fun y => ⟨(d4 y).1.act (fun j hj hk => f3 j (Or.inl ⟨hj, hk⟩) (by omega) (by omega)) (f4 1 (by decide)) (f4 2 (by decide)) (by rw [f4 6 (by decide)]; exact (d4 y).1.2.2.2.1) (d4 y).1.2.2.2.2.1, (d4 y).2⟩
  · exact nomatch u2.symm.trans v2
  · exact nomatch u2.symm.trans v2
  · have ef : σ = τ := Sum.inr.inj (u2.symm.trans v2)
    subst ef
    have hci : CI C1 d df ds dt dc := by
      rcases hwh with ⟨w, -⟩ | ⟨-, rfl, rfl, rfl, rfl, rfl⟩
      · omega
      · exact hci
    have v := CI.fa hci e15
    obtain ⟨g1, g2, g3, g4, g5, g6, g7⟩ := hdr
    obtain ⟨t0, t1, t2, t3, t4⟩ := g4 (sg0_7 σ hs h5)
    refine ⟨by omega, d, df, ds, dt, dc, k, kf, ks, kt, kc, ⟨hci, a1.1, fun w => a3 w.symm, e13, e14, ?_, ?_⟩, ⟨?_, ?_, ?_⟩, ⟨?_, ?_, ?_, ?_, ?_⟩, ?_, ?_, ?_, fun _ => ⟨⟨?_, ?_, ?_, ?_, v.1, v.2⟩, ?_, ?_⟩⟩
    · exact a6.fr3 e3
    · rw [e2]; exact a7
    · rw [e1]; omega
    · rw [e1, f25]
    · rw [e2, f8]; exact b3
    · rw [e18]; omega
    · rw [e18]; exact f1
    · rw [e18, if_neg (by decide)]; exact f2
    · rw [f31, e19]
    · rw [f20, e15]
    · rw [e17]; omega
    · rw [f23]; omega
    · intro w; omega
    · obtain ⟨r1, r2, r3, r4, r5⟩ := fr
      exact ⟨by rw [r1, g2], by rw [r2, t2], by rw [r3, t3], by rw [r4, t4], by rw [r5, g3]⟩
    · intro s w s0 s1 w0 w1
      rw [g2] at s1
      rw [g5 (s * 9 + w) (by omega) (by omega), show 9 * s + w = s * 9 + w by omega]
      exact ffa _ (by omega) (by omega)
    · intro i i0 i1
      rw [g3] at i1
      obtain ⟨q1, q2, q3⟩ := g7 i i0 i1
      rw [q1, q2, q3]; exact ffl i i0 i1
    · intro j j0 j1
      rw [f6 j j0 j1, e5 j j0 j1]
      exact (fiX_cg t0 t1 g2 g5 j0 j1).symm
    · rw [f23, e16]
    · rw [e16]; intro j j0 j1; omega
