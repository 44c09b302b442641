/-! each question has one answer, whoever gives it -/
def U2 (B : Int → Int → Prop) : Prop := ∀ t z t' z', B t z → B t' z' → t = t' ∧ z = z'
theorem paA_eq {fa : Int → Int} {n up lw P z y : Int} {U : Int → Int} (hF : FaOk fa n) (hD : DvOk n P U) (hL : 1 ≤ lw) (hU : lw < up) (h : paA fa n up lw P U z) (h2 : paA fa n up lw P U y) : z = y := by
  have a := hD.al hF
  exact PwIs.eq h h2 (by omega) hL hU
theorem pfA_eq {fa A B Cn R X : Int → Int} {xs xt z y : Int} (hV : VdOk fa R X) (hf : faOk A B Cn R) (h : pfA fa A B Cn R X xs xt z) (h2 : pfA fa A B Cn R X xs xt y) : z = y := by
  have a := fpl_ok (xs := xs) (xt := xt) hV hf
  exact PwIs.eq h h2 (by omega) hV.2.2.2.1.1 hV.2.2.2.1.2
theorem FrIs.mem {p : Int → Prop} {w : Int → Int} {fs : Int → Int → Prop} {l : List Int} {c : Int} (h : FrIs p w fs l) (hc : c ∈ l) : 0 ≤ c ∧ c < 4913 := by
  obtain ⟨bm, hb, rfl⟩ := h
  obtain ⟨x, x0, x1, e, e0⟩ := frL_mem hc
  rcases hb x x0 (by omega) with ⟨a, -⟩ | ⟨a, -⟩
  · omega
  · omega
theorem rkP_eq {pw : Int → Int → Prop} {n z y : Int} (hu : ∀ i a b, pw i a → pw i b → a = b) (h : rkP pw n z) (h2 : rkP pw n y) : z = y := by
  rcases h with ⟨a, b⟩ | ⟨a, u, hu1, ha⟩
  · rcases h2 with ⟨a2, b2⟩ | ⟨a2, u2, hu2, ha2⟩ <;> omega
  · rcases h2 with ⟨a2, b2⟩ | ⟨a2, u2, hu2, ha2⟩
    · omega
    · obtain ⟨x, hx, hxx⟩ := ha (y - 1) (by omega) (by omega)
      obtain ⟨x2, hx2, hxx2⟩ := ha2 (z - 1) (by omega) (by omega)
      have e1 := hu _ _ _ hx hu2
      have e2 := hu _ _ _ hx2 hu1
      omega
theorem wkP_eq {p : Int → Prop} {n i z y : Int} (h : wkP p n i z) (h2 : wkP p n i y) : z = y := by
  have step : ∀ a b : Int, 0 ≤ a → a < b → b ≤ n → ¬ p a → cnP (fun c => ¬ p c) a.toNat + 1 ≤ cnP (fun c => ¬ p c) b.toNat := fun a b a0 ab bn hp => by
    obtain ⟨d, hd⟩ : ∃ d : Nat, b.toNat = a.toNat + 1 + d := ⟨b.toNat - a.toNat - 1, by omega⟩
    rw [hd]
    clear hd
    have h1 : cnP (fun c => ¬ p c) (a.toNat + 1) = cnP (fun c => ¬ p c) a.toNat + 1 := cnP_y (by rw [show ((a.toNat : Nat) : Int) = a by omega]; exact hp)
    induction d with
    | zero => show _ ≤ cnP _ (a.toNat + 1); omega
    | succ d ih =>
      rw [show a.toNat + 1 + (d + 1) = a.toNat + 1 + d + 1 by omega]
      by_cases c : ¬ p ((a.toNat + 1 + d : Nat) : Int)
      · rw [cnP_y c]; omega
      · rw [cnP_n c]; exact ih
  rcases h with ⟨a, b⟩ | ⟨a, b, c⟩ <;> rcases h2 with ⟨a2, b2⟩ | ⟨a2, b2, c2⟩
  · omega
  · have := step y n a2.1 a2.2 (by omega) b2
    have := cnP_rng (fun c => ¬ p c) y.toNat
    omega
  · have := step z n a.1 a.2 (by omega) b
    have := cnP_rng (fun c => ¬ p c) z.toNat
    omega
  · rcases (show z < y ∨ z = y ∨ y < z by omega) with l | l | l
    · have := step z y a.1 l (by omega) b; omega
    · exact l
    · have := step y z a2.1 l (by omega) b2; omega
theorem u_Abo {R X : Int → Int} {T w : Int}  : U2 (qAbo T R X w) := by
  intro t z t' z' h h2
  rcases h with ⟨a, b, c, d⟩ | ⟨a, c, d⟩
  · rcases h2 with ⟨a', b', c', d'⟩ | ⟨a', c', d'⟩
    · exact ⟨by omega, d.trans d'.symm⟩
    · exfalso; first | (unfold hsS at *; omega) | omega | grind
  · rcases h2 with ⟨a', b', c', d'⟩ | ⟨a', c', d'⟩
    · exfalso; first | (unfold hsS at *; omega) | omega | grind
    · exact ⟨by omega, by omega⟩

theorem u_Sta {fa R X : Int → Int} {T s w : Int}  : U2 (qSta T fa R X s w) := by
  intro t z t' z' h h2
  rcases h with ⟨a, b, c, d⟩ | ⟨a, c, d⟩
  · rcases h2 with ⟨a', b', c', d'⟩ | ⟨a', c', d'⟩
    · exact ⟨by omega, d.trans d'.symm⟩
    · exfalso; first | (unfold hsS at *; omega) | omega | grind
  · rcases h2 with ⟨a', b', c', d'⟩ | ⟨a', c', d'⟩
    · exfalso; first | (unfold hsS at *; omega) | omega | grind
    · exact ⟨by omega, by omega⟩

theorem u_Par {fa R X : Int → Int} {T s w : Int}  : U2 (qPar T fa R X s w) := by
  intro t z t' z' h h2
  rcases h with ⟨a, b, c, e, f, g, i, j⟩ | ⟨a, c, d⟩
  · rcases h2 with ⟨a', b', c', e', f', g', i', j'⟩ | ⟨a', c', d'⟩
    · refine ⟨by omega, ?_⟩
      rcases (show w = 0 ∨ w = 1 ∨ w = 2 ∨ w = 3 ∨ w = 4 by omega) with y | y | y | y | y
      · rw [e y, e' y]
      · rw [f y, f' y]
      · rw [g y, g' y]
      · rcases i y with ⟨u1, u2⟩ | ⟨u1, u2⟩ <;> rcases i' y with ⟨v1, v2⟩ | ⟨v1, v2⟩
        · omega
        · exact absurd u2 v2
        · exact absurd v2 u2
        · omega
      · rw [j y, j' y]
    · exfalso; first | (unfold hsS at *; omega) | omega | grind
  · rcases h2 with ⟨a', b', c', e', f', g', i', j'⟩ | ⟨a', c', d'⟩
    · exfalso; first | (unfold hsS at *; omega) | omega | grind
    · exact ⟨by omega, by omega⟩

theorem u_Mar {fa R X : Int → Int} {T s w : Int}  : U2 (qMar T fa R X s w) := by
  intro t z t' z' h h2
  rcases h with ⟨a, b, c, d⟩ | ⟨a, b, c, d⟩ | ⟨a, c, d⟩
  · rcases h2 with ⟨a', b', c', d'⟩ | ⟨a', b', c', d'⟩ | ⟨a', c', d'⟩
    · exact ⟨by omega, d.trans d'.symm⟩
    · exfalso; first | (unfold hsS at *; omega) | omega | grind
    · exfalso; first | (unfold hsS at *; omega) | omega | grind
  · rcases h2 with ⟨a', b', c', d'⟩ | ⟨a', b', c', d'⟩ | ⟨a', c', d'⟩
    · exfalso; first | (unfold hsS at *; omega) | omega | grind
    · exact ⟨by omega, by omega⟩
    · exfalso; first | (unfold hsS at *; omega) | omega | grind
  · rcases h2 with ⟨a', b', c', d'⟩ | ⟨a', b', c', d'⟩ | ⟨a', c', d'⟩
    · exfalso; first | (unfold hsS at *; omega) | omega | grind
    · exfalso; first | (unfold hsS at *; omega) | omega | grind
    · exact ⟨by omega, by omega⟩

theorem u_Spa {fa R X : Int → Int} {T s : Int}  : U2 (qSpa T fa R X s) := by
  intro t z t' z' h h2
  rcases h with ⟨a, c, d⟩ | ⟨a, c, d⟩
  · rcases h2 with ⟨a', c', d'⟩ | ⟨a', c', d'⟩
    · refine ⟨by omega, ?_⟩
      rcases d with ⟨e, f⟩ | ⟨e, f, g⟩ <;> rcases d' with ⟨e', f'⟩ | ⟨e', f', g'⟩
      · omega
      · have := f _ e'.1 e'.2; omega
      · have := f' _ e.1 e.2; omega
      · rcases (show z < z' ∨ z = z' ∨ z' < z by omega) with l | l | l
        · have := g z' l e'.2; omega
        · exact l
        · have := g' z l e.2; omega
    · exfalso; first | (unfold hsS at *; omega) | omega | grind
  · rcases h2 with ⟨a', c', d'⟩ | ⟨a', c', d'⟩
    · exfalso; first | (unfold hsS at *; omega) | omega | grind
    · exact ⟨by omega, by omega⟩

theorem u_Mas {fa R X : Int → Int} {T : Int}  : U2 (qMas T fa R X) := by
  intro t z t' z' h h2
  rcases h with ⟨a, c, d⟩ | ⟨a, c, d⟩
  · rcases h2 with ⟨a', c', d'⟩ | ⟨a', c', d'⟩
    · exact ⟨by omega, d.trans d'.symm⟩
    · exfalso; first | (unfold hsS at *; omega) | omega | grind
  · rcases h2 with ⟨a', c', d'⟩ | ⟨a', c', d'⟩
    · exfalso; first | (unfold hsS at *; omega) | omega | grind
    · exact ⟨by omega, by omega⟩

theorem u_Rea {fa R X : Int → Int} {T k : Int}  : U2 (qRea T fa R X k) := by
  intro t z t' z' h h2
  rcases h with ⟨a, b, c, d⟩ | ⟨a, b, c, d⟩ | ⟨a, c, d⟩
  · rcases h2 with ⟨a', b', c', d'⟩ | ⟨a', b', c', d'⟩ | ⟨a', c', d'⟩
    · refine ⟨by omega, ?_⟩
      rcases d with ⟨e, f⟩ | ⟨e, f⟩ <;> rcases d' with ⟨e', f'⟩ | ⟨e', f'⟩
      · omega
      · exact absurd f f'
      · exact absurd f' f
      · omega
    · exfalso; first | (unfold hsS at *; omega) | omega | grind
    · exfalso; first | (unfold hsS at *; omega) | omega | grind
  · rcases h2 with ⟨a', b', c', d'⟩ | ⟨a', b', c', d'⟩ | ⟨a', c', d'⟩
    · exfalso; first | (unfold hsS at *; omega) | omega | grind
    · exact ⟨by omega, by omega⟩
    · exfalso; first | (unfold hsS at *; omega) | omega | grind
  · rcases h2 with ⟨a', b', c', d'⟩ | ⟨a', b', c', d'⟩ | ⟨a', c', d'⟩
    · exfalso; first | (unfold hsS at *; omega) | omega | grind
    · exfalso; first | (unfold hsS at *; omega) | omega | grind
    · exact ⟨by omega, by omega⟩

theorem u_Gre {fa R X : Int → Int} {T : Int} (hV : T = 1 → VdOk fa R X) : U2 (qGre T fa R X) := by
  intro t z t' z' h h2
  rcases h with ⟨a, c, d⟩ | ⟨a, c, d⟩
  · rcases h2 with ⟨a', c', d'⟩ | ⟨a', c', d'⟩
    · have v := hV a
      exact ⟨by omega, paA_eq v.2.1 (v.2.2.2.2.dv v.2.1 v.1) v.2.2.2.1.1 v.2.2.2.1.2 d d'⟩
    · exfalso; first | (unfold hsS at *; omega) | omega | grind
  · rcases h2 with ⟨a', c', d'⟩ | ⟨a', c', d'⟩
    · exfalso; first | (unfold hsS at *; omega) | omega | grind
    · exact ⟨by omega, by omega⟩

theorem u_Spe {fa R X : Int → Int} {T up : Int}  : U2 (qSpe T fa R X up) := by
  intro t z t' z' h h2
  rcases h with ⟨a, c, d⟩ | ⟨a, c, d⟩
  · rcases h2 with ⟨a', c', d'⟩ | ⟨a', c', d'⟩
    · exact ⟨by omega, d.trans d'.symm⟩
    · exfalso; first | (unfold hsS at *; omega) | omega | grind
  · rcases h2 with ⟨a', c', d'⟩ | ⟨a', c', d'⟩
    · exfalso; first | (unfold hsS at *; omega) | omega | grind
    · exact ⟨by omega, by omega⟩

theorem u_Hol {fa R X : Int → Int} {T : Int}  : U2 (qHol T fa R X) := by
  intro t z t' z' h h2
  rcases h with ⟨a, c, d⟩ | ⟨a, c, d⟩
  · rcases h2 with ⟨a', c', d'⟩ | ⟨a', c', d'⟩
    · refine ⟨by omega, ?_⟩
      rcases d with ⟨e, f⟩ | ⟨e, f⟩ <;> rcases d' with ⟨e', f'⟩ | ⟨e', f'⟩
      · omega
      · exact absurd f f'
      · exact absurd f' f
      · omega
    · exfalso; first | (unfold hsS at *; omega) | omega | grind
  · rcases h2 with ⟨a', c', d'⟩ | ⟨a', c', d'⟩
    · exfalso; first | (unfold hsS at *; omega) | omega | grind
    · exact ⟨by omega, by omega⟩

theorem u_Ric {fa R X : Int → Int} {T s w : Int}  : U2 (qRic T fa R X s w) := by
  intro t z t' z' h h2
  rcases h with ⟨a, b, c, d⟩ | ⟨a, b, c, d⟩ | ⟨a, c, d⟩
  · rcases h2 with ⟨a', b', c', d'⟩ | ⟨a', b', c', d'⟩ | ⟨a', c', d'⟩
    · exact ⟨by omega, d.trans d'.symm⟩
    · exfalso; first | (unfold hsS at *; omega) | omega | grind
    · exfalso; first | (unfold hsS at *; omega) | omega | grind
  · rcases h2 with ⟨a', b', c', d'⟩ | ⟨a', b', c', d'⟩ | ⟨a', c', d'⟩
    · exfalso; first | (unfold hsS at *; omega) | omega | grind
    · exact ⟨by omega, by omega⟩
    · exfalso; first | (unfold hsS at *; omega) | omega | grind
  · rcases h2 with ⟨a', b', c', d'⟩ | ⟨a', b', c', d'⟩ | ⟨a', c', d'⟩
    · exfalso; first | (unfold hsS at *; omega) | omega | grind
    · exfalso; first | (unfold hsS at *; omega) | omega | grind
    · exact ⟨by omega, by omega⟩

theorem u_Lea {fa R X : Int → Int} {T k : Int}  : U2 (qLea T fa R X k) := by
  intro t z t' z' h h2
  rcases h with ⟨a, b, c, d⟩ | ⟨a, b, c, d⟩ | ⟨a, c, d⟩
  · rcases h2 with ⟨a', b', c', d'⟩ | ⟨a', b', c', d'⟩ | ⟨a', c', d'⟩
    · obtain ⟨e, f, g⟩ := d
      obtain ⟨e', f', g'⟩ := d'
      obtain rfl : e = e' := bsP.eq f f'
      exact ⟨by omega, g.trans g'.symm⟩
    · exfalso; first | (unfold hsS at *; omega) | omega | grind
    · exfalso; first | (unfold hsS at *; omega) | omega | grind
  · rcases h2 with ⟨a', b', c', d'⟩ | ⟨a', b', c', d'⟩ | ⟨a', c', d'⟩
    · exfalso; first | (unfold hsS at *; omega) | omega | grind
    · exact ⟨by omega, by omega⟩
    · exfalso; first | (unfold hsS at *; omega) | omega | grind
  · rcases h2 with ⟨a', b', c', d'⟩ | ⟨a', b', c', d'⟩ | ⟨a', c', d'⟩
    · exfalso; first | (unfold hsS at *; omega) | omega | grind
    · exfalso; first | (unfold hsS at *; omega) | omega | grind
    · exact ⟨by omega, by omega⟩

theorem u_Fue {fa R X : Int → Int} {T k s : Int}  : U2 (qFue T fa R X k s) := by
  intro t z t' z' h h2
  rcases h with ⟨a, b, c, d⟩ | ⟨a, b, c, d⟩ | ⟨a, c, d⟩
  · rcases h2 with ⟨a', b', c', d'⟩ | ⟨a', b', c', d'⟩ | ⟨a', c', d'⟩
    · obtain ⟨e, f, g⟩ := d
      obtain ⟨e', f', g'⟩ := d'
      obtain rfl : e = e' := bsP.eq f f'
      exact ⟨by omega, g.trans g'.symm⟩
    · exfalso; first | (unfold hsS at *; omega) | omega | grind
    · exfalso; first | (unfold hsS at *; omega) | omega | grind
  · rcases h2 with ⟨a', b', c', d'⟩ | ⟨a', b', c', d'⟩ | ⟨a', c', d'⟩
    · exfalso; first | (unfold hsS at *; omega) | omega | grind
    · exact ⟨by omega, by omega⟩
    · exfalso; first | (unfold hsS at *; omega) | omega | grind
  · rcases h2 with ⟨a', b', c', d'⟩ | ⟨a', b', c', d'⟩ | ⟨a', c', d'⟩
    · exfalso; first | (unfold hsS at *; omega) | omega | grind
    · exfalso; first | (unfold hsS at *; omega) | omega | grind
    · exact ⟨by omega, by omega⟩

theorem u_Far {fa R X : Int → Int} {T : Int} (hV : T = 1 → VdOk fa R X) : U2 (qFar T fa R X) := by
  intro t z t' z' h h2
  rcases h with ⟨a, c, d⟩ | ⟨a, c, d⟩
  · rcases h2 with ⟨a', c', d'⟩ | ⟨a', c', d'⟩
    · have v := hV a
      have ue : ∀ q : Int, 0 ≤ q → q < 4913 → ∀ x y, paA fa (R 5) (R 2) (R 3) (X 0) (unZ q) x → paA fa (R 5) (R 2) (R 3) (X 0) (unZ q) y → x = y := fun q q0 q1 x y => paA_eq v.2.1 (un_dv v.1 v.2.2.2.2.1 q0 q1) v.2.2.2.1.1 v.2.2.2.1.2
      refine ⟨by omega, ?_⟩
      rcases d with ⟨e, f⟩ | ⟨⟨q, q0, q1, q2, q3⟩, g⟩ <;> rcases d' with ⟨e', f'⟩ | ⟨⟨q', q0', q1', q2', q3'⟩, g'⟩
      · omega
      · exact absurd q2' (f _ q0' q1')
      · exact absurd q2 (f' _ q0 q1)
      · obtain ⟨x, hx, hxz⟩ := g q' q0' q1' q2'
        obtain ⟨x', hx', hxz'⟩ := g' q q0 q1 q2
        have e1 := ue q' q0' q1' _ _ hx q3'
        have e2 := ue q q0 q1 _ _ hx' q3
        omega
    · exfalso; first | (unfold hsS at *; omega) | omega | grind
  · rcases h2 with ⟨a', c', d'⟩ | ⟨a', c', d'⟩
    · exfalso; first | (unfold hsS at *; omega) | omega | grind
    · exact ⟨by omega, by omega⟩

theorem u_Lif {fa R X : Int → Int} {T : Int}  : U2 (qLif T fa R X) := by
  intro t z t' z' h h2
  rcases h with ⟨a, c, d⟩ | ⟨a, c, d⟩
  · rcases h2 with ⟨a', c', d'⟩ | ⟨a', c', d'⟩
    · exact ⟨by omega, liP.eq d d'⟩
    · exfalso; first | (unfold hsS at *; omega) | omega | grind
  · rcases h2 with ⟨a', c', d'⟩ | ⟨a', c', d'⟩
    · exfalso; first | (unfold hsS at *; omega) | omega | grind
    · exact ⟨by omega, by omega⟩

theorem u_Nee {fa R X : Int → Int} {T s : Int}  : U2 (qNee T fa R X s) := by
  intro t z t' z' h h2
  rcases h with ⟨a, c, d⟩ | ⟨a, c, d⟩
  · rcases h2 with ⟨a', c', d'⟩ | ⟨a', c', d'⟩
    · obtain ⟨e, f, g, i, j⟩ := d
      obtain ⟨e', f', g', i', j'⟩ := d'
      obtain rfl : e = e' := bsP.eq g g'
      obtain rfl : f = f' := bsP.eq i i'
      exact ⟨by omega, j.trans j'.symm⟩
    · exfalso; first | (unfold hsS at *; omega) | omega | grind
  · rcases h2 with ⟨a', c', d'⟩ | ⟨a', c', d'⟩
    · exfalso; first | (unfold hsS at *; omega) | omega | grind
    · exact ⟨by omega, by omega⟩

theorem u_Frs {fa R X : Int → Int} {T : Int}  : U2 (qFrs T fa R X) := by
  intro t z t' z' h h2
  rcases h with ⟨a, c, d⟩ | ⟨a, c, d⟩
  · rcases h2 with ⟨a', c', d'⟩ | ⟨a', c', d'⟩
    · obtain ⟨l, f, g⟩ := d
      obtain ⟨l', f', g'⟩ := d'
      obtain rfl : l = l' := FrIs.eq f f'
      exact ⟨by omega, g.trans g'.symm⟩
    · exfalso; first | (unfold hsS at *; omega) | omega | grind
  · rcases h2 with ⟨a', c', d'⟩ | ⟨a', c', d'⟩
    · exfalso; first | (unfold hsS at *; omega) | omega | grind
    · exact ⟨by omega, by omega⟩

theorem u_Fro {fa R X : Int → Int} {T i w : Int} (hV : T = 1 → VdOk fa R X) : U2 (qFro T fa R X i w) := by
  intro t z t' z' h h2
  rcases h with ⟨l, a, b, c, q, d, e, f, g⟩ | ⟨a, c, d⟩ <;> rcases h2 with ⟨l', a', b', c', q', d', e', f', g'⟩ | ⟨a', c', d'⟩
  · obtain rfl : l = l' := FrIs.eq b b'
    have v := hV a.1
    obtain rfl : q = q' := Option.some.inj (d.symm.trans d')
    have hm := b.mem (List.mem_of_getElem? d)
    refine ⟨by omega, ?_⟩
    rcases (show w = 0 ∨ w = 1 ∨ 2 ≤ w by omega) with y | y | y
    · rw [e y, e' y]
    · exact paA_eq v.2.1 (un_dv v.1 v.2.2.2.2.1 hm.1 hm.2) v.2.2.2.1.1 v.2.2.2.1.2 (f y) (f' y)
    · rw [g y, g' y]
  · exact absurd b (a' l a)
  · exact absurd b' (a l' a')
  · exact ⟨by omega, by omega⟩
theorem u_Bea {fa R X : Int → Int} {T : Int} : U2 (qBea T fa R X) := by
  intro t z t' z' h h2
  rcases h with ⟨a, c, l, f, d⟩ | ⟨a, c, d⟩ <;> rcases h2 with ⟨a', c', l', f', d'⟩ | ⟨a', c', d'⟩
  · obtain rfl : l = l' := FrIs.eq f f'
    refine ⟨by omega, ?_⟩
    rcases d with ⟨e, q, hq, hb⟩ | ⟨e, hb⟩ <;> rcases d' with ⟨e', q', hq', hb'⟩ | ⟨e', hb'⟩
    · omega
    · exact absurd hb (hb' q hq)
    · exact absurd hb' (hb q' hq')
    · omega
  · exact absurd a a'
  · exact absurd a' a
  · exact ⟨by omega, by omega⟩
theorem u_Box {R X : Int → Int} {T s up : Int}  : U2 (qBox T R X s up) := by
  intro t z t' z' h h2
  rcases h with ⟨a, c, d⟩ | ⟨a, c, d⟩
  · rcases h2 with ⟨a', c', d'⟩ | ⟨a', c', d'⟩
    · exact ⟨by omega, d.trans d'.symm⟩
    · exfalso; first | (unfold hsS at *; omega) | omega | grind
  · rcases h2 with ⟨a', c', d'⟩ | ⟨a', c', d'⟩
    · exfalso; first | (unfold hsS at *; omega) | omega | grind
    · exact ⟨by omega, by omega⟩

theorem u_Ran {fa R X : Int → Int} {T k s up : Int} (hu : up = 0 ∨ up = 1) : U2 (qRan T fa R X k s up) := by
  intro t z t' z' h h2
  rcases h with ⟨a, b, c, d, e⟩ | ⟨a, b, c, d⟩ | ⟨a, c, d⟩
  · rcases h2 with ⟨a', b', c', d', e'⟩ | ⟨a', b', c', d'⟩ | ⟨a', c', d'⟩
    · rcases hu with y | y
      · exact ⟨by omega, mnP.eq (e y) (e' y)⟩
      · exact ⟨by omega, mxP.eq (d y) (d' y)⟩
    · exfalso; first | (unfold hsS at *; omega) | omega | grind
    · exfalso; first | (unfold hsS at *; omega) | omega | grind
  · rcases h2 with ⟨a', b', c', d', e'⟩ | ⟨a', b', c', d'⟩ | ⟨a', c', d'⟩
    · exfalso; first | (unfold hsS at *; omega) | omega | grind
    · exact ⟨by omega, by omega⟩
    · exfalso; first | (unfold hsS at *; omega) | omega | grind
  · rcases h2 with ⟨a', b', c', d', e'⟩ | ⟨a', b', c', d'⟩ | ⟨a', c', d'⟩
    · exfalso; first | (unfold hsS at *; omega) | omega | grind
    · exfalso; first | (unfold hsS at *; omega) | omega | grind
    · exact ⟨by omega, by omega⟩

theorem u_Way {fa R X : Int → Int} {T k : Int}  : U2 (qWay T fa R X k) := by
  intro t z t' z' h h2
  rcases h with ⟨a, b, c, d⟩ | ⟨a, b, c, d⟩ | ⟨a, c, d⟩
  · rcases h2 with ⟨a', b', c', d'⟩ | ⟨a', b', c', d'⟩ | ⟨a', c', d'⟩
    · exact ⟨by omega, d.trans d'.symm⟩
    · exfalso; first | (unfold hsS at *; omega) | omega | grind
    · exfalso; first | (unfold hsS at *; omega) | omega | grind
  · rcases h2 with ⟨a', b', c', d'⟩ | ⟨a', b', c', d'⟩ | ⟨a', c', d'⟩
    · exfalso; first | (unfold hsS at *; omega) | omega | grind
    · exact ⟨by omega, by omega⟩
    · exfalso; first | (unfold hsS at *; omega) | omega | grind
  · rcases h2 with ⟨a', b', c', d'⟩ | ⟨a', b', c', d'⟩ | ⟨a', c', d'⟩
    · exfalso; first | (unfold hsS at *; omega) | omega | grind
    · exfalso; first | (unfold hsS at *; omega) | omega | grind
    · exact ⟨by omega, by omega⟩

theorem u_Fli {fa A B Cn R X : Int → Int} {T w : Int} (hV : T = 1 → VdOk fa R X ∧ faOk A B Cn R) : U2 (qFli T fa A B Cn R X w) := by
  intro t z t' z' h h2
  rcases h with ⟨a, b, c, e, f, g, i, j, k⟩ | ⟨a, c, d⟩
  · rcases h2 with ⟨a', b', c', e', f', g', i', j', k'⟩ | ⟨a', c', d'⟩
    · refine ⟨by omega, ?_⟩
      have v := hV a
      rcases (show w = 0 ∨ w = 1 ∨ w = 2 ∨ w = 3 ∨ w = 4 ∨ w = 5 by omega) with y | y | y | y | y | y
      · rw [e y, e' y]
      · rw [f y, f' y]
      · rw [g y, g' y]
      · rw [i y, i' y]
      · rw [j y, j' y]
      · exact pfA_eq v.1 v.2 (k y) (k' y)
    · exfalso; first | (unfold hsS at *; omega) | omega | grind
  · rcases h2 with ⟨a', b', c', e', f', g', i', j', k'⟩ | ⟨a', c', d'⟩
    · exfalso; first | (unfold hsS at *; omega) | omega | grind
    · exact ⟨by omega, by omega⟩

theorem u_Tic {fa A B Cn R X : Int → Int} {T i w : Int}  : U2 (qTic T fa A B Cn R X i w) := by
  intro t z t' z' h h2
  rcases h with ⟨a, c, q, d, e⟩ | ⟨a, c, d⟩
  · rcases h2 with ⟨a', c', q', d', e'⟩ | ⟨a', c', d'⟩
    · obtain rfl : q = q' := Option.some.inj (d.symm.trans d')
      exact ⟨by omega, e.trans e'.symm⟩
    · exfalso; first | (unfold hsS at *; omega) | omega | grind
  · rcases h2 with ⟨a', c', q', d', e'⟩ | ⟨a', c', d'⟩
    · exfalso; first | (unfold hsS at *; omega) | omega | grind
    · exact ⟨by omega, by omega⟩

theorem u_Ris {fa A B Cn R X : Int → Int} {T s w : Int} (hV : T = 1 → VdOk fa R X ∧ faOk A B Cn R) : U2 (qRis T fa A B Cn R X s w) := by
  intro t z t' z' h h2
  rcases h with ⟨a, b, c, d⟩ | ⟨a, b, c, d⟩ | ⟨a, c, d⟩
  · rcases h2 with ⟨a', b', c', d'⟩ | ⟨a', b', c', d'⟩ | ⟨a', c', d'⟩
    · have v := hV a.1
      exact ⟨by omega, pfA_eq v.1 v.2 d d'⟩
    · exfalso; first | (unfold hsS at *; omega) | omega | grind
    · exfalso; first | (unfold hsS at *; omega) | omega | grind
  · rcases h2 with ⟨a', b', c', d'⟩ | ⟨a', b', c', d'⟩ | ⟨a', c', d'⟩
    · exfalso; first | (unfold hsS at *; omega) | omega | grind
    · exact ⟨by omega, by omega⟩
    · exfalso; first | (unfold hsS at *; omega) | omega | grind
  · rcases h2 with ⟨a', b', c', d'⟩ | ⟨a', b', c', d'⟩ | ⟨a', c', d'⟩
    · exfalso; first | (unfold hsS at *; omega) | omega | grind
    · exfalso; first | (unfold hsS at *; omega) | omega | grind
    · exact ⟨by omega, by omega⟩

theorem u_Rkt {fa A B Cn R X : Int → Int} {T : Int} (hV : T = 1 → VdOk fa R X ∧ faOk A B Cn R) : U2 (qRkt T fa A B Cn R X) := by
  intro t z t' z' h h2
  rcases h with ⟨a, c, d⟩ | ⟨a, c, d⟩
  · rcases h2 with ⟨a', c', d'⟩ | ⟨a', c', d'⟩
    · have v := hV a
      exact ⟨by omega, rkP_eq (fun i x y ⟨q, h1, h3⟩ ⟨q2, h4, h5⟩ => by obtain rfl : q = q2 := Option.some.inj (h1.symm.trans h4); exact pfA_eq v.1 v.2 h3 h5) d d'⟩
    · exfalso; first | (unfold hsS at *; omega) | omega | grind
  · rcases h2 with ⟨a', c', d'⟩ | ⟨a', c', d'⟩
    · exfalso; first | (unfold hsS at *; omega) | omega | grind
    · exact ⟨by omega, by omega⟩

theorem u_Arr {fa A B Cn R X : Int → Int} {T : Int}  : U2 (qArr T fa A B Cn R X) := by
  intro t z t' z' h h2
  rcases h with ⟨a, c, d⟩ | ⟨a, c, d⟩
  · rcases h2 with ⟨a', c', d'⟩ | ⟨a', c', d'⟩
    · refine ⟨by omega, ?_⟩
      rcases d with ⟨e, f⟩ | ⟨e, f⟩ <;> rcases d' with ⟨e', f'⟩ | ⟨e', f'⟩
      · omega
      · exact absurd f f'
      · exact absurd f' f
      · omega
    · exfalso; first | (unfold hsS at *; omega) | omega | grind
  · rcases h2 with ⟨a', c', d'⟩ | ⟨a', c', d'⟩
    · exfalso; first | (unfold hsS at *; omega) | omega | grind
    · exact ⟨by omega, by omega⟩

theorem u_Flo {fa A B Cn R X : Int → Int} {T up : Int}  : U2 (qFlo T fa A B Cn R X up) := by
  intro t z t' z' h h2
  rcases h with ⟨a, c, d⟩ | ⟨a, c, d⟩
  · rcases h2 with ⟨a', c', d'⟩ | ⟨a', c', d'⟩
    · exact ⟨by omega, d.trans d'.symm⟩
    · exfalso; first | (unfold hsS at *; omega) | omega | grind
  · rcases h2 with ⟨a', c', d'⟩ | ⟨a', c', d'⟩
    · exfalso; first | (unfold hsS at *; omega) | omega | grind
    · exact ⟨by omega, by omega⟩

theorem u_Wek {fa R X : Int → Int} {T i z z' : Int} (h : qWek T fa R X i z) (h2 : qWek T fa R X i z') : z = z' := by
  rcases h with ⟨a, b⟩ | ⟨a, b⟩ <;> rcases h2 with ⟨a', b'⟩ | ⟨a', b'⟩
  · exact wkP_eq b b'
  · exact absurd a a'
  · exact absurd a' a
  · omega
/-- an act: one trouble, one answer, one kind of change, one row that comes of it -/
def U4 (B : Int → Int → Int → (Int → Int) → Prop) : Prop := ∀ t z c Y t' z' c' Y', B t z c Y → B t' z' c' Y' → t = t' ∧ z = z' ∧ c = c' ∧ (c ≠ 0 → ∀ j : Int, 0 ≤ j → j < 11 → Y j = Y' j)
theorem w_Loa {fa R X : Int → Int} {T s w : Int}  : U4 (qLoa T fa R X s w) := by
  intro t z c Y t' z' c' Y' h h2
  rcases h with ⟨a, b, d, e, f⟩ | ⟨a, g, b, d, e⟩ | ⟨a, b, d, e⟩
  · rcases h2 with ⟨a9, b9, d9, e9, f9⟩ | ⟨a9, g9, b9, d9, e9⟩ | ⟨a9, b9, d9, e9⟩
    · exact ⟨by omega, d.trans d9.symm, by omega, fun _ j j0 j1 => by rw [f j j0 j1, f9 j j0 j1]⟩
    · exfalso; first | (unfold hsS at *; omega) | omega | grind
    · exfalso; first | (unfold hsS at *; omega) | omega | grind
  · rcases h2 with ⟨a9, b9, d9, e9, f9⟩ | ⟨a9, g9, b9, d9, e9⟩ | ⟨a9, b9, d9, e9⟩
    · exfalso; first | (unfold hsS at *; omega) | omega | grind
    · exact ⟨by omega, by omega, by omega, fun y => absurd e y⟩
    · exfalso; first | (unfold hsS at *; omega) | omega | grind
  · rcases h2 with ⟨a9, b9, d9, e9, f9⟩ | ⟨a9, g9, b9, d9, e9⟩ | ⟨a9, b9, d9, e9⟩
    · exfalso; first | (unfold hsS at *; omega) | omega | grind
    · exfalso; first | (unfold hsS at *; omega) | omega | grind
    · exact ⟨by omega, by omega, by omega, fun y => absurd e y⟩

theorem w_Bou {fa R X : Int → Int} {T s lo hi : Int}  : U4 (qBou T fa R X s lo hi) := by
  intro t z c Y t' z' c' Y' h h2
  rcases h with ⟨a, b, d, e, f⟩ | ⟨a, g, b, d, e⟩ | ⟨a, b, d, e⟩
  · rcases h2 with ⟨a9, b9, d9, e9, f9⟩ | ⟨a9, g9, b9, d9, e9⟩ | ⟨a9, b9, d9, e9⟩
    · exact ⟨by omega, d.trans d9.symm, by omega, fun _ j j0 j1 => by rw [f j j0 j1, f9 j j0 j1]⟩
    · exfalso; first | (unfold hsS at *; omega) | omega | grind
    · exfalso; first | (unfold hsS at *; omega) | omega | grind
  · rcases h2 with ⟨a9, b9, d9, e9, f9⟩ | ⟨a9, g9, b9, d9, e9⟩ | ⟨a9, b9, d9, e9⟩
    · exfalso; first | (unfold hsS at *; omega) | omega | grind
    · exact ⟨by omega, by omega, by omega, fun y => absurd e y⟩
    · exfalso; first | (unfold hsS at *; omega) | omega | grind
  · rcases h2 with ⟨a9, b9, d9, e9, f9⟩ | ⟨a9, g9, b9, d9, e9⟩ | ⟨a9, b9, d9, e9⟩
    · exfalso; first | (unfold hsS at *; omega) | omega | grind
    · exfalso; first | (unfold hsS at *; omega) | omega | grind
    · exact ⟨by omega, by omega, by omega, fun y => absurd e y⟩

theorem w_Put {X : Int → Int} {T p most v : Int}  : U4 (qPut T X p most v) := by
  intro t z c Y t' z' c' Y' h h2
  rcases h with ⟨a, b, d, e, f⟩ | ⟨a, g, b, d, e⟩ | ⟨a, b, d, e⟩
  · rcases h2 with ⟨a9, b9, d9, e9, f9⟩ | ⟨a9, g9, b9, d9, e9⟩ | ⟨a9, b9, d9, e9⟩
    · exact ⟨by omega, d.trans d9.symm, by omega, fun _ j j0 j1 => by rw [f j j0 j1, f9 j j0 j1]⟩
    · exfalso; first | (unfold hsS at *; omega) | omega | grind
    · exfalso; first | (unfold hsS at *; omega) | omega | grind
  · rcases h2 with ⟨a9, b9, d9, e9, f9⟩ | ⟨a9, g9, b9, d9, e9⟩ | ⟨a9, b9, d9, e9⟩
    · exfalso; first | (unfold hsS at *; omega) | omega | grind
    · exact ⟨by omega, by omega, by omega, fun y => absurd e y⟩
    · exfalso; first | (unfold hsS at *; omega) | omega | grind
  · rcases h2 with ⟨a9, b9, d9, e9, f9⟩ | ⟨a9, g9, b9, d9, e9⟩ | ⟨a9, b9, d9, e9⟩
    · exfalso; first | (unfold hsS at *; omega) | omega | grind
    · exfalso; first | (unfold hsS at *; omega) | omega | grind
    · exact ⟨by omega, by omega, by omega, fun y => absurd e y⟩

theorem w_Und {Pf : Int → Int} {T K : Int}  : U4 (qUnd T K Pf) := by
  intro t z c Y t' z' c' Y' h h2
  rcases h with ⟨a, b, d, e, f⟩ | ⟨a, b, d, e⟩
  · rcases h2 with ⟨a9, b9, d9, e9, f9⟩ | ⟨a9, b9, d9, e9⟩
    · exact ⟨by omega, d.trans d9.symm, by omega, fun _ j j0 j1 => by rw [f j j0 j1, f9 j j0 j1]⟩
    · exfalso; first | (unfold hsS at *; omega) | omega | grind
  · rcases h2 with ⟨a9, b9, d9, e9, f9⟩ | ⟨a9, b9, d9, e9⟩
    · exfalso; first | (unfold hsS at *; omega) | omega | grind
    · exact ⟨by omega, by omega, by omega, fun y => absurd e y⟩

theorem w_Ado {fa R X : Int → Int} {T : Int} : U4 (qAdo T fa R X) := by
  intro t z c Y t' z' c' Y' h h2
  rcases h with ⟨a, b, hb, d⟩ | ⟨a, b, d, e⟩ <;> rcases h2 with ⟨a9, b9, hb9, d9⟩ | ⟨a9, b9, d9, e9⟩
  · obtain rfl : b = b9 := bsP.eq hb hb9
    rcases d with ⟨u1, u2, u3, u4, u5⟩ | ⟨u1, u2, u3, u4⟩ <;> rcases d9 with ⟨v1, v2, v3, v4, v5⟩ | ⟨v1, v2, v3, v4⟩
    · exact ⟨by omega, u3.trans v3.symm, by omega, fun _ j j0 j1 => by rw [u5 j j0 j1, v5 j j0 j1]⟩
    · omega
    · omega
    · exact ⟨by omega, by omega, by omega, fun y => absurd u4 y⟩
  · exact absurd a a9
  · exact absurd a9 a
  · exact ⟨by omega, by omega, by omega, fun y => absurd e y⟩
