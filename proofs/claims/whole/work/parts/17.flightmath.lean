/-! a rocket that is told, in the class's cells; the flight, tick by tick, as a list -/
def RkIs (m : Mem) (k kf ks kt kc : Nat) : Prop := (1 ≤ m k 5 ∧ m k 5 ≤ 3) ∧ FaOk (m kf) (m k 5) ∧ (2 ≤ m k 2 ∧ m k 2 ≤ 99) ∧ (1 ≤ m k 3 ∧ m k 3 < m k 2) ∧ (0 ≤ m k 4 ∧ m k 4 ≤ 99) ∧ (0 ≤ m k 6 ∧ m k 6 ≤ 6) ∧ (∀ i : Int, 0 ≤ i → i < m k 6 → (0 ≤ m ks i ∧ m ks i < m k 5) ∧ (1 ≤ m kt i ∧ m kt i ≤ 99) ∧ (1 ≤ m kc i ∧ m kc i ≤ 9)) ∧ (1 ≤ m k 0 ∧ m k 0 ≤ 40) ∧ (1 ≤ m k 1 ∧ m k 1 ≤ 12)
theorem RkIs.fr {m m1 : Mem} {k kf ks kt kc : Nat} (h : RkIs m k kf ks kt kc) (e1 : m1 k = m k) (e2 : m1 kf = m kf) (e3 : m1 ks = m ks) (e4 : m1 kt = m kt) (e5 : m1 kc = m kc) : RkIs m1 k kf ks kt kc := by
  unfold RkIs at h ⊢; rw [e1, e2, e3, e4, e5]; exact h
abbrev Tk : Type := Int × Int × Int × Int × Int × Int
def TkL (m : Mem) (f fs ft fa fb fr fp : Nat) (l : List Tk) : Prop := m f 7 = l.length ∧ ∀ (i : Nat) (q : Tk), l[i]? = some q → m fs i = q.1 ∧ m ft i = q.2.1 ∧ m fa i = q.2.2.1 ∧ m fb i = q.2.2.2.1 ∧ m fr i = q.2.2.2.2.1 ∧ m fp i = q.2.2.2.2.2
/-- so many engines fail in a tick of the burn: of solid ones none -/
def flZ (fa A B Cn : Int → Int) (nF : Nat) (s xt t : Int) : Int := if fa (s * 9 + 0) = 2 then 0 else faC A B Cn s t nF + (if t = xt then 1 else 0)
def stopZ (fl : Int → Int) (t eng : Int) : Int := if eng < fl t then eng else fl t
def brnZ (flow e left : Int) : Int := if left < flow * e then left else flow * e
/-- a stage's burn: its ticks, and what is left of fuel, engines, mass -/
def buF (s : Int) (fl : Int → Int) (flow thr : Int) : Nat → Int → Int → Int → Int → List Tk × Int × Int × Int
  | 0, _, left, eng, fy => ([], left, eng, fy)
  | n + 1, t, left, eng, fy => if 0 < left ∧ 0 < eng then
      ((s, t, fy, fy - brnZ flow (eng - stopZ fl t eng) left, eng - stopZ fl t eng, 100 * (thr * (eng - stopZ fl t eng)) / fy) :: (buF s fl flow thr n (t + 1) (left - brnZ flow (eng - stopZ fl t eng) left) (eng - stopZ fl t eng) (fy - brnZ flow (eng - stopZ fl t eng) left)).1,
       (buF s fl flow thr n (t + 1) (left - brnZ flow (eng - stopZ fl t eng) left) (eng - stopZ fl t eng) (fy - brnZ flow (eng - stopZ fl t eng) left)).2)
    else ([], left, eng, fy)
theorem buF_s {s : Int} {fl : Int → Int} {flow thr : Int} {n : Nat} {t left eng fy : Int} (h : 0 < left ∧ 0 < eng) : buF s fl flow thr (n + 1) t left eng fy =
    ((s, t, fy, fy - brnZ flow (eng - stopZ fl t eng) left, eng - stopZ fl t eng, 100 * (thr * (eng - stopZ fl t eng)) / fy) :: (buF s fl flow thr n (t + 1) (left - brnZ flow (eng - stopZ fl t eng) left) (eng - stopZ fl t eng) (fy - brnZ flow (eng - stopZ fl t eng) left)).1,
       (buF s fl flow thr n (t + 1) (left - brnZ flow (eng - stopZ fl t eng) left) (eng - stopZ fl t eng) (fy - brnZ flow (eng - stopZ fl t eng) left)).2) := if_pos h
theorem buF_e {s : Int} {fl : Int → Int} {flow thr : Int} {n : Nat} {t left eng fy : Int} (h : ¬ (0 < left ∧ 0 < eng)) : buF s fl flow thr n t left eng fy = ([], left, eng, fy) := by
  cases n with
  | zero => rfl
  | succ n => exact if_neg h
theorem stop_rng {fl : Int → Int} {t eng : Int} (h : 0 ≤ fl t) (he : 0 < eng) : 0 ≤ stopZ fl t eng ∧ stopZ fl t eng ≤ eng := by
  unfold stopZ; split <;> omega
theorem brn_rng {flow e left : Int} (hf : 1 ≤ flow) (he : 0 ≤ e) (hl : 0 < left) : 0 ≤ brnZ flow e left ∧ brnZ flow e left ≤ left ∧ (0 < e → 1 ≤ brnZ flow e left) ∧ (e = 0 → brnZ flow e left = 0) := by
  have h0 : 0 ≤ flow * e := Int.mul_nonneg (by omega) he
  unfold brnZ
  refine ⟨by split <;> omega, by split <;> omega, fun h => ?_, fun h => ?_⟩
  · have h1 : 1 * e ≤ flow * e := Int.mul_le_mul_of_nonneg_right hf he
    split <;> omega
  · subst h; rw [Int.mul_zero]; split <;> omega
theorem buF_len {s : Int} {fl : Int → Int} {flow thr : Int} (hfl : ∀ t, 0 ≤ fl t) (hf : 1 ≤ flow) : ∀ (n : Nat) (t left eng fy : Int), 0 ≤ left → 0 ≤ eng → ((buF s fl flow thr n t left eng fy).1.length : Int) ≤ left + 1 ∧ (eng = 0 → (buF s fl flow thr n t left eng fy).1.length = 0) := by
  intro n
  induction n with
  | zero => intro t left eng fy h0 h1; show (0 : Int) ≤ left + 1 ∧ (eng = 0 → 0 = 0); exact ⟨by omega, fun _ => rfl⟩
  | succ n ih =>
    intro t left eng fy h0 h1
    by_cases c : 0 < left ∧ 0 < eng
    · have a := stop_rng (fl := fl) (t := t) (hfl t) c.2
      have b := brn_rng (flow := flow) (e := eng - stopZ fl t eng) (left := left) hf (by omega) c.1
      rw [buF_s c]
      have d := ih (t + 1) (left - brnZ flow (eng - stopZ fl t eng) left) (eng - stopZ fl t eng) (fy - brnZ flow (eng - stopZ fl t eng) left) (by omega) (by omega)
      refine ⟨?_, fun h => by omega⟩
      show ((_ :: _ : List Tk).length : Int) ≤ _
      rw [List.length_cons]
      by_cases e0 : eng - stopZ fl t eng = 0
      · have := d.2 e0; omega
      · have := b.2.2.1 (by omega); omega
    · rw [buF_e c]; show (0 : Int) ≤ left + 1 ∧ (eng = 0 → 0 = 0); exact ⟨by omega, fun _ => rfl⟩
/-- what is left lies between 0 and what was; what flies less what is left stays -/
theorem buF_end {s : Int} {fl : Int → Int} {flow thr : Int} (hfl : ∀ t, 0 ≤ fl t) (hf : 1 ≤ flow) : ∀ (n : Nat) (t left eng fy : Int), 0 ≤ left → 0 ≤ eng →
    (0 ≤ (buF s fl flow thr n t left eng fy).2.1 ∧ (buF s fl flow thr n t left eng fy).2.1 ≤ left) ∧ (0 ≤ (buF s fl flow thr n t left eng fy).2.2.1 ∧ (buF s fl flow thr n t left eng fy).2.2.1 ≤ eng) ∧ (buF s fl flow thr n t left eng fy).2.2.2 - (buF s fl flow thr n t left eng fy).2.1 = fy - left := by
  intro n
  induction n with
  | zero => intro t left eng fy h0 h1; show (0 ≤ left ∧ left ≤ left) ∧ (0 ≤ eng ∧ eng ≤ eng) ∧ fy - left = fy - left; omega
  | succ n ih =>
    intro t left eng fy h0 h1
    by_cases c : 0 < left ∧ 0 < eng
    · have a := stop_rng (fl := fl) (t := t) (hfl t) c.2
      have b := brn_rng (flow := flow) (e := eng - stopZ fl t eng) (left := left) hf (by omega) c.1
      rw [buF_s c]
      have d := ih (t + 1) (left - brnZ flow (eng - stopZ fl t eng) left) (eng - stopZ fl t eng) (fy - brnZ flow (eng - stopZ fl t eng) left) (by omega) (by omega)
      dsimp only
      omega
    · rw [buF_e c]; show (0 ≤ left ∧ left ≤ left) ∧ (0 ≤ eng ∧ eng ≤ eng) ∧ fy - left = fy - left; omega
def FlN (f fs ft fa fb fr fp : Nat) : Prop := fs = f + 1 ∧ ft = f + 2 ∧ fa = f + 3 ∧ fb = f + 4 ∧ fr = f + 5 ∧ fp = f + 6
/-- one tick written -/
theorem TkL.push {m m1 m2 m3 m4 m5 m6 m7 m8 : Mem} {f fs ft fa fb fr fp : Nat} {l : List Tk} {X s t y z r p : Int} (hn : FlN f fs ft fa fb fr fp) (h : TkL m f fs ft fa fb fr fp l) (e1 : m1 = mup m f 9 X) (e2 : mup m1 fs (m1 f 7) s = m2) (e3 : mup m2 ft (m2 f 7) t = m3) (e4 : mup m3 fa (m3 f 7) y = m4) (e5 : mup m4 fb (m4 f 7) z = m5) (e6 : mup m5 fr (m5 f 7) r = m6) (e7 : mup m6 fp (m6 f 7) p = m7) (e8 : m8 = mup m7 f 7 (m7 f 7 + 1)) :
    TkL m8 f fs ft fa fb fr fp (l ++ [(s, t, y, z, r, p)]) ∧ m8 f 9 = X ∧ m8 f 8 = m f 8 ∧ ∀ q, q ≠ f → q ≠ fs → q ≠ ft → q ≠ fa → q ≠ fb → q ≠ fr → q ≠ fp → m8 q = m q := by
  obtain ⟨rfl, rfl, rfl, rfl, rfl, rfl⟩ := hn
  have f1 : m1 f 7 = m f 7 := by rw [e1, mup_j _ _ (by omega)]
  have f2 : m2 f 7 = m f 7 := by rw [← e2, mup_k _ _ _ (by omega), f1]
  have f3 : m3 f 7 = m f 7 := by rw [← e3, mup_k _ _ _ (by omega), f2]
  have f4 : m4 f 7 = m f 7 := by rw [← e4, mup_k _ _ _ (by omega), f3]
  have f5 : m5 f 7 = m f 7 := by rw [← e5, mup_k _ _ _ (by omega), f4]
  have f6 : m6 f 7 = m f 7 := by rw [← e6, mup_k _ _ _ (by omega), f5]
  have f7 : m7 f 7 = m f 7 := by rw [← e7, mup_k _ _ _ (by omega), f6]
  rw [f1] at e2; rw [f2] at e3; rw [f3] at e4; rw [f4] at e5; rw [f5] at e6; rw [f6] at e7; rw [f7] at e8
  have g : m8 = mup (mup (mup (mup (mup (mup (mup (mup m f 9 X) (f + 1) (m f 7) s) (f + 2) (m f 7) t) (f + 3) (m f 7) y) (f + 4) (m f 7) z) (f + 5) (m f 7) r) (f + 6) (m f 7) p) f 7 (m f 7 + 1) := by rw [e8, ← e7, ← e6, ← e5, ← e4, ← e3, ← e2, e1]
  have r0 : ∀ j : Int, m8 f j = if j = 7 then m f 7 + 1 else if j = 9 then X else m f j := fun j => by simp [g, mup]
  have r1 : ∀ j : Int, m8 (f + 1) j = if j = m f 7 then s else m (f + 1) j := fun j => by simp [g, mup]
  have r2 : ∀ j : Int, m8 (f + 2) j = if j = m f 7 then t else m (f + 2) j := fun j => by simp [g, mup]
  have r3 : ∀ j : Int, m8 (f + 3) j = if j = m f 7 then y else m (f + 3) j := fun j => by simp [g, mup]
  have r4 : ∀ j : Int, m8 (f + 4) j = if j = m f 7 then z else m (f + 4) j := fun j => by simp [g, mup]
  have r5 : ∀ j : Int, m8 (f + 5) j = if j = m f 7 then r else m (f + 5) j := fun j => by simp [g, mup]
  have r6 : ∀ j : Int, m8 (f + 6) j = if j = m f 7 then p else m (f + 6) j := fun j => by simp [g, mup]
  refine ⟨⟨by rw [r0, if_pos rfl, h.1, List.length_append]; rfl, fun i q hq => ?_⟩, by rw [r0, if_neg (by omega), if_pos rfl], by rw [r0, if_neg (by omega), if_neg (by omega)], fun q h0 h1 h2 h3 h4 h5 h6 => by rw [g, mup_k _ _ _ h0, mup_k _ _ _ h6, mup_k _ _ _ h5, mup_k _ _ _ h4, mup_k _ _ _ h3, mup_k _ _ _ h2, mup_k _ _ _ h1, mup_k _ _ _ h0]⟩
  rw [r1, r2, r3, r4, r5, r6, h.1]
  by_cases hi : i < l.length
  · rw [List.getElem?_append_left hi] at hq
    have hne : ¬ (i : Int) = l.length := by omega
    rw [if_neg hne, if_neg hne, if_neg hne, if_neg hne, if_neg hne, if_neg hne]
    exact h.2 i q hq
  · rw [List.getElem?_append_right (by omega)] at hq
    by_cases hj : i = l.length
    · subst hj
      rw [Nat.sub_self] at hq
      cases hq
      rw [if_pos rfl, if_pos rfl, if_pos rfl, if_pos rfl, if_pos rfl, if_pos rfl]
      exact ⟨rfl, rfl, rfl, rfl, rfl, rfl⟩
    · obtain ⟨c, hc⟩ : ∃ c, i - l.length = c + 1 := ⟨i - l.length - 1, by omega⟩
      rw [hc] at hq
      simp at hq
/-- kept as words of their own: a case of omega's a piece otherwise -/
def Ne7 (q a b c d e f g : Nat) : Prop := q ≠ a ∧ q ≠ b ∧ q ≠ c ∧ q ≠ d ∧ q ≠ e ∧ q ≠ f ∧ q ≠ g
def Ne3 (q a b c : Nat) : Prop := q ≠ a ∧ q ≠ b ∧ q ≠ c
