/-! the worlds as the constructors leave them -/
def mC0 : Mem := fun k j => if k = 0 then (if j = 13 then 73 else if j = 14 then 78 else 0) else if k = 3 then (if j = 2 then enZ 27 96 (wdC w_rocket) else if j = 3 then enZ 27 96 (wdC w_stage) else if j = 4 then enZ 27 96 (wdC w_fail) else if j = 5 then enZ 27 96 (wdC w_solid) else if j = 6 then enZ 27 96 (wdC w_oil) else if j = 7 then enZ 27 96 (wdC w_gas) else 0) else if k = 73 ∨ k = 78 then (if j = 0 then 1 else if j = 1 then 1 else if j = 2 then 2 else if j = 3 then 1 else 0) else 0
def mR0 : Mem := fun k j => if k = 0 then (if j = 2 then -1 else 0) else 0
def lw_pl : List Nat := [0, 1, 2, 3, 4, 5, 6, 23, 28, 29, 30, 31, 36, 37, 38, 24, 25, 26, 27, 7, 8, 9, 10, 11, 12, 13, 14, 39, 40, 41, 42, 15, 16, 17, 18, 19, 20, 21, 22, 32, 33, 34, 35, 43, 44, 45, 46, 47, 48, 49, 50, 58, 59, 60, 61, 69, 70, 71, 72, 51, 52, 53, 54, 55, 56, 57, 62, 63, 64, 65, 66, 67, 68, 73, 74, 75, 76, 77, 78, 79, 80, 81, 82]
def lw_or : List Nat := [0, 1, 2, 3, 4, 5, 6, 19, 20, 21, 22, 23, 24, 25, 26, 31, 32, 33, 34, 35, 36, 37, 38, 7, 15, 16, 17, 18, 8, 9, 10, 11, 39, 40, 41, 42, 12, 13, 14, 27, 28, 29, 30, 43, 44, 45, 46, 47, 48, 49, 50, 59, 60, 61, 62, 63, 64, 65, 51, 52, 53, 54, 66, 67, 68, 69, 70, 71, 72, 55, 56, 57, 58, 73, 74, 75, 76, 77, 78, 79, 80, 81, 82]
theorem lw_plor : ∀ i, i < 83 → lw_or.getD (lw_pl.getD i 0) 0 = i := by decide +kernel
theorem lw_pl83 : ∀ i, i < 83 → lw_pl.getD i 0 < 83 := by decide +kernel
theorem lk_0 : LK 0 mC0 mR0 := by
  refine ⟨73, 74, 75, 76, 77, 78, 79, 80, 81, 82, ⟨⟨?_, rfl, Or.inl rfl, by decide, by decide⟩, ?_, by decide, rfl, rfl, ⟨rfl, rfl, rfl, rfl, rfl, rfl⟩, ?_⟩, ⟨⟨by decide, by decide⟩, rfl, fun _ _ _ => rfl⟩, ⟨⟨by decide, by decide⟩, rfl, rfl, rfl, rfl⟩, ⟨by decide, by decide⟩, ⟨by decide, by decide⟩, fun _ => rfl, fun h => ?_⟩
  · unfold RocketAt; decide
  · unfold RocketAt; decide
  · exact fun j _ _ => ⟨Int.le_refl 0, (by decide : (0 : Int) ≤ 255)⟩
  · exact absurd h (by decide)
theorem pl_P {w : Wd} {m : Mem} {ws : va_W} {H : Heap} (g : Nat → Nat) (h : ∀ k, k < w.2.2.2.1 → ws[g k]? = some (w.2.2.1 k, wE w k (m k))) (hP : va_P w.1 clsAll ws H) : va_P w.1 clsAll (wG w m) H := fun k q hk => by
  have hm := wG_mem hk
  rw [wG_get hm.1] at hk
  exact hP (g k) q ((h k hm.1).trans hk)
theorem pl_I {w : Wd} {m : Mem} {ws : va_W} {A : Nat → Prop} (g : Nat → Nat) (h : ∀ k, k < w.2.2.2.1 → ws[g k]? = some (w.2.2.1 k, wE w k (m k))) (hg : ∀ i j, i < w.2.2.2.1 → j < w.2.2.2.1 → g i = g j → i = j) (hD : va_D A ws) : wI w := fun i j hi hj e => hg i j hi hj (hD.1 _ _ _ _ (h i hi) (h j hj) e)
def lw_aa (al : List Nat) : Nat → Nat := fun k => al.getD (lw_pl.getD k 0) 0
def lw_ab (al : List Nat) : Nat → Nat := fun k => al.getD k 0
set_option maxRecDepth 100000 in
set_option maxHeartbeats 8000000 in
theorem lw_wsC {D : va_G} {cy : Nat → ClassId} {ad : Nat → Nat} (a0 q1 g2 q3 g4 f5 f6 q7 g8 g9 g10 q11 g12 g13 g14 q15 g16 g17 g18 q19 g20 g21 g22 q23 g24 g25 g26 g27 q28 g29 g30 g31 g32 g33 g34 g35 q36 g37 g38 g39 g40 g41 g42 g43 g44 g45 g46 g47 g48 g49 g50 q51 g52 g53 g54 g55 g56 g57 g58 g59 g60 g61 q62 g63 g64 g65 g66 g67 g68 g69 g70 g71 g72 q73 g74 g75 g76 g77 q78 g79 g80 g81 g82 : Nat) : ∀ k, k < 83 → ([(a0, .inr (10, [.ref q1, .ref q3, .ref f5, .ref f6, .ref q7, .ref q11, .ref q15, .ref q19, .ref q23, .ref q28, .ref q36, .ref q51, .ref q62, .ref q73, .ref q78, .int (iz 0), .int (iz 0), .int (iz 0), .int (iz 0), .int (iz 0)])), (q1, .inr (8, [.ref g2, .int (iz 0), .int (iz 0), .int (iz 0), .long (lz 0), .int (iz 0), .int (iz 0)])), (g2, .inl (cy 0, 700, .inl (fun _ => iz 0))), (q3, .inr (5, [.ref q1, .ref g4, .long (lz (enZ 27 96 (wdC w_rocket))), .long (lz (enZ 27 96 (wdC w_stage))), .long (lz (enZ 27 96 (wdC w_fail))), .long (lz (enZ 27 96 (wdC w_solid))), .long (lz (enZ 27 96 (wdC w_oil))), .long (lz (enZ 27 96 (wdC w_gas))), .int (iz 0), .int (iz 0), .int (iz 0), .int (iz 0)])), (g4, .inl (cy 1, 3, .inr (.inl (fun _ => lz 0)))), (f5, .inl (cy 0, 11, .inl (fun _ => iz 0))), (f6, .inl (cy 0, 110, .inl (fun _ => iz 0))), (q7, .inr (9, [.ref g8, .ref g9, .ref g10, .int (iz 0)])), (g8, .inl (cy 0, 3, .inl (fun _ => iz 0))), (g9, .inl (cy 0, 3, .inl (fun _ => iz 0))), (g10, .inl (cy 0, 3, .inl (fun _ => iz 0))), (q11, .inr (9, [.ref g12, .ref g13, .ref g14, .int (iz 0)])), (g12, .inl (cy 0, 3, .inl (fun _ => iz 0))), (g13, .inl (cy 0, 3, .inl (fun _ => iz 0))), (g14, .inl (cy 0, 3, .inl (fun _ => iz 0))), (q15, .inr (4, [.ref g16, .ref g17, .ref g18, .int (iz 0)])), (g16, .inl (cy 0, 8, .inl (fun _ => iz 0))), (g17, .inl (cy 0, 8, .inl (fun _ => iz 0))), (g18, .inl (cy 0, 8, .inl (fun _ => iz 0))), (q19, .inr (4, [.ref g20, .ref g21, .ref g22, .int (iz 0)])), (g20, .inl (cy 0, 8, .inl (fun _ => iz 0))), (g21, .inl (cy 0, 8, .inl (fun _ => iz 0))), (g22, .inl (cy 0, 8, .inl (fun _ => iz 0))), (q23, .inr (7, [.ref g24, .ref g26])), (g24, .inr (0, [.ref g25, .int (iz 0)])), (g25, .inl (cy 1, 16, .inr (.inl (fun _ => lz 0)))), (g26, .inr (0, [.ref g27, .int (iz 0)])), (g27, .inl (cy 1, 16, .inr (.inl (fun _ => lz 0)))), (q28, .inr (1, [.ref g29, .ref g30, .ref g31, .ref g32, .ref q23, .int (iz 0)])), (g29, .inl (cy 0, 4913, .inl (fun _ => iz 0))), (g30, .inl (cy 0, 3, .inl (fun _ => iz 0))), (g31, .inl (cy 0, 3, .inl (fun _ => iz 0))), (g32, .inr (4, [.ref g33, .ref g34, .ref g35, .int (iz 0)])), (g33, .inl (cy 0, 8, .inl (fun _ => iz 0))), (g34, .inl (cy 0, 8, .inl (fun _ => iz 0))), (g35, .inl (cy 0, 8, .inl (fun _ => iz 0))), (q36, .inr (3, [.ref g37, .ref g38, .int (iz 0), .int (iz 0), .ref q28, .ref q23, .ref g39, .ref g43, .ref g47])), (g37, .inl (cy 0, 400, .inl (fun _ => iz 0))), (g38, .inl (cy 0, 400, .inl (fun _ => iz 0))), (g39, .inr (9, [.ref g40, .ref g41, .ref g42, .int (iz 0)])), (g40, .inl (cy 0, 3, .inl (fun _ => iz 0))), (g41, .inl (cy 0, 3, .inl (fun _ => iz 0))), (g42, .inl (cy 0, 3, .inl (fun _ => iz 0))), (g43, .inr (4, [.ref g44, .ref g45, .ref g46, .int (iz 0)])), (g44, .inl (cy 0, 8, .inl (fun _ => iz 0))), (g45, .inl (cy 0, 8, .inl (fun _ => iz 0))), (g46, .inl (cy 0, 8, .inl (fun _ => iz 0))), (g47, .inr (4, [.ref g48, .ref g49, .ref g50, .int (iz 0)])), (g48, .inl (cy 0, 8, .inl (fun _ => iz 0))), (g49, .inl (cy 0, 8, .inl (fun _ => iz 0))), (g50, .inl (cy 0, 8, .inl (fun _ => iz 0))), (q51, .inr (2, [.ref g52, .ref g53, .ref g54, .ref g55, .ref g56, .ref g57, .ref g58, .int (iz 0), .int (iz 0), .int (iz 0)])), (g52, .inl (cy 0, 51, .inl (fun _ => iz 0))), (g53, .inl (cy 0, 51, .inl (fun _ => iz 0))), (g54, .inl (cy 0, 51, .inl (fun _ => iz 0))), (g55, .inl (cy 0, 51, .inl (fun _ => iz 0))), (g56, .inl (cy 0, 51, .inl (fun _ => iz 0))), (g57, .inl (cy 0, 51, .inl (fun _ => iz 0))), (g58, .inr (4, [.ref g59, .ref g60, .ref g61, .int (iz 0)])), (g59, .inl (cy 0, 8, .inl (fun _ => iz 0))), (g60, .inl (cy 0, 8, .inl (fun _ => iz 0))), (g61, .inl (cy 0, 8, .inl (fun _ => iz 0))), (q62, .inr (2, [.ref g63, .ref g64, .ref g65, .ref g66, .ref g67, .ref g68, .ref g69, .int (iz 0), .int (iz 0), .int (iz 0)])), (g63, .inl (cy 0, 51, .inl (fun _ => iz 0))), (g64, .inl (cy 0, 51, .inl (fun _ => iz 0))), (g65, .inl (cy 0, 51, .inl (fun _ => iz 0))), (g66, .inl (cy 0, 51, .inl (fun _ => iz 0))), (g67, .inl (cy 0, 51, .inl (fun _ => iz 0))), (g68, .inl (cy 0, 51, .inl (fun _ => iz 0))), (g69, .inr (4, [.ref g70, .ref g71, .ref g72, .int (iz 0)])), (g70, .inl (cy 0, 8, .inl (fun _ => iz 0))), (g71, .inl (cy 0, 8, .inl (fun _ => iz 0))), (g72, .inl (cy 0, 8, .inl (fun _ => iz 0))), (q73, .inr (6, [.int (iz 1), .int (iz 1), .int (iz 2), .int (iz 1), .int (iz 0), .int (iz 0), .int (iz 0), .ref g74, .ref g75, .ref g76, .ref g77])), (g74, .inl (cy 0, 27, .inl (fun _ => iz 0))), (g75, .inl (cy 0, 6, .inl (fun _ => iz 0))), (g76, .inl (cy 0, 6, .inl (fun _ => iz 0))), (g77, .inl (cy 0, 6, .inl (fun _ => iz 0))), (q78, .inr (6, [.int (iz 1), .int (iz 1), .int (iz 2), .int (iz 1), .int (iz 0), .int (iz 0), .int (iz 0), .ref g79, .ref g80, .ref g81, .ref g82])), (g79, .inl (cy 0, 27, .inl (fun _ => iz 0))), (g80, .inl (cy 0, 6, .inl (fun _ => iz 0))), (g81, .inl (cy 0, 6, .inl (fun _ => iz 0))), (g82, .inl (cy 0, 6, .inl (fun _ => iz 0)))] : va_W)[lw_pl.getD k 0]? = some (lw_aa [a0, q1, g2, q3, g4, f5, f6, q7, g8, g9, g10, q11, g12, g13, g14, q15, g16, g17, g18, q19, g20, g21, g22, q23, g24, g25, g26, g27, q28, g29, g30, g31, g32, g33, g34, g35, q36, g37, g38, g39, g40, g41, g42, g43, g44, g45, g46, g47, g48, g49, g50, q51, g52, g53, g54, g55, g56, g57, g58, g59, g60, g61, q62, g63, g64, g65, g66, g67, g68, g69, g70, g71, g72, q73, g74, g75, g76, g77, q78, g79, g80, g81, g82] k, wE (wC D cy (lw_aa [a0, q1, g2, q3, g4, f5, f6, q7, g8, g9, g10, q11, g12, g13, g14, q15, g16, g17, g18, q19, g20, g21, g22, q23, g24, g25, g26, g27, q28, g29, g30, g31, g32, g33, g34, g35, q36, g37, g38, g39, g40, g41, g42, g43, g44, g45, g46, g47, g48, g49, g50, q51, g52, g53, g54, g55, g56, g57, g58, g59, g60, g61, q62, g63, g64, g65, g66, g67, g68, g69, g70, g71, g72, q73, g74, g75, g76, g77, q78, g79, g80, g81, g82]) ad) k (mC0 k)) := fun k hk => match k, hk with
  | 0, _ => rfl
  | 1, _ => rfl
  | 2, _ => rfl
  | 3, _ => rfl
  | 4, _ => rfl
  | 5, _ => rfl
  | 6, _ => rfl
  | 7, _ => rfl
  | 8, _ => rfl
  | 9, _ => rfl
  | 10, _ => rfl
  | 11, _ => rfl
  | 12, _ => rfl
  | 13, _ => rfl
  | 14, _ => rfl
  | 15, _ => rfl
  | 16, _ => rfl
  | 17, _ => rfl
  | 18, _ => rfl
  | 19, _ => rfl
  | 20, _ => rfl
  | 21, _ => rfl
  | 22, _ => rfl
  | 23, _ => rfl
  | 24, _ => rfl
  | 25, _ => rfl
  | 26, _ => rfl
  | 27, _ => rfl
  | 28, _ => rfl
  | 29, _ => rfl
  | 30, _ => rfl
  | 31, _ => rfl
  | 32, _ => rfl
  | 33, _ => rfl
  | 34, _ => rfl
  | 35, _ => rfl
  | 36, _ => rfl
  | 37, _ => rfl
  | 38, _ => rfl
  | 39, _ => rfl
  | 40, _ => rfl
  | 41, _ => rfl
  | 42, _ => rfl
  | 43, _ => rfl
  | 44, _ => rfl
  | 45, _ => rfl
  | 46, _ => rfl
  | 47, _ => rfl
  | 48, _ => rfl
  | 49, _ => rfl
  | 50, _ => rfl
  | 51, _ => rfl
  | 52, _ => rfl
  | 53, _ => rfl
  | 54, _ => rfl
  | 55, _ => rfl
  | 56, _ => rfl
  | 57, _ => rfl
  | 58, _ => rfl
  | 59, _ => rfl
  | 60, _ => rfl
  | 61, _ => rfl
  | 62, _ => rfl
  | 63, _ => rfl
  | 64, _ => rfl
  | 65, _ => rfl
  | 66, _ => rfl
  | 67, _ => rfl
  | 68, _ => rfl
  | 69, _ => rfl
  | 70, _ => rfl
  | 71, _ => rfl
  | 72, _ => rfl
  | 73, _ => rfl
  | 74, _ => rfl
  | 75, _ => rfl
  | 76, _ => rfl
  | 77, _ => rfl
  | 78, _ => rfl
  | 79, _ => rfl
  | 80, _ => rfl
  | 81, _ => rfl
  | 82, _ => rfl
  | k + 83, hk => absurd hk (by omega)
set_option maxRecDepth 100000 in
set_option maxHeartbeats 8000000 in
theorem lw_wsR {D : va_G} {cy : Nat → ClassId} {ad : Nat → Nat} (a0 f1 f2 f3 f4 f5 f6 f7 f8 f9 f10 f11 f12 f13 f14 f15 f16 f17 f18 f19 f20 f21 f22 f23 f24 f25 : Nat) : ∀ k, k < 26 → ([(a0, .inr (11, [.int (iz 0), .int (iz 0), .int (iz (-1)), .ref f1, .ref f2, .ref f3, .ref f4, .ref f5, .int (iz 0), .int (iz 0), .int (iz 0), .int (iz 0), .int (iz 0), .int (iz 0), .int (iz 0), .int (iz 0), .int (iz 0), .int (iz 0), .int (iz 0), .int (iz 0), .int (iz 0), .ref f6, .ref f7, .int (iz 0), .ref f8, .int (iz 0), .int (iz 0), .int (iz 0), .int (iz 0), .int (iz 0), .int (iz 0), .int (iz 0), .long (lz 0), .ref f9, .int (iz 0), .ref f10, .ref f11, .int (iz 0), .int (iz 0), .ref f12, .ref f13, .ref f14, .ref f15, .int (iz 0), .int (iz 0), .int (iz 0), .int (iz 0), .ref f16, .ref f17, .ref f18, .ref f19, .int (iz 0), .ref f20, .ref f21, .ref f22, .ref f23, .ref f24, .ref f25, .int (iz 0), .int (iz 0), .int (iz 0)])), (f1, .inl (cy 0, 27, .inl (fun _ => iz 0))), (f2, .inl (cy 0, 18, .inl (fun _ => iz 0))), (f3, .inl (cy 0, 27, .inl (fun _ => iz 0))), (f4, .inl (cy 0, 18, .inl (fun _ => iz 0))), (f5, .inl (cy 1, 3, .inr (.inl (fun _ => lz 0)))), (f6, .inl (cy 0, 11, .inl (fun _ => iz 0))), (f7, .inl (cy 0, 110, .inl (fun _ => iz 0))), (f8, .inl (cy 2, 700, .inl (fun _ => iz 0))), (f9, .inl (cy 0, 3, .inl (fun _ => iz 0))), (f10, .inl (cy 0, 240, .inl (fun _ => iz 0))), (f11, .inl (cy 0, 240, .inl (fun _ => iz 0))), (f12, .inl (cy 0, 400, .inl (fun _ => iz 0))), (f13, .inl (cy 0, 3, .inl (fun _ => iz 0))), (f14, .inl (cy 0, 3, .inl (fun _ => iz 0))), (f15, .inl (cy 0, 3, .inl (fun _ => iz 0))), (f16, .inl (cy 0, 1536, .inl (fun _ => iz 0))), (f17, .inl (cy 0, 512, .inl (fun _ => iz 0))), (f18, .inl (cy 0, 3, .inl (fun _ => iz 0))), (f19, .inl (cy 3, 512, .inl (fun _ => iz 0))), (f20, .inl (cy 0, 64, .inl (fun _ => iz 0))), (f21, .inl (cy 0, 64, .inl (fun _ => iz 0))), (f22, .inl (cy 0, 64, .inl (fun _ => iz 0))), (f23, .inl (cy 0, 64, .inl (fun _ => iz 0))), (f24, .inl (cy 0, 64, .inl (fun _ => iz 0))), (f25, .inl (cy 0, 64, .inl (fun _ => iz 0)))] : va_W)[k]? = some (lw_ab [a0, f1, f2, f3, f4, f5, f6, f7, f8, f9, f10, f11, f12, f13, f14, f15, f16, f17, f18, f19, f20, f21, f22, f23, f24, f25] k, wE (wR D cy (lw_ab [a0, f1, f2, f3, f4, f5, f6, f7, f8, f9, f10, f11, f12, f13, f14, f15, f16, f17, f18, f19, f20, f21, f22, f23, f24, f25]) ad) k (mR0 k)) := fun k hk => match k, hk with
  | 0, _ => rfl
  | 1, _ => rfl
  | 2, _ => rfl
  | 3, _ => rfl
  | 4, _ => rfl
  | 5, _ => rfl
  | 6, _ => rfl
  | 7, _ => rfl
  | 8, _ => rfl
  | 9, _ => rfl
  | 10, _ => rfl
  | 11, _ => rfl
  | 12, _ => rfl
  | 13, _ => rfl
  | 14, _ => rfl
  | 15, _ => rfl
  | 16, _ => rfl
  | 17, _ => rfl
  | 18, _ => rfl
  | 19, _ => rfl
  | 20, _ => rfl
  | 21, _ => rfl
  | 22, _ => rfl
  | 23, _ => rfl
  | 24, _ => rfl
  | 25, _ => rfl
  | k + 26, hk => absurd hk (by omega)
