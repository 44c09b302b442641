/-! the law's loop, case by case -/
abbrev Lz (zl : Lw) (b : Nat) (i : Int) : List (Nat × Value) := [(4, .int (iz i)), (3, .ref zl.o), (2, .ref (zl.2.2.2.1 0)), (1, .ref (zl.2.2.1 0)), (0, .ref b)]
theorem i3r (v : Int32) : -2147483648 ≤ v.toInt ∧ v.toInt ≤ 2147483647 := ⟨v.le_toInt, by have := v.toInt_lt; omega⟩
theorem z_same {E : Amb} {zl : Lw} {b Ln : Nat} {xs : Nat → Int32} {cc : ByteArray} {ce sl : Nat} {m : Mq} {pc : Nat} {L : List (Nat × Value)} {st : List Value} (C : CQx E zl b Ln xs cc) {x off : Int} {tgt : Nat} (hdg : decode cc pc = .ok (.if_icmp .eq off, 3)) (ht : (pc : Int) + off = (tgt : Int)) (kt : VQ E zl ce sl m tgt L st) : VQ E zl ce sl m pc L (.int (iz x) :: .int (iz x) :: st) := fun H locs d0 ls hd hP hS hl => lv_icmp_eq C.1 C.2.1 hdg ht (fun _ => kt H locs d0 ls hd hP hS hl) (fun h => absurd rfl h)
theorem und_cg {n : Int} {C R R1 : Mem} {k kf ks kt kc d df ds dt dc : Nat} {z : Int} (h : LKs n C R k kf ks kt kc d df ds dt dc) (hq : RAP (qUnd (R 0 20) (R 0 23) (R 7)) R R1 z) : RAP (qUnd (C 0 15) (C 0 16) (C 6)) R R1 z := by
  obtain ⟨t, c, t4, hb, hc⟩ := hq
  refine ⟨t, c, t4, ?_, hc⟩
  rw [h.2.2.1.2.2.2.2] at hb
  rcases h.1.1.2.2.1 with y | y
  · rcases hb with ⟨a, -⟩ | ⟨a, b⟩
    · omega
    · exact Or.inr ⟨by omega, b⟩
  · obtain ⟨r1, r2, r3⟩ := h.2.2.2.2.2.2 y.1
    rw [r2] at hb
    rcases hb with ⟨a, b, c1, d1, e1⟩ | ⟨a, b⟩
    · exact Or.inl ⟨a, b, c1, d1, fun j j0 j1 => by rw [e1 j j0 j1]; exact r3 _ (by omega) (by omega)⟩
    · exact Or.inr ⟨a, b⟩
theorem qwW : Cond.codeWith ylw method_3_code 4 (some .int) [(0, 9, 12, 13)] ∈ lw_gd := lw_g5 (List.mem_of_getElem? (i := 103) rfl) rfl
set_option maxHeartbeats 4000000 in
set_option maxRecDepth 100000 in
theorem law_0 {E : Amb} {zl : Lw} {b Ln : Nat} {xs : Nat → Int32} {ce sl : Nat} {mC mR : Mem} {fo : Nat → Int64} {i : Int} (C : CQx E zl b Ln xs cL_law) (hi : 0 ≤ i ∧ i + 6 ≤ Ln) (hn : i < 90000) (hL : LK i mC mR) (hcs : ce + 1 ≤ 1135 ∧ sl + 6 ≤ 20627) (k : ∀ (m1 : Mq) (ce1 sl1 : Nat), LK (i + 1) m1.1 m1.2.1 → ((ce ≤ ce1 ∧ ce1 ≤ ce + 1) ∧ sl ≤ sl1 ∧ sl1 ≤ sl + 6) → VQ E zl ce1 sl1 m1 1388 (Lz zl b i) []) : VQ E zl ce sl (mC, mR, fo) 220 (Lz zl b i) [] := by
  obtain ⟨k0, kf, ks, kt, kc, d, df, ds, dt, dc, hL⟩ := hL
  have hch : mC 0 17 < 100000 := by have := hL.2.2.2.1; omega
  have hch0 : 0 ≤ mC 0 17 := hL.2.2.2.1.1
  refine z_aload_n C 3 dL_law_220 rfl ?_
  refine z_aload_n C 4 dL_law_221 rfl ?_
  refine z_iload C 0 dL_law_222 rfl ?_
  refine z_iconst (z := 1) C dL_law_224 rfl ?_
  refine z_iadd C dL_law_225 ?_
  refine z_sld C (i := (i + 1)) (by omega) dL_law_226 ?_
  refine z_aload_n C 4 dL_law_227 rfl ?_
  refine z_iload C 0 dL_law_228 rfl ?_
  refine z_iconst (z := 2) C dL_law_230 rfl ?_
  refine z_iadd C dL_law_231 ?_
  refine z_sld C (i := (i + 2)) (by omega) dL_law_232 ?_
  refine z_aload_n C 4 dL_law_233 rfl ?_
  refine z_iload C 0 dL_law_234 rfl ?_
  refine z_iconst (z := 3) C dL_law_236 rfl ?_
  refine z_iadd C dL_law_237 ?_
  refine z_sld C (i := (i + 3)) (by omega) dL_law_238 ?_
  refine z_aload_n C 4 dL_law_239 rfl ?_
  refine z_iload C 0 dL_law_240 rfl ?_
  refine z_iconst (z := 4) C dL_law_242 rfl ?_
  refine z_iadd C dL_law_243 ?_
  refine z_sld C (i := (i + 4)) (by omega) dL_law_244 ?_
  refine z_aload_n C 4 dL_law_245 rfl ?_
  refine z_iload C 0 dL_law_246 rfl ?_
  refine z_iconst (z := 5) C dL_law_248 rfl ?_
  refine z_iadd C dL_law_249 ?_
  refine z_sld C (i := (i + 5)) (by omega) dL_law_250 ?_
  refine z_callC (st := []) (n := 5) C [.int (iz ((xs (i + 1).toNat).toInt)), .int (iz ((xs (i + 2).toNat).toInt)), .int (iz ((xs (i + 3).toNat).toInt)), .int (iz ((xs (i + 4).toNat).toInt)), .int (iz ((xs (i + 5).toNat).toInt))] (ct_StageRatios_feed C.2.2.2.2.2.2.2.1.1 mC ((xs (i + 1).toNat).toInt) ((xs (i + 2).toNat).toInt) ((xs (i + 3).toNat).toInt) ((xs (i + 4).toNat).toInt) ((xs (i + 5).toNat).toInt) hL.2.1.1 (i3r _) (i3r _) (i3r _) (i3r _) (i3r _)) qw483 qw1 qw480 rfl rfl ⟨Nat.le_of_ble_eq_true rfl, Nat.le_of_ble_eq_true rfl⟩ (by decide +kernel) qw481 qw482 rfl rfl (Nat.le_of_ble_eq_true rfl) ⟨by omega, by omega⟩ dL_law_251 (fun r m251 hp251 => ?_)
  obtain ⟨z251, rfl, hp⟩ := hp251
  show VQ E zl ce sl (m251, mR, fo) 254 (Lz zl b i) [.int (iz (z251))]
  refine z_aload_n C 2 dL_law_254 rfl ?_
  refine z_aload_n C 4 dL_law_255 rfl ?_
  refine z_iload C 0 dL_law_256 rfl ?_
  refine z_iconst (z := 1) C dL_law_258 rfl ?_
  refine z_iadd C dL_law_259 ?_
  refine z_sld C (i := (i + 1)) (by omega) dL_law_260 ?_
  refine z_aload_n C 4 dL_law_261 rfl ?_
  refine z_iload C 0 dL_law_262 rfl ?_
  refine z_iconst (z := 2) C dL_law_264 rfl ?_
  refine z_iadd C dL_law_265 ?_
  refine z_sld C (i := (i + 2)) (by omega) dL_law_266 ?_
  refine z_aload_n C 4 dL_law_267 rfl ?_
  refine z_iload C 0 dL_law_268 rfl ?_
  refine z_iconst (z := 3) C dL_law_270 rfl ?_
  refine z_iadd C dL_law_271 ?_
  refine z_sld C (i := (i + 3)) (by omega) dL_law_272 ?_
  refine z_aload_n C 4 dL_law_273 rfl ?_
  refine z_iload C 0 dL_law_274 rfl ?_
  refine z_iconst (z := 4) C dL_law_276 rfl ?_
  refine z_iadd C dL_law_277 ?_
  refine z_sld C (i := (i + 4)) (by omega) dL_law_278 ?_
  refine z_aload_n C 4 dL_law_279 rfl ?_
  refine z_iload C 0 dL_law_280 rfl ?_
  refine z_iconst (z := 5) C dL_law_282 rfl ?_
  refine z_iadd C dL_law_283 ?_
  refine z_sld C (i := (i + 5)) (by omega) dL_law_284 ?_
  refine z_callR (st := [.int (iz (z251))]) (n := 5) C [.int (iz ((xs (i + 1).toNat).toInt)), .int (iz ((xs (i + 2).toNat).toInt)), .int (iz ((xs (i + 3).toNat).toInt)), .int (iz ((xs (i + 4).toNat).toInt)), .int (iz ((xs (i + 5).toNat).toInt))] (ct_StageRatiosModel_feed C.2.2.2.2.2.2.2.1.2.1 mR ((xs (i + 1).toNat).toInt) ((xs (i + 2).toNat).toInt) ((xs (i + 3).toNat).toInt) ((xs (i + 4).toNat).toInt) ((xs (i + 5).toNat).toInt) (by have := hL.2.1.1; have := hL.2.1.2.1; omega) (i3r _) (i3r _) (i3r _) (i3r _) (i3r _)) qw1332 qw16 qw1329 rfl rfl ⟨Nat.le_of_ble_eq_true rfl, Nat.le_of_ble_eq_true rfl⟩ (by decide +kernel) qw1330 qw1331 rfl rfl (Nat.le_of_ble_eq_true rfl) ⟨by omega, by omega⟩ dL_law_285 (fun r m285 hp285 => ?_)
  obtain ⟨z285, rfl, hq⟩ := hp285
  show VQ E zl ce sl (m251, m285, fo) 288 (Lz zl b i) [.int (iz (z285)), .int (iz (z251))]
  obtain ⟨rfl, hK⟩ := hL.f hp hq
  refine z_same (tgt := 1388) C dL_law_288 (by decide) ?_
  exact k (m251, m285, fo) ce sl (hK.mono (by omega)) ⟨⟨by omega, by omega⟩, by omega, by omega⟩

set_option maxHeartbeats 4000000 in
set_option maxRecDepth 100000 in
theorem law_1 {E : Amb} {zl : Lw} {b Ln : Nat} {xs : Nat → Int32} {ce sl : Nat} {mC mR : Mem} {fo : Nat → Int64} {i : Int} (C : CQx E zl b Ln xs cL_law) (hi : 0 ≤ i ∧ i + 6 ≤ Ln) (hn : i < 90000) (hL : LK i mC mR) (hcs : ce + 1 ≤ 1135 ∧ sl + 6 ≤ 20627) (k : ∀ (m1 : Mq) (ce1 sl1 : Nat), LK (i + 1) m1.1 m1.2.1 → ((ce ≤ ce1 ∧ ce1 ≤ ce + 1) ∧ sl ≤ sl1 ∧ sl1 ≤ sl + 6) → VQ E zl ce1 sl1 m1 1388 (Lz zl b i) []) : VQ E zl ce sl (mC, mR, fo) 293 (Lz zl b i) [] := by
  obtain ⟨k0, kf, ks, kt, kc, d, df, ds, dt, dc, hL⟩ := hL
  have hch : mC 0 17 < 100000 := by have := hL.2.2.2.1; omega
  have hch0 : 0 ≤ mC 0 17 := hL.2.2.2.1.1
  refine z_aload_n C 3 dL_law_293 rfl ?_
  refine z_aload_n C 4 dL_law_294 rfl ?_
  refine z_iload C 0 dL_law_295 rfl ?_
  refine z_iconst (z := 1) C dL_law_297 rfl ?_
  refine z_iadd C dL_law_298 ?_
  refine z_sld C (i := (i + 1)) (by omega) dL_law_299 ?_
  refine z_callC (st := []) (n := 1) C [.int (iz ((xs (i + 1).toNat).toInt))] (ct_StageRatios_rocket C.2.2.2.2.2.2.2.1.1 mC k0 kf ks kt kc d df ds dt dc ((xs (i + 1).toNat).toInt) hL.1.1 hL.1.2.1 hL.1.2.2.1 hL.1.2.2.2.2.1 hL.1.2.2.2.1 hL.1.2.2.2.2.2.1 hL.1.2.2.2.2.2.2 hL.2.1.1 (i3r _) hch hch0) qw498 qw1 qw495 rfl rfl ⟨Nat.le_of_ble_eq_true rfl, Nat.le_of_ble_eq_true rfl⟩ (by decide +kernel) qw496 qw497 rfl rfl (Nat.le_of_ble_eq_true rfl) ⟨by omega, by omega⟩ dL_law_300 (fun r m300 hp300 => ?_)
  obtain ⟨z300, rfl, hp, -, hci⟩ := hp300
  show VQ E zl ce sl (m300, mR, fo) 303 (Lz zl b i) [.int (iz (z300))]
  refine z_aload_n C 2 dL_law_303 rfl ?_
  refine z_aload_n C 4 dL_law_304 rfl ?_
  refine z_iload C 0 dL_law_305 rfl ?_
  refine z_iconst (z := 1) C dL_law_307 rfl ?_
  refine z_iadd C dL_law_308 ?_
  refine z_sld C (i := (i + 1)) (by omega) dL_law_309 ?_
  refine z_callR (st := [.int (iz (z300))]) (n := 1) C [.int (iz ((xs (i + 1).toNat).toInt))] (ct_StageRatiosModel_rocket C.2.2.2.2.2.2.2.1.2.1 mR (mC kf) (mC ks) (mC kt) (mC kc) (mC k0) (mC 5) (mC 2) ((xs (i + 1).toNat).toInt) hL.tt (by have := hL.2.1.1; have := hL.2.1.2.1; omega) hL.2.1.2.2 (i3r _)) qw1336 qw16 qw1333 rfl rfl ⟨Nat.le_of_ble_eq_true rfl, Nat.le_of_ble_eq_true rfl⟩ (by decide +kernel) qw1334 qw1335 rfl rfl (Nat.le_of_ble_eq_true rfl) ⟨by omega, by omega⟩ dL_law_310 (fun r m310 hp310 => ?_)
  obtain ⟨z310, rfl, hq, -⟩ := hp310
  show VQ E zl ce sl (m300, m310, fo) 313 (Lz zl b i) [.int (iz (z310)), .int (iz (z300))]
  obtain ⟨rfl, hK⟩ := hL.r hp hq hci
  refine z_same (tgt := 1388) C dL_law_313 (by decide) ?_
  exact k (m300, m310, fo) ce sl hK ⟨⟨by omega, by omega⟩, by omega, by omega⟩

set_option maxHeartbeats 4000000 in
set_option maxRecDepth 100000 in
theorem law_2 {E : Amb} {zl : Lw} {b Ln : Nat} {xs : Nat → Int32} {ce sl : Nat} {mC mR : Mem} {fo : Nat → Int64} {i : Int} (C : CQx E zl b Ln xs cL_law) (hi : 0 ≤ i ∧ i + 6 ≤ Ln) (hn : i < 90000) (hL : LK i mC mR) (hcs : ce + 1 ≤ 1135 ∧ sl + 6 ≤ 20627) (k : ∀ (m1 : Mq) (ce1 sl1 : Nat), LK (i + 1) m1.1 m1.2.1 → ((ce ≤ ce1 ∧ ce1 ≤ ce + 1) ∧ sl ≤ sl1 ∧ sl1 ≤ sl + 6) → VQ E zl ce1 sl1 m1 1388 (Lz zl b i) []) : VQ E zl ce sl (mC, mR, fo) 318 (Lz zl b i) [] := by
  obtain ⟨k0, kf, ks, kt, kc, d, df, ds, dt, dc, hL⟩ := hL
  have hch : mC 0 17 < 100000 := by have := hL.2.2.2.1; omega
  have hch0 : 0 ≤ mC 0 17 := hL.2.2.2.1.1
  refine z_aload_n C 3 dL_law_318 rfl ?_
  refine z_callC (st := []) (n := 0) C [] (ct_StageRatios_fault C.2.2.2.2.2.2.2.1.1 mC) qw644 qw1 qw641 rfl rfl ⟨Nat.le_of_ble_eq_true rfl, Nat.le_of_ble_eq_true rfl⟩ (by decide +kernel) qw642 qw643 rfl rfl (Nat.le_of_ble_eq_true rfl) ⟨by omega, by omega⟩ dL_law_319 (fun r m319 hp319 => ?_)
  obtain ⟨z319, rfl, hv, rfl⟩ := hp319
  show VQ E zl ce sl (mC, mR, fo) 322 (Lz zl b i) [.int (iz (z319))]
  refine z_aload_n C 2 dL_law_322 rfl ?_
  refine z_callR (st := [.int (iz (z319))]) (n := 0) C [] (ct_StageRatiosModel_fault C.2.2.2.2.2.2.2.1.2.1 mR) qw1448 qw16 qw1445 rfl rfl ⟨Nat.le_of_ble_eq_true rfl, Nat.le_of_ble_eq_true rfl⟩ (by decide +kernel) qw1446 qw1447 rfl rfl (Nat.le_of_ble_eq_true rfl) ⟨by omega, by omega⟩ dL_law_323 (fun r m323 hp323 => ?_)
  obtain ⟨z323, rfl, hw, rfl⟩ := hp323
  show VQ E zl ce sl (mC, mup mR 0 0 0, fo) 326 (Lz zl b i) [.int (iz (z323)), .int (iz (z319))]
  have ez : z319 = z323 := by rw [← hv, ← hw]; exact hL.2.2.1.2.2.2.1.symm
  subst ez
  refine z_same (tgt := 1388) C dL_law_326 (by decide) ?_
  exact k (mC, mup mR 0 0 0, fo) ce sl (LK.mono ⟨k0, kf, ks, kt, kc, d, df, ds, dt, dc, hL.m⟩ (by omega)) ⟨⟨by omega, by omega⟩, by omega, by omega⟩

set_option maxHeartbeats 4000000 in
set_option maxRecDepth 100000 in
theorem law_3 {E : Amb} {zl : Lw} {b Ln : Nat} {xs : Nat → Int32} {ce sl : Nat} {mC mR : Mem} {fo : Nat → Int64} {i : Int} (C : CQx E zl b Ln xs cL_law) (hi : 0 ≤ i ∧ i + 6 ≤ Ln) (hn : i < 90000) (hL : LK i mC mR) (hcs : ce + 1 ≤ 1135 ∧ sl + 6 ≤ 20627) (k : ∀ (m1 : Mq) (ce1 sl1 : Nat), LK (i + 1) m1.1 m1.2.1 → ((ce ≤ ce1 ∧ ce1 ≤ ce + 1) ∧ sl ≤ sl1 ∧ sl1 ≤ sl + 6) → VQ E zl ce1 sl1 m1 1388 (Lz zl b i) []) : VQ E zl ce sl (mC, mR, fo) 331 (Lz zl b i) [] := by
  obtain ⟨k0, kf, ks, kt, kc, d, df, ds, dt, dc, hL⟩ := hL
  have hch : mC 0 17 < 100000 := by have := hL.2.2.2.1; omega
  have hch0 : 0 ≤ mC 0 17 := hL.2.2.2.1.1
  refine z_aload_n C 3 dL_law_331 rfl ?_
  refine z_callC (st := []) (n := 0) C [] (ct_StageRatios_where C.2.2.2.2.2.2.2.1.1 mC (by have := hL.2.2.1.1; omega)) qw648 qw1 qw645 rfl rfl ⟨Nat.le_of_ble_eq_true rfl, Nat.le_of_ble_eq_true rfl⟩ (by decide +kernel) qw646 qw647 rfl rfl (Nat.le_of_ble_eq_true rfl) ⟨by omega, by omega⟩ dL_law_332 (fun r m332 hp332 => ?_)
  obtain ⟨z332, rfl, hv, rfl⟩ := hp332
  show VQ E zl ce sl (mC, mR, fo) 335 (Lz zl b i) [.int (iz (z332))]
  refine z_aload_n C 2 dL_law_335 rfl ?_
  refine z_callR (st := [.int (iz (z332))]) (n := 0) C [] (ct_StageRatiosModel_where C.2.2.2.2.2.2.2.1.2.1 mR) qw1452 qw16 qw1449 rfl rfl ⟨Nat.le_of_ble_eq_true rfl, Nat.le_of_ble_eq_true rfl⟩ (by decide +kernel) qw1450 qw1451 rfl rfl (Nat.le_of_ble_eq_true rfl) ⟨by omega, by omega⟩ dL_law_336 (fun r m336 hp336 => ?_)
  obtain ⟨z336, rfl, hw, rfl⟩ := hp336
  show VQ E zl ce sl (mC, mup mR 0 0 0, fo) 339 (Lz zl b i) [.int (iz (z336)), .int (iz (z332))]
  have ez : z332 = z336 := by rw [← hv, ← hw]; exact hL.2.2.1.2.2.1.symm
  subst ez
  refine z_same (tgt := 1388) C dL_law_339 (by decide) ?_
  exact k (mC, mup mR 0 0 0, fo) ce sl (LK.mono ⟨k0, kf, ks, kt, kc, d, df, ds, dt, dc, hL.m⟩ (by omega)) ⟨⟨by omega, by omega⟩, by omega, by omega⟩

set_option maxHeartbeats 4000000 in
set_option maxRecDepth 100000 in
theorem law_4 {E : Amb} {zl : Lw} {b Ln : Nat} {xs : Nat → Int32} {ce sl : Nat} {mC mR : Mem} {fo : Nat → Int64} {i : Int} (C : CQx E zl b Ln xs cL_law) (hi : 0 ≤ i ∧ i + 6 ≤ Ln) (hn : i < 90000) (hL : LK i mC mR) (hcs : ce + 1 ≤ 1135 ∧ sl + 6 ≤ 20627) (k : ∀ (m1 : Mq) (ce1 sl1 : Nat), LK (i + 1) m1.1 m1.2.1 → ((ce ≤ ce1 ∧ ce1 ≤ ce + 1) ∧ sl ≤ sl1 ∧ sl1 ≤ sl + 6) → VQ E zl ce1 sl1 m1 1388 (Lz zl b i) []) : VQ E zl ce sl (mC, mR, fo) 344 (Lz zl b i) [] := by
  obtain ⟨k0, kf, ks, kt, kc, d, df, ds, dt, dc, hL⟩ := hL
  have hch : mC 0 17 < 100000 := by have := hL.2.2.2.1; omega
  have hch0 : 0 ≤ mC 0 17 := hL.2.2.2.1.1
  refine z_aload_n C 3 dL_law_344 rfl ?_
  refine z_aload_n C 4 dL_law_345 rfl ?_
  refine z_iload C 0 dL_law_346 rfl ?_
  refine z_iconst (z := 1) C dL_law_348 rfl ?_
  refine z_iadd C dL_law_349 ?_
  refine z_sld C (i := (i + 1)) (by omega) dL_law_350 ?_
  refine z_callC (st := []) (n := 1) C [.int (iz ((xs (i + 1).toNat).toInt))] (ct_StageRatios_about C.2.2.2.2.2.2.2.1.1 mC k0 kf ks kt kc ((xs (i + 1).toNat).toInt) hL.1.1 (i3r _)) qw652 qw1 qw649 rfl rfl ⟨Nat.le_of_ble_eq_true rfl, Nat.le_of_ble_eq_true rfl⟩ (by decide +kernel) qw650 qw651 rfl rfl (Nat.le_of_ble_eq_true rfl) ⟨by omega, by omega⟩ dL_law_351 (fun r m351 hp351 => ?_)
  obtain ⟨z351, rfl, hp, hci⟩ := hp351
  show VQ E zl ce sl (m351, mR, fo) 354 (Lz zl b i) [.int (iz (z351))]
  refine z_aload_n C 2 dL_law_354 rfl ?_
  refine z_aload_n C 4 dL_law_355 rfl ?_
  refine z_iload C 0 dL_law_356 rfl ?_
  refine z_iconst (z := 1) C dL_law_358 rfl ?_
  refine z_iadd C dL_law_359 ?_
  refine z_sld C (i := (i + 1)) (by omega) dL_law_360 ?_
  refine z_callR (st := [.int (iz (z351))]) (n := 1) C [.int (iz ((xs (i + 1).toNat).toInt))] (ct_StageRatiosModel_about C.2.2.2.2.2.2.2.1.2.1 mR (mC kf) (mC ks) (mC kt) (mC kc) (mC k0) (mC 5) ((xs (i + 1).toNat).toInt) hL.tt (i3r _)) qw1456 qw16 qw1453 rfl rfl ⟨Nat.le_of_ble_eq_true rfl, Nat.le_of_ble_eq_true rfl⟩ (by decide +kernel) qw1454 qw1455 rfl rfl (Nat.le_of_ble_eq_true rfl) ⟨by omega, by omega⟩ dL_law_361 (fun r m361 hp361 => ?_)
  obtain ⟨z361, rfl, hq, -⟩ := hp361
  show VQ E zl ce sl (m351, m361, fo) 364 (Lz zl b i) [.int (iz (z361)), .int (iz (z351))]
  rw [hL.2.2.1.2.2.2.2] at hq
  obtain ⟨rfl, hK⟩ := hL.q hp hq hci (u_Abo) t5_Abo
  refine z_same (tgt := 1388) C dL_law_364 (by decide) ?_
  exact k (m351, m361, fo) ce sl (hK.mono (by omega)) ⟨⟨by omega, by omega⟩, by omega, by omega⟩

set_option maxHeartbeats 4000000 in
set_option maxRecDepth 100000 in
theorem law_5 {E : Amb} {zl : Lw} {b Ln : Nat} {xs : Nat → Int32} {ce sl : Nat} {mC mR : Mem} {fo : Nat → Int64} {i : Int} (C : CQx E zl b Ln xs cL_law) (hi : 0 ≤ i ∧ i + 6 ≤ Ln) (hn : i < 90000) (hL : LK i mC mR) (hcs : ce + 1 ≤ 1135 ∧ sl + 6 ≤ 20627) (k : ∀ (m1 : Mq) (ce1 sl1 : Nat), LK (i + 1) m1.1 m1.2.1 → ((ce ≤ ce1 ∧ ce1 ≤ ce + 1) ∧ sl ≤ sl1 ∧ sl1 ≤ sl + 6) → VQ E zl ce1 sl1 m1 1388 (Lz zl b i) []) : VQ E zl ce sl (mC, mR, fo) 369 (Lz zl b i) [] := by
  obtain ⟨k0, kf, ks, kt, kc, d, df, ds, dt, dc, hL⟩ := hL
  have hch : mC 0 17 < 100000 := by have := hL.2.2.2.1; omega
  have hch0 : 0 ≤ mC 0 17 := hL.2.2.2.1.1
  refine z_aload_n C 3 dL_law_369 rfl ?_
  refine z_aload_n C 4 dL_law_370 rfl ?_
  refine z_iload C 0 dL_law_371 rfl ?_
  refine z_iconst (z := 1) C dL_law_373 rfl ?_
  refine z_iadd C dL_law_374 ?_
  refine z_sld C (i := (i + 1)) (by omega) dL_law_375 ?_
  refine z_aload_n C 4 dL_law_376 rfl ?_
  refine z_iload C 0 dL_law_377 rfl ?_
  refine z_iconst (z := 2) C dL_law_379 rfl ?_
  refine z_iadd C dL_law_380 ?_
  refine z_sld C (i := (i + 2)) (by omega) dL_law_381 ?_
  refine z_callC (st := []) (n := 2) C [.int (iz ((xs (i + 1).toNat).toInt)), .int (iz ((xs (i + 2).toNat).toInt))] (ct_StageRatios_stage C.2.2.2.2.2.2.2.1.1 mC k0 kf ks kt kc ((xs (i + 1).toNat).toInt) ((xs (i + 2).toNat).toInt) hL.1.1 (i3r _) (i3r _)) qw657 qw1 qw654 rfl rfl ⟨Nat.le_of_ble_eq_true rfl, Nat.le_of_ble_eq_true rfl⟩ (by decide +kernel) qw655 qw656 rfl rfl (Nat.le_of_ble_eq_true rfl) ⟨by omega, by omega⟩ dL_law_382 (fun r m382 hp382 => ?_)
  obtain ⟨z382, rfl, hp, hci⟩ := hp382
  show VQ E zl ce sl (m382, mR, fo) 385 (Lz zl b i) [.int (iz (z382))]
  refine z_aload_n C 2 dL_law_385 rfl ?_
  refine z_aload_n C 4 dL_law_386 rfl ?_
  refine z_iload C 0 dL_law_387 rfl ?_
  refine z_iconst (z := 1) C dL_law_389 rfl ?_
  refine z_iadd C dL_law_390 ?_
  refine z_sld C (i := (i + 1)) (by omega) dL_law_391 ?_
  refine z_aload_n C 4 dL_law_392 rfl ?_
  refine z_iload C 0 dL_law_393 rfl ?_
  refine z_iconst (z := 2) C dL_law_395 rfl ?_
  refine z_iadd C dL_law_396 ?_
  refine z_sld C (i := (i + 2)) (by omega) dL_law_397 ?_
  refine z_callR (st := [.int (iz (z382))]) (n := 2) C [.int (iz ((xs (i + 1).toNat).toInt)), .int (iz ((xs (i + 2).toNat).toInt))] (ct_StageRatiosModel_stage C.2.2.2.2.2.2.2.1.2.1 mR (mC kf) (mC ks) (mC kt) (mC kc) (mC k0) (mC 5) ((xs (i + 1).toNat).toInt) ((xs (i + 2).toNat).toInt) hL.tt (i3r _) (i3r _)) qw1460 qw16 qw1457 rfl rfl ⟨Nat.le_of_ble_eq_true rfl, Nat.le_of_ble_eq_true rfl⟩ (by decide +kernel) qw1458 qw1459 rfl rfl (Nat.le_of_ble_eq_true rfl) ⟨by omega, by omega⟩ dL_law_398 (fun r m398 hp398 => ?_)
  obtain ⟨z398, rfl, hq, -⟩ := hp398
  show VQ E zl ce sl (m382, m398, fo) 401 (Lz zl b i) [.int (iz (z398)), .int (iz (z382))]
  rw [hL.2.2.1.2.2.2.2] at hq
  obtain ⟨rfl, hK⟩ := hL.q hp hq hci (u_Sta) t5_Sta
  refine z_same (tgt := 1388) C dL_law_401 (by decide) ?_
  exact k (m382, m398, fo) ce sl (hK.mono (by omega)) ⟨⟨by omega, by omega⟩, by omega, by omega⟩

set_option maxHeartbeats 4000000 in
set_option maxRecDepth 100000 in
theorem law_6 {E : Amb} {zl : Lw} {b Ln : Nat} {xs : Nat → Int32} {ce sl : Nat} {mC mR : Mem} {fo : Nat → Int64} {i : Int} (C : CQx E zl b Ln xs cL_law) (hi : 0 ≤ i ∧ i + 6 ≤ Ln) (hn : i < 90000) (hL : LK i mC mR) (hcs : ce + 1 ≤ 1135 ∧ sl + 6 ≤ 20627) (k : ∀ (m1 : Mq) (ce1 sl1 : Nat), LK (i + 1) m1.1 m1.2.1 → ((ce ≤ ce1 ∧ ce1 ≤ ce + 1) ∧ sl ≤ sl1 ∧ sl1 ≤ sl + 6) → VQ E zl ce1 sl1 m1 1388 (Lz zl b i) []) : VQ E zl ce sl (mC, mR, fo) 406 (Lz zl b i) [] := by
  obtain ⟨k0, kf, ks, kt, kc, d, df, ds, dt, dc, hL⟩ := hL
  have hch : mC 0 17 < 100000 := by have := hL.2.2.2.1; omega
  have hch0 : 0 ≤ mC 0 17 := hL.2.2.2.1.1
  refine z_aload_n C 3 dL_law_406 rfl ?_
  refine z_aload_n C 4 dL_law_407 rfl ?_
  refine z_iload C 0 dL_law_408 rfl ?_
  refine z_iconst (z := 1) C dL_law_410 rfl ?_
  refine z_iadd C dL_law_411 ?_
  refine z_sld C (i := (i + 1)) (by omega) dL_law_412 ?_
  refine z_aload_n C 4 dL_law_413 rfl ?_
  refine z_iload C 0 dL_law_414 rfl ?_
  refine z_iconst (z := 2) C dL_law_416 rfl ?_
  refine z_iadd C dL_law_417 ?_
  refine z_sld C (i := (i + 2)) (by omega) dL_law_418 ?_
  refine z_callC (st := []) (n := 2) C [.int (iz ((xs (i + 1).toNat).toInt)), .int (iz ((xs (i + 2).toNat).toInt))] (ct_StageRatios_part C.2.2.2.2.2.2.2.1.1 mC k0 kf ks kt kc ((xs (i + 1).toNat).toInt) ((xs (i + 2).toNat).toInt) hL.1.1 (i3r _) (i3r _)) qw670 qw1 qw667 rfl rfl ⟨Nat.le_of_ble_eq_true rfl, Nat.le_of_ble_eq_true rfl⟩ (by decide +kernel) qw668 qw669 rfl rfl (Nat.le_of_ble_eq_true rfl) ⟨by omega, by omega⟩ dL_law_419 (fun r m419 hp419 => ?_)
  obtain ⟨z419, rfl, hp, hci⟩ := hp419
  show VQ E zl ce sl (m419, mR, fo) 422 (Lz zl b i) [.int (iz (z419))]
  refine z_aload_n C 2 dL_law_422 rfl ?_
  refine z_aload_n C 4 dL_law_423 rfl ?_
  refine z_iload C 0 dL_law_424 rfl ?_
  refine z_iconst (z := 1) C dL_law_426 rfl ?_
  refine z_iadd C dL_law_427 ?_
  refine z_sld C (i := (i + 1)) (by omega) dL_law_428 ?_
  refine z_aload_n C 4 dL_law_429 rfl ?_
  refine z_iload C 0 dL_law_430 rfl ?_
  refine z_iconst (z := 2) C dL_law_432 rfl ?_
  refine z_iadd C dL_law_433 ?_
  refine z_sld C (i := (i + 2)) (by omega) dL_law_434 ?_
  refine z_callR (st := [.int (iz (z419))]) (n := 2) C [.int (iz ((xs (i + 1).toNat).toInt)), .int (iz ((xs (i + 2).toNat).toInt))] (ct_StageRatiosModel_part C.2.2.2.2.2.2.2.1.2.1 mR (mC kf) (mC ks) (mC kt) (mC kc) (mC k0) (mC 5) ((xs (i + 1).toNat).toInt) ((xs (i + 2).toNat).toInt) hL.tt (i3r _) (i3r _)) qw1472 qw16 qw1469 rfl rfl ⟨Nat.le_of_ble_eq_true rfl, Nat.le_of_ble_eq_true rfl⟩ (by decide +kernel) qw1470 qw1471 rfl rfl (Nat.le_of_ble_eq_true rfl) ⟨by omega, by omega⟩ dL_law_435 (fun r m435 hp435 => ?_)
  obtain ⟨z435, rfl, hq, -⟩ := hp435
  show VQ E zl ce sl (m419, m435, fo) 438 (Lz zl b i) [.int (iz (z435)), .int (iz (z419))]
  rw [hL.2.2.1.2.2.2.2] at hq
  obtain ⟨rfl, hK⟩ := hL.q hp hq hci (u_Par) t5_Par
  refine z_same (tgt := 1388) C dL_law_438 (by decide) ?_
  exact k (m419, m435, fo) ce sl (hK.mono (by omega)) ⟨⟨by omega, by omega⟩, by omega, by omega⟩

set_option maxHeartbeats 4000000 in
set_option maxRecDepth 100000 in
theorem law_7 {E : Amb} {zl : Lw} {b Ln : Nat} {xs : Nat → Int32} {ce sl : Nat} {mC mR : Mem} {fo : Nat → Int64} {i : Int} (C : CQx E zl b Ln xs cL_law) (hi : 0 ≤ i ∧ i + 6 ≤ Ln) (hn : i < 90000) (hL : LK i mC mR) (hcs : ce + 1 ≤ 1135 ∧ sl + 6 ≤ 20627) (k : ∀ (m1 : Mq) (ce1 sl1 : Nat), LK (i + 1) m1.1 m1.2.1 → ((ce ≤ ce1 ∧ ce1 ≤ ce + 1) ∧ sl ≤ sl1 ∧ sl1 ≤ sl + 6) → VQ E zl ce1 sl1 m1 1388 (Lz zl b i) []) : VQ E zl ce sl (mC, mR, fo) 443 (Lz zl b i) [] := by
  obtain ⟨k0, kf, ks, kt, kc, d, df, ds, dt, dc, hL⟩ := hL
  have hch : mC 0 17 < 100000 := by have := hL.2.2.2.1; omega
  have hch0 : 0 ≤ mC 0 17 := hL.2.2.2.1.1
  refine z_aload_n C 3 dL_law_443 rfl ?_
  refine z_aload_n C 4 dL_law_444 rfl ?_
  refine z_iload C 0 dL_law_445 rfl ?_
  refine z_iconst (z := 1) C dL_law_447 rfl ?_
  refine z_iadd C dL_law_448 ?_
  refine z_sld C (i := (i + 1)) (by omega) dL_law_449 ?_
  refine z_aload_n C 4 dL_law_450 rfl ?_
  refine z_iload C 0 dL_law_451 rfl ?_
  refine z_iconst (z := 2) C dL_law_453 rfl ?_
  refine z_iadd C dL_law_454 ?_
  refine z_sld C (i := (i + 2)) (by omega) dL_law_455 ?_
  refine z_callC (st := []) (n := 2) C [.int (iz ((xs (i + 1).toNat).toInt)), .int (iz ((xs (i + 2).toNat).toInt))] (ct_StageRatios_margin C.2.2.2.2.2.2.2.1.1 mC k0 kf ks kt kc ((xs (i + 1).toNat).toInt) ((xs (i + 2).toNat).toInt) hL.1.1 (i3r _) (i3r _)) qw702 qw1 qw699 rfl rfl ⟨Nat.le_of_ble_eq_true rfl, Nat.le_of_ble_eq_true rfl⟩ (by decide +kernel) qw700 qw701 rfl rfl (Nat.le_of_ble_eq_true rfl) ⟨by omega, by omega⟩ dL_law_456 (fun r m456 hp456 => ?_)
  obtain ⟨z456, rfl, hp, hci⟩ := hp456
  show VQ E zl ce sl (m456, mR, fo) 459 (Lz zl b i) [.int (iz (z456))]
  refine z_aload_n C 2 dL_law_459 rfl ?_
  refine z_aload_n C 4 dL_law_460 rfl ?_
  refine z_iload C 0 dL_law_461 rfl ?_
  refine z_iconst (z := 1) C dL_law_463 rfl ?_
  refine z_iadd C dL_law_464 ?_
  refine z_sld C (i := (i + 1)) (by omega) dL_law_465 ?_
  refine z_aload_n C 4 dL_law_466 rfl ?_
  refine z_iload C 0 dL_law_467 rfl ?_
  refine z_iconst (z := 2) C dL_law_469 rfl ?_
  refine z_iadd C dL_law_470 ?_
  refine z_sld C (i := (i + 2)) (by omega) dL_law_471 ?_
  refine z_callR (st := [.int (iz (z456))]) (n := 2) C [.int (iz ((xs (i + 1).toNat).toInt)), .int (iz ((xs (i + 2).toNat).toInt))] (ct_StageRatiosModel_margin C.2.2.2.2.2.2.2.1.2.1 mR (mC kf) (mC ks) (mC kt) (mC kc) (mC k0) (mC 5) ((xs (i + 1).toNat).toInt) ((xs (i + 2).toNat).toInt) hL.tt (i3r _) (i3r _)) qw1492 qw16 qw1489 rfl rfl ⟨Nat.le_of_ble_eq_true rfl, Nat.le_of_ble_eq_true rfl⟩ (by decide +kernel) qw1490 qw1491 rfl rfl (Nat.le_of_ble_eq_true rfl) ⟨by omega, by omega⟩ dL_law_472 (fun r m472 hp472 => ?_)
  obtain ⟨z472, rfl, hq, -⟩ := hp472
  show VQ E zl ce sl (m456, m472, fo) 475 (Lz zl b i) [.int (iz (z472)), .int (iz (z456))]
  rw [hL.2.2.1.2.2.2.2] at hq
  obtain ⟨rfl, hK⟩ := hL.q hp hq hci (u_Mar) t5_Mar
  refine z_same (tgt := 1388) C dL_law_475 (by decide) ?_
  exact k (m456, m472, fo) ce sl (hK.mono (by omega)) ⟨⟨by omega, by omega⟩, by omega, by omega⟩

set_option maxHeartbeats 4000000 in
set_option maxRecDepth 100000 in
theorem law_8 {E : Amb} {zl : Lw} {b Ln : Nat} {xs : Nat → Int32} {ce sl : Nat} {mC mR : Mem} {fo : Nat → Int64} {i : Int} (C : CQx E zl b Ln xs cL_law) (hi : 0 ≤ i ∧ i + 6 ≤ Ln) (hn : i < 90000) (hL : LK i mC mR) (hcs : ce + 1 ≤ 1135 ∧ sl + 6 ≤ 20627) (k : ∀ (m1 : Mq) (ce1 sl1 : Nat), LK (i + 1) m1.1 m1.2.1 → ((ce ≤ ce1 ∧ ce1 ≤ ce + 1) ∧ sl ≤ sl1 ∧ sl1 ≤ sl + 6) → VQ E zl ce1 sl1 m1 1388 (Lz zl b i) []) : VQ E zl ce sl (mC, mR, fo) 480 (Lz zl b i) [] := by
  obtain ⟨k0, kf, ks, kt, kc, d, df, ds, dt, dc, hL⟩ := hL
  have hch : mC 0 17 < 100000 := by have := hL.2.2.2.1; omega
  have hch0 : 0 ≤ mC 0 17 := hL.2.2.2.1.1
  refine z_aload_n C 3 dL_law_480 rfl ?_
  refine z_aload_n C 4 dL_law_481 rfl ?_
  refine z_iload C 0 dL_law_482 rfl ?_
  refine z_iconst (z := 1) C dL_law_484 rfl ?_
  refine z_iadd C dL_law_485 ?_
  refine z_sld C (i := (i + 1)) (by omega) dL_law_486 ?_
  refine z_callC (st := []) (n := 1) C [.int (iz ((xs (i + 1).toNat).toInt))] (ct_StageRatios_spare C.2.2.2.2.2.2.2.1.1 mC k0 kf ks kt kc ((xs (i + 1).toNat).toInt) hL.1.1 (i3r _)) qw706 qw1 qw703 rfl rfl ⟨Nat.le_of_ble_eq_true rfl, Nat.le_of_ble_eq_true rfl⟩ (by decide +kernel) qw704 qw705 rfl rfl (Nat.le_of_ble_eq_true rfl) ⟨by omega, by omega⟩ dL_law_487 (fun r m487 hp487 => ?_)
  obtain ⟨z487, rfl, hp, hci⟩ := hp487
  show VQ E zl ce sl (m487, mR, fo) 490 (Lz zl b i) [.int (iz (z487))]
  refine z_aload_n C 2 dL_law_490 rfl ?_
  refine z_aload_n C 4 dL_law_491 rfl ?_
  refine z_iload C 0 dL_law_492 rfl ?_
  refine z_iconst (z := 1) C dL_law_494 rfl ?_
  refine z_iadd C dL_law_495 ?_
  refine z_sld C (i := (i + 1)) (by omega) dL_law_496 ?_
  refine z_callR (st := [.int (iz (z487))]) (n := 1) C [.int (iz ((xs (i + 1).toNat).toInt))] (ct_StageRatiosModel_spare C.2.2.2.2.2.2.2.1.2.1 mR (mC kf) (mC ks) (mC kt) (mC kc) (mC k0) (mC 5) ((xs (i + 1).toNat).toInt) hL.tt (i3r _)) qw1496 qw16 qw1493 rfl rfl ⟨Nat.le_of_ble_eq_true rfl, Nat.le_of_ble_eq_true rfl⟩ (by decide +kernel) qw1494 qw1495 rfl rfl (Nat.le_of_ble_eq_true rfl) ⟨by omega, by omega⟩ dL_law_497 (fun r m497 hp497 => ?_)
  obtain ⟨z497, rfl, hq, -⟩ := hp497
  show VQ E zl ce sl (m487, m497, fo) 500 (Lz zl b i) [.int (iz (z497)), .int (iz (z487))]
  rw [hL.2.2.1.2.2.2.2] at hq
  obtain ⟨rfl, hK⟩ := hL.q hp hq hci (u_Spa) t5_Spa
  refine z_same (tgt := 1388) C dL_law_500 (by decide) ?_
  exact k (m487, m497, fo) ce sl (hK.mono (by omega)) ⟨⟨by omega, by omega⟩, by omega, by omega⟩

set_option maxHeartbeats 4000000 in
set_option maxRecDepth 100000 in
theorem law_9 {E : Amb} {zl : Lw} {b Ln : Nat} {xs : Nat → Int32} {ce sl : Nat} {mC mR : Mem} {fo : Nat → Int64} {i : Int} (C : CQx E zl b Ln xs cL_law) (hi : 0 ≤ i ∧ i + 6 ≤ Ln) (hn : i < 90000) (hL : LK i mC mR) (hcs : ce + 1 ≤ 1135 ∧ sl + 6 ≤ 20627) (k : ∀ (m1 : Mq) (ce1 sl1 : Nat), LK (i + 1) m1.1 m1.2.1 → ((ce ≤ ce1 ∧ ce1 ≤ ce + 1) ∧ sl ≤ sl1 ∧ sl1 ≤ sl + 6) → VQ E zl ce1 sl1 m1 1388 (Lz zl b i) []) : VQ E zl ce sl (mC, mR, fo) 505 (Lz zl b i) [] := by
  obtain ⟨k0, kf, ks, kt, kc, d, df, ds, dt, dc, hL⟩ := hL
  have hch : mC 0 17 < 100000 := by have := hL.2.2.2.1; omega
  have hch0 : 0 ≤ mC 0 17 := hL.2.2.2.1.1
  refine z_aload_n C 3 dL_law_505 rfl ?_
  refine z_callC (st := []) (n := 0) C [] (ct_StageRatios_mass C.2.2.2.2.2.2.2.1.1 mC k0 kf ks kt kc  hL.1.1 ) qw710 qw1 qw707 rfl rfl ⟨Nat.le_of_ble_eq_true rfl, Nat.le_of_ble_eq_true rfl⟩ (by decide +kernel) qw708 qw709 rfl rfl (Nat.le_of_ble_eq_true rfl) ⟨by omega, by omega⟩ dL_law_506 (fun r m506 hp506 => ?_)
  obtain ⟨z506, rfl, hp, hci⟩ := hp506
  show VQ E zl ce sl (m506, mR, fo) 509 (Lz zl b i) [.int (iz (z506))]
  refine z_aload_n C 2 dL_law_509 rfl ?_
  refine z_callR (st := [.int (iz (z506))]) (n := 0) C [] (ct_StageRatiosModel_mass C.2.2.2.2.2.2.2.1.2.1 mR (mC kf) (mC ks) (mC kt) (mC kc) (mC k0) (mC 5)  hL.tt ) qw1500 qw16 qw1497 rfl rfl ⟨Nat.le_of_ble_eq_true rfl, Nat.le_of_ble_eq_true rfl⟩ (by decide +kernel) qw1498 qw1499 rfl rfl (Nat.le_of_ble_eq_true rfl) ⟨by omega, by omega⟩ dL_law_510 (fun r m510 hp510 => ?_)
  obtain ⟨z510, rfl, hq, -⟩ := hp510
  show VQ E zl ce sl (m506, m510, fo) 513 (Lz zl b i) [.int (iz (z510)), .int (iz (z506))]
  rw [hL.2.2.1.2.2.2.2] at hq
  obtain ⟨rfl, hK⟩ := hL.q hp hq hci (u_Mas) t5_Mas
  refine z_same (tgt := 1388) C dL_law_513 (by decide) ?_
  exact k (m506, m510, fo) ce sl (hK.mono (by omega)) ⟨⟨by omega, by omega⟩, by omega, by omega⟩

set_option maxHeartbeats 4000000 in
set_option maxRecDepth 100000 in
theorem law_10 {E : Amb} {zl : Lw} {b Ln : Nat} {xs : Nat → Int32} {ce sl : Nat} {mC mR : Mem} {fo : Nat → Int64} {i : Int} (C : CQx E zl b Ln xs cL_law) (hi : 0 ≤ i ∧ i + 6 ≤ Ln) (hn : i < 90000) (hL : LK i mC mR) (hcs : ce + 1 ≤ 1135 ∧ sl + 6 ≤ 20627) (k : ∀ (m1 : Mq) (ce1 sl1 : Nat), LK (i + 1) m1.1 m1.2.1 → ((ce ≤ ce1 ∧ ce1 ≤ ce + 1) ∧ sl ≤ sl1 ∧ sl1 ≤ sl + 6) → VQ E zl ce1 sl1 m1 1388 (Lz zl b i) []) : VQ E zl ce sl (mC, mR, fo) 518 (Lz zl b i) [] := by
  obtain ⟨k0, kf, ks, kt, kc, d, df, ds, dt, dc, hL⟩ := hL
  have hch : mC 0 17 < 100000 := by have := hL.2.2.2.1; omega
  have hch0 : 0 ≤ mC 0 17 := hL.2.2.2.1.1
  refine z_aload_n C 3 dL_law_518 rfl ?_
  refine z_aload_n C 4 dL_law_519 rfl ?_
  refine z_iload C 0 dL_law_520 rfl ?_
  refine z_iconst (z := 1) C dL_law_522 rfl ?_
  refine z_iadd C dL_law_523 ?_
  refine z_sld C (i := (i + 1)) (by omega) dL_law_524 ?_
  refine z_callC (st := []) (n := 1) C [.int (iz ((xs (i + 1).toNat).toInt))] (ct_StageRatios_reaches C.2.2.2.2.2.2.2.1.1 mC k0 kf ks kt kc ((xs (i + 1).toNat).toInt) hL.1.1 (i3r _)) qw714 qw1 qw711 rfl rfl ⟨Nat.le_of_ble_eq_true rfl, Nat.le_of_ble_eq_true rfl⟩ (by decide +kernel) qw712 qw713 rfl rfl (Nat.le_of_ble_eq_true rfl) ⟨by omega, by omega⟩ dL_law_525 (fun r m525 hp525 => ?_)
  obtain ⟨z525, rfl, hp, hci⟩ := hp525
  show VQ E zl ce sl (m525, mR, fo) 528 (Lz zl b i) [.int (iz (z525))]
  refine z_aload_n C 2 dL_law_528 rfl ?_
  refine z_aload_n C 4 dL_law_529 rfl ?_
  refine z_iload C 0 dL_law_530 rfl ?_
  refine z_iconst (z := 1) C dL_law_532 rfl ?_
  refine z_iadd C dL_law_533 ?_
  refine z_sld C (i := (i + 1)) (by omega) dL_law_534 ?_
  refine z_callR (st := [.int (iz (z525))]) (n := 1) C [.int (iz ((xs (i + 1).toNat).toInt))] (ct_StageRatiosModel_reaches C.2.2.2.2.2.2.2.1.2.1 mR (mC kf) (mC ks) (mC kt) (mC kc) (mC k0) (mC 5) ((xs (i + 1).toNat).toInt) hL.tt (i3r _)) qw1504 qw16 qw1501 rfl rfl ⟨Nat.le_of_ble_eq_true rfl, Nat.le_of_ble_eq_true rfl⟩ (by decide +kernel) qw1502 qw1503 rfl rfl (Nat.le_of_ble_eq_true rfl) ⟨by omega, by omega⟩ dL_law_535 (fun r m535 hp535 => ?_)
  obtain ⟨z535, rfl, hq, -⟩ := hp535
  show VQ E zl ce sl (m525, m535, fo) 538 (Lz zl b i) [.int (iz (z535)), .int (iz (z525))]
  rw [hL.2.2.1.2.2.2.2] at hq
  obtain ⟨rfl, hK⟩ := hL.q hp hq hci (u_Rea) t5_Rea
  refine z_same (tgt := 1388) C dL_law_538 (by decide) ?_
  exact k (m525, m535, fo) ce sl (hK.mono (by omega)) ⟨⟨by omega, by omega⟩, by omega, by omega⟩

set_option maxHeartbeats 4000000 in
set_option maxRecDepth 100000 in
theorem law_11 {E : Amb} {zl : Lw} {b Ln : Nat} {xs : Nat → Int32} {ce sl : Nat} {mC mR : Mem} {fo : Nat → Int64} {i : Int} (C : CQx E zl b Ln xs cL_law) (hi : 0 ≤ i ∧ i + 6 ≤ Ln) (hn : i < 90000) (hL : LK i mC mR) (hcs : ce + 1 ≤ 1135 ∧ sl + 6 ≤ 20627) (k : ∀ (m1 : Mq) (ce1 sl1 : Nat), LK (i + 1) m1.1 m1.2.1 → ((ce ≤ ce1 ∧ ce1 ≤ ce + 1) ∧ sl ≤ sl1 ∧ sl1 ≤ sl + 6) → VQ E zl ce1 sl1 m1 1388 (Lz zl b i) []) : VQ E zl ce sl (mC, mR, fo) 543 (Lz zl b i) [] := by
  obtain ⟨k0, kf, ks, kt, kc, d, df, ds, dt, dc, hL⟩ := hL
  have hch : mC 0 17 < 100000 := by have := hL.2.2.2.1; omega
  have hch0 : 0 ≤ mC 0 17 := hL.2.2.2.1.1
  refine z_aload_n C 3 dL_law_543 rfl ?_
  refine z_callC (st := []) (n := 0) C [] (ct_StageRatios_greatest C.2.2.2.2.2.2.2.1.1 mC k0 kf ks kt kc  hL.1.1 ) qw773 qw1 qw770 rfl rfl ⟨Nat.le_of_ble_eq_true rfl, Nat.le_of_ble_eq_true rfl⟩ (by decide +kernel) qw771 qw772 rfl rfl (Nat.le_of_ble_eq_true rfl) ⟨by omega, by omega⟩ dL_law_544 (fun r m544 hp544 => ?_)
  obtain ⟨z544, rfl, hp, hci⟩ := hp544
  show VQ E zl ce sl (m544, mR, fo) 547 (Lz zl b i) [.int (iz (z544))]
  refine z_aload_n C 2 dL_law_547 rfl ?_
  refine z_callR (st := [.int (iz (z544))]) (n := 0) C [] (ct_StageRatiosModel_greatest C.2.2.2.2.2.2.2.1.2.1 mR (mC kf) (mC ks) (mC kt) (mC kc) (mC k0) (mC 5)  hL.tt ) qw1545 qw16 qw1542 rfl rfl ⟨Nat.le_of_ble_eq_true rfl, Nat.le_of_ble_eq_true rfl⟩ (by decide +kernel) qw1543 qw1544 rfl rfl (Nat.le_of_ble_eq_true rfl) ⟨by omega, by omega⟩ dL_law_548 (fun r m548 hp548 => ?_)
  obtain ⟨z548, rfl, hq, -⟩ := hp548
  show VQ E zl ce sl (m544, m548, fo) 551 (Lz zl b i) [.int (iz (z548)), .int (iz (z544))]
  rw [hL.2.2.1.2.2.2.2] at hq
  obtain ⟨rfl, hK⟩ := hL.q hp hq hci (u_Gre (fun e => (hL.vd e).1)) t5_Gre
  refine z_same (tgt := 1388) C dL_law_551 (by decide) ?_
  exact k (m544, m548, fo) ce sl (hK.mono (by omega)) ⟨⟨by omega, by omega⟩, by omega, by omega⟩

set_option maxHeartbeats 4000000 in
set_option maxRecDepth 100000 in
theorem law_12 {E : Amb} {zl : Lw} {b Ln : Nat} {xs : Nat → Int32} {ce sl : Nat} {mC mR : Mem} {fo : Nat → Int64} {i : Int} (C : CQx E zl b Ln xs cL_law) (hi : 0 ≤ i ∧ i + 6 ≤ Ln) (hn : i < 90000) (hL : LK i mC mR) (hcs : ce + 1 ≤ 1135 ∧ sl + 6 ≤ 20627) (k : ∀ (m1 : Mq) (ce1 sl1 : Nat), LK (i + 1) m1.1 m1.2.1 → ((ce ≤ ce1 ∧ ce1 ≤ ce + 1) ∧ sl ≤ sl1 ∧ sl1 ≤ sl + 6) → VQ E zl ce1 sl1 m1 1388 (Lz zl b i) []) : VQ E zl ce sl (mC, mR, fo) 556 (Lz zl b i) [] := by
  obtain ⟨k0, kf, ks, kt, kc, d, df, ds, dt, dc, hL⟩ := hL
  have hch : mC 0 17 < 100000 := by have := hL.2.2.2.1; omega
  have hch0 : 0 ≤ mC 0 17 := hL.2.2.2.1.1
  refine z_aload_n C 3 dL_law_556 rfl ?_
  refine z_aload_n C 4 dL_law_557 rfl ?_
  refine z_iload C 0 dL_law_558 rfl ?_
  refine z_iconst (z := 1) C dL_law_560 rfl ?_
  refine z_iadd C dL_law_561 ?_
  refine z_sld C (i := (i + 1)) (by omega) dL_law_562 ?_
  refine z_if_eq (tgt := 570) C dL_law_563 (by decide) (i3r _) (fun hb563 => ?_) (fun hb563 => ?_)
  · refine z_iconst (z := 0) C dL_law_570 rfl ?_
    refine z_callC (st := []) (n := 1) C [.int (iz (0))] (ct_StageRatios_speed C.2.2.2.2.2.2.2.1.1 mC k0 kf ks kt kc (0) hL.1.1 (Or.inl rfl)) qw777 qw1 qw774 rfl rfl ⟨Nat.le_of_ble_eq_true rfl, Nat.le_of_ble_eq_true rfl⟩ (by decide +kernel) qw775 qw776 rfl rfl (Nat.le_of_ble_eq_true rfl) ⟨by omega, by omega⟩ dL_law_571 (fun r m571 hp571 => ?_)
    obtain ⟨z571, rfl, hp, hci⟩ := hp571
    show VQ E zl ce sl (m571, mR, fo) 574 (Lz zl b i) [.int (iz (z571))]
    refine z_aload_n C 2 dL_law_574 rfl ?_
    refine z_aload_n C 4 dL_law_575 rfl ?_
    refine z_iload C 0 dL_law_576 rfl ?_
    refine z_iconst (z := 1) C dL_law_578 rfl ?_
    refine z_iadd C dL_law_579 ?_
    refine z_sld C (i := (i + 1)) (by omega) dL_law_580 ?_
    refine z_if_eq (tgt := 588) C dL_law_581 (by decide) (i3r _) (fun _ => ?_) (fun y => absurd hb563 y)
    refine z_iconst (z := 0) C dL_law_588 rfl ?_
    refine z_callR (st := [.int (iz (z571))]) (n := 1) C [.int (iz (0))] (ct_StageRatiosModel_speed C.2.2.2.2.2.2.2.1.2.1 mR (mC kf) (mC ks) (mC kt) (mC kc) (mC k0) (mC 5) (0) hL.tt (Or.inl rfl)) qw1561 qw16 qw1558 rfl rfl ⟨Nat.le_of_ble_eq_true rfl, Nat.le_of_ble_eq_true rfl⟩ (by decide +kernel) qw1559 qw1560 rfl rfl (Nat.le_of_ble_eq_true rfl) ⟨by omega, by omega⟩ dL_law_589 (fun r m589 hp589 => ?_)
    obtain ⟨z589, rfl, hq, -⟩ := hp589
    show VQ E zl ce sl (m571, m589, fo) 592 (Lz zl b i) [.int (iz (z589)), .int (iz (z571))]
    rw [hL.2.2.1.2.2.2.2] at hq
    obtain ⟨rfl, hK⟩ := hL.q hp hq hci (u_Spe) t5_Spe
    refine z_same (tgt := 1388) C dL_law_592 (by decide) ?_
    exact k (m571, m589, fo) ce sl (hK.mono (by omega)) ⟨⟨by omega, by omega⟩, by omega, by omega⟩
  · refine z_iconst (z := 1) C dL_law_566 rfl ?_
    refine z_goto (tgt := 571) C dL_law_567 (by decide) ?_
    refine z_callC (st := []) (n := 1) C [.int (iz (1))] (ct_StageRatios_speed C.2.2.2.2.2.2.2.1.1 mC k0 kf ks kt kc (1) hL.1.1 (Or.inr rfl)) qw777 qw1 qw774 rfl rfl ⟨Nat.le_of_ble_eq_true rfl, Nat.le_of_ble_eq_true rfl⟩ (by decide +kernel) qw775 qw776 rfl rfl (Nat.le_of_ble_eq_true rfl) ⟨by omega, by omega⟩ dL_law_571 (fun r m571 hp571 => ?_)
    obtain ⟨z571, rfl, hp, hci⟩ := hp571
    show VQ E zl ce sl (m571, mR, fo) 574 (Lz zl b i) [.int (iz (z571))]
    refine z_aload_n C 2 dL_law_574 rfl ?_
    refine z_aload_n C 4 dL_law_575 rfl ?_
    refine z_iload C 0 dL_law_576 rfl ?_
    refine z_iconst (z := 1) C dL_law_578 rfl ?_
    refine z_iadd C dL_law_579 ?_
    refine z_sld C (i := (i + 1)) (by omega) dL_law_580 ?_
    refine z_if_eq (tgt := 588) C dL_law_581 (by decide) (i3r _) (fun y => absurd y hb563) (fun _ => ?_)
    refine z_iconst (z := 1) C dL_law_584 rfl ?_
    refine z_goto (tgt := 589) C dL_law_585 (by decide) ?_
    refine z_callR (st := [.int (iz (z571))]) (n := 1) C [.int (iz (1))] (ct_StageRatiosModel_speed C.2.2.2.2.2.2.2.1.2.1 mR (mC kf) (mC ks) (mC kt) (mC kc) (mC k0) (mC 5) (1) hL.tt (Or.inr rfl)) qw1561 qw16 qw1558 rfl rfl ⟨Nat.le_of_ble_eq_true rfl, Nat.le_of_ble_eq_true rfl⟩ (by decide +kernel) qw1559 qw1560 rfl rfl (Nat.le_of_ble_eq_true rfl) ⟨by omega, by omega⟩ dL_law_589 (fun r m589 hp589 => ?_)
    obtain ⟨z589, rfl, hq, -⟩ := hp589
    show VQ E zl ce sl (m571, m589, fo) 592 (Lz zl b i) [.int (iz (z589)), .int (iz (z571))]
    rw [hL.2.2.1.2.2.2.2] at hq
    obtain ⟨rfl, hK⟩ := hL.q hp hq hci (u_Spe) t5_Spe
    refine z_same (tgt := 1388) C dL_law_592 (by decide) ?_
    exact k (m571, m589, fo) ce sl (hK.mono (by omega)) ⟨⟨by omega, by omega⟩, by omega, by omega⟩

set_option maxHeartbeats 4000000 in
set_option maxRecDepth 100000 in
theorem law_13 {E : Amb} {zl : Lw} {b Ln : Nat} {xs : Nat → Int32} {ce sl : Nat} {mC mR : Mem} {fo : Nat → Int64} {i : Int} (C : CQx E zl b Ln xs cL_law) (hi : 0 ≤ i ∧ i + 6 ≤ Ln) (hn : i < 90000) (hL : LK i mC mR) (hcs : ce + 1 ≤ 1135 ∧ sl + 6 ≤ 20627) (k : ∀ (m1 : Mq) (ce1 sl1 : Nat), LK (i + 1) m1.1 m1.2.1 → ((ce ≤ ce1 ∧ ce1 ≤ ce + 1) ∧ sl ≤ sl1 ∧ sl1 ≤ sl + 6) → VQ E zl ce1 sl1 m1 1388 (Lz zl b i) []) : VQ E zl ce sl (mC, mR, fo) 597 (Lz zl b i) [] := by
  obtain ⟨k0, kf, ks, kt, kc, d, df, ds, dt, dc, hL⟩ := hL
  have hch : mC 0 17 < 100000 := by have := hL.2.2.2.1; omega
  have hch0 : 0 ≤ mC 0 17 := hL.2.2.2.1.1
  refine z_aload_n C 3 dL_law_597 rfl ?_
  refine z_callC (st := []) (n := 0) C [] (ct_StageRatios_holds C.2.2.2.2.2.2.2.1.1 mC k0 kf ks kt kc  hL.1.1 ) qw790 qw1 qw787 rfl rfl ⟨Nat.le_of_ble_eq_true rfl, Nat.le_of_ble_eq_true rfl⟩ (by decide +kernel) qw788 qw789 rfl rfl (Nat.le_of_ble_eq_true rfl) ⟨by omega, by omega⟩ dL_law_598 (fun r m598 hp598 => ?_)
  obtain ⟨z598, rfl, hp, hci⟩ := hp598
  show VQ E zl ce sl (m598, mR, fo) 601 (Lz zl b i) [.int (iz (z598))]
  refine z_aload_n C 2 dL_law_601 rfl ?_
  refine z_callR (st := [.int (iz (z598))]) (n := 0) C [] (ct_StageRatiosModel_holds C.2.2.2.2.2.2.2.1.2.1 mR (mC kf) (mC ks) (mC kt) (mC kc) (mC k0) (mC 5)  hL.tt ) qw1553 qw16 qw1550 rfl rfl ⟨Nat.le_of_ble_eq_true rfl, Nat.le_of_ble_eq_true rfl⟩ (by decide +kernel) qw1551 qw1552 rfl rfl (Nat.le_of_ble_eq_true rfl) ⟨by omega, by omega⟩ dL_law_602 (fun r m602 hp602 => ?_)
  obtain ⟨z602, rfl, hq, -⟩ := hp602
  show VQ E zl ce sl (m598, m602, fo) 605 (Lz zl b i) [.int (iz (z602)), .int (iz (z598))]
  rw [hL.2.2.1.2.2.2.2] at hq
  obtain ⟨rfl, hK⟩ := hL.q hp hq hci (u_Hol) t5_Hol
  refine z_same (tgt := 1388) C dL_law_605 (by decide) ?_
  exact k (m598, m602, fo) ce sl (hK.mono (by omega)) ⟨⟨by omega, by omega⟩, by omega, by omega⟩

