/-! the reference's reader: its steps -/
theorem NxS.f0 {m : Mem} {n : Int} {x : Rs Int} (h : NxS m n x) : 0 ≤ m 0 31 ∧ m 0 31 ≤ 6 := by
  cases x with
  | inl e => have := h.1; have := h.2.1; have := h.2.2.1; omega
  | inr p => have := h.2.1; omega
theorem NxS.ok {m : Mem} {n : Int} {x : Rs Int} (h : NxS m n x) (f : m 0 31 ≤ 0) : ∃ p, x = .inr p ∧ (0 ≤ p ∧ p ≤ n) ∧ m 0 31 = 0 ∧ m 0 27 = p := by
  cases x with
  | inl e => have := h.1; have := h.2.1; omega
  | inr p => exact ⟨p, rfl, h⟩
theorem NxS.bad {m : Mem} {n : Int} {x : Rs Int} (h : NxS m n x) (b : Int → Int) (f : ¬ m 0 31 ≤ 0) : TkS m b n x := by
  cases x with
  | inl e => exact h
  | inr p => have := h.2.1; omega
theorem TkS.ok {m : Mem} {b : Int → Int} {n : Int} {x : Rs Int} (h : TkS m b n x) (f : m 0 31 ≤ 0) : ∃ p, x = .inr p := by
  cases x with
  | inl e => have := h.1; have := h.2.1; omega
  | inr p => exact ⟨p, rfl⟩
theorem TkS.bad {m : Mem} {b : Int → Int} {n : Int} {x : Rs Int} (h : TkS m b n x) (f : m 0 31 ≠ 0) : ∃ e, x = .inl e := by
  cases x with
  | inl e => exact ⟨e, rfl⟩
  | inr p => exact absurd h.2.1 f
theorem TkS.i {m : Mem} {b : Int → Int} {n : Int} {x : Rs Int} {p : Int} (h : TkS m b n x) (e : x = .inr p) : TkS m b n (.inr p) := by rw [← e]; exact h
theorem TkS.l {m : Mem} {b : Int → Int} {n : Int} {x : Rs Int} {e : Int × Int} (h : TkS m b n x) (y : x = .inl e) : m 0 31 = e.1 ∧ 0 < e.1 ∧ e.1 ≤ 6 ∧ m 0 29 = e.2 ∧ m 0 28 = 0 := by rw [y] at h; exact h
theorem kZR_e {k : Int} (h : 0 ≤ k ∧ k ≤ 4) : (kZR k = 1 ↔ k = 0) ∧ (kZR k = 2 ↔ k = 1) ∧ (kZR k = 3 ↔ k = 2) ∧ (kZR k = 4 ↔ k = 3) := by unfold kZR; omega
theorem TkS.tk {m : Mem} {b : Int → Int} {n p : Int} (h : TkS m b n (.inr p)) : (m 0 28 = 1 ↔ kdZ b n p = 0) ∧ (m 0 28 = 2 ↔ kdZ b n p = 1) ∧ (m 0 28 = 3 ↔ kdZ b n p = 2) ∧ (m 0 28 = 4 ↔ kdZ b n p = 3) := by
  rw [h.2.2.2.2.1]; exact kZR_e (tk_rngP h.1.2).2.1
/-- the token is the word bs -/
def WdS (b : Int → Int) (n : Int) (bs : List Int32) (x : Rs Int) : Prop := ∃ p, x = .inr p ∧ kdZ b n p = 1 ∧ wlZ b n p = wdC bs
def NmS (b : Int → Int) (n : Int) (x : Rs Int) : Prop := ∃ p, x = .inr p ∧ isNm b n p
theorem TkS.t2 {m : Mem} {b : Int → Int} {n : Int} {x : Rs Int} (h : TkS m b n x) (f : m 0 28 = 2) : ∃ p, x = .inr p ∧ kdZ b n p = 1 ∧ m 0 32 = enZ 256 0 (wlZ b n p) ∧ wdOk (wlZ b n p) := by
  cases x with
  | inl e => have := h.2.2.2.2; omega
  | inr p => have k := h.tk.2.1.mp f; exact ⟨p, rfl, k, h.2.2.2.2.2.1 k, wl_ok h.1.2 k⟩
theorem TkS.n2 {m : Mem} {b : Int → Int} {n p : Int} {x : Rs Int} (h : TkS m b n x) (e : x = .inr p) (k : kdZ b n p = 1) : m 0 28 = 2 := (h.i e).tk.2.1.mpr k
theorem TkS.t3 {m : Mem} {b : Int → Int} {n : Int} {x : Rs Int} (h : TkS m b n x) (f : m 0 28 = 3) : ∃ p, x = .inr p ∧ kdZ b n p = 2 ∧ m 0 30 = nmZ b n p ∧ 0 ≤ nmZ b n p ∧ nmZ b n p ≤ 999 := by
  cases x with
  | inl e => have := h.2.2.2.2; omega
  | inr p => have k := h.tk.2.2.1.mp f; exact ⟨p, rfl, k, h.2.2.2.2.2.2 k, nm_rng h.1.2 k⟩
theorem nxO_fl {b : Int → Int} {n f : Int} {x : Rs Int} : nxO b n (flO b n f x) = flO b n f x := by cases x <;> rfl
def sndR {α : Type} (y : Rs (α × Int)) : Rs Int := bnd y fun q => .inr q.2
def vlR (lo : Int) (y : Rs (Int × Int)) : Int := match y with
  | .inl _ => lo
  | .inr q => q.1
theorem whl_1 {m : Mem} {b : Int → Int} {n lo hi : Int} {x : Rs Int} (h : TkS m b n x) (f : m 0 28 ≠ 3) : sndR (bnd x (tWhole b n lo hi)) = flO b n 1 x ∧ vlR lo (bnd x (tWhole b n lo hi)) = lo := by
  cases x with
  | inl e => exact ⟨rfl, rfl⟩
  | inr p =>
    have e : tWhole b n lo hi p = .inl (1, skZ b n p) := if_neg (fun y => f (h.tk.2.2.1.mpr y))
    show sndR (tWhole b n lo hi p) = _ ∧ vlR lo (tWhole b n lo hi p) = lo
    rw [e]; exact ⟨rfl, rfl⟩
theorem whl_4 {b : Int → Int} {n lo hi p : Int} {x : Rs Int} (e : x = .inr p) (k : kdZ b n p = 2) (f : ¬ (lo ≤ nmZ b n p ∧ nmZ b n p ≤ hi)) : sndR (bnd x (tWhole b n lo hi)) = flO b n 4 x ∧ vlR lo (bnd x (tWhole b n lo hi)) = lo := by
  subst e
  have e : tWhole b n lo hi p = .inl (4, skZ b n p) := (if_pos k).trans (if_neg f)
  show sndR (tWhole b n lo hi p) = _ ∧ vlR lo (tWhole b n lo hi p) = lo
  rw [e]; exact ⟨rfl, rfl⟩
theorem whl_0 {b : Int → Int} {n lo hi p : Int} {x : Rs Int} (e : x = .inr p) (k : kdZ b n p = 2) (f : lo ≤ nmZ b n p ∧ nmZ b n p ≤ hi) : sndR (bnd x (tWhole b n lo hi)) = nxO b n x ∧ vlR lo (bnd x (tWhole b n lo hi)) = nmZ b n p := by
  subst e
  have e : tWhole b n lo hi p = .inr (nmZ b n p, nxZ b n p) := (if_pos k).trans (if_pos f)
  show sndR (tWhole b n lo hi p) = _ ∧ vlR lo (tWhole b n lo hi p) = _
  rw [e]; exact ⟨rfl, rfl⟩
theorem vlR_r {lo hi : Int} {b : Int → Int} {n : Int} {x : Rs Int} (h : lo ≤ hi) : lo ≤ vlR lo (bnd x (tWhole b n lo hi)) ∧ vlR lo (bnd x (tWhole b n lo hi)) ≤ hi := by
  cases x with
  | inl e => exact ⟨Int.le_refl _, h⟩
  | inr p =>
    show lo ≤ vlR lo (tWhole b n lo hi p) ∧ vlR lo (tWhole b n lo hi p) ≤ hi
    unfold tWhole; split
    · split
      · assumption
      · exact ⟨Int.le_refl _, h⟩
    · exact ⟨Int.le_refl _, h⟩
theorem prt_1 {b : Int → Int} {n lo hi : Int} {bs : List Int32} {x : Rs Int} (h : WdS b n bs x) : bnd (nxO b n x) (tWhole b n lo hi) = bnd x (tPart b n bs lo hi) := by
  obtain ⟨p, rfl, k, w⟩ := h
  show tWhole b n lo hi (nxZ b n p) = bnd (tWord b n bs p) _
  rw [show tWord b n bs p = .inr (nxZ b n p) from if_pos ⟨k, w⟩]; rfl
theorem prt_0 {b : Int → Int} {n lo hi : Int} {bs : List Int32} {x : Rs Int} (h : ¬ WdS b n bs x) : bnd (nxO b n (flO b n 1 x)) (tWhole b n lo hi) = bnd x (tPart b n bs lo hi) := by
  cases x with
  | inl e => rfl
  | inr p =>
    show Sum.inl (1, skZ b n p) = bnd (tWord b n bs p) _
    rw [show tWord b n bs p = .inl (1, skZ b n p) from if_neg (fun y => h ⟨p, rfl, y⟩)]; rfl
theorem vlP_r {lo hi : Int} {b : Int → Int} {n : Int} {bs : List Int32} {x : Rs Int} (h : lo ≤ hi) : lo ≤ vlR lo (bnd x (tPart b n bs lo hi)) ∧ vlR lo (bnd x (tPart b n bs lo hi)) ≤ hi := by
  by_cases c : WdS b n bs x
  · rw [← prt_1 c]; exact vlR_r h
  · rw [← prt_0 c]; exact vlR_r h
theorem byN_rng {m : Mem} {b : Int → Int} {n k : Int} (h : BtR m b n) (h0 : 0 ≤ k) : -1 ≤ byN b n k ∧ byN b n k ≤ 255 := by
  unfold byN; split
  · have := h.rng h0 (by assumption); omega
  · omega
theorem byN_lt {b : Int → Int} {n k : Int} (h : byN b n k ≠ -1) : k < n := by
  by_cases c : k < n
  · exact c
  · exact absurd (byN_0 c) h
theorem en256_t {bs : List Int32} {k : Int} (h : wdOk (wdC bs)) (h0 : 0 ≤ k) (h1 : k < bs.length) (h7 : bs.length ≤ 7) : 0 ≤ enZ 256 0 (wdC (bs.take k.toNat)) ∧ enZ 256 0 (wdC (bs.take k.toNat)) < 281474976710656 := by
  have hm : ∀ c ∈ wdC (bs.take k.toNat), 97 ≤ c ∧ c ≤ 122 := fun c hc => by
    unfold wdC at hc
    obtain ⟨x, hx, rfl⟩ := List.mem_map.mp (List.mem_reverse.mp hc)
    exact h.2 _ (by unfold wdC; exact List.mem_reverse.mpr (List.mem_map.mpr ⟨x, List.mem_of_mem_take hx, rfl⟩))
  have a := en256_0 hm
  have d := en256_b hm
  have l : (wdC (bs.take k.toNat)).length ≤ 6 := by unfold wdC; rw [List.length_reverse, List.length_map, List.length_take]; omega
  have e : (256 : Int) ^ (wdC (bs.take k.toNat)).length ≤ 256 ^ 6 := pw_le (by decide) l
  have f : (256 : Int) ^ 6 = 281474976710656 := by decide
  omega
theorem en_eq6 {l k : List Int} (hl : wdOk l) (hk : wdOk k) (h : enZ 256 0 l = enZ 256 0 k) : l = k := en256_inj hl.2 hk.2 h
def bgO (b : Int → Int) (n full up : Int) (x : Rs Int) : Rs Int := nxO b n (if up = 0 then flO b n 6 (if full = 1 then flO b n 5 x else x) else if full = 1 then flO b n 5 x else x)
theorem bg_1 (b : Int → Int) (n : Int) (x : Rs Int) {full up : Int} (h : full = 0) (g : up ≠ 0) : bgO b n full up x = nxO b n x := by unfold bgO; rw [if_neg g, if_neg (by omega)]
theorem bg_2 (b : Int → Int) (n : Int) (x : Rs Int) {full up : Int} (h : full = 0) (g : up = 0) : bgO b n full up x = nxO b n (flO b n 6 x) := by unfold bgO; rw [if_pos g, if_neg (by omega)]
theorem bg_3 (b : Int → Int) (n : Int) (x : Rs Int) {full up : Int} (h : full = 1) (g : up ≠ 0) : bgO b n full up x = nxO b n (flO b n 5 x) := by unfold bgO; rw [if_neg g, if_pos h]
theorem bg_4 (b : Int → Int) (n : Int) (x : Rs Int) {full up : Int} (h : full = 1) (g : up = 0) : bgO b n full up x = nxO b n (flO b n 6 (flO b n 5 x)) := by unfold bgO; rw [if_pos g, if_pos h]
theorem gr_solid : grZ (wdC w_solid) = 2 := by decide +kernel
theorem gr_oil : grZ (wdC w_oil) = 3 := by decide +kernel
theorem gr_gas : grZ (wdC w_gas) = 4 := by decide +kernel
theorem knd_1 {b : Int → Int} {n g : Int} {bs : List Int32} {x : Rs Int} (h : WdS b n bs x) (e : grZ (wdC bs) = g) (g0 : g ≠ 0) : sndR (bnd x (tKind b n)) = nxO b n x ∧ vlR (-1) (bnd x (tKind b n)) = g := by
  obtain ⟨p, rfl, k, w⟩ := h
  show sndR (tKind b n p) = _ ∧ vlR (-1) (tKind b n p) = _
  have a : tKind b n p = .inr (grZ (wlZ b n p), nxZ b n p) := if_pos ⟨k, by rw [w, e]; exact g0⟩
  rw [a, w, e]; exact ⟨rfl, rfl⟩
theorem knd_0 {b : Int → Int} {n : Int} {x : Rs Int} (h1 : ¬ WdS b n w_solid x) (h2 : ¬ WdS b n w_oil x) (h3 : ¬ WdS b n w_gas x) : sndR (bnd x (tKind b n)) = nxO b n (flO b n 1 x) ∧ vlR (-1) (bnd x (tKind b n)) = -1 := by
  cases x with
  | inl e => exact ⟨rfl, rfl⟩
  | inr p =>
    have a : tKind b n p = .inl (1, skZ b n p) := if_neg (fun y => by
      refine y.2 ?_
      unfold grZ
      rw [if_neg (fun z => h1 ⟨p, rfl, y.1, z⟩), if_neg (fun z => h2 ⟨p, rfl, y.1, z⟩), if_neg (fun z => h3 ⟨p, rfl, y.1, z⟩)])
    show sndR (tKind b n p) = _ ∧ vlR (-1) (tKind b n p) = _
    rw [a]; exact ⟨rfl, rfl⟩
set_option maxHeartbeats 4000000 in
set_option maxRecDepth 100000 in
theorem ct_StageRatiosModel_next {lau : Launch} {D : va_G} {cy : Nat → ClassId} {aa ad : Nat → Nat} (hI : wI (wR D cy aa ad)) (m : Mem) (b : Int → Int) (n : Int) (x : Rs Int) (hB : BtR m b n) (hN : NxS m n x) : MT lau (wR D cy aa ad) yX11_next cX11_next 2 (none) ({ frames := 2, cells := 0, slots := 0, locals := 42 } : Room) m [.ref (aa 0)] (Pv (fun m' => TkS m' b n (x) ∧ FZ m m')) := by
  refine v_entry hI RX11 (by decide) rfl (Nat.le_of_ble_eq_true rfl) (fun E hE C X => ?_)
  subst hE
  show V E (wR D cy aa ad) 2 m 0 [(0, .ref (aa 0))] []
  refine v_aload_n C 0 dX11_next_0 rfl ?_
  refine v_get C 0 31 lR0 (eR0 _) rfl inX11 (by decide) rfl qw1171 dX11_next_1 ?_
  refine v_if_le (tgt := 8) C dX11_next_4 (by decide) (by have y := hN.f0; omega) (fun c1 => ?_) (fun c1 => ?_)
  · obtain ⟨p, hxe, hp, hf0, hs0⟩ := hN.ok c1
    have K8 : ∀ (nK : Nat)  (mL : Mem) (hL : 0 ≤ mL 0 27 ∧ mL 0 27 ≤ n) (hsk : skZ b n p = skZ b n (mL 0 27)) (h0 : ∀ j : Int, j ≠ 27 → mL 0 j = m 0 j) (hf : ∀ q, q ≠ 0 → mL q = m q), (n - mL 0 27).toNat < nK → V E (wR D cy aa ad) 2 mL 8 [(0, .ref (aa 0))] [] := by
      intro nK
      induction nK with
      | zero => intro  mL hL hsk h0 hf hn; exact absurd hn (Nat.not_lt_zero _)
      | succ nK ih8 =>
        intro  mL hL hsk h0 hf hn8
        have hBL : BtR mL b n := hB.fr ⟨fun j hj => h0 j (by omega), hf⟩
        have hbr := byN_rng hBL hL.1
        have hn7 := hB.2.1
        refine v_aload_n C 0 dX11_next_8 rfl ?_
        refine v_aload_n C 0 dX11_next_9 rfl ?_
        refine v_get C 0 27 lR0 (eR0 _) rfl inX11 (by decide) rfl qw1167 dX11_next_10 ?_
        refine v_callV (st := []) (n := 1) (q := 0) C [.int (iz (mL 0 27))] (ct_StageRatiosModel_byteAt C.2.2.2.2.2.2.1 mL (b) (n) (mL 0 27) (by exact hBL) (by omega)) lR0 (eR0 _) rfl qw1352 qw16 qw1349 rfl rfl ⟨Nat.le_of_ble_eq_true rfl, Nat.le_of_ble_eq_true rfl⟩ (by decide +kernel) qw1351 qp39 rfl rfl (Nat.le_of_ble_eq_true rfl) dX11_next_13 (fun r m2 hq2 => ?_)
        obtain ⟨z2, rfl, rfl, rfl⟩ := hq2
        show V E (wR D cy aa ad) 2 mL 16 [(0, .ref (aa 0))] [.int (iz (byN b n (mL 0 27)))]
        refine v_bipush (z := 32) C dX11_next_16 (by decide) ?_
        refine v_icmp_ne (tgt := 34) C dX11_next_18 (by decide) (by omega) (by omega) (fun c3 => ?_) (fun c3 => ?_)
        · have hse : skZ b n p = mL 0 27 := by rw [hsk]; exact skZ_e (fun y => c3 (by rw [byN_1 y.1]; exact y.2))
          refine v_aload_n C 0 dX11_next_34 rfl ?_
          refine v_aload_n C 0 dX11_next_35 rfl ?_
          refine v_get C 0 27 lR0 (eR0 _) rfl inX11 (by decide) rfl qw1167 dX11_next_36 ?_
          refine v_put C 0 29 (mL 0 27) 29 rfl lR0 (eR0 _) rfl inX11 tyX11 tyX11_ok nmX11 (by decide) qw1169 rfl rfl rfl (Nat.le_of_ble_eq_true rfl) (by rw [mup_r]; exact (eR0 _)) dX11_next_39 (fun m4 em4 => ?_)
          have z39 : ∀ j : Int, j ≠ 27 → j ≠ 29 → m4 0 j = m 0 j := fun j a c => by rw [em4, mup_j _ _ c]; exact h0 j a
          have fz39 : FZ m m4 := ⟨fun j hj => z39 j (by omega) (by omega), fun q h => by rw [em4, mup_k _ _ _ h]; exact hf q h⟩
          have hB39 := hB.fr fz39
          have e27 : m4 0 27 = mL 0 27 := by rw [em4, mup_j _ _ (by decide)]
          have e29 : m4 0 29 = mL 0 27 := by rw [em4, mup_s]
          have f31 : m4 0 31 = 0 := by rw [z39 31 (by decide) (by decide)]; exact hf0
          refine v_aload_n C 0 dX11_next_42 rfl ?_
          refine v_aload_n C 0 dX11_next_43 rfl ?_
          refine v_get C 0 27 lR0 (eR0 _) rfl inX11 (by decide) rfl qw1167 dX11_next_44 ?_
          refine v_callV (st := []) (n := 1) (q := 0) C [.int (iz (m4 0 27))] (ct_StageRatiosModel_byteAt C.2.2.2.2.2.2.1 m4 (b) (n) (m4 0 27) (by exact hB39) (by omega)) lR0 (eR0 _) rfl qw1352 qw16 qw1349 rfl rfl ⟨Nat.le_of_ble_eq_true rfl, Nat.le_of_ble_eq_true rfl⟩ (by decide +kernel) qw1351 qp39 rfl rfl (Nat.le_of_ble_eq_true rfl) dX11_next_47 (fun r m5 hq5 => ?_)
          obtain ⟨z5, rfl, rfl, rfl⟩ := hq5
          show V E (wR D cy aa ad) 2 m4 50 [(0, .ref (aa 0))] [.int (iz (byN b n (m4 0 27)))]
          refine v_st (st1 := [.int (iz (byN b n (mL 0 27)))]) (by rw [e27]) ?_
          refine v_istore_n (L1 := [(1, .int (iz (byN b n (mL 0 27)))), (0, .ref (aa 0))]) C dX11_next_50 (by decide) rfl ?_
          refine v_iload_n C 0 dX11_next_51 rfl ?_
          refine v_iconst (z := -1) C dX11_next_52 rfl ?_
          refine v_icmp_ne (tgt := 64) C dX11_next_53 (by decide) (by omega) (by omega) (fun c6 => ?_) (fun c6 => ?_)
          · refine v_iload_n C 0 dX11_next_64 rfl ?_
            refine v_bipush (z := 97) C dX11_next_65 (by decide) ?_
            refine v_bipush (z := 122) C dX11_next_67 (by decide) ?_
            refine v_callS (st := []) (n := 3) C [.int (iz (byN b n (mL 0 27))), .int (iz (97)), .int (iz (122))] (ct_StageRatiosModel_in C.2.2.2.2.2.2.1 m4 (byN b n (mL 0 27)) (97) (122) (by first | assumption | omega) (by first | assumption | omega) (by first | assumption | omega)) qw1355 qw16 qw1353 rfl rfl ⟨Nat.le_of_ble_eq_true rfl, Nat.le_of_ble_eq_true rfl⟩ (by decide +kernel) qw1354 rfl rfl (Nat.le_of_ble_eq_true rfl) dX11_next_69 (fun r m7 hq7 => ?_)
            obtain ⟨z7, rfl, ⟨rfl, hq7, rfl⟩ | ⟨rfl, hq7, rfl⟩⟩ := hq7
            · show V E (wR D cy aa ad) 2 m4 72 [(1, .int (iz (byN b n (mL 0 27)))), (0, .ref (aa 0))] [.int (iz (1))]
              have hln : mL 0 27 < n := byN_lt (b := b) (by omega)
              have hcl : cls (b (mL 0 27)) = 1 := cls_of1 (by rw [← byN_1 (b := b) hln]; exact hq7)
              refine v_if_eq (tgt := 82) C dX11_next_72 (by decide) (by omega) (fun c8 => by exact absurd c8 (by decide)) (fun c8 => ?_)
              refine v_aload_n C 1 dX11_next_75 rfl ?_
              refine v_callV (st := []) (n := 0) (q := 0) C [] (ct_StageRatiosModel_nextWord C.2.2.2.2.2.2.1 m4 (b) (n) (p) (mL 0 27) (by exact hB39) (by exact e29) (by exact e27) (by omega) (by exact hp) (by exact hse) (by exact ⟨hln, hcl⟩) (by exact f31)) lR0 (eR0 _) rfl qw1359 qw16 qw1356 rfl rfl ⟨Nat.le_of_ble_eq_true rfl, Nat.le_of_ble_eq_true rfl⟩ (by decide +kernel) qw1358 qp40 rfl rfl (Nat.le_of_ble_eq_true rfl) dX11_next_76 (fun r m9 hq9 => ?_)
              obtain ⟨rfl, hq9⟩ := hq9
              show V E (wR D cy aa ad) 2 m9 79 [(1, .int (iz (byN b n (mL 0 27)))), (0, .ref (aa 0))] []
              refine v_goto (tgt := 125) C dX11_next_79 (by decide) ?_
              refine v_vret C X dX11_next_125 ⟨rfl, ?_⟩
              rw [hxe]
              first
                | exact ⟨hq9.1, fz39.tr hq9.2⟩
                | exact ⟨NO_q94.1, fz39.tr NO_q94.2⟩
                | (have z58 : ∀ j : Int, j ≠ 28 → NO_m58 0 j = m4 0 j := fun j h => by rw [NO_em58, mup_j _ _ h]
                   exact ⟨TkS.e hp (by rw [z58 31 (by decide)]; exact f31) (by rw [z58 29 (by decide)]; exact e29) hse (fun y => by have y2 := byN_1 (b := b) y; have y3 := hB.rng hL.1 y; omega) (by rw [NO_em58, mup_s]) (by rw [z58 27 (by decide)]; exact e27), fz39.tr ⟨fun j hj => z58 j (by omega), fun q h => by rw [NO_em58, mup_k _ _ _ h]⟩⟩)
                | (have z2 : ∀ j : Int, j ≠ 27 → j ≠ 28 → NO_m122 0 j = m4 0 j := fun j h h2 => by rw [NO_em122, mup_j _ _ h, NO_em112, mup_j _ _ h2]
                   refine ⟨TkS.o hp (by rw [z2 31 (by decide) (by decide)]; exact f31) (by rw [z2 29 (by decide) (by decide)]; exact e29) hse hln (fun y => by omega) (fun y => by omega) ?_ (by rw [NO_em122, mup_s, NO_em112, mup_j _ _ (by decide)]; omega), fz39.tr ⟨fun j hj => z2 j (by omega) (by omega), fun q h => by rw [NO_em122, mup_k _ _ _ h, NO_em112, mup_k _ _ _ h]⟩⟩
                   rw [NO_em122, mup_j _ _ (by decide), NO_em112, mup_s]
                   first
                     | (rw [if_pos (by omega)])
                     | (rw [if_neg (by omega)]))
            · show V E (wR D cy aa ad) 2 m4 72 [(1, .int (iz (byN b n (mL 0 27)))), (0, .ref (aa 0))] [.int (iz (0))]
              refine v_if_eq (tgt := 82) C dX11_next_72 (by decide) (by omega) (fun c10 => ?_) (fun c10 => by exact absurd c10 (by decide))
              refine v_iload_n C 0 dX11_next_82 rfl ?_
              refine v_bipush (z := 48) C dX11_next_83 (by decide) ?_
              refine v_bipush (z := 57) C dX11_next_85 (by decide) ?_
              refine v_callS (st := []) (n := 3) C [.int (iz (byN b n (mL 0 27))), .int (iz (48)), .int (iz (57))] (ct_StageRatiosModel_in C.2.2.2.2.2.2.1 m4 (byN b n (mL 0 27)) (48) (57) (by first | assumption | omega) (by first | assumption | omega) (by first | assumption | omega)) qw1355 qw16 qw1353 rfl rfl ⟨Nat.le_of_ble_eq_true rfl, Nat.le_of_ble_eq_true rfl⟩ (by decide +kernel) qw1354 rfl rfl (Nat.le_of_ble_eq_true rfl) dX11_next_87 (fun r m11 hq11 => ?_)
              obtain ⟨z11, rfl, ⟨rfl, hq11, rfl⟩ | ⟨rfl, hq11, rfl⟩⟩ := hq11
              · show V E (wR D cy aa ad) 2 m4 90 [(1, .int (iz (byN b n (mL 0 27)))), (0, .ref (aa 0))] [.int (iz (1))]
                have hln : mL 0 27 < n := byN_lt (b := b) (by omega)
                have hcl : cls (b (mL 0 27)) = 2 := cls_of2 (by rw [← byN_1 (b := b) hln]; exact hq11)
                refine v_if_eq (tgt := 100) C dX11_next_90 (by decide) (by omega) (fun c12 => by exact absurd c12 (by decide)) (fun c12 => ?_)
                refine v_aload_n C 1 dX11_next_93 rfl ?_
                refine v_callV (st := []) (n := 0) (q := 0) C [] (ct_StageRatiosModel_nextWhole C.2.2.2.2.2.2.1 m4 (b) (n) (p) (mL 0 27) (by exact hB39) (by exact e29) (by exact e27) (by omega) (by exact hp) (by exact hse) (by exact ⟨hln, hcl⟩) (by exact f31)) lR0 (eR0 _) rfl qw1363 qw16 qw1360 rfl rfl ⟨Nat.le_of_ble_eq_true rfl, Nat.le_of_ble_eq_true rfl⟩ (by decide +kernel) qw1362 qp41 rfl rfl (Nat.le_of_ble_eq_true rfl) dX11_next_94 (fun r m13 hq13 => ?_)
                obtain ⟨rfl, hq13⟩ := hq13
                show V E (wR D cy aa ad) 2 m13 97 [(1, .int (iz (byN b n (mL 0 27)))), (0, .ref (aa 0))] []
                refine v_goto (tgt := 125) C dX11_next_97 (by decide) ?_
                refine v_vret C X dX11_next_125 ⟨rfl, ?_⟩
                rw [hxe]
                first
                  | exact ⟨NO_q76.1, fz39.tr NO_q76.2⟩
                  | exact ⟨hq13.1, fz39.tr hq13.2⟩
                  | (have z58 : ∀ j : Int, j ≠ 28 → NO_m58 0 j = m4 0 j := fun j h => by rw [NO_em58, mup_j _ _ h]
                     exact ⟨TkS.e hp (by rw [z58 31 (by decide)]; exact f31) (by rw [z58 29 (by decide)]; exact e29) hse (fun y => by have y2 := byN_1 (b := b) y; have y3 := hB.rng hL.1 y; omega) (by rw [NO_em58, mup_s]) (by rw [z58 27 (by decide)]; exact e27), fz39.tr ⟨fun j hj => z58 j (by omega), fun q h => by rw [NO_em58, mup_k _ _ _ h]⟩⟩)
                  | (have z2 : ∀ j : Int, j ≠ 27 → j ≠ 28 → NO_m122 0 j = m4 0 j := fun j h h2 => by rw [NO_em122, mup_j _ _ h, NO_em112, mup_j _ _ h2]
                     refine ⟨TkS.o hp (by rw [z2 31 (by decide) (by decide)]; exact f31) (by rw [z2 29 (by decide) (by decide)]; exact e29) hse hln (fun y => by omega) (fun y => by omega) ?_ (by rw [NO_em122, mup_s, NO_em112, mup_j _ _ (by decide)]; omega), fz39.tr ⟨fun j hj => z2 j (by omega) (by omega), fun q h => by rw [NO_em122, mup_k _ _ _ h, NO_em112, mup_k _ _ _ h]⟩⟩
                     rw [NO_em122, mup_j _ _ (by decide), NO_em112, mup_s]
                     first
                       | (rw [if_pos (by omega)])
                       | (rw [if_neg (by omega)]))
              · show V E (wR D cy aa ad) 2 m4 90 [(1, .int (iz (byN b n (mL 0 27)))), (0, .ref (aa 0))] [.int (iz (0))]
                have hln : mL 0 27 < n := byN_lt (b := b) (by omega)
                have hbn := byN_1 (b := b) hln
                refine v_if_eq (tgt := 100) C dX11_next_90 (by decide) (by omega) (fun c14 => ?_) (fun c14 => by exact absurd c14 (by decide))
                refine v_aload_n C 1 dX11_next_100 rfl ?_
                refine v_iload_n C 0 dX11_next_101 rfl ?_
                refine v_bipush (z := 59) C dX11_next_102 (by decide) ?_
                refine v_icmp_ne (tgt := 111) C dX11_next_104 (by decide) (by omega) (by omega) (fun c15 => ?_) (fun c15 => ?_)
                · refine v_iconst (z := 0) C dX11_next_111 rfl ?_
                  refine v_put C 0 28 (0) 28 rfl lR0 (eR0 _) rfl inX11 tyX11 tyX11_ok nmX11 (by decide) qw1168 rfl rfl rfl (Nat.le_of_ble_eq_true rfl) (by rw [mup_r]; exact (eR0 _)) dX11_next_112 (fun m16 em16 => ?_)
                  refine v_aload_n C 1 dX11_next_115 rfl ?_
                  refine v_dup C dX11_next_116 rfl ?_
                  refine v_get C 0 27 lR0 (eR0 _) rfl inX11 (by decide) rfl qw1167 dX11_next_117 ?_
                  refine v_iconst (z := 1) C dX11_next_120 rfl ?_
                  refine v_iadd C dX11_next_121 ?_
                  refine v_put C 0 27 ((m16 0 27) + 1) 27 rfl lR0 (eR0 _) rfl inX11 tyX11 tyX11_ok nmX11 (by decide) qw1167 rfl rfl rfl (Nat.le_of_ble_eq_true rfl) (by rw [mup_r]; exact (eR0 _)) dX11_next_122 (fun m17 em17 => ?_)
                  refine v_vret C X dX11_next_125 ⟨rfl, ?_⟩
                  rw [hxe]
                  first
                    | exact ⟨NO_q76.1, fz39.tr NO_q76.2⟩
                    | exact ⟨NO_q94.1, fz39.tr NO_q94.2⟩
                    | (have z58 : ∀ j : Int, j ≠ 28 → NO_m58 0 j = m4 0 j := fun j h => by rw [NO_em58, mup_j _ _ h]
                       exact ⟨TkS.e hp (by rw [z58 31 (by decide)]; exact f31) (by rw [z58 29 (by decide)]; exact e29) hse (fun y => by have y2 := byN_1 (b := b) y; have y3 := hB.rng hL.1 y; omega) (by rw [NO_em58, mup_s]) (by rw [z58 27 (by decide)]; exact e27), fz39.tr ⟨fun j hj => z58 j (by omega), fun q h => by rw [NO_em58, mup_k _ _ _ h]⟩⟩)
                    | (have z2 : ∀ j : Int, j ≠ 27 → j ≠ 28 → m17 0 j = m4 0 j := fun j h h2 => by rw [em17, mup_j _ _ h, em16, mup_j _ _ h2]
                       refine ⟨TkS.o hp (by rw [z2 31 (by decide) (by decide)]; exact f31) (by rw [z2 29 (by decide) (by decide)]; exact e29) hse hln (fun y => by omega) (fun y => by omega) ?_ (by rw [em17, mup_s, em16, mup_j _ _ (by decide)]; omega), fz39.tr ⟨fun j hj => z2 j (by omega) (by omega), fun q h => by rw [em17, mup_k _ _ _ h, em16, mup_k _ _ _ h]⟩⟩
                       rw [em17, mup_j _ _ (by decide), em16, mup_s]
                       first
                         | (rw [if_pos (by omega)])
                         | (rw [if_neg (by omega)]))
                · refine v_iconst (z := 4) C dX11_next_107 rfl ?_
                  refine v_goto (tgt := 112) C dX11_next_108 (by decide) ?_
                  refine v_put C 0 28 (4) 28 rfl lR0 (eR0 _) rfl inX11 tyX11 tyX11_ok nmX11 (by decide) qw1168 rfl rfl rfl (Nat.le_of_ble_eq_true rfl) (by rw [mup_r]; exact (eR0 _)) dX11_next_112 (fun m18 em18 => ?_)
                  refine v_aload_n C 1 dX11_next_115 rfl ?_
                  refine v_dup C dX11_next_116 rfl ?_
                  refine v_get C 0 27 lR0 (eR0 _) rfl inX11 (by decide) rfl qw1167 dX11_next_117 ?_
                  refine v_iconst (z := 1) C dX11_next_120 rfl ?_
                  refine v_iadd C dX11_next_121 ?_
                  refine v_put C 0 27 ((m18 0 27) + 1) 27 rfl lR0 (eR0 _) rfl inX11 tyX11 tyX11_ok nmX11 (by decide) qw1167 rfl rfl rfl (Nat.le_of_ble_eq_true rfl) (by rw [mup_r]; exact (eR0 _)) dX11_next_122 (fun m19 em19 => ?_)
                  refine v_vret C X dX11_next_125 ⟨rfl, ?_⟩
                  rw [hxe]
                  first
                    | exact ⟨NO_q76.1, fz39.tr NO_q76.2⟩
                    | exact ⟨NO_q94.1, fz39.tr NO_q94.2⟩
                    | (have z58 : ∀ j : Int, j ≠ 28 → NO_m58 0 j = m4 0 j := fun j h => by rw [NO_em58, mup_j _ _ h]
                       exact ⟨TkS.e hp (by rw [z58 31 (by decide)]; exact f31) (by rw [z58 29 (by decide)]; exact e29) hse (fun y => by have y2 := byN_1 (b := b) y; have y3 := hB.rng hL.1 y; omega) (by rw [NO_em58, mup_s]) (by rw [z58 27 (by decide)]; exact e27), fz39.tr ⟨fun j hj => z58 j (by omega), fun q h => by rw [NO_em58, mup_k _ _ _ h]⟩⟩)
                    | (have z2 : ∀ j : Int, j ≠ 27 → j ≠ 28 → m19 0 j = m4 0 j := fun j h h2 => by rw [em19, mup_j _ _ h, em18, mup_j _ _ h2]
                       refine ⟨TkS.o hp (by rw [z2 31 (by decide) (by decide)]; exact f31) (by rw [z2 29 (by decide) (by decide)]; exact e29) hse hln (fun y => by omega) (fun y => by omega) ?_ (by rw [em19, mup_s, em18, mup_j _ _ (by decide)]; omega), fz39.tr ⟨fun j hj => z2 j (by omega) (by omega), fun q h => by rw [em19, mup_k _ _ _ h, em18, mup_k _ _ _ h]⟩⟩
                       rw [em19, mup_j _ _ (by decide), em18, mup_s]
                       first
                         | (rw [if_pos (by omega)])
                         | (rw [if_neg (by omega)]))
          · refine v_aload_n C 1 dX11_next_56 rfl ?_
            refine v_iconst (z := 1) C dX11_next_57 rfl ?_
            refine v_put C 0 28 (1) 28 rfl lR0 (eR0 _) rfl inX11 tyX11 tyX11_ok nmX11 (by decide) qw1168 rfl rfl rfl (Nat.le_of_ble_eq_true rfl) (by rw [mup_r]; exact (eR0 _)) dX11_next_58 (fun m20 em20 => ?_)
            refine v_goto (tgt := 125) C dX11_next_61 (by decide) ?_
            refine v_vret C X dX11_next_125 ⟨rfl, ?_⟩
            rw [hxe]
            first
              | exact ⟨NO_q76.1, fz39.tr NO_q76.2⟩
              | exact ⟨NO_q94.1, fz39.tr NO_q94.2⟩
              | (have z58 : ∀ j : Int, j ≠ 28 → m20 0 j = m4 0 j := fun j h => by rw [em20, mup_j _ _ h]
                 exact ⟨TkS.e hp (by rw [z58 31 (by decide)]; exact f31) (by rw [z58 29 (by decide)]; exact e29) hse (fun y => by have y2 := byN_1 (b := b) y; have y3 := hB.rng hL.1 y; omega) (by rw [em20, mup_s]) (by rw [z58 27 (by decide)]; exact e27), fz39.tr ⟨fun j hj => z58 j (by omega), fun q h => by rw [em20, mup_k _ _ _ h]⟩⟩)
              | (have z2 : ∀ j : Int, j ≠ 27 → j ≠ 28 → NO_m122 0 j = m4 0 j := fun j h h2 => by rw [NO_em122, mup_j _ _ h, NO_em112, mup_j _ _ h2]
                 refine ⟨TkS.o hp (by rw [z2 31 (by decide) (by decide)]; exact f31) (by rw [z2 29 (by decide) (by decide)]; exact e29) hse hln (fun y => by omega) (fun y => by omega) ?_ (by rw [NO_em122, mup_s, NO_em112, mup_j _ _ (by decide)]; omega), fz39.tr ⟨fun j hj => z2 j (by omega) (by omega), fun q h => by rw [NO_em122, mup_k _ _ _ h, NO_em112, mup_k _ _ _ h]⟩⟩
                 rw [NO_em122, mup_j _ _ (by decide), NO_em112, mup_s]
                 first
                   | (rw [if_pos (by omega)])
                   | (rw [if_neg (by omega)]))
        · have hln : mL 0 27 < n := byN_lt (b := b) (by omega)
          have hb32 : b (mL 0 27) = 32 := by rw [← byN_1 (b := b) hln]; exact c3
          refine v_aload_n C 0 dX11_next_21 rfl ?_
          refine v_dup C dX11_next_22 rfl ?_
          refine v_get C 0 27 lR0 (eR0 _) rfl inX11 (by decide) rfl qw1167 dX11_next_23 ?_
          refine v_iconst (z := 1) C dX11_next_26 rfl ?_
          refine v_iadd C dX11_next_27 ?_
          refine v_put C 0 27 ((mL 0 27) + 1) 27 rfl lR0 (eR0 _) rfl inX11 tyX11 tyX11_ok nmX11 (by decide) qw1167 rfl rfl rfl (Nat.le_of_ble_eq_true rfl) (by rw [mup_r]; exact (eR0 _)) dX11_next_28 (fun m21 em21 => ?_)
          refine v_goto (tgt := 8) C dX11_next_31 (by decide) ?_
          refine v_sub [0] rfl ?_
          exact ih8  m21 (by rw [em21, mup_s]; omega) (by rw [em21, mup_s, hsk]; exact skZ_s hln hb32) (by intro j h; rw [em21, mup_j _ _ h]; exact h0 j h) (by intro q h; rw [em21, mup_k _ _ _ h]; exact hf q h) (by rw [em21, mup_s]; omega)
    refine v_sub [0] rfl ?_
    exact K8 _  m (by omega) (by rw [hs0]) (by intro j _; rfl) (by intro q _; rfl) (Nat.lt_succ_self _)
  · refine v_vret C X dX11_next_7 ⟨rfl, ?_⟩
    exact ⟨hN.bad b (by omega), FZ.rfl' m⟩

set_option maxHeartbeats 4000000 in
set_option maxRecDepth 100000 in
theorem ct_StageRatiosModel_flaw {lau : Launch} {D : va_G} {cy : Nat → ClassId} {aa ad : Nat → Nat} (hI : wI (wR D cy aa ad)) (m : Mem) (b : Int → Int) (n : Int) (x : Rs Int) (f : Int) (hx : TkS m b n x) (hf : 1 ≤ f ∧ f ≤ 6) : MT lau (wR D cy aa ad) yX11_flaw cX11_flaw 2 (none) ({ frames := 0, cells := 0, slots := 0, locals := 0 } : Room) m [.ref (aa 0), .int (iz (f))] (Pv (fun m' => TkS m' b n (flO b n f x) ∧ FZ m m')) := by
  refine v_entry hI RX11 (by decide) rfl (Nat.le_of_ble_eq_true rfl) (fun E hE C X => ?_)
  subst hE
  show V E (wR D cy aa ad) 2 m 0 [(0, .ref (aa 0)), (1, .int (iz (f)))] []
  refine v_aload_n C 0 dX11_flaw_0 rfl ?_
  refine v_get C 0 31 lR0 (eR0 _) rfl inX11 (by decide) rfl qw1171 dX11_flaw_1 ?_
  refine v_if_ne (tgt := 12) C dX11_flaw_4 (by decide) (by have y := hx.f0; omega) (fun c1 => ?_) (fun c1 => ?_)
  · obtain ⟨e, hxe⟩ := hx.bad c1
    refine v_aload_n C 0 dX11_flaw_12 rfl ?_
    refine v_iconst (z := 0) C dX11_flaw_13 rfl ?_
    refine v_put C 0 28 (0) 28 rfl lR0 (eR0 _) rfl inX11 tyX11 tyX11_ok nmX11 (by decide) qw1168 rfl rfl rfl (Nat.le_of_ble_eq_true rfl) (by rw [mup_r]; exact (eR0 _)) dX11_flaw_14 (fun m2 em2 => ?_)
    refine v_vret C X dX11_flaw_17 ⟨rfl, ?_⟩
    first
      | (rw [hxe] at hx ⊢
         have z : ∀ j : Int, j ≠ 28 → j ≠ 31 → m2 0 j = m 0 j := fun j h h2 => by rw [em2, mup_j _ _ h, NO_em9, mup_j _ _ h2]
         exact ⟨⟨by rw [em2, mup_j _ _ (by decide), NO_em9, mup_s], by omega, by omega, by rw [z 29 (by decide) (by decide)]; exact hx2.2.2.1, by rw [em2, mup_s]⟩, fun j hj => z j (by omega) (by omega), fun q h => by rw [em2, mup_k _ _ _ h, NO_em9, mup_k _ _ _ h]⟩)
      | (rw [hxe] at hx ⊢
         have z : ∀ j : Int, j ≠ 28 → m2 0 j = m 0 j := fun j h => by rw [em2, mup_j _ _ h]
         exact ⟨⟨by rw [z 31 (by decide)]; exact hx.1, hx.2.1, hx.2.2.1, by rw [z 29 (by decide)]; exact hx.2.2.2.1, by rw [em2, mup_s]⟩, fun j hj => z j (by omega), fun q h => by rw [em2, mup_k _ _ _ h]⟩)
  · obtain ⟨p, hxe⟩ := hx.ok (by omega)
    have hx2 := hx.i hxe
    refine v_aload_n C 0 dX11_flaw_7 rfl ?_
    refine v_iload_n C 1 dX11_flaw_8 rfl ?_
    refine v_put C 0 31 (f) 31 rfl lR0 (eR0 _) rfl inX11 tyX11 tyX11_ok nmX11 (by decide) qw1171 rfl rfl rfl (Nat.le_of_ble_eq_true rfl) (by rw [mup_r]; exact (eR0 _)) dX11_flaw_9 (fun m3 em3 => ?_)
    refine v_aload_n C 0 dX11_flaw_12 rfl ?_
    refine v_iconst (z := 0) C dX11_flaw_13 rfl ?_
    refine v_put C 0 28 (0) 28 rfl lR0 (eR0 _) rfl inX11 tyX11 tyX11_ok nmX11 (by decide) qw1168 rfl rfl rfl (Nat.le_of_ble_eq_true rfl) (by rw [mup_r]; exact (eR0 _)) dX11_flaw_14 (fun m4 em4 => ?_)
    refine v_vret C X dX11_flaw_17 ⟨rfl, ?_⟩
    first
      | (rw [hxe] at hx ⊢
         have z : ∀ j : Int, j ≠ 28 → j ≠ 31 → m4 0 j = m 0 j := fun j h h2 => by rw [em4, mup_j _ _ h, em3, mup_j _ _ h2]
         exact ⟨⟨by rw [em4, mup_j _ _ (by decide), em3, mup_s], by omega, by omega, by rw [z 29 (by decide) (by decide)]; exact hx2.2.2.1, by rw [em4, mup_s]⟩, fun j hj => z j (by omega) (by omega), fun q h => by rw [em4, mup_k _ _ _ h, em3, mup_k _ _ _ h]⟩)
      | (rw [hxe] at hx ⊢
         have z : ∀ j : Int, j ≠ 28 → m4 0 j = m 0 j := fun j h => by rw [em4, mup_j _ _ h]
         exact ⟨⟨by rw [z 31 (by decide)]; exact hx.1, hx.2.1, hx.2.2.1, by rw [z 29 (by decide)]; exact hx.2.2.2.1, by rw [em4, mup_s]⟩, fun j hj => z j (by omega), fun q h => by rw [em4, mup_k _ _ _ h]⟩)

set_option maxHeartbeats 4000000 in
set_option maxRecDepth 100000 in
theorem ct_StageRatiosModel_isWord {lau : Launch} {D : va_G} {cy : Nat → ClassId} {aa ad : Nat → Nat} (hI : wI (wR D cy aa ad)) (m : Mem) (b : Int → Int) (n : Int) (x : Rs Int) (i9 : Nat) (own : String) (ix : Nat) (ttx : String) (bs : List Int32) (hx : TkS m b n x) (hqs : strS[i9]? = some (own, ix, ttx, bs)) : MT lau (wR D cy aa ad) yX11_isWord cX11_isWord 5 (some .boolean) ({ frames := 4, cells := 0, slots := 0, locals := 85 } : Room) m [.ref (aa 0), .ref (ad (2 * i9))] (Pi (fun z m' => (1 = z ∧ (WdS b n bs x) ∧ m = m') ∨ (0 = z ∧ ¬ (WdS b n bs x) ∧ m = m'))) := by
  refine v_entry hI RX11 (by decide) rfl (Nat.le_of_ble_eq_true rfl) (fun E hE C X => ?_)
  subst hE
  show V E (wR D cy aa ad) 5 m 0 [(0, .ref (aa 0)), (1, .ref (ad (2 * i9)))] []
  have hle7 : bs.length ≤ 7 := (strS_ok _ (List.mem_of_getElem? hqs)).1
  have hbsk : wdOk (wdC bs) := wdC_ok hqs
  have hbr := hbsk.r256
  refine v_lconst (z := 0) C dX11_isWord_0 rfl ?_
  refine v_lstore_n (L1 := [(2, .long (lz (0))), (0, .ref (aa 0)), (1, .ref (ad (2 * i9)))]) C dX11_isWord_1 (by decide) rfl ?_
  refine v_iconst (z := 0) C dX11_isWord_2 rfl ?_
  refine v_istore (L1 := [(4, .int (iz (0))), (2, .long (lz (0))), (0, .ref (aa 0)), (1, .ref (ad (2 * i9)))]) C dX11_isWord_3 (by decide) rfl ?_
  have K5 : ∀ (nK : Nat) (v : Int) (k : Int) (hk : 0 ≤ k ∧ k ≤ bs.length) (hv : v = enZ 256 0 (wdC (bs.take k.toNat))), ((bs.length : Int) - k).toNat < nK → V E (wR D cy aa ad) 5 m 5 [(0, .ref (aa 0)), (1, .ref (ad (2 * i9))), (2, .long (lz (v))), (4, .int (iz (k)))] [] := by
    intro nK
    induction nK with
    | zero => intro v k  hk hv hn; exact absurd hn (Nat.not_lt_zero _)
    | succ nK ih5 =>
      intro v k  hk hv hn5
      refine v_iload C 3 dX11_isWord_5 rfl ?_
      refine v_aload_n C 1 dX11_isWord_7 rfl ?_
      refine v_callO (st := [.int (iz (k))]) (n := 0) C (i9) (hqs) [] (cs_length C.2.2.2.2.2.2.1 m (i9) _ (hqs)) qw76 qw4 qw1373 rfl rfl ⟨Nat.le_of_ble_eq_true rfl, Nat.le_of_ble_eq_true rfl⟩ (by decide +kernel) qw74 qw75 rfl rfl (Nat.le_of_ble_eq_true rfl) dX11_isWord_8 (fun r m1 hq1 => ?_)
      obtain ⟨z1, rfl, rfl, rfl⟩ := hq1
      show V E (wR D cy aa ad) 5 m 11 [(0, .ref (aa 0)), (1, .ref (ad (2 * i9))), (2, .long (lz (v))), (4, .int (iz (k)))] [.int (iz (((List.length bs : Nat) : Int))), .int (iz (k))]
      refine v_icmp_ge (tgt := 33) C dX11_isWord_11 (by decide) (by omega) (by omega) (fun c2 => ?_) (fun c2 => ?_)
      · refine v_aload_n C 0 dX11_isWord_33 rfl ?_
        refine v_get C 0 28 lR0 (eR0 _) rfl inX11 (by decide) rfl qw1168 dX11_isWord_34 ?_
        refine v_iconst (z := 2) C dX11_isWord_37 rfl ?_
        refine v_icmp_ne (tgt := 54) C dX11_isWord_38 (by decide) (by have y := hx.tk0; omega) (by omega) (fun c3 => ?_) (fun c3 => ?_)
        · have hno : ¬ WdS b n bs x := fun ⟨p, hp1, hp2, hp3⟩ => c3 (hx.n2 hp1 hp2)
          refine v_iconst (z := 0) C dX11_isWord_54 rfl ?_
          refine v_iret C X (by decide) dX11_isWord_55 ⟨_, rfl, Or.inr ⟨rfl, ?_, ?_⟩⟩
          · first
              | exact hno
              | exact hyes
          · rfl
        · obtain ⟨p, hxe, k1, ew, wok⟩ := hx.t2 c3
          have wr := wok.r256
          have hve : v = enZ 256 0 (wdC bs) := by rw [hv, enC_e (by omega)]
          refine v_aload_n C 0 dX11_isWord_41 rfl ?_
          refine v_get C 0 32 lR0 (eR0 _) rfl inX11 (by decide) rfl qw1172 dX11_isWord_42 ?_
          refine v_lload_n C 2 dX11_isWord_45 rfl ?_
          refine v_lc_ne (tgt := 54) C dX11_isWord_46 dX11_isWord_47 (by decide) (by first | (rw [ew]; omega) | (rw [hve]; omega) | omega) (by first | (rw [ew]; omega) | (rw [hve]; omega) | omega) (fun c4 => ?_) (fun c4 => ?_)
          · have hno : ¬ WdS b n bs x := fun ⟨p2, hp1, hp2, hp3⟩ => by
              have e : p2 = p := Sum.inr.inj (hp1.symm.trans hxe)
              rw [e] at hp3
              exact c4 (ew.trans (by rw [hp3, hve]))
            refine v_iconst (z := 0) C dX11_isWord_54 rfl ?_
            refine v_iret C X (by decide) dX11_isWord_55 ⟨_, rfl, Or.inr ⟨rfl, ?_, ?_⟩⟩
            · first
                | exact hno
                | exact hyes
            · rfl
          · have hyes : WdS b n bs x := ⟨p, hxe, k1, en_eq6 wok hbsk (ew.symm.trans (c4.trans hve))⟩
            refine v_iconst (z := 1) C dX11_isWord_50 rfl ?_
            refine v_goto (tgt := 55) C dX11_isWord_51 (by decide) ?_
            refine v_iret C X (by decide) dX11_isWord_55 ⟨_, rfl, Or.inl ⟨rfl, ?_, ?_⟩⟩
            · first
                | exact hno
                | exact hyes
            · rfl
      · refine v_lload_n C 2 dX11_isWord_14 rfl ?_
        refine v_bipush (z := 8) C dX11_isWord_15 (by decide) ?_
        have hvr := en256_t hbsk hk.1 (by omega) hle7
        rw [← hv] at hvr
        refine v_lshl (z := v * 256) C (by exact lz_sl8 (by omega) (by omega)) dX11_isWord_17 ?_
        refine v_aload_n C 1 dX11_isWord_18 rfl ?_
        refine v_iload C 3 dX11_isWord_19 rfl ?_
        refine v_callO (st := [.long (lz (v * 256))]) (n := 1) C (i9) (hqs) [.int (iz (k))] (cs_charAt C.2.2.2.2.2.2.1 m (i9) _ (hqs) (k) (by exact ⟨hk.1, by show k < bs.length; omega⟩)) qw86 qw4 qw1374 rfl rfl ⟨Nat.le_of_ble_eq_true rfl, Nat.le_of_ble_eq_true rfl⟩ (by decide +kernel) qw84 qw85 rfl rfl (Nat.le_of_ble_eq_true rfl) dX11_isWord_21 (fun r m5 hq5 => ?_)
        obtain ⟨z5, rfl, rfl, rfl⟩ := hq5
        show V E (wR D cy aa ad) 5 m 24 [(0, .ref (aa 0)), (1, .ref (ad (2 * i9))), (2, .long (lz (v))), (4, .int (iz (k)))] [.int (iz (chZ bs (k))), .long (lz (v * 256))]
        have hcr : 97 ≤ chZ bs k ∧ chZ bs k ≤ 122 := chZ_rng hqs hk.1 (by show k < bs.length; omega)
        refine v_i2l C (by omega) dX11_isWord_24 ?_
        refine v_lor (z := v * 256 + chZ bs k) C (by exact lz_or8 (by omega) (by omega) (by omega)) dX11_isWord_25 ?_
        refine v_lstore_n (L1 := [(2, .long (lz (v * 256 + chZ bs k))), (0, .ref (aa 0)), (1, .ref (ad (2 * i9))), (4, .int (iz (k)))]) C dX11_isWord_26 (by decide) rfl ?_
        refine v_iinc (L1 := [(4, .int (iz (k + 1))), (2, .long (lz (v * 256 + chZ bs k))), (0, .ref (aa 0)), (1, .ref (ad (2 * i9)))]) C 3 dX11_isWord_27 rfl (by decide) rfl ?_
        refine v_goto (tgt := 5) C dX11_isWord_30 (by decide) ?_
        refine v_sub [2, 3, 1, 0] rfl ?_
        exact ih5 (v * 256 + chZ bs k) (k + 1)  (by omega) (by rw [enC_s hk.1 (by omega), ← hv]; omega) (by omega)
  refine v_sub [2, 3, 1, 0] rfl ?_
  exact K5 _ (0) (0)  (by omega) (by show (0 : Int) = enZ 256 0 (wdC (bs.take 0)); rw [List.take_zero]; rfl) (Nat.lt_succ_self _)

set_option maxHeartbeats 4000000 in
set_option maxRecDepth 100000 in
theorem ct_StageRatiosModel_readWhole {lau : Launch} {D : va_G} {cy : Nat → ClassId} {aa ad : Nat → Nat} (hI : wI (wR D cy aa ad)) (m : Mem) (b : Int → Int) (n : Int) (x : Rs Int) (lo hi : Int) (hB : BtR m b n) (hx : TkS m b n x) (hlo : -2147483648 ≤ lo ∧ lo ≤ 2147483647) (hhi : -2147483648 ≤ hi ∧ hi ≤ 2147483647) : MT lau (wR D cy aa ad) yX11_readWhole cX11_readWhole 4 (some .int) ({ frames := 3, cells := 0, slots := 0, locals := 63 } : Room) m [.ref (aa 0), .int (iz (lo)), .int (iz (hi))] (Pi (fun z m' => vlR lo (bnd x (tWhole b n lo hi)) = z ∧ TkS m' b n (sndR (bnd x (tWhole b n lo hi))) ∧ FZ m m')) := by
  refine v_entry hI RX11 (by decide) rfl (Nat.le_of_ble_eq_true rfl) (fun E hE C X => ?_)
  subst hE
  show V E (wR D cy aa ad) 4 m 0 [(0, .ref (aa 0)), (1, .int (iz (lo))), (2, .int (iz (hi)))] []
  refine v_aload_n C 0 dX11_readWhole_0 rfl ?_
  refine v_get C 0 28 lR0 (eR0 _) rfl inX11 (by decide) rfl qw1168 dX11_readWhole_1 ?_
  refine v_iconst (z := 3) C dX11_readWhole_4 rfl ?_
  have K33 : ∀ (x1 : Rs Int) (mJ : Mem) (hJ : TkS mJ b n x1) (hJf : FZ m mJ) (hJs : sndR (bnd x (tWhole b n lo hi)) = nxO b n x1) (hJi : ∀ e, x1 = .inl e → vlR lo (bnd x (tWhole b n lo hi)) = lo) (hJr : ∀ p, x1 = .inr p → vlR lo (bnd x (tWhole b n lo hi)) = mJ 0 30), V E (wR D cy aa ad) 4 mJ 33 [(0, .ref (aa 0)), (1, .int (iz (lo)))] [] := by
    intro x1 mJ hJ hJf hJs hJi hJr
    refine v_aload_n C 0 dX11_readWhole_33 rfl ?_
    refine v_get C 0 30 lR0 (eR0 _) rfl inX11 (by decide) rfl qw1170 dX11_readWhole_34 ?_
    refine v_istore_n (L1 := [(3, .int (iz (mJ 0 30))), (0, .ref (aa 0)), (1, .int (iz (lo)))]) C dX11_readWhole_37 (by decide) rfl ?_
    refine v_aload_n C 1 dX11_readWhole_38 rfl ?_
    refine v_callV (st := []) (n := 0) (q := 0) C [] (ct_StageRatiosModel_next C.2.2.2.2.2.2.1 mJ (b) (n) (nxO b n x1) (by exact hB.fr hJf) (by exact hJ.nx)) lR0 (eR0 _) rfl qw1348 qw16 qw1345 rfl rfl ⟨Nat.le_of_ble_eq_true rfl, Nat.le_of_ble_eq_true rfl⟩ (by decide +kernel) qw1347 qp38 rfl rfl (Nat.le_of_ble_eq_true rfl) dX11_readWhole_39 (fun r m1 hq1 => ?_)
    obtain ⟨rfl, hq1⟩ := hq1
    show V E (wR D cy aa ad) 4 m1 42 [(3, .int (iz (mJ 0 30))), (0, .ref (aa 0)), (1, .int (iz (lo)))] []
    have f39 := hq1.1.f0
    refine v_aload_n C 1 dX11_readWhole_42 rfl ?_
    refine v_get C 0 31 lR0 (eR0 _) rfl inX11 (by decide) rfl qw1171 dX11_readWhole_43 ?_
    refine v_if_le (tgt := 53) C dX11_readWhole_46 (by decide) (by omega) (fun c2 => ?_) (fun c2 => ?_)
    · obtain ⟨p9, hp9⟩ := hq1.1.ok c2
      have hxr : ∃ p, x1 = .inr p := by
        cases x1 with
        | inl e => cases hp9
        | inr p => exact ⟨p, rfl⟩
      refine v_iload_n C 0 dX11_readWhole_53 rfl ?_
      refine v_iret C X rfl dX11_readWhole_54 ⟨_, rfl, ?_, ?_⟩
      · first
          | exact hJr _ hxr.choose_spec
          | exact hJi _ hxl.choose_spec
      · rw [hJs]; exact ⟨hq1.1, hJf.tr hq1.2⟩
    · obtain ⟨e9, he9⟩ := hq1.1.bad (by omega)
      have hxl : ∃ e, x1 = .inl e := by
        cases x1 with
        | inl e => exact ⟨e, rfl⟩
        | inr p => cases he9
      refine v_iload_n C 2 dX11_readWhole_49 rfl ?_
      refine v_goto (tgt := 54) C dX11_readWhole_50 (by decide) ?_
      refine v_iret C X rfl dX11_readWhole_54 ⟨_, rfl, ?_, ?_⟩
      · first
          | exact hJr _ hxr.choose_spec
          | exact hJi _ hxl.choose_spec
      · rw [hJs]; exact ⟨hq1.1, hJf.tr hq1.2⟩
  refine v_icmp_eq (tgt := 16) C dX11_readWhole_5 (by decide) (by have y := hx.tk0; omega) (by omega) (fun c3 => ?_) (fun c3 => ?_)
  · obtain ⟨p, hxe, k2, e30, hnr⟩ := hx.t3 c3
    refine v_aload_n C 0 dX11_readWhole_16 rfl ?_
    refine v_get C 0 30 lR0 (eR0 _) rfl inX11 (by decide) rfl qw1170 dX11_readWhole_17 ?_
    refine v_iload_n C 1 dX11_readWhole_20 rfl ?_
    refine v_iload_n C 2 dX11_readWhole_21 rfl ?_
    refine v_callS (st := []) (n := 3) C [.int (iz (m 0 30)), .int (iz (lo)), .int (iz (hi))] (ct_StageRatiosModel_in C.2.2.2.2.2.2.1 m (m 0 30) (lo) (hi) (by rw [e30]; omega) (by first | assumption | omega) (by first | assumption | omega)) qw1355 qw16 qw1353 rfl rfl ⟨Nat.le_of_ble_eq_true rfl, Nat.le_of_ble_eq_true rfl⟩ (by decide +kernel) qw1354 rfl rfl (Nat.le_of_ble_eq_true rfl) dX11_readWhole_22 (fun r m4 hq4 => ?_)
    obtain ⟨z4, rfl, ⟨rfl, hq4, rfl⟩ | ⟨rfl, hq4, rfl⟩⟩ := hq4
    · show V E (wR D cy aa ad) 4 m 25 [(0, .ref (aa 0)), (1, .int (iz (lo))), (2, .int (iz (hi)))] [.int (iz (1))]
      refine v_if_ne (tgt := 33) C dX11_readWhole_25 (by decide) (by omega) (fun c5 => ?_) (fun c5 => by exact absurd c5 (by decide))
      refine v_sub [0, 1] rfl ?_
      exact K33  (x) m (by 
                first
                  | exact NO_q10.1
                  | exact NO_q30.1
                  | exact hx
              ) (by 
                first
                  | exact NO_q10.2
                  | exact NO_q30.2
                  | exact FZ.rfl' m
              ) (by 
                first
                  | exact (whl_1 hx (by omega)).1.trans nxO_fl.symm
                  | exact (whl_4 hxe k2 (by rw [← e30]; exact hq4)).1.trans nxO_fl.symm
                  | exact (whl_0 hxe k2 (by rw [← e30]; exact hq4)).1
              ) (by 
                first
                  | exact fun _ _ => (whl_1 hx (by omega)).2
                  | exact fun _ _ => (whl_4 hxe k2 (by rw [← e30]; exact hq4)).2
                  | exact fun e y => by rw [hxe] at y; cases y
              ) (by 
                first
                  | exact fun p y => (whl_0 hxe k2 (by rw [← e30]; exact hq4)).2.trans e30.symm
                  | (intro p9 y; exfalso; revert y; rcases x with e9 | e9 <;> (intro y; cases y))
              )
    · show V E (wR D cy aa ad) 4 m 25 [(0, .ref (aa 0)), (1, .int (iz (lo))), (2, .int (iz (hi)))] [.int (iz (0))]
      refine v_if_ne (tgt := 33) C dX11_readWhole_25 (by decide) (by omega) (fun c6 => by exact absurd c6 (by decide)) (fun c6 => ?_)
      refine v_aload_n C 0 dX11_readWhole_28 rfl ?_
      refine v_iconst (z := 4) C dX11_readWhole_29 rfl ?_
      refine v_callV (st := []) (n := 1) (q := 0) C [.int (iz (4))] (ct_StageRatiosModel_flaw C.2.2.2.2.2.2.1 m (b) (n) (x) (4) (by exact hx) (by decide)) lR0 (eR0 _) rfl qw1382 qw16 qw1379 rfl rfl ⟨Nat.le_of_ble_eq_true rfl, Nat.le_of_ble_eq_true rfl⟩ (by decide +kernel) qw1381 qp45 rfl rfl (Nat.le_of_ble_eq_true rfl) dX11_readWhole_30 (fun r m7 hq7 => ?_)
      obtain ⟨rfl, hq7⟩ := hq7
      show V E (wR D cy aa ad) 4 m7 33 [(0, .ref (aa 0)), (1, .int (iz (lo))), (2, .int (iz (hi)))] []
      refine v_sub [0, 1] rfl ?_
      exact K33  (flO b n 4 x) m7 (by 
                first
                  | exact NO_q10.1
                  | exact hq7.1
                  | exact hx
              ) (by 
                first
                  | exact NO_q10.2
                  | exact hq7.2
                  | exact FZ.rfl' m
              ) (by 
                first
                  | exact (whl_1 hx (by omega)).1.trans nxO_fl.symm
                  | exact (whl_4 hxe k2 (by rw [← e30]; exact hq4)).1.trans nxO_fl.symm
                  | exact (whl_0 hxe k2 (by rw [← e30]; exact hq4)).1
              ) (by 
                first
                  | exact fun _ _ => (whl_1 hx (by omega)).2
                  | exact fun _ _ => (whl_4 hxe k2 (by rw [← e30]; exact hq4)).2
                  | exact fun e y => by rw [hxe] at y; cases y
              ) (by 
                first
                  | exact fun p y => (whl_0 hxe k2 (by rw [← e30]; exact hq4)).2.trans e30.symm
                  | (intro p9 y; exfalso; revert y; rcases x with e9 | e9 <;> (intro y; cases y))
              )
  · refine v_aload_n C 0 dX11_readWhole_8 rfl ?_
    refine v_iconst (z := 1) C dX11_readWhole_9 rfl ?_
    refine v_callV (st := []) (n := 1) (q := 0) C [.int (iz (1))] (ct_StageRatiosModel_flaw C.2.2.2.2.2.2.1 m (b) (n) (x) (1) (by exact hx) (by decide)) lR0 (eR0 _) rfl qw1382 qw16 qw1379 rfl rfl ⟨Nat.le_of_ble_eq_true rfl, Nat.le_of_ble_eq_true rfl⟩ (by decide +kernel) qw1381 qp45 rfl rfl (Nat.le_of_ble_eq_true rfl) dX11_readWhole_10 (fun r m8 hq8 => ?_)
    obtain ⟨rfl, hq8⟩ := hq8
    show V E (wR D cy aa ad) 4 m8 13 [(0, .ref (aa 0)), (1, .int (iz (lo))), (2, .int (iz (hi)))] []
    refine v_goto (tgt := 33) C dX11_readWhole_13 (by decide) ?_
    refine v_sub [0, 1] rfl ?_
    exact K33  (flO b n 1 x) m8 (by 
            first
              | exact hq8.1
              | exact NO_q30.1
              | exact hx
          ) (by 
            first
              | exact hq8.2
              | exact NO_q30.2
              | exact FZ.rfl' m
          ) (by 
            first
              | exact (whl_1 hx (by omega)).1.trans nxO_fl.symm
              | exact (whl_4 hxe k2 (by rw [← e30]; exact NO_q22)).1.trans nxO_fl.symm
              | exact (whl_0 hxe k2 (by rw [← e30]; exact NO_q22)).1
          ) (by 
            first
              | exact fun _ _ => (whl_1 hx (by omega)).2
              | exact fun _ _ => (whl_4 hxe k2 (by rw [← e30]; exact NO_q22)).2
              | exact fun e y => by rw [hxe] at y; cases y
          ) (by 
            first
              | exact fun p y => (whl_0 hxe k2 (by rw [← e30]; exact NO_q22)).2.trans e30.symm
              | (intro p9 y; exfalso; revert y; rcases x with e9 | e9 <;> (intro y; cases y))
          )

set_option maxHeartbeats 4000000 in
set_option maxRecDepth 100000 in
theorem ct_StageRatiosModel_readPart {lau : Launch} {D : va_G} {cy : Nat → ClassId} {aa ad : Nat → Nat} (hI : wI (wR D cy aa ad)) (m : Mem) (b : Int → Int) (n : Int) (x : Rs Int) (i9 : Nat) (own : String) (ix : Nat) (ttx : String) (bs : List Int32) (lo hi : Int) (hB : BtR m b n) (hx : TkS m b n x) (hqs : strS[i9]? = some (own, ix, ttx, bs)) (hlo : -2147483648 ≤ lo ∧ lo ≤ 2147483647) (hhi : -2147483648 ≤ hi ∧ hi ≤ 2147483647) : MT lau (wR D cy aa ad) yX11_readPart cX11_readPart 4 (some .int) ({ frames := 5, cells := 0, slots := 0, locals := 109 } : Room) m [.ref (aa 0), .ref (ad (2 * i9)), .int (iz (lo)), .int (iz (hi))] (Pi (fun z m' => vlR lo (bnd x (tPart b n bs lo hi)) = z ∧ TkS m' b n (sndR (bnd x (tPart b n bs lo hi))) ∧ FZ m m')) := by
  refine v_entry hI RX11 (by decide) rfl (Nat.le_of_ble_eq_true rfl) (fun E hE C X => ?_)
  subst hE
  show V E (wR D cy aa ad) 4 m 0 [(0, .ref (aa 0)), (1, .ref (ad (2 * i9))), (2, .int (iz (lo))), (3, .int (iz (hi)))] []
  refine v_aload_n C 0 dX11_readPart_0 rfl ?_
  refine v_aload_n C 1 dX11_readPart_1 rfl ?_
  refine v_callV (st := []) (n := 1) (q := 0) C [.ref (ad (2 * i9))] (ct_StageRatiosModel_isWord C.2.2.2.2.2.2.1 m (b) (n) (x) (i9) (own) (ix) (ttx) (bs) (by exact hx) (by exact hqs)) lR0 (eR0 _) rfl qw1372 qw16 qw1369 rfl rfl ⟨Nat.le_of_ble_eq_true rfl, Nat.le_of_ble_eq_true rfl⟩ (by decide +kernel) qw1371 qp43 rfl rfl (Nat.le_of_ble_eq_true rfl) dX11_readPart_2 (fun r m1 hq1 => ?_)
  obtain ⟨z1, rfl, ⟨rfl, hq1, rfl⟩ | ⟨rfl, hq1, rfl⟩⟩ := hq1
  · show V E (wR D cy aa ad) 4 m 5 [(0, .ref (aa 0)), (1, .ref (ad (2 * i9))), (2, .int (iz (lo))), (3, .int (iz (hi)))] [.int (iz (1))]
    refine v_if_ne (tgt := 13) C dX11_readPart_5 (by decide) (by omega) (fun c2 => ?_) (fun c2 => by exact absurd c2 (by decide))
    refine v_aload_n C 0 dX11_readPart_13 rfl ?_
    refine v_callV (st := []) (n := 0) (q := 0) C [] (ct_StageRatiosModel_next C.2.2.2.2.2.2.1 m (b) (n) (nxO b n (x)) (by 
              first
                | exact hB.fr NO_q10.2
                | exact hB
          ) (by 
              first
                | exact NO_q10.1.nx
                | exact hx.nx
          )) lR0 (eR0 _) rfl qw1348 qw16 qw1345 rfl rfl ⟨Nat.le_of_ble_eq_true rfl, Nat.le_of_ble_eq_true rfl⟩ (by decide +kernel) qw1347 qp38 rfl rfl (Nat.le_of_ble_eq_true rfl) dX11_readPart_14 (fun r m3 hq3 => ?_)
    obtain ⟨rfl, hq3⟩ := hq3
    show V E (wR D cy aa ad) 4 m3 17 [(0, .ref (aa 0)), (1, .ref (ad (2 * i9))), (2, .int (iz (lo))), (3, .int (iz (hi)))] []
    have fz14 : FZ m m3 := by
      first
        | exact NO_q10.2.tr hq3.2
        | exact hq3.2
    refine v_aload_n C 0 dX11_readPart_17 rfl ?_
    refine v_iload_n C 2 dX11_readPart_18 rfl ?_
    refine v_iload_n C 3 dX11_readPart_19 rfl ?_
    refine v_callV (st := []) (n := 2) (q := 0) C [.int (iz (lo)), .int (iz (hi))] (ct_StageRatiosModel_readWhole C.2.2.2.2.2.2.1 m3 (b) (n) (nxO b n (x)) (lo) (hi) (by exact hB.fr fz14) (by exact hq3.1) (by first | assumption | omega) (by first | assumption | omega)) lR0 (eR0 _) rfl qw1391 qw16 qw1388 rfl rfl ⟨Nat.le_of_ble_eq_true rfl, Nat.le_of_ble_eq_true rfl⟩ (by decide +kernel) qw1390 qp47 rfl rfl (Nat.le_of_ble_eq_true rfl) dX11_readPart_20 (fun r m4 hq4 => ?_)
    obtain ⟨z4, rfl, rfl, hq4⟩ := hq4
    show V E (wR D cy aa ad) 4 m4 23 [(0, .ref (aa 0)), (1, .ref (ad (2 * i9))), (2, .int (iz (lo))), (3, .int (iz (hi)))] [.int (iz (vlR lo (bnd (nxO b n (x)) (tWhole b n lo hi))))]
    refine v_iret C X rfl dX11_readPart_23 ⟨_, rfl, ?_, ?_⟩
    · first
        | (rw [prt_1 hq1])
        | (rw [prt_0 hq1])
    · first
        | (rw [← prt_1 hq1]; exact ⟨hq4.1, fz14.tr hq4.2⟩)
        | (rw [← prt_0 hq1]; exact ⟨hq4.1, fz14.tr hq4.2⟩)
  · show V E (wR D cy aa ad) 4 m 5 [(0, .ref (aa 0)), (1, .ref (ad (2 * i9))), (2, .int (iz (lo))), (3, .int (iz (hi)))] [.int (iz (0))]
    refine v_if_ne (tgt := 13) C dX11_readPart_5 (by decide) (by omega) (fun c5 => by exact absurd c5 (by decide)) (fun c5 => ?_)
    refine v_aload_n C 0 dX11_readPart_8 rfl ?_
    refine v_iconst (z := 1) C dX11_readPart_9 rfl ?_
    refine v_callV (st := []) (n := 1) (q := 0) C [.int (iz (1))] (ct_StageRatiosModel_flaw C.2.2.2.2.2.2.1 m (b) (n) (x) (1) (by exact hx) (by decide)) lR0 (eR0 _) rfl qw1382 qw16 qw1379 rfl rfl ⟨Nat.le_of_ble_eq_true rfl, Nat.le_of_ble_eq_true rfl⟩ (by decide +kernel) qw1381 qp45 rfl rfl (Nat.le_of_ble_eq_true rfl) dX11_readPart_10 (fun r m6 hq6 => ?_)
    obtain ⟨rfl, hq6⟩ := hq6
    show V E (wR D cy aa ad) 4 m6 13 [(0, .ref (aa 0)), (1, .ref (ad (2 * i9))), (2, .int (iz (lo))), (3, .int (iz (hi)))] []
    refine v_aload_n C 0 dX11_readPart_13 rfl ?_
    refine v_callV (st := []) (n := 0) (q := 0) C [] (ct_StageRatiosModel_next C.2.2.2.2.2.2.1 m6 (b) (n) (nxO b n (flO b n 1 x)) (by 
              first
                | exact hB.fr hq6.2
                | exact hB
          ) (by 
              first
                | exact hq6.1.nx
                | exact hx.nx
          )) lR0 (eR0 _) rfl qw1348 qw16 qw1345 rfl rfl ⟨Nat.le_of_ble_eq_true rfl, Nat.le_of_ble_eq_true rfl⟩ (by decide +kernel) qw1347 qp38 rfl rfl (Nat.le_of_ble_eq_true rfl) dX11_readPart_14 (fun r m7 hq7 => ?_)
    obtain ⟨rfl, hq7⟩ := hq7
    show V E (wR D cy aa ad) 4 m7 17 [(0, .ref (aa 0)), (1, .ref (ad (2 * i9))), (2, .int (iz (lo))), (3, .int (iz (hi)))] []
    have fz14 : FZ m m7 := by
      first
        | exact hq6.2.tr hq7.2
        | exact hq7.2
    refine v_aload_n C 0 dX11_readPart_17 rfl ?_
    refine v_iload_n C 2 dX11_readPart_18 rfl ?_
    refine v_iload_n C 3 dX11_readPart_19 rfl ?_
    refine v_callV (st := []) (n := 2) (q := 0) C [.int (iz (lo)), .int (iz (hi))] (ct_StageRatiosModel_readWhole C.2.2.2.2.2.2.1 m7 (b) (n) (nxO b n (flO b n 1 x)) (lo) (hi) (by exact hB.fr fz14) (by exact hq7.1) (by first | assumption | omega) (by first | assumption | omega)) lR0 (eR0 _) rfl qw1391 qw16 qw1388 rfl rfl ⟨Nat.le_of_ble_eq_true rfl, Nat.le_of_ble_eq_true rfl⟩ (by decide +kernel) qw1390 qp47 rfl rfl (Nat.le_of_ble_eq_true rfl) dX11_readPart_20 (fun r m8 hq8 => ?_)
    obtain ⟨z8, rfl, rfl, hq8⟩ := hq8
    show V E (wR D cy aa ad) 4 m8 23 [(0, .ref (aa 0)), (1, .ref (ad (2 * i9))), (2, .int (iz (lo))), (3, .int (iz (hi)))] [.int (iz (vlR lo (bnd (nxO b n (flO b n 1 x)) (tWhole b n lo hi))))]
    refine v_iret C X rfl dX11_readPart_23 ⟨_, rfl, ?_, ?_⟩
    · first
        | (rw [prt_1 hq1])
        | (rw [prt_0 hq1])
    · first
        | (rw [← prt_1 hq1]; exact ⟨hq8.1, fz14.tr hq8.2⟩)
        | (rw [← prt_0 hq1]; exact ⟨hq8.1, fz14.tr hq8.2⟩)

set_option maxHeartbeats 4000000 in
set_option maxRecDepth 100000 in
theorem ct_StageRatiosModel_isName {lau : Launch} {D : va_G} {cy : Nat → ClassId} {aa ad : Nat → Nat} (hI : wI (wR D cy aa ad)) (m : Mem) (b : Int → Int) (n : Int) (x : Rs Int) (hx : TkS m b n x) : MT lau (wR D cy aa ad) yX11_isName cX11_isName 1 (some .boolean) ({ frames := 5, cells := 0, slots := 0, locals := 109 } : Room) m [.ref (aa 0)] (Pi (fun z m' => (1 = z ∧ (NmS b n x) ∧ m = m') ∨ (0 = z ∧ ¬ (NmS b n x) ∧ m = m'))) := by
  refine v_entry hI RX11 (by decide) rfl (Nat.le_of_ble_eq_true rfl) (fun E hE C X => ?_)
  subst hE
  show V E (wR D cy aa ad) 1 m 0 [(0, .ref (aa 0))] []
  refine v_aload_n C 0 dX11_isName_0 rfl ?_
  refine v_get C 0 28 lR0 (eR0 _) rfl inX11 (by decide) rfl qw1168 dX11_isName_1 ?_
  refine v_iconst (z := 2) C dX11_isName_4 rfl ?_
  refine v_icmp_ne (tgt := 39) C dX11_isName_5 (by decide) (by have y := hx.tk0; omega) (by omega) (fun c1 => ?_) (fun c1 => ?_)
  · have hno : ¬ NmS b n x := fun ⟨p9, y, z⟩ => c1 (hx.n2 y z.1)
    refine v_iconst (z := 0) C dX11_isName_39 rfl ?_
    refine v_iret C X (by decide) dX11_isName_40 ⟨_, rfl, Or.inr ⟨rfl, ?_, ?_⟩⟩
    · first
        | exact hno
        | exact ⟨p, hxe, k1, fun y => hnrocket ⟨p, hxe, k1, y⟩, fun y => hnstage ⟨p, hxe, k1, y⟩, fun y => hnfail ⟨p, hxe, k1, y⟩⟩
    · rfl
  · obtain ⟨p, hxe, k1, ew, wok⟩ := hx.t2 c1
    refine v_aload_n C 0 dX11_isName_8 rfl ?_
    refine v_ldcs C 19 rfl dX11_isName_9 ?_
    refine v_callV (st := []) (n := 1) (q := 0) C [.ref (ad (2 * 19))] (ct_StageRatiosModel_isWord C.2.2.2.2.2.2.1 m (b) (n) (x) (19) ("StageRatiosModel") (159) ("rocket") (w_rocket) (by exact hx) rfl) lR0 (eR0 _) rfl qw1372 qw16 qw1369 rfl rfl ⟨Nat.le_of_ble_eq_true rfl, Nat.le_of_ble_eq_true rfl⟩ (by decide +kernel) qw1371 qp43 rfl rfl (Nat.le_of_ble_eq_true rfl) dX11_isName_11 (fun r m2 hq2 => ?_)
    obtain ⟨z2, rfl, ⟨rfl, hq2, rfl⟩ | ⟨rfl, hq2, rfl⟩⟩ := hq2
    · show V E (wR D cy aa ad) 1 m 14 [(0, .ref (aa 0))] [.int (iz (1))]
      have hno : ¬ NmS b n x := fun ⟨p9, y, z⟩ => by
        obtain ⟨p8, y2, z2, z3⟩ := hq2
        rw [Sum.inr.inj (y2.symm.trans y)] at z3
        exact z.2.1 z3
      refine v_if_ne (tgt := 39) C dX11_isName_14 (by decide) (by omega) (fun c3 => ?_) (fun c3 => by exact absurd c3 (by decide))
      refine v_iconst (z := 0) C dX11_isName_39 rfl ?_
      refine v_iret C X (by decide) dX11_isName_40 ⟨_, rfl, Or.inr ⟨rfl, ?_, ?_⟩⟩
      · first
          | exact hno
          | exact ⟨p, hxe, k1, fun y => hnrocket ⟨p, hxe, k1, y⟩, fun y => hnstage ⟨p, hxe, k1, y⟩, fun y => hnfail ⟨p, hxe, k1, y⟩⟩
      · rfl
    · show V E (wR D cy aa ad) 1 m 14 [(0, .ref (aa 0))] [.int (iz (0))]
      have hnrocket : ¬ WdS b n w_rocket x := hq2
      refine v_if_ne (tgt := 39) C dX11_isName_14 (by decide) (by omega) (fun c4 => by exact absurd c4 (by decide)) (fun c4 => ?_)
      refine v_aload_n C 0 dX11_isName_17 rfl ?_
      refine v_ldcs C 25 rfl dX11_isName_18 ?_
      refine v_callV (st := []) (n := 1) (q := 0) C [.ref (ad (2 * 25))] (ct_StageRatiosModel_isWord C.2.2.2.2.2.2.1 m (b) (n) (x) (25) ("StageRatiosModel") (161) ("stage") (w_stage) (by exact hx) rfl) lR0 (eR0 _) rfl qw1372 qw16 qw1369 rfl rfl ⟨Nat.le_of_ble_eq_true rfl, Nat.le_of_ble_eq_true rfl⟩ (by decide +kernel) qw1371 qp43 rfl rfl (Nat.le_of_ble_eq_true rfl) dX11_isName_20 (fun r m5 hq5 => ?_)
      obtain ⟨z5, rfl, ⟨rfl, hq5, rfl⟩ | ⟨rfl, hq5, rfl⟩⟩ := hq5
      · show V E (wR D cy aa ad) 1 m 23 [(0, .ref (aa 0))] [.int (iz (1))]
        have hno : ¬ NmS b n x := fun ⟨p9, y, z⟩ => by
          obtain ⟨p8, y2, z2, z3⟩ := hq5
          rw [Sum.inr.inj (y2.symm.trans y)] at z3
          exact z.2.2.1 z3
        refine v_if_ne (tgt := 39) C dX11_isName_23 (by decide) (by omega) (fun c6 => ?_) (fun c6 => by exact absurd c6 (by decide))
        refine v_iconst (z := 0) C dX11_isName_39 rfl ?_
        refine v_iret C X (by decide) dX11_isName_40 ⟨_, rfl, Or.inr ⟨rfl, ?_, ?_⟩⟩
        · first
            | exact hno
            | exact ⟨p, hxe, k1, fun y => hnrocket ⟨p, hxe, k1, y⟩, fun y => hnstage ⟨p, hxe, k1, y⟩, fun y => hnfail ⟨p, hxe, k1, y⟩⟩
        · rfl
      · show V E (wR D cy aa ad) 1 m 23 [(0, .ref (aa 0))] [.int (iz (0))]
        have hnstage : ¬ WdS b n w_stage x := hq5
        refine v_if_ne (tgt := 39) C dX11_isName_23 (by decide) (by omega) (fun c7 => by exact absurd c7 (by decide)) (fun c7 => ?_)
        refine v_aload_n C 0 dX11_isName_26 rfl ?_
        refine v_ldcs C 26 rfl dX11_isName_27 ?_
        refine v_callV (st := []) (n := 1) (q := 0) C [.ref (ad (2 * 26))] (ct_StageRatiosModel_isWord C.2.2.2.2.2.2.1 m (b) (n) (x) (26) ("StageRatiosModel") (162) ("fail") (w_fail) (by exact hx) rfl) lR0 (eR0 _) rfl qw1372 qw16 qw1369 rfl rfl ⟨Nat.le_of_ble_eq_true rfl, Nat.le_of_ble_eq_true rfl⟩ (by decide +kernel) qw1371 qp43 rfl rfl (Nat.le_of_ble_eq_true rfl) dX11_isName_29 (fun r m8 hq8 => ?_)
        obtain ⟨z8, rfl, ⟨rfl, hq8, rfl⟩ | ⟨rfl, hq8, rfl⟩⟩ := hq8
        · show V E (wR D cy aa ad) 1 m 32 [(0, .ref (aa 0))] [.int (iz (1))]
          have hno : ¬ NmS b n x := fun ⟨p9, y, z⟩ => by
            obtain ⟨p8, y2, z2, z3⟩ := hq8
            rw [Sum.inr.inj (y2.symm.trans y)] at z3
            exact z.2.2.2 z3
          refine v_if_ne (tgt := 39) C dX11_isName_32 (by decide) (by omega) (fun c9 => ?_) (fun c9 => by exact absurd c9 (by decide))
          refine v_iconst (z := 0) C dX11_isName_39 rfl ?_
          refine v_iret C X (by decide) dX11_isName_40 ⟨_, rfl, Or.inr ⟨rfl, ?_, ?_⟩⟩
          · first
              | exact hno
              | exact ⟨p, hxe, k1, fun y => hnrocket ⟨p, hxe, k1, y⟩, fun y => hnstage ⟨p, hxe, k1, y⟩, fun y => hnfail ⟨p, hxe, k1, y⟩⟩
          · rfl
        · show V E (wR D cy aa ad) 1 m 32 [(0, .ref (aa 0))] [.int (iz (0))]
          have hnfail : ¬ WdS b n w_fail x := hq8
          refine v_if_ne (tgt := 39) C dX11_isName_32 (by decide) (by omega) (fun c10 => by exact absurd c10 (by decide)) (fun c10 => ?_)
          refine v_iconst (z := 1) C dX11_isName_35 rfl ?_
          refine v_goto (tgt := 40) C dX11_isName_36 (by decide) ?_
          refine v_iret C X (by decide) dX11_isName_40 ⟨_, rfl, Or.inl ⟨rfl, ?_, ?_⟩⟩
          · first
              | exact hno
              | exact ⟨p, hxe, k1, fun y => hnrocket ⟨p, hxe, k1, y⟩, fun y => hnstage ⟨p, hxe, k1, y⟩, fun y => hnfail ⟨p, hxe, k1, y⟩⟩
          · rfl

set_option maxHeartbeats 4000000 in
set_option maxRecDepth 100000 in
theorem ct_StageRatiosModel_stageHere {lau : Launch} {D : va_G} {cy : Nat → ClassId} {aa ad : Nat → Nat} (hI : wI (wR D cy aa ad)) (m : Mem) (nm : Int → List Int) (w : List Int) (k3 : Int) (hk3 : m 0 18 = k3 ∧ 0 ≤ k3 ∧ k3 ≤ 3) (hnm : ∀ s : Int, 0 ≤ s → s < k3 → m 5 s = enZ 256 0 (nm s)) (hno : ∀ s : Int, 0 ≤ s → s < k3 → wdOk (nm s)) (hv : m 0 32 = enZ 256 0 w) (hw : wdOk w) : MT lau (wR D cy aa ad) yX11_stageHere cX11_stageHere 2 (some .int) ({ frames := 0, cells := 0, slots := 0, locals := 0 } : Room) m [.ref (aa 0)] (Pi (fun z m' => naZ nm w k3 = z ∧ m = m')) := by
  refine v_entry hI RX11 (by decide) rfl (Nat.le_of_ble_eq_true rfl) (fun E hE C X => ?_)
  subst hE
  show V E (wR D cy aa ad) 2 m 0 [(0, .ref (aa 0))] []
  have hwr := hw.r256
  refine v_iconst (z := 0) C dX11_stageHere_0 rfl ?_
  refine v_istore_n (L1 := [(1, .int (iz (0))), (0, .ref (aa 0))]) C dX11_stageHere_1 (by decide) rfl ?_
  have K2 : ∀ (nK : Nat) (s : Int) (hs : 0 ≤ s ∧ s ≤ k3) (hz : naZ nm w k3 = naF nm w (k3 - s).toNat s), (k3 - s).toNat < nK → V E (wR D cy aa ad) 2 m 2 [(0, .ref (aa 0)), (1, .int (iz (s)))] [] := by
    intro nK
    induction nK with
    | zero => intro s  hs hz hn; exact absurd hn (Nat.not_lt_zero _)
    | succ nK ih2 =>
      intro s  hs hz hn2
      refine v_iload_n C 1 dX11_stageHere_2 rfl ?_
      refine v_aload_n C 0 dX11_stageHere_3 rfl ?_
      refine v_get C 0 18 lR0 (eR0 _) rfl inX11 (by decide) rfl qw1158 dX11_stageHere_4 ?_
      refine v_icmp_ge (tgt := 32) C dX11_stageHere_7 (by decide) (by omega) (by omega) (fun c1 => ?_) (fun c1 => ?_)
      · refine v_iconst (z := -1) C dX11_stageHere_32 rfl ?_
        refine v_iret C X rfl dX11_stageHere_33 ⟨_, rfl, ?_, ?_⟩
        · rw [hz, naZ_end (by omega)]
        · rfl
      · refine v_aload_n C 0 dX11_stageHere_10 rfl ?_
        refine v_get C 0 7 lR0 (eR0 _) rfl inX11 (by decide) rfl qw1147 dX11_stageHere_11 ?_
        refine v_iload_n C 1 dX11_stageHere_14 rfl ?_
        refine v_lald C 5 lR5 (eR5 _) (by decide) (by omega) dX11_stageHere_15 ?_
        refine v_aload_n C 0 dX11_stageHere_16 rfl ?_
        refine v_get C 0 32 lR0 (eR0 _) rfl inX11 (by decide) rfl qw1172 dX11_stageHere_17 ?_
        have es := hnm s hs.1 (by omega)
        have os := hno s hs.1 (by omega)
        have osr := os.r256
        refine v_lc_ne (tgt := 26) C dX11_stageHere_20 dX11_stageHere_21 (by decide) (by first | (rw [es]; omega) | (rw [hv]; omega) | omega) (by first | (rw [es]; omega) | (rw [hv]; omega) | omega) (fun c2 => ?_) (fun c2 => ?_)
        · have hne : ¬ nm s = w := fun y => c2 (es.trans (by rw [y, hv]))
          refine v_iinc (L1 := [(1, .int (iz (s + 1))), (0, .ref (aa 0))]) C 1 dX11_stageHere_26 rfl (by decide) rfl ?_
          refine v_goto (tgt := 2) C dX11_stageHere_29 (by decide) ?_
          refine v_sub [1, 0] rfl ?_
          exact ih2 (s + 1)  (by omega) (by rw [hz, naZ_go (by omega) hs.1, if_neg hne]) (by omega)
        · have hye : nm s = w := en_eq6 os hw (es.symm.trans (c2.trans hv))
          refine v_iload_n C 1 dX11_stageHere_24 rfl ?_
          refine v_iret C X rfl dX11_stageHere_25 ⟨_, rfl, ?_, ?_⟩
          · rw [hz, naZ_go (by omega) hs.1, if_pos hye]
          · rfl
  refine v_sub [1, 0] rfl ?_
  exact K2 _ (0)  (by omega) (by show naF nm w k3.toNat 0 = naF nm w (k3 - 0).toNat 0; rw [show k3 - 0 = k3 by omega]) (Nat.lt_succ_self _)

set_option maxHeartbeats 4000000 in
set_option maxRecDepth 100000 in
theorem ct_StageRatiosModel_begins {lau : Launch} {D : va_G} {cy : Nat → ClassId} {aa ad : Nat → Nat} (hI : wI (wR D cy aa ad)) (m : Mem) (b : Int → Int) (n : Int) (x : Rs Int) (full : Int) (hB : BtR m b n) (hx : TkS m b n x) (hfu : full = 0 ∨ full = 1) (hup : 0 ≤ m 0 13 ∧ m 0 13 ≤ 99) : MT lau (wR D cy aa ad) yX11_begins cX11_begins 2 (none) ({ frames := 3, cells := 0, slots := 0, locals := 63 } : Room) m [.ref (aa 0), .int (iz (full))] (Pv (fun m' => TkS m' b n (bgO b n full (m 0 13) x) ∧ FZ m m')) := by
  refine v_entry hI RX11 (by decide) rfl (Nat.le_of_ble_eq_true rfl) (fun E hE C X => ?_)
  subst hE
  show V E (wR D cy aa ad) 2 m 0 [(0, .ref (aa 0)), (1, .int (iz (full)))] []
  refine v_iload_n C 1 dX11_begins_0 rfl ?_
  refine v_if_eq (tgt := 9) C dX11_begins_1 (by decide) (by first | omega | (rw [e13]; omega)) (fun c1 => ?_) (fun c1 => ?_)
  · refine v_aload_n C 0 dX11_begins_9 rfl ?_
    refine v_get C 0 13 lR0 (eR0 _) rfl inX11 (by decide) rfl qw1153 dX11_begins_10 ?_
    refine v_if_ne (tgt := 22) C dX11_begins_13 (by decide) (by first | omega | (rw [e13]; omega)) (fun c2 => ?_) (fun c2 => ?_)
    · refine v_aload_n C 0 dX11_begins_22 rfl ?_
      refine v_callV (st := []) (n := 0) (q := 0) C [] (ct_StageRatiosModel_next C.2.2.2.2.2.2.1 m (b) (n) (nxO b n (x)) (by 
                  first
                    | exact hB.fr (NO_q6.2.tr NO_q19.2)
                    | exact hB.fr NO_q19.2
                    | exact hB.fr NO_q6.2
                    | exact hB
              ) (by 
                  first
                    | exact NO_q19.1.nx
                    | exact NO_q6.1.nx
                    | exact hx.nx
              )) lR0 (eR0 _) rfl qw1348 qw16 qw1345 rfl rfl ⟨Nat.le_of_ble_eq_true rfl, Nat.le_of_ble_eq_true rfl⟩ (by decide +kernel) qw1347 qp38 rfl rfl (Nat.le_of_ble_eq_true rfl) dX11_begins_23 (fun r m3 hq3 => ?_)
      obtain ⟨rfl, hq3⟩ := hq3
      show V E (wR D cy aa ad) 2 m3 26 [(0, .ref (aa 0)), (1, .int (iz (full)))] []
      refine v_vret C X dX11_begins_26 ⟨rfl, ?_⟩
      first
        | (rw [bg_1 b n x (by omega) (by omega)]; exact ⟨hq3.1, hq3.2⟩)
        | (rw [bg_2 b n x (by omega) (by omega)]; exact ⟨hq3.1, NO_q19.2.tr hq3.2⟩)
        | (rw [bg_3 b n x (by omega) (by omega)]; exact ⟨hq3.1, NO_q6.2.tr hq3.2⟩)
        | (rw [bg_4 b n x (by omega) (by omega)]; exact ⟨hq3.1, (NO_q6.2.tr NO_q19.2).tr hq3.2⟩)
    · refine v_aload_n C 0 dX11_begins_16 rfl ?_
      refine v_bipush (z := 6) C dX11_begins_17 (by decide) ?_
      refine v_callV (st := []) (n := 1) (q := 0) C [.int (iz (6))] (ct_StageRatiosModel_flaw C.2.2.2.2.2.2.1 m (b) (n) (x) (6) (by 
                  first
                    | exact NO_q6.1
                    | exact hx
              ) (by decide)) lR0 (eR0 _) rfl qw1382 qw16 qw1379 rfl rfl ⟨Nat.le_of_ble_eq_true rfl, Nat.le_of_ble_eq_true rfl⟩ (by decide +kernel) qw1381 qp45 rfl rfl (Nat.le_of_ble_eq_true rfl) dX11_begins_19 (fun r m4 hq4 => ?_)
      obtain ⟨rfl, hq4⟩ := hq4
      show V E (wR D cy aa ad) 2 m4 22 [(0, .ref (aa 0)), (1, .int (iz (full)))] []
      refine v_aload_n C 0 dX11_begins_22 rfl ?_
      refine v_callV (st := []) (n := 0) (q := 0) C [] (ct_StageRatiosModel_next C.2.2.2.2.2.2.1 m4 (b) (n) (nxO b n (flO b n 6 (x))) (by 
                  first
                    | exact hB.fr (NO_q6.2.tr hq4.2)
                    | exact hB.fr hq4.2
                    | exact hB.fr NO_q6.2
                    | exact hB
              ) (by 
                  first
                    | exact hq4.1.nx
                    | exact NO_q6.1.nx
                    | exact hx.nx
              )) lR0 (eR0 _) rfl qw1348 qw16 qw1345 rfl rfl ⟨Nat.le_of_ble_eq_true rfl, Nat.le_of_ble_eq_true rfl⟩ (by decide +kernel) qw1347 qp38 rfl rfl (Nat.le_of_ble_eq_true rfl) dX11_begins_23 (fun r m5 hq5 => ?_)
      obtain ⟨rfl, hq5⟩ := hq5
      show V E (wR D cy aa ad) 2 m5 26 [(0, .ref (aa 0)), (1, .int (iz (full)))] []
      refine v_vret C X dX11_begins_26 ⟨rfl, ?_⟩
      first
        | (rw [bg_1 b n x (by omega) (by omega)]; exact ⟨hq5.1, hq5.2⟩)
        | (rw [bg_2 b n x (by omega) (by omega)]; exact ⟨hq5.1, hq4.2.tr hq5.2⟩)
        | (rw [bg_3 b n x (by omega) (by omega)]; exact ⟨hq5.1, NO_q6.2.tr hq5.2⟩)
        | (rw [bg_4 b n x (by omega) (by omega)]; exact ⟨hq5.1, (NO_q6.2.tr hq4.2).tr hq5.2⟩)
  · refine v_aload_n C 0 dX11_begins_4 rfl ?_
    refine v_iconst (z := 5) C dX11_begins_5 rfl ?_
    refine v_callV (st := []) (n := 1) (q := 0) C [.int (iz (5))] (ct_StageRatiosModel_flaw C.2.2.2.2.2.2.1 m (b) (n) (x) (5) (by exact hx) (by decide)) lR0 (eR0 _) rfl qw1382 qw16 qw1379 rfl rfl ⟨Nat.le_of_ble_eq_true rfl, Nat.le_of_ble_eq_true rfl⟩ (by decide +kernel) qw1381 qp45 rfl rfl (Nat.le_of_ble_eq_true rfl) dX11_begins_6 (fun r m6 hq6 => ?_)
    obtain ⟨rfl, hq6⟩ := hq6
    show V E (wR D cy aa ad) 2 m6 9 [(0, .ref (aa 0)), (1, .int (iz (full)))] []
    have e13 : m6 0 13 = m 0 13 := hq6.2.1 13 (by decide)
    refine v_aload_n C 0 dX11_begins_9 rfl ?_
    refine v_get C 0 13 lR0 (eR0 _) rfl inX11 (by decide) rfl qw1153 dX11_begins_10 ?_
    refine v_if_ne (tgt := 22) C dX11_begins_13 (by decide) (by first | omega | (rw [e13]; omega)) (fun c7 => ?_) (fun c7 => ?_)
    · refine v_aload_n C 0 dX11_begins_22 rfl ?_
      refine v_callV (st := []) (n := 0) (q := 0) C [] (ct_StageRatiosModel_next C.2.2.2.2.2.2.1 m6 (b) (n) (nxO b n (flO b n 5 x)) (by 
                  first
                    | exact hB.fr (hq6.2.tr NO_q19.2)
                    | exact hB.fr NO_q19.2
                    | exact hB.fr hq6.2
                    | exact hB
              ) (by 
                  first
                    | exact NO_q19.1.nx
                    | exact hq6.1.nx
                    | exact hx.nx
              )) lR0 (eR0 _) rfl qw1348 qw16 qw1345 rfl rfl ⟨Nat.le_of_ble_eq_true rfl, Nat.le_of_ble_eq_true rfl⟩ (by decide +kernel) qw1347 qp38 rfl rfl (Nat.le_of_ble_eq_true rfl) dX11_begins_23 (fun r m8 hq8 => ?_)
      obtain ⟨rfl, hq8⟩ := hq8
      show V E (wR D cy aa ad) 2 m8 26 [(0, .ref (aa 0)), (1, .int (iz (full)))] []
      refine v_vret C X dX11_begins_26 ⟨rfl, ?_⟩
      first
        | (rw [bg_1 b n x (by omega) (by omega)]; exact ⟨hq8.1, hq8.2⟩)
        | (rw [bg_2 b n x (by omega) (by omega)]; exact ⟨hq8.1, NO_q19.2.tr hq8.2⟩)
        | (rw [bg_3 b n x (by omega) (by omega)]; exact ⟨hq8.1, hq6.2.tr hq8.2⟩)
        | (rw [bg_4 b n x (by omega) (by omega)]; exact ⟨hq8.1, (hq6.2.tr NO_q19.2).tr hq8.2⟩)
    · refine v_aload_n C 0 dX11_begins_16 rfl ?_
      refine v_bipush (z := 6) C dX11_begins_17 (by decide) ?_
      refine v_callV (st := []) (n := 1) (q := 0) C [.int (iz (6))] (ct_StageRatiosModel_flaw C.2.2.2.2.2.2.1 m6 (b) (n) (flO b n 5 x) (6) (by 
                  first
                    | exact hq6.1
                    | exact hx
              ) (by decide)) lR0 (eR0 _) rfl qw1382 qw16 qw1379 rfl rfl ⟨Nat.le_of_ble_eq_true rfl, Nat.le_of_ble_eq_true rfl⟩ (by decide +kernel) qw1381 qp45 rfl rfl (Nat.le_of_ble_eq_true rfl) dX11_begins_19 (fun r m9 hq9 => ?_)
      obtain ⟨rfl, hq9⟩ := hq9
      show V E (wR D cy aa ad) 2 m9 22 [(0, .ref (aa 0)), (1, .int (iz (full)))] []
      refine v_aload_n C 0 dX11_begins_22 rfl ?_
      refine v_callV (st := []) (n := 0) (q := 0) C [] (ct_StageRatiosModel_next C.2.2.2.2.2.2.1 m9 (b) (n) (nxO b n (flO b n 6 (flO b n 5 x))) (by 
                  first
                    | exact hB.fr (hq6.2.tr hq9.2)
                    | exact hB.fr hq9.2
                    | exact hB.fr hq6.2
                    | exact hB
              ) (by 
                  first
                    | exact hq9.1.nx
                    | exact hq6.1.nx
                    | exact hx.nx
              )) lR0 (eR0 _) rfl qw1348 qw16 qw1345 rfl rfl ⟨Nat.le_of_ble_eq_true rfl, Nat.le_of_ble_eq_true rfl⟩ (by decide +kernel) qw1347 qp38 rfl rfl (Nat.le_of_ble_eq_true rfl) dX11_begins_23 (fun r m10 hq10 => ?_)
      obtain ⟨rfl, hq10⟩ := hq10
      show V E (wR D cy aa ad) 2 m10 26 [(0, .ref (aa 0)), (1, .int (iz (full)))] []
      refine v_vret C X dX11_begins_26 ⟨rfl, ?_⟩
      first
        | (rw [bg_1 b n x (by omega) (by omega)]; exact ⟨hq10.1, hq10.2⟩)
        | (rw [bg_2 b n x (by omega) (by omega)]; exact ⟨hq10.1, hq9.2.tr hq10.2⟩)
        | (rw [bg_3 b n x (by omega) (by omega)]; exact ⟨hq10.1, hq6.2.tr hq10.2⟩)
        | (rw [bg_4 b n x (by omega) (by omega)]; exact ⟨hq10.1, (hq6.2.tr hq9.2).tr hq10.2⟩)

set_option maxHeartbeats 4000000 in
set_option maxRecDepth 100000 in
theorem ct_StageRatiosModel_readKind {lau : Launch} {D : va_G} {cy : Nat → ClassId} {aa ad : Nat → Nat} (hI : wI (wR D cy aa ad)) (m : Mem) (b : Int → Int) (n : Int) (x : Rs Int) (hB : BtR m b n) (hx : TkS m b n x) : MT lau (wR D cy aa ad) yX11_readKind cX11_readKind 2 (some .int) ({ frames := 5, cells := 0, slots := 0, locals := 109 } : Room) m [.ref (aa 0)] (Pi (fun z m' => vlR (-1) (bnd x (tKind b n)) = z ∧ TkS m' b n (sndR (bnd x (tKind b n))) ∧ FZ m m')) := by
  refine v_entry hI RX11 (by decide) rfl (Nat.le_of_ble_eq_true rfl) (fun E hE C X => ?_)
  subst hE
  show V E (wR D cy aa ad) 2 m 0 [(0, .ref (aa 0))] []
  refine v_aload_n C 0 dX11_readKind_0 rfl ?_
  refine v_ldcs C 27 rfl dX11_readKind_1 ?_
  refine v_callV (st := []) (n := 1) (q := 0) C [.ref (ad (2 * 27))] (ct_StageRatiosModel_isWord C.2.2.2.2.2.2.1 m (b) (n) (x) (27) ("StageRatiosModel") (210) ("solid") (w_solid) (by exact hx) rfl) lR0 (eR0 _) rfl qw1372 qw16 qw1369 rfl rfl ⟨Nat.le_of_ble_eq_true rfl, Nat.le_of_ble_eq_true rfl⟩ (by decide +kernel) qw1371 qp43 rfl rfl (Nat.le_of_ble_eq_true rfl) dX11_readKind_3 (fun r m1 hq1 => ?_)
  obtain ⟨z1, rfl, ⟨rfl, hq1, rfl⟩ | ⟨rfl, hq1, rfl⟩⟩ := hq1
  · show V E (wR D cy aa ad) 2 m 6 [(0, .ref (aa 0))] [.int (iz (1))]
    refine v_if_eq (tgt := 13) C dX11_readKind_6 (by decide) (by omega) (fun c2 => by exact absurd c2 (by decide)) (fun c2 => ?_)
    refine v_iconst (z := 2) C dX11_readKind_9 rfl ?_
    refine v_goto (tgt := 40) C dX11_readKind_10 (by decide) ?_
    refine v_istore_n (L1 := [(1, .int (iz (2))), (0, .ref (aa 0))]) C dX11_readKind_40 (by decide) rfl ?_
    refine v_iload_n C 0 dX11_readKind_41 rfl ?_
    refine v_iconst (z := -1) C dX11_readKind_42 rfl ?_
    refine v_icmp_ne (tgt := 51) C dX11_readKind_43 (by decide) (by omega) (by omega) (fun c3 => ?_) (fun c3 => by exact absurd c3 (by decide))
    refine v_aload_n C 1 dX11_readKind_51 rfl ?_
    refine v_callV (st := []) (n := 0) (q := 0) C [] (ct_StageRatiosModel_next C.2.2.2.2.2.2.1 m (b) (n) (nxO b n (x)) (by 
              first
                | exact hB.fr NO_q48.2
                | exact hB
          ) (by 
              first
                | exact NO_q48.1.nx
                | exact hx.nx
          )) lR0 (eR0 _) rfl qw1348 qw16 qw1345 rfl rfl ⟨Nat.le_of_ble_eq_true rfl, Nat.le_of_ble_eq_true rfl⟩ (by decide +kernel) qw1347 qp38 rfl rfl (Nat.le_of_ble_eq_true rfl) dX11_readKind_52 (fun r m4 hq4 => ?_)
    obtain ⟨rfl, hq4⟩ := hq4
    show V E (wR D cy aa ad) 2 m4 55 [(1, .int (iz (2))), (0, .ref (aa 0))] []
    refine v_iload_n C 0 dX11_readKind_55 rfl ?_
    refine v_iret C X rfl dX11_readKind_56 ⟨_, rfl, ?_, ?_⟩
    · first
        | exact (knd_1 hq1 gr_solid (by decide)).2
        | exact (knd_1 NO_q16 gr_oil (by decide)).2
        | exact (knd_1 NO_q29 gr_gas (by decide)).2
        | exact (knd_0 hq1 NO_q16 NO_q29).2
    · first
        | (rw [(knd_1 hq1 gr_solid (by decide)).1]; exact ⟨hq4.1, hq4.2⟩)
        | (rw [(knd_1 NO_q16 gr_oil (by decide)).1]; exact ⟨hq4.1, hq4.2⟩)
        | (rw [(knd_1 NO_q29 gr_gas (by decide)).1]; exact ⟨hq4.1, hq4.2⟩)
        | (rw [(knd_0 hq1 NO_q16 NO_q29).1]; exact ⟨hq4.1, NO_q48.2.tr hq4.2⟩)
  · show V E (wR D cy aa ad) 2 m 6 [(0, .ref (aa 0))] [.int (iz (0))]
    refine v_if_eq (tgt := 13) C dX11_readKind_6 (by decide) (by omega) (fun c5 => ?_) (fun c5 => by exact absurd c5 (by decide))
    refine v_aload_n C 0 dX11_readKind_13 rfl ?_
    refine v_ldcs C 28 rfl dX11_readKind_14 ?_
    refine v_callV (st := []) (n := 1) (q := 0) C [.ref (ad (2 * 28))] (ct_StageRatiosModel_isWord C.2.2.2.2.2.2.1 m (b) (n) (x) (28) ("StageRatiosModel") (212) ("oil") (w_oil) (by exact hx) rfl) lR0 (eR0 _) rfl qw1372 qw16 qw1369 rfl rfl ⟨Nat.le_of_ble_eq_true rfl, Nat.le_of_ble_eq_true rfl⟩ (by decide +kernel) qw1371 qp43 rfl rfl (Nat.le_of_ble_eq_true rfl) dX11_readKind_16 (fun r m6 hq6 => ?_)
    obtain ⟨z6, rfl, ⟨rfl, hq6, rfl⟩ | ⟨rfl, hq6, rfl⟩⟩ := hq6
    · show V E (wR D cy aa ad) 2 m 19 [(0, .ref (aa 0))] [.int (iz (1))]
      refine v_if_eq (tgt := 26) C dX11_readKind_19 (by decide) (by omega) (fun c7 => by exact absurd c7 (by decide)) (fun c7 => ?_)
      refine v_iconst (z := 3) C dX11_readKind_22 rfl ?_
      refine v_goto (tgt := 40) C dX11_readKind_23 (by decide) ?_
      refine v_istore_n (L1 := [(1, .int (iz (3))), (0, .ref (aa 0))]) C dX11_readKind_40 (by decide) rfl ?_
      refine v_iload_n C 0 dX11_readKind_41 rfl ?_
      refine v_iconst (z := -1) C dX11_readKind_42 rfl ?_
      refine v_icmp_ne (tgt := 51) C dX11_readKind_43 (by decide) (by omega) (by omega) (fun c8 => ?_) (fun c8 => by exact absurd c8 (by decide))
      refine v_aload_n C 1 dX11_readKind_51 rfl ?_
      refine v_callV (st := []) (n := 0) (q := 0) C [] (ct_StageRatiosModel_next C.2.2.2.2.2.2.1 m (b) (n) (nxO b n (x)) (by 
                  first
                    | exact hB.fr NO_q48.2
                    | exact hB
              ) (by 
                  first
                    | exact NO_q48.1.nx
                    | exact hx.nx
              )) lR0 (eR0 _) rfl qw1348 qw16 qw1345 rfl rfl ⟨Nat.le_of_ble_eq_true rfl, Nat.le_of_ble_eq_true rfl⟩ (by decide +kernel) qw1347 qp38 rfl rfl (Nat.le_of_ble_eq_true rfl) dX11_readKind_52 (fun r m9 hq9 => ?_)
      obtain ⟨rfl, hq9⟩ := hq9
      show V E (wR D cy aa ad) 2 m9 55 [(1, .int (iz (3))), (0, .ref (aa 0))] []
      refine v_iload_n C 0 dX11_readKind_55 rfl ?_
      refine v_iret C X rfl dX11_readKind_56 ⟨_, rfl, ?_, ?_⟩
      · first
          | exact (knd_1 hq1 gr_solid (by decide)).2
          | exact (knd_1 hq6 gr_oil (by decide)).2
          | exact (knd_1 NO_q29 gr_gas (by decide)).2
          | exact (knd_0 hq1 hq6 NO_q29).2
      · first
          | (rw [(knd_1 hq1 gr_solid (by decide)).1]; exact ⟨hq9.1, hq9.2⟩)
          | (rw [(knd_1 hq6 gr_oil (by decide)).1]; exact ⟨hq9.1, hq9.2⟩)
          | (rw [(knd_1 NO_q29 gr_gas (by decide)).1]; exact ⟨hq9.1, hq9.2⟩)
          | (rw [(knd_0 hq1 hq6 NO_q29).1]; exact ⟨hq9.1, NO_q48.2.tr hq9.2⟩)
    · show V E (wR D cy aa ad) 2 m 19 [(0, .ref (aa 0))] [.int (iz (0))]
      refine v_if_eq (tgt := 26) C dX11_readKind_19 (by decide) (by omega) (fun c10 => ?_) (fun c10 => by exact absurd c10 (by decide))
      refine v_aload_n C 0 dX11_readKind_26 rfl ?_
      refine v_ldcs C 29 rfl dX11_readKind_27 ?_
      refine v_callV (st := []) (n := 1) (q := 0) C [.ref (ad (2 * 29))] (ct_StageRatiosModel_isWord C.2.2.2.2.2.2.1 m (b) (n) (x) (29) ("StageRatiosModel") (214) ("gas") (w_gas) (by exact hx) rfl) lR0 (eR0 _) rfl qw1372 qw16 qw1369 rfl rfl ⟨Nat.le_of_ble_eq_true rfl, Nat.le_of_ble_eq_true rfl⟩ (by decide +kernel) qw1371 qp43 rfl rfl (Nat.le_of_ble_eq_true rfl) dX11_readKind_29 (fun r m11 hq11 => ?_)
      obtain ⟨z11, rfl, ⟨rfl, hq11, rfl⟩ | ⟨rfl, hq11, rfl⟩⟩ := hq11
      · show V E (wR D cy aa ad) 2 m 32 [(0, .ref (aa 0))] [.int (iz (1))]
        refine v_if_eq (tgt := 39) C dX11_readKind_32 (by decide) (by omega) (fun c12 => by exact absurd c12 (by decide)) (fun c12 => ?_)
        refine v_iconst (z := 4) C dX11_readKind_35 rfl ?_
        refine v_goto (tgt := 40) C dX11_readKind_36 (by decide) ?_
        refine v_istore_n (L1 := [(1, .int (iz (4))), (0, .ref (aa 0))]) C dX11_readKind_40 (by decide) rfl ?_
        refine v_iload_n C 0 dX11_readKind_41 rfl ?_
        refine v_iconst (z := -1) C dX11_readKind_42 rfl ?_
        refine v_icmp_ne (tgt := 51) C dX11_readKind_43 (by decide) (by omega) (by omega) (fun c13 => ?_) (fun c13 => by exact absurd c13 (by decide))
        refine v_aload_n C 1 dX11_readKind_51 rfl ?_
        refine v_callV (st := []) (n := 0) (q := 0) C [] (ct_StageRatiosModel_next C.2.2.2.2.2.2.1 m (b) (n) (nxO b n (x)) (by 
                      first
                        | exact hB.fr NO_q48.2
                        | exact hB
                  ) (by 
                      first
                        | exact NO_q48.1.nx
                        | exact hx.nx
                  )) lR0 (eR0 _) rfl qw1348 qw16 qw1345 rfl rfl ⟨Nat.le_of_ble_eq_true rfl, Nat.le_of_ble_eq_true rfl⟩ (by decide +kernel) qw1347 qp38 rfl rfl (Nat.le_of_ble_eq_true rfl) dX11_readKind_52 (fun r m14 hq14 => ?_)
        obtain ⟨rfl, hq14⟩ := hq14
        show V E (wR D cy aa ad) 2 m14 55 [(1, .int (iz (4))), (0, .ref (aa 0))] []
        refine v_iload_n C 0 dX11_readKind_55 rfl ?_
        refine v_iret C X rfl dX11_readKind_56 ⟨_, rfl, ?_, ?_⟩
        · first
            | exact (knd_1 hq1 gr_solid (by decide)).2
            | exact (knd_1 hq6 gr_oil (by decide)).2
            | exact (knd_1 hq11 gr_gas (by decide)).2
            | exact (knd_0 hq1 hq6 hq11).2
        · first
            | (rw [(knd_1 hq1 gr_solid (by decide)).1]; exact ⟨hq14.1, hq14.2⟩)
            | (rw [(knd_1 hq6 gr_oil (by decide)).1]; exact ⟨hq14.1, hq14.2⟩)
            | (rw [(knd_1 hq11 gr_gas (by decide)).1]; exact ⟨hq14.1, hq14.2⟩)
            | (rw [(knd_0 hq1 hq6 hq11).1]; exact ⟨hq14.1, NO_q48.2.tr hq14.2⟩)
      · show V E (wR D cy aa ad) 2 m 32 [(0, .ref (aa 0))] [.int (iz (0))]
        refine v_if_eq (tgt := 39) C dX11_readKind_32 (by decide) (by omega) (fun c15 => ?_) (fun c15 => by exact absurd c15 (by decide))
        refine v_iconst (z := -1) C dX11_readKind_39 rfl ?_
        refine v_istore_n (L1 := [(1, .int (iz (-1))), (0, .ref (aa 0))]) C dX11_readKind_40 (by decide) rfl ?_
        refine v_iload_n C 0 dX11_readKind_41 rfl ?_
        refine v_iconst (z := -1) C dX11_readKind_42 rfl ?_
        refine v_icmp_ne (tgt := 51) C dX11_readKind_43 (by decide) (by omega) (by omega) (fun c16 => by exact absurd c16 (by decide)) (fun c16 => ?_)
        refine v_aload_n C 1 dX11_readKind_46 rfl ?_
        refine v_iconst (z := 1) C dX11_readKind_47 rfl ?_
        refine v_callV (st := []) (n := 1) (q := 0) C [.int (iz (1))] (ct_StageRatiosModel_flaw C.2.2.2.2.2.2.1 m (b) (n) (x) (1) (by exact hx) (by decide)) lR0 (eR0 _) rfl qw1382 qw16 qw1379 rfl rfl ⟨Nat.le_of_ble_eq_true rfl, Nat.le_of_ble_eq_true rfl⟩ (by decide +kernel) qw1381 qp45 rfl rfl (Nat.le_of_ble_eq_true rfl) dX11_readKind_48 (fun r m17 hq17 => ?_)
        obtain ⟨rfl, hq17⟩ := hq17
        show V E (wR D cy aa ad) 2 m17 51 [(1, .int (iz (-1))), (0, .ref (aa 0))] []
        refine v_aload_n C 1 dX11_readKind_51 rfl ?_
        refine v_callV (st := []) (n := 0) (q := 0) C [] (ct_StageRatiosModel_next C.2.2.2.2.2.2.1 m17 (b) (n) (nxO b n (flO b n 1 x)) (by 
                      first
                        | exact hB.fr hq17.2
                        | exact hB
                  ) (by 
                      first
                        | exact hq17.1.nx
                        | exact hx.nx
                  )) lR0 (eR0 _) rfl qw1348 qw16 qw1345 rfl rfl ⟨Nat.le_of_ble_eq_true rfl, Nat.le_of_ble_eq_true rfl⟩ (by decide +kernel) qw1347 qp38 rfl rfl (Nat.le_of_ble_eq_true rfl) dX11_readKind_52 (fun r m18 hq18 => ?_)
        obtain ⟨rfl, hq18⟩ := hq18
        show V E (wR D cy aa ad) 2 m18 55 [(1, .int (iz (-1))), (0, .ref (aa 0))] []
        refine v_iload_n C 0 dX11_readKind_55 rfl ?_
        refine v_iret C X rfl dX11_readKind_56 ⟨_, rfl, ?_, ?_⟩
        · first
            | exact (knd_1 hq1 gr_solid (by decide)).2
            | exact (knd_1 hq6 gr_oil (by decide)).2
            | exact (knd_1 hq11 gr_gas (by decide)).2
            | exact (knd_0 hq1 hq6 hq11).2
        · first
            | (rw [(knd_1 hq1 gr_solid (by decide)).1]; exact ⟨hq18.1, hq18.2⟩)
            | (rw [(knd_1 hq6 gr_oil (by decide)).1]; exact ⟨hq18.1, hq18.2⟩)
            | (rw [(knd_1 hq11 gr_gas (by decide)).1]; exact ⟨hq18.1, hq18.2⟩)
            | (rw [(knd_0 hq1 hq6 hq11).1]; exact ⟨hq18.1, hq17.2.tr hq18.2⟩)

theorem laF_s {A B : Int → Int} {s k : Int} (h : 0 ≤ k) : laF A B s (k + 1).toNat = if A k = s then B k else laF A B s k.toNat := by
  rw [show (k + 1).toNat = k.toNat + 1 by omega]
  show (if A (k.toNat : Nat) = s then B (k.toNat : Nat) else laF A B s k.toNat) = _
  rw [show ((k.toNat : Nat) : Int) = k by omega]
set_option maxHeartbeats 4000000 in
set_option maxRecDepth 100000 in
theorem ct_StageRatiosModel_latestFail {lau : Launch} {D : va_G} {cy : Nat → ClassId} {aa ad : Nat → Nat} (hI : wI (wR D cy aa ad)) (m : Mem) (A B : Int → Int) (s c6 : Int) (hc6 : m 0 19 = c6 ∧ 0 ≤ c6 ∧ c6 ≤ 6) (hfl : ∀ i : Int, 0 ≤ i → i < c6 → m 4 (3 * i) = A i ∧ m 4 (3 * i + 1) = B i) (hfr : ∀ i : Int, 0 ≤ i → i < c6 → (0 ≤ A i ∧ A i ≤ 2) ∧ 1 ≤ B i ∧ B i ≤ 99) (hs : -1 ≤ s ∧ s ≤ 3) : MT lau (wR D cy aa ad) yX11_latestFail cX11_latestFail 4 (some .int) ({ frames := 0, cells := 0, slots := 0, locals := 0 } : Room) m [.ref (aa 0), .int (iz (s))] (Pi (fun z m' => laF A B s c6.toNat = z ∧ m = m')) := by
  refine v_entry hI RX11 (by decide) rfl (Nat.le_of_ble_eq_true rfl) (fun E hE C X => ?_)
  subst hE
  show V E (wR D cy aa ad) 4 m 0 [(0, .ref (aa 0)), (1, .int (iz (s)))] []
  refine v_iconst (z := 0) C dX11_latestFail_0 rfl ?_
  refine v_istore_n (L1 := [(2, .int (iz (0))), (0, .ref (aa 0)), (1, .int (iz (s)))]) C dX11_latestFail_1 (by decide) rfl ?_
  refine v_iconst (z := 0) C dX11_latestFail_2 rfl ?_
  refine v_istore_n (L1 := [(3, .int (iz (0))), (2, .int (iz (0))), (0, .ref (aa 0)), (1, .int (iz (s)))]) C dX11_latestFail_3 (by decide) rfl ?_
  have K4 : ∀ (nK : Nat) (la : Int) (k : Int) (hk : 0 ≤ k ∧ k ≤ c6) (hla : la = laF A B s k.toNat), (c6 - k).toNat < nK → V E (wR D cy aa ad) 4 m 4 [(0, .ref (aa 0)), (1, .int (iz (s))), (2, .int (iz (la))), (3, .int (iz (k)))] [] := by
    intro nK
    induction nK with
    | zero => intro la k  hk hla hn; exact absurd hn (Nat.not_lt_zero _)
    | succ nK ih4 =>
      intro la k  hk hla hn4
      refine v_iload_n C 3 dX11_latestFail_4 rfl ?_
      refine v_aload_n C 0 dX11_latestFail_5 rfl ?_
      refine v_get C 0 19 lR0 (eR0 _) rfl inX11 (by decide) rfl qw1159 dX11_latestFail_6 ?_
      refine v_icmp_ge (tgt := 41) C dX11_latestFail_9 (by decide) (by first | omega | (rw [ef.1]; omega)) (by first | omega | (rw [ef.1]; omega)) (fun c1 => ?_) (fun c1 => ?_)
      · refine v_iload_n C 2 dX11_latestFail_41 rfl ?_
        refine v_iret C X rfl dX11_latestFail_42 ⟨_, rfl, ?_, ?_⟩
        · rw [hla, show k = c6 by omega]
        · rfl
      · have ef := hfl k hk.1 (by omega)
        have er := hfr k hk.1 (by omega)
        refine v_aload_n C 0 dX11_latestFail_12 rfl ?_
        refine v_get C 0 6 lR0 (eR0 _) rfl inX11 (by decide) rfl qw1146 dX11_latestFail_13 ?_
        refine v_iconst (z := 3) C dX11_latestFail_16 rfl ?_
        refine v_iload_n C 3 dX11_latestFail_17 rfl ?_
        refine v_imul C dX11_latestFail_18 ?_
        refine v_iald C 4 lR4 (eR4 _) (by decide) (by omega) dX11_latestFail_19 ?_
        refine v_iload_n C 1 dX11_latestFail_20 rfl ?_
        refine v_icmp_ne (tgt := 35) C dX11_latestFail_21 (by decide) (by first | omega | (rw [ef.1]; omega)) (by first | omega | (rw [ef.1]; omega)) (fun c2 => ?_) (fun c2 => ?_)
        · refine v_iinc (L1 := [(3, .int (iz (k + 1))), (0, .ref (aa 0)), (1, .int (iz (s))), (2, .int (iz (la)))]) C 3 dX11_latestFail_35 rfl (by decide) rfl ?_
          refine v_goto (tgt := 4) C dX11_latestFail_38 (by decide) ?_
          refine v_sub [1, 2, 3, 0] rfl ?_
          exact ih4 (la) (k + 1)  (by omega) (by 
                        rw [laF_s hk.1]
                        first
                          | (rw [if_pos (by omega)]; exact ef.2)
                          | (rw [if_neg (by omega)]; exact hla)
                      ) (by omega)
        · refine v_aload_n C 0 dX11_latestFail_24 rfl ?_
          refine v_get C 0 6 lR0 (eR0 _) rfl inX11 (by decide) rfl qw1146 dX11_latestFail_25 ?_
          refine v_iconst (z := 3) C dX11_latestFail_28 rfl ?_
          refine v_iload_n C 3 dX11_latestFail_29 rfl ?_
          refine v_imul C dX11_latestFail_30 ?_
          refine v_iconst (z := 1) C dX11_latestFail_31 rfl ?_
          refine v_iadd C dX11_latestFail_32 ?_
          refine v_iald C 4 lR4 (eR4 _) (by decide) (by omega) dX11_latestFail_33 ?_
          refine v_istore_n (L1 := [(2, .int (iz (m 4 ((3 * k) + 1)))), (0, .ref (aa 0)), (1, .int (iz (s))), (3, .int (iz (k)))]) C dX11_latestFail_34 (by decide) rfl ?_
          refine v_iinc (L1 := [(3, .int (iz (k + 1))), (2, .int (iz (m 4 ((3 * k) + 1)))), (0, .ref (aa 0)), (1, .int (iz (s)))]) C 3 dX11_latestFail_35 rfl (by decide) rfl ?_
          refine v_goto (tgt := 4) C dX11_latestFail_38 (by decide) ?_
          refine v_sub [2, 3, 1, 0] rfl ?_
          exact ih4 (m 4 ((3 * k) + 1)) (k + 1)  (by omega) (by 
                        rw [laF_s hk.1]
                        first
                          | (rw [if_pos (by omega)]; exact ef.2)
                          | (rw [if_neg (by omega)]; exact hla)
                      ) (by omega)
  refine v_sub [2, 3, 1, 0] rfl ?_
  exact K4 _ (0) (0)  (by omega) (by rfl) (Nat.lt_succ_self _)
