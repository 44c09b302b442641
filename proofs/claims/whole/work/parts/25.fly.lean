/-- the whole flight, stage by stage -/
def stA (fa A B Cn : Int → Int) (nF : Nat) (U T : Int → Int) (xs xt s : Int) : List Tk × Int × Int × Int := buF s (flZ fa A B Cn nF s (if s = xs then xt else 0)) (fa (s * 9 + 6)) (fa (s * 9 + 5)) 18 1 (U s) (fa (s * 9 + 4)) (T s)
def tkA (S : Int → List Tk × Int × Int × Int) : Nat → List Tk
  | 0 => []
  | c + 1 => tkA S c ++ (S c).1
def drA (S : Int → List Tk × Int × Int × Int) : Nat → Int
  | 0 => 0
  | c + 1 => drA S c + (S c).2.1
def spA (fa : Int → Int) (S : Int → List Tk × Int × Int × Int) : Nat → Int
  | 0 => 0
  | c + 1 => spA fa S c + (fa ((c : Int) * 9 + 4) - (S c).2.2.1)
def prA (fa T : Int → Int) (S : Int → List Tk × Int × Int × Int) : Nat → List (Int × Int)
  | 0 => []
  | c + 1 => prA fa T S c ++ [(T c, fa ((c : Int) * 9 + 0)), ((S c).2.2.2, -fa ((c : Int) * 9 + 0))]
theorem prA_len (fa T : Int → Int) (S : Int → List Tk × Int × Int × Int) (c : Nat) : (prA fa T S c).length = 2 * c := by
  induction c with
  | zero => rfl
  | succ c ih => show (prA fa T S c ++ _).length = _; rw [List.length_append, ih]; show 2 * c + 2 = _; omega
theorem tkA_len {S : Int → List Tk × Int × Int × Int} {n : Nat} (h : ∀ s : Int, 0 ≤ s → s < n → ((S s).1.length : Int) ≤ 17) : ((tkA S n).length : Int) ≤ 17 * n := by
  induction n with
  | zero => exact Int.le_refl _
  | succ n ih =>
    have a := ih fun s h0 h1 => h s h0 (by omega)
    have b := h n (by omega) (by omega)
    show ((tkA S n ++ (S n).1).length : Int) ≤ _
    rw [List.length_append]; omega
/-- what is asked of a division that flies -/
def UTok (fa : Int → Int) (n : Int) (U T : Int → Int) : Prop := ∀ s : Int, 0 ≤ s → s < n → (0 ≤ U s ∧ U s ≤ 16) ∧ 1 ≤ T s - U s ∧ T s ≤ 400
theorem flZ_0 {fa A B Cn : Int → Int} {nF : Nat} {s xt : Int} (h : ∀ i : Int, 0 ≤ i → i < nF → 1 ≤ Cn i ∧ Cn i ≤ 9) (t : Int) : 0 ≤ flZ fa A B Cn nF s xt t := by
  unfold flZ; have := faC_rng (A := A) (B := B) (Cn := Cn) (s := s) (t := t) nF h; split
  · omega
  · split <;> omega
theorem stA_len {fa A B Cn : Int → Int} {nF : Nat} {U T : Int → Int} {xs xt s n : Int} (hF : FaOk fa n) (hc : ∀ i : Int, 0 ≤ i → i < nF → 1 ≤ Cn i ∧ Cn i ≤ 9) (hU : UTok fa n U T) (h0 : 0 ≤ s) (h1 : s < n) : ((stA fa A B Cn nF U T xs xt s).1.length : Int) ≤ 17 := by
  have a := hF s h0 h1
  have b := hU s h0 h1
  have := (buF_len (s := s) (thr := fa (s * 9 + 5)) (flZ_0 (fa := fa) (A := A) (B := B) (s := s) (xt := if s = xs then xt else 0) hc) (show 1 ≤ fa (s * 9 + 6) by omega) 18 1 (U s) (fa (s * 9 + 4)) (T s) (by omega) (by omega)).1
  unfold stA
  omega
set_option maxHeartbeats 4000000 in
set_option maxRecDepth 100000 in
theorem ct_Flight_fly {lau : Launch} {D : va_G} {cy : Nat → ClassId} {aa ad : Nat → Nat} (hI : wI (wC D cy aa ad)) (m : Mem) (f fs ft fa fb fr fp ro rb rp rr : Nat) (wo wu wt we : Nat) (k kf ks kt kc : Nat) (xs xt : Int) (hfl : FlightAt f fs ft fa fb fr fp ro rb rp rr) (hw : WeightsAt wo wu wt we) (hk : RocketAt k kf ks kt kc) (hrk : RkIs m k kf ks kt kc) (hU : UTok (m kf) (m k 5) (m wu) (m wt)) (hxs : -2147483648 ≤ xs ∧ xs ≤ 2147483647) (hxt : -2147483648 ≤ xt ∧ xt ≤ 2147483647) : MT lau (wC D cy aa ad) yX2_fly cX2_fly 6 (none) ({ frames := 3, cells := 0, slots := 0, locals := 77 } : Room) m [.ref (aa f), .ref (aa k), .ref (aa wo), .int (iz (xs)), .int (iz (xt))] (Pv (fun m' => TkL m' f fs ft fa fb fr fp (tkA (stA (m kf) (m ks) (m kt) (m kc) (m k 6).toNat (m wu) (m wt) xs xt) (m k 5).toNat) ∧ m' f 8 = drA (stA (m kf) (m ks) (m kt) (m kc) (m k 6).toNat (m wu) (m wt) xs xt) (m k 5).toNat ∧ m' f 9 = spA (m kf) (stA (m kf) (m ks) (m kt) (m kc) (m k 6).toNat (m wu) (m wt) xs xt) (m k 5).toNat ∧ RatL m' ro rb rp (prA (m kf) (m wt) (stA (m kf) (m ks) (m kt) (m kc) (m k 6).toNat (m wu) (m wt) xs xt) (m k 5).toNat ++ if 0 < m k 4 then [(m k 4, ((tkA (stA (m kf) (m ks) (m kt) (m kc) (m k 6).toNat (m wu) (m wt) xs xt) (m k 5).toNat).length : Int)), (m k 4 + 1, -((tkA (stA (m kf) (m ks) (m kt) (m kc) (m k 6).toNat (m wu) (m wt) xs xt) (m k 5).toNat).length : Int))] else []) ∧ (∀ q, q ≠ f → q ≠ fs → q ≠ ft → q ≠ fa → q ≠ fb → q ≠ fr → q ≠ fp → q ≠ ro → q ≠ rb → q ≠ rp → m' q = m q))) := by
  refine v_entry hI RX2 (by decide) rfl (Nat.le_of_ble_eq_true rfl) (fun E hE C X => ?_)
  subst hE
  show V E (wC D cy aa ad) 6 m 0 [(0, .ref (aa f)), (1, .ref (aa k)), (2, .ref (aa wo)), (3, .int (iz (xs))), (4, .int (iz (xt)))] []
  have hFn : FlN f fs ft fa fb fr fp := by unfold FlightAt at hfl; unfold FlN; omega
  have N_k : Ne7 k f fs ft fa fb fr fp := by unfold Ne7; unfold FlightAt at hfl; unfold RocketAt at hk; omega
  have N_kf : Ne7 kf f fs ft fa fb fr fp := by unfold Ne7; unfold FlightAt at hfl; unfold RocketAt at hk; omega
  have N_ks : Ne7 ks f fs ft fa fb fr fp := by unfold Ne7; unfold FlightAt at hfl; unfold RocketAt at hk; omega
  have N_kt : Ne7 kt f fs ft fa fb fr fp := by unfold Ne7; unfold FlightAt at hfl; unfold RocketAt at hk; omega
  have N_kc : Ne7 kc f fs ft fa fb fr fp := by unfold Ne7; unfold FlightAt at hfl; unfold RocketAt at hk; omega
  have N_wo : Ne7 wo f fs ft fa fb fr fp := by unfold Ne7; unfold FlightAt at hfl; unfold WeightsAt at hw; omega
  have N_wu : Ne7 wu f fs ft fa fb fr fp := by unfold Ne7; unfold FlightAt at hfl; unfold WeightsAt at hw; omega
  have N_wt : Ne7 wt f fs ft fa fb fr fp := by unfold Ne7; unfold FlightAt at hfl; unfold WeightsAt at hw; omega
  have N_we : Ne7 we f fs ft fa fb fr fp := by unfold Ne7; unfold FlightAt at hfl; unfold WeightsAt at hw; omega
  have N_ro : Ne7 ro f fs ft fa fb fr fp := by unfold Ne7; unfold FlightAt at hfl; omega
  have N_rb : Ne7 rb f fs ft fa fb fr fp := by unfold Ne7; unfold FlightAt at hfl; omega
  have N_rp : Ne7 rp f fs ft fa fb fr fp := by unfold Ne7; unfold FlightAt at hfl; omega
  have N_rr : Ne7 rr f fs ft fa fb fr fp := by unfold Ne7; unfold FlightAt at hfl; omega
  have M_k : Ne3 k ro rb rp := by unfold Ne3; unfold FlightAt at hfl; unfold RocketAt at hk; omega
  have M_kf : Ne3 kf ro rb rp := by unfold Ne3; unfold FlightAt at hfl; unfold RocketAt at hk; omega
  have M_ks : Ne3 ks ro rb rp := by unfold Ne3; unfold FlightAt at hfl; unfold RocketAt at hk; omega
  have M_kt : Ne3 kt ro rb rp := by unfold Ne3; unfold FlightAt at hfl; unfold RocketAt at hk; omega
  have M_kc : Ne3 kc ro rb rp := by unfold Ne3; unfold FlightAt at hfl; unfold RocketAt at hk; omega
  have M_wo : Ne3 wo ro rb rp := by unfold Ne3; unfold FlightAt at hfl; unfold WeightsAt at hw; omega
  have M_wu : Ne3 wu ro rb rp := by unfold Ne3; unfold FlightAt at hfl; unfold WeightsAt at hw; omega
  have M_wt : Ne3 wt ro rb rp := by unfold Ne3; unfold FlightAt at hfl; unfold WeightsAt at hw; omega
  have M_we : Ne3 we ro rb rp := by unfold Ne3; unfold FlightAt at hfl; unfold WeightsAt at hw; omega
  have M_f : Ne3 f ro rb rp := by unfold Ne3; unfold FlightAt at hfl; omega
  have M_fs : Ne3 fs ro rb rp := by unfold Ne3; unfold FlightAt at hfl; omega
  have M_ft : Ne3 ft ro rb rp := by unfold Ne3; unfold FlightAt at hfl; omega
  have M_fa : Ne3 fa ro rb rp := by unfold Ne3; unfold FlightAt at hfl; omega
  have M_fb : Ne3 fb ro rb rp := by unfold Ne3; unfold FlightAt at hfl; omega
  have M_fr : Ne3 fr ro rb rp := by unfold Ne3; unfold FlightAt at hfl; omega
  have M_fp : Ne3 fp ro rb rp := by unfold Ne3; unfold FlightAt at hfl; omega
  obtain ⟨SF, hSF⟩ : ∃ SF, SF = (stA (m kf) (m ks) (m kt) (m kc) (m k 6).toNat (m wu) (m wt) xs xt) := ⟨_, rfl⟩
  rw [← hSF] at X
  obtain ⟨hk5, hF, -, -, hk4, hk6, hfa, -⟩ := id hrk
  have hlen : ∀ s : Int, 0 ≤ s → s < m k 5 → ((SF s).1.length : Int) ≤ 17 := fun s h0 h1 => by rw [hSF]; exact stA_len hF (fun i a b => (hfa i a (by omega)).2.2) hU h0 h1
  refine v_aload_n C 0 dX2_fly_0 rfl ?_
  refine v_iconst (z := 0) C dX2_fly_1 rfl ?_
  refine v_put C f 7 (0) 7 rfl (FlightAt.l0 hfl) (FlightAt.e0 hfl _) rfl inX2 tyX2 tyX2_ok nmX2 (by decide) qw332 rfl rfl rfl (Nat.le_of_ble_eq_true rfl) (by rw [mup_r]; exact (FlightAt.e0 hfl _)) dX2_fly_2 (fun m1 em1 => ?_)
  refine v_aload_n C 0 dX2_fly_5 rfl ?_
  refine v_iconst (z := 0) C dX2_fly_6 rfl ?_
  refine v_put C f 8 (0) 8 rfl (FlightAt.l0 hfl) (FlightAt.e0 hfl _) rfl inX2 tyX2 tyX2_ok nmX2 (by decide) qw334 rfl rfl rfl (Nat.le_of_ble_eq_true rfl) (by rw [mup_r]; exact (FlightAt.e0 hfl _)) dX2_fly_7 (fun m2 em2 => ?_)
  refine v_aload_n C 0 dX2_fly_10 rfl ?_
  refine v_iconst (z := 0) C dX2_fly_11 rfl ?_
  refine v_put C f 9 (0) 9 rfl (FlightAt.l0 hfl) (FlightAt.e0 hfl _) rfl inX2 tyX2 tyX2_ok nmX2 (by decide) qw336 rfl rfl rfl (Nat.le_of_ble_eq_true rfl) (by rw [mup_r]; exact (FlightAt.e0 hfl _)) dX2_fly_12 (fun m3 em3 => ?_)
  refine v_aload_n C 0 dX2_fly_15 rfl ?_
  refine v_get C f 6 (FlightAt.l0 hfl) (FlightAt.e0 hfl _) rfl inX2 (by decide) rfl qw330 dX2_fly_16 ?_
  refine v_callV (st := []) (n := 0) (q := ro) C [] (ct_Ratio_clear C.2.2.2.2.2.2.1 m3 (ro) (rb) (rp) (rr) (by unfold FlightAt at hfl; unfold RatioAt; omega)) (FlightAt.l7 hfl) (FlightAt.e7 hfl _) rfl qw729 qw9 qw967 rfl rfl ⟨Nat.le_of_ble_eq_true rfl, Nat.le_of_ble_eq_true rfl⟩ (by decide +kernel) qw727 qw728 rfl rfl (Nat.le_of_ble_eq_true rfl) dX2_fly_19 (fun r m4 hq4 => ?_)
  obtain ⟨rfl, hq4⟩ := hq4
  show V E (wC D cy aa ad) 6 m4 22 [(0, .ref (aa f)), (1, .ref (aa k)), (2, .ref (aa wo)), (3, .int (iz (xs))), (4, .int (iz (xt)))] []
  refine v_iconst (z := 0) C dX2_fly_22 rfl ?_
  refine v_istore (L1 := [(5, .int (iz (0))), (0, .ref (aa f)), (1, .ref (aa k)), (2, .ref (aa wo)), (3, .int (iz (xs))), (4, .int (iz (xt)))]) C dX2_fly_23 (by decide) rfl ?_
  have K25 : ∀ (nK : Nat) (i : Int) (mL : Mem) (hi : 0 ≤ i ∧ i ≤ m k 5) (hT : TkL mL f fs ft fa fb fr fp (tkA SF i.toNat)) (h8 : mL f 8 = drA SF i.toNat) (h9 : mL f 9 = spA (m kf) SF i.toNat) (hR : RatL mL ro rb rp (prA (m kf) (m wt) SF i.toNat)) (hf : (∀ q, q ≠ f → q ≠ fs → q ≠ ft → q ≠ fa → q ≠ fb → q ≠ fr → q ≠ fp → q ≠ ro → q ≠ rb → q ≠ rp → mL q = m q)), (m k 5 - i).toNat < nK → V E (wC D cy aa ad) 6 mL 25 [(0, .ref (aa f)), (1, .ref (aa k)), (2, .ref (aa wo)), (3, .int (iz (xs))), (4, .int (iz (xt))), (5, .int (iz (i)))] [] := by
    intro nK
    induction nK with
    | zero => intro i mL hi hT h8 h9 hR hf hn; exact absurd hn (Nat.not_lt_zero _)
    | succ nK ih25 =>
      intro i mL hi hT h8 h9 hR hf hn25
      have eK : mL k = m k := by have z := N_k; have z2 := M_k; exact hf _ z.1 z.2.1 z.2.2.1 z.2.2.2.1 z.2.2.2.2.1 z.2.2.2.2.2.1 z.2.2.2.2.2.2 z2.1 z2.2.1 z2.2.2
      have eKf : mL kf = m kf := by have z := N_kf; have z2 := M_kf; exact hf _ z.1 z.2.1 z.2.2.1 z.2.2.2.1 z.2.2.2.2.1 z.2.2.2.2.2.1 z.2.2.2.2.2.2 z2.1 z2.2.1 z2.2.2
      have eKs : mL ks = m ks := by have z := N_ks; have z2 := M_ks; exact hf _ z.1 z.2.1 z.2.2.1 z.2.2.2.1 z.2.2.2.2.1 z.2.2.2.2.2.1 z.2.2.2.2.2.2 z2.1 z2.2.1 z2.2.2
      have eKt : mL kt = m kt := by have z := N_kt; have z2 := M_kt; exact hf _ z.1 z.2.1 z.2.2.1 z.2.2.2.1 z.2.2.2.2.1 z.2.2.2.2.2.1 z.2.2.2.2.2.2 z2.1 z2.2.1 z2.2.2
      have eKc : mL kc = m kc := by have z := N_kc; have z2 := M_kc; exact hf _ z.1 z.2.1 z.2.2.1 z.2.2.2.1 z.2.2.2.2.1 z.2.2.2.2.2.1 z.2.2.2.2.2.2 z2.1 z2.2.1 z2.2.2
      have eWu : mL wu = m wu := by have z := N_wu; have z2 := M_wu; exact hf _ z.1 z.2.1 z.2.2.1 z.2.2.2.1 z.2.2.2.2.1 z.2.2.2.2.2.1 z.2.2.2.2.2.2 z2.1 z2.2.1 z2.2.2
      have eWt : mL wt = m wt := by have z := N_wt; have z2 := M_wt; exact hf _ z.1 z.2.1 z.2.2.1 z.2.2.2.1 z.2.2.2.2.1 z.2.2.2.2.2.1 z.2.2.2.2.2.2 z2.1 z2.2.1 z2.2.2
      have eK5 : mL k 5 = m k 5 := by rw [eK]
      have eK4 : mL k 4 = m k 4 := by rw [eK]
      have eN : ((i.toNat : Nat) : Int) = i := by omega
      have hTl := tkA_len (S := SF) (n := i.toNat) (fun s h0 h1 => hlen s h0 (by omega))
      have hPl := prA_len (m kf) (m wt) SF i.toNat
      have h7 := hT.1
      refine v_iload C 5 dX2_fly_25 rfl ?_
      refine v_aload_n C 1 dX2_fly_27 rfl ?_
      refine v_get C k 5 (RocketAt.l0 hk) (RocketAt.e0 hk _) rfl inX6 (by decide) rfl qw385 dX2_fly_28 ?_
      refine v_icmp_ge (tgt := 60) C dX2_fly_31 (by decide) (by omega) (by omega) (fun c5 => ?_) (fun c5 => ?_)
      · have ei : i.toNat = (m k 5).toNat := by omega
        rw [ei] at hT h8 h9 hR hTl hPl h7
        refine v_aload_n C 1 dX2_fly_60 rfl ?_
        refine v_get C k 4 (RocketAt.l0 hk) (RocketAt.e0 hk _) rfl inX6 (by decide) rfl qw380 dX2_fly_61 ?_
        refine v_if_le (tgt := 100) C dX2_fly_64 (by decide) (by omega) (fun c6 => ?_) (fun c6 => ?_)
        · refine v_vret C X dX2_fly_100 ⟨rfl, ?_⟩
          dsimp only
          first
            | (rw [if_neg (by omega), List.append_nil]
               exact ⟨hT, h8, h9, hR, hf⟩)
            | (have g2 : ∀ q, q ≠ ro → q ≠ rb → q ≠ rp → NO_m97 q = mL q := fun q a b c => by rw [NO_q97.2 q a b c, g1 q a b c]
               have g8 : NO_m97 f = mL f := g2 f M_f.1 M_f.2.1 M_f.2.2
               refine ⟨⟨by rw [g8]; exact hT.1, fun i q hq => ?_⟩, by rw [g8]; exact h8, by rw [g8]; exact h9, ?_, fun q a1 a2 a3 a4 a5 a6 a7 a8 a9 a10 => by rw [g2 q a8 a9 a10]; exact hf q a1 a2 a3 a4 a5 a6 a7 a8 a9 a10⟩
               · rw [g2 fs M_fs.1 M_fs.2.1 M_fs.2.2, g2 ft M_ft.1 M_ft.2.1 M_ft.2.2, g2 fa M_fa.1 M_fa.2.1 M_fa.2.2, g2 fb M_fb.1 M_fb.2.1 M_fb.2.2, g2 fr M_fr.1 M_fr.2.1 M_fr.2.2, g2 fp M_fp.1 M_fp.2.1 M_fp.2.2]
                 exact hT.2 i q hq
               · have z := NO_q97.1
                 rw [gk, g7, eK4, hT.1, List.append_assoc] at z
                 rw [if_pos (by omega)]
                 exact z)
        · refine v_aload_n C 0 dX2_fly_67 rfl ?_
          refine v_get C f 6 (FlightAt.l0 hfl) (FlightAt.e0 hfl _) rfl inX2 (by decide) rfl qw330 dX2_fly_68 ?_
          refine v_aload_n C 1 dX2_fly_71 rfl ?_
          refine v_get C k 4 (RocketAt.l0 hk) (RocketAt.e0 hk _) rfl inX6 (by decide) rfl qw380 dX2_fly_72 ?_
          refine v_aload_n C 0 dX2_fly_75 rfl ?_
          refine v_get C f 7 (FlightAt.l0 hfl) (FlightAt.e0 hfl _) rfl inX2 (by decide) rfl qw332 dX2_fly_76 ?_
          refine v_callV (st := []) (n := 2) (q := ro) C [.int (iz (mL k 4)), .int (iz (mL f 7))] (ct_Ratio_multiply C.2.2.2.2.2.2.1 mL (ro) (rb) (rp) (rr) (prA (m kf) (m wt) SF (m k 5).toNat) (mL k 4) (mL f 7) (by unfold FlightAt at hfl; unfold RatioAt; omega) (by exact hR) (by rw [hPl]; omega)) (FlightAt.l7 hfl) (FlightAt.e7 hfl _) rfl qw733 qw9 qw983 rfl rfl ⟨Nat.le_of_ble_eq_true rfl, Nat.le_of_ble_eq_true rfl⟩ (by decide +kernel) qw731 qw732 rfl rfl (Nat.le_of_ble_eq_true rfl) dX2_fly_79 (fun r m7 hq7 => ?_)
          obtain ⟨rfl, hq7⟩ := hq7
          show V E (wC D cy aa ad) 6 m7 82 [(0, .ref (aa f)), (1, .ref (aa k)), (2, .ref (aa wo)), (3, .int (iz (xs))), (4, .int (iz (xt))), (5, .int (iz (i)))] []
          have g1 : ∀ q, q ≠ ro → q ≠ rb → q ≠ rp → m7 q = mL q := hq7.2
          have g7 : m7 f = mL f := g1 f M_f.1 M_f.2.1 M_f.2.2
          have gk : m7 k = mL k := g1 k M_k.1 M_k.2.1 M_k.2.2
          refine v_aload_n C 0 dX2_fly_82 rfl ?_
          refine v_get C f 6 (FlightAt.l0 hfl) (FlightAt.e0 hfl _) rfl inX2 (by decide) rfl qw330 dX2_fly_83 ?_
          refine v_aload_n C 1 dX2_fly_86 rfl ?_
          refine v_get C k 4 (RocketAt.l0 hk) (RocketAt.e0 hk _) rfl inX6 (by decide) rfl qw380 dX2_fly_87 ?_
          refine v_iconst (z := 1) C dX2_fly_90 rfl ?_
          refine v_iadd C dX2_fly_91 ?_
          refine v_aload_n C 0 dX2_fly_92 rfl ?_
          refine v_get C f 7 (FlightAt.l0 hfl) (FlightAt.e0 hfl _) rfl inX2 (by decide) rfl qw332 dX2_fly_93 ?_
          refine v_ineg C dX2_fly_96 ?_
          refine v_callV (st := []) (n := 2) (q := ro) C [.int (iz ((m7 k 4) + 1)), .int (iz (-(m7 f 7)))] (ct_Ratio_multiply C.2.2.2.2.2.2.1 m7 (ro) (rb) (rp) (rr) (prA (m kf) (m wt) SF (m k 5).toNat ++ [(mL k 4, mL f 7)]) ((m7 k 4) + 1) (-(m7 f 7)) (by unfold FlightAt at hfl; unfold RatioAt; omega) (by exact hq7.1) (by rw [List.length_append, hPl]; show 2 * (m k 5).toNat + 1 < 8; omega)) (FlightAt.l7 hfl) (FlightAt.e7 hfl _) rfl qw733 qw9 qw983 rfl rfl ⟨Nat.le_of_ble_eq_true rfl, Nat.le_of_ble_eq_true rfl⟩ (by decide +kernel) qw731 qw732 rfl rfl (Nat.le_of_ble_eq_true rfl) dX2_fly_97 (fun r m8 hq8 => ?_)
          obtain ⟨rfl, hq8⟩ := hq8
          show V E (wC D cy aa ad) 6 m8 100 [(0, .ref (aa f)), (1, .ref (aa k)), (2, .ref (aa wo)), (3, .int (iz (xs))), (4, .int (iz (xt))), (5, .int (iz (i)))] []
          refine v_vret C X dX2_fly_100 ⟨rfl, ?_⟩
          dsimp only
          first
            | (rw [if_neg (by omega), List.append_nil]
               exact ⟨hT, h8, h9, hR, hf⟩)
            | (have g2 : ∀ q, q ≠ ro → q ≠ rb → q ≠ rp → m8 q = mL q := fun q a b c => by rw [hq8.2 q a b c, g1 q a b c]
               have g8 : m8 f = mL f := g2 f M_f.1 M_f.2.1 M_f.2.2
               refine ⟨⟨by rw [g8]; exact hT.1, fun i q hq => ?_⟩, by rw [g8]; exact h8, by rw [g8]; exact h9, ?_, fun q a1 a2 a3 a4 a5 a6 a7 a8 a9 a10 => by rw [g2 q a8 a9 a10]; exact hf q a1 a2 a3 a4 a5 a6 a7 a8 a9 a10⟩
               · rw [g2 fs M_fs.1 M_fs.2.1 M_fs.2.2, g2 ft M_ft.1 M_ft.2.1 M_ft.2.2, g2 fa M_fa.1 M_fa.2.1 M_fa.2.2, g2 fb M_fb.1 M_fb.2.1 M_fb.2.2, g2 fr M_fr.1 M_fr.2.1 M_fr.2.2, g2 fp M_fp.1 M_fp.2.1 M_fp.2.2]
                 exact hT.2 i q hq
               · have z := hq8.1
                 rw [gk, g7, eK4, hT.1, List.append_assoc] at z
                 rw [if_pos (by omega)]
                 exact z)
      · refine v_aload_n C 0 dX2_fly_34 rfl ?_
        refine v_aload_n C 1 dX2_fly_35 rfl ?_
        refine v_aload_n C 2 dX2_fly_36 rfl ?_
        refine v_iload C 5 dX2_fly_37 rfl ?_
        have K51 : ∀ (xa : Int) (hxa : xa = if i = xs then xt else 0), V E (wC D cy aa ad) 6 mL 51 [(0, .ref (aa f)), (1, .ref (aa k)), (2, .ref (aa wo)), (3, .int (iz (xs))), (4, .int (iz (xt))), (5, .int (iz (i)))] [.int (iz (xa)), .int (iz (i)), .ref (aa wo), .ref (aa k), .ref (aa f)] := by
          intro xa  hxa
          refine v_callV (st := []) (n := 4) (q := f) C [.ref (aa k), .ref (aa wo), .int (iz (i)), .int (iz (xa))] (ct_Flight_burn C.2.2.2.2.2.2.1 mL (f) (fs) (ft) (fa) (fb) (fr) (fp) (ro) (rb) (rp) (rr) (wo) (wu) (wt) (we) (k) (kf) (ks) (kt) (kc) (i) (xa) (tkA SF i.toNat) (prA (m kf) (m wt) SF i.toNat) hfl hw hk (by exact hrk.fr eK eKf eKs eKt eKc) (by rw [eK5]; omega) (by rw [eWu]; exact (hU i (by omega) (by omega)).1) (by rw [eWu, eWt]; exact (hU i (by omega) (by omega)).2) (by exact hT) (by omega) (by exact hR) (by rw [hPl]; omega) (by rw [hxa]; split <;> omega)) (FlightAt.l0 hfl) (FlightAt.e0 hfl _) rfl qw971 qw14 qw968 rfl rfl ⟨Nat.le_of_ble_eq_true rfl, Nat.le_of_ble_eq_true rfl⟩ (by decide +kernel) qw970 qp29 rfl rfl (Nat.le_of_ble_eq_true rfl) dX2_fly_51 (fun r m9 hq9 => ?_)
          obtain ⟨rfl, hq9⟩ := hq9
          show V E (wC D cy aa ad) 6 m9 54 [(0, .ref (aa f)), (1, .ref (aa k)), (2, .ref (aa wo)), (3, .int (iz (xs))), (4, .int (iz (xt))), (5, .int (iz (i)))] []
          refine v_iinc (L1 := [(5, .int (iz (i + 1))), (0, .ref (aa f)), (1, .ref (aa k)), (2, .ref (aa wo)), (3, .int (iz (xs))), (4, .int (iz (xt)))]) C 5 dX2_fly_54 rfl (by decide) rfl ?_
          refine v_goto (tgt := 25) C dX2_fly_57 (by decide) ?_
          have zq := hq9.1 _ rfl
          have zf := hq9.2
          rw [eK, eKf, eKs, eKt, eKc, eWu, eWt] at zq
          have eSF : SF i = buF i (flZ (m kf) (m ks) (m kt) (m kc) (m k 6).toNat i xa) (m kf (i * 9 + 6)) (m kf (i * 9 + 5)) 18 1 (m wu i) (m kf (i * 9 + 4)) (m wt i) := by rw [hSF, hxa]; rfl
          rw [← eSF] at zq
          have e1 : (i + 1).toNat = i.toNat + 1 := by omega
          refine v_sub [1, 2, 3, 4, 5, 0] rfl ?_
          exact ih25 (i + 1) m9 (by first | assumption | omega) (by rw [e1]; show TkL _ f fs ft fa fb fr fp (tkA SF i.toNat ++ (SF ((i.toNat : Nat) : Int)).1); rw [eN]; exact zq.1) (by rw [e1]; show _ = drA SF i.toNat + (SF ((i.toNat : Nat) : Int)).2.1; rw [eN, zq.2.1, h8]) (by rw [e1]; show _ = spA (m kf) SF i.toNat + (m kf (((i.toNat : Nat) : Int) * 9 + 4) - (SF ((i.toNat : Nat) : Int)).2.2.1); rw [eN, zq.2.2.1, h9]) (by rw [e1]; show RatL _ ro rb rp (prA (m kf) (m wt) SF i.toNat ++ [(m wt ((i.toNat : Nat) : Int), m kf (((i.toNat : Nat) : Int) * 9 + 0)), ((SF ((i.toNat : Nat) : Int)).2.2.2, -m kf (((i.toNat : Nat) : Int) * 9 + 0))]); rw [eN]; exact zq.2.2.2) (by intro q a1 a2 a3 a4 a5 a6 a7 a8 a9 a10; rw [zf q a1 a2 a3 a4 a5 a6 a7 a8 a9 a10]; exact hf q a1 a2 a3 a4 a5 a6 a7 a8 a9 a10) (by omega)
        refine v_iload C 5 dX2_fly_39 rfl ?_
        refine v_iload_n C 3 dX2_fly_41 rfl ?_
        refine v_icmp_ne (tgt := 50) C dX2_fly_42 (by decide) (by omega) (by omega) (fun c10 => ?_) (fun c10 => ?_)
        · refine v_iconst (z := 0) C dX2_fly_50 rfl ?_
          refine v_sub [0, 1, 2, 3, 4, 5] rfl ?_
          exact K51  (0)  (by first | rw [if_pos (by assumption)] | rw [if_neg (by assumption)])
        · refine v_iload C 4 dX2_fly_45 rfl ?_
          refine v_goto (tgt := 51) C dX2_fly_47 (by decide) ?_
          refine v_sub [0, 1, 2, 3, 4, 5] rfl ?_
          exact K51  (xt)  (by first | rw [if_pos (by assumption)] | rw [if_neg (by assumption)])
  refine v_sub [1, 2, 3, 4, 5, 0] rfl ?_
  exact K25 _ (0) m4 (by first | assumption | omega) (by 
        refine ⟨?_, fun i q hq => by cases hq⟩
        rw [← hq4, mup_k _ _ _ M_f.1, em3, mup_j _ _ (by omega), em2, mup_j _ _ (by omega), em1, mup_s]; rfl
      ) (by rw [← hq4, mup_k _ _ _ M_f.1, em3, mup_j _ _ (by omega), em2, mup_s]; rfl) (by rw [← hq4, mup_k _ _ _ M_f.1, em3, mup_s]; rfl) (by exact ⟨by rw [← hq4, mup_s]; rfl, fun i q hq => by cases hq⟩) (by intro q a1 _ _ _ _ _ _ a8 _ _; rw [← hq4, mup_k _ _ _ a8, em3, mup_k _ _ _ a1, em2, mup_k _ _ _ a1, em1, mup_k _ _ _ a1]) (Nat.lt_succ_self _)
