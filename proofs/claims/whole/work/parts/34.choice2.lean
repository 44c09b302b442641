/-- a cell tells what the division weighs and reaches -/
def Ce1 (g fa : Int → Int) (n up lw P c : Int) : Prop := (woM fa n (unZ c) ∧ hoA fa n P (unZ c) ∧ ∃ z, (0 ≤ z ∧ z ≤ 40) ∧ paA fa n up lw P (unZ c) z ∧ g c = stZ fa n P (unZ c) 0 * 64 + z) ∨ (¬ (woM fa n (unZ c) ∧ hoA fa n P (unZ c)) ∧ g c = -1)
def CeOk (g fa : Int → Int) (n up lw P : Int) : Prop := ∀ c : Int, 0 ≤ c → c < 4913 → Ce1 g fa n up lw P c
theorem dv_cg {fa : Int → Int} {n P : Int} {U W : Int → Int} (hn : n ≤ 3) (h : ∀ j : Int, 0 ≤ j → j < 3 → U j = W j) : (woM fa n U ↔ woM fa n W) ∧ (hoA fa n P U ↔ hoA fa n P W) ∧ stZ fa n P U 0 = stZ fa n P W 0 ∧ spT fa n P U = spT fa n P W := by
  have e : ∀ s : Int, 0 ≤ s → stZ fa n P U s = stZ fa n P W s := fun s h0 => stZ_cg fun j h1 h2 => by rw [h j (by omega) (by omega)]; exact ⟨rfl, rfl⟩
  refine ⟨⟨fun a s h0 h1 => ?_, fun a s h0 h1 => ?_⟩, ⟨fun a j h0 h1 => ?_, fun a j h0 h1 => ?_⟩, e 0 (by omega), spT_cg (fun s h0 h1 => by rw [h s h0 (by omega)]; exact ⟨rfl, rfl⟩) (fun s h0 h1 => h s h0 (by omega))⟩
  · rw [← h s h0 h1]; exact a s h0 h1
  · rw [h s h0 h1]; exact a s h0 h1
  · rw [← e j h0]; exact a j h0 h1
  · rw [e j h0]; exact a j h0 h1
theorem un_dv {n P c : Int} (hn : 1 ≤ n ∧ n ≤ 3) (hP : 1 ≤ P ∧ P ≤ 40) (h0 : 0 ≤ c) (h1 : c < 4913) : DvOk n P (unZ c) := ⟨hn, hP, fun j _ _ => unZ_rng h0 h1⟩
theorem CeOk.rng {g fa : Int → Int} {n up lw P : Int} (h : CeOk g fa n up lw P) (hF : FaOk fa n) (hn : 1 ≤ n ∧ n ≤ 3) (hP : 1 ≤ P ∧ P ≤ 40) : ∀ c : Int, 0 ≤ c → c < 4913 → -1 ≤ g c ∧ g c ≤ 30000 := by
  intro c h0 h1
  rcases h c h0 h1 with ⟨-, -, z, a, -, b⟩ | ⟨-, b⟩
  · have d := un_dv hn hP h0 h1
    have s := stZ_rng (s := 0) hF hn.2 hP d.2.2 (by omega) (by omega)
    omega
  · omega
def okL (fa : Int → Int) (n up lw k : Int) (lo hi : Int → Int) (v c : Int) : Prop := (woM fa n (unZ c) ∧ inB lo hi c) ∧ hoA fa n v (unZ c) ∧ reA fa n up lw v (unZ c) k.toNat
theorem okL.dn {fa : Int → Int} {n up lw k : Int} {lo hi : Int → Int} {c a b : Int} (hF : FaOk fa n) (hn : 1 ≤ n ∧ n ≤ 3) (hU : 1 ≤ up) (hL : 1 ≤ lw) (h0 : 0 ≤ c) (h1 : c < 4913) (ha : 1 ≤ a) (hab : a ≤ b) (hb : b ≤ 40) (h : okL fa n up lw k lo hi b c) : okL fa n up lw k lo hi a c := by
  refine up_load (Q := fun v => okL fa n up lw k lo hi v c) (fun P p0 p1 q => ⟨q.1, ?_, ?_⟩) ha hab hb h
  · exact hoA_dn hF (un_dv hn (by omega) h0 h1) q.2.1
  · exact reA_dn hF (un_dv hn (by omega) h0 h1) (un_dv hn (by omega) h0 h1) hU hL q.2.2
/-- the most that can be lifted -/
def liP (q : Int → Int → Prop) (z : Int) : Prop := (z = -2 ∧ ∀ v c : Int, 1 ≤ v → v ≤ 40 → 0 ≤ c → c < 4913 → ¬ q v c) ∨ ((1 ≤ z ∧ z ≤ 40) ∧ (∃ c : Int, 0 ≤ c ∧ c < 4913 ∧ q z c) ∧ ∀ v c : Int, z < v → v ≤ 40 → 0 ≤ c → c < 4913 → ¬ q v c)
theorem liP.eq {q : Int → Int → Prop} {z y : Int} (h : liP q z) (h2 : liP q y) : z = y := by
  rcases h with ⟨a, b⟩ | ⟨a, ⟨c, c0, c1, c2⟩, d⟩ <;> rcases h2 with ⟨a2, b2⟩ | ⟨a2, ⟨e, e0, e1, e2⟩, d2⟩
  · omega
  · exact absurd e2 (b y e a2.1 a2.2 e0 e1)
  · exact absurd c2 (b2 z c a.1 a.2 c0 c1)
  · apply Classical.byContradiction; intro ne
    by_cases k : z < y
    · exact d y e k a2.2 e0 e1 e2
    · exact d2 z c (by omega) a.2 c0 c1 c2
set_option maxHeartbeats 4000000 in
set_option maxRecDepth 100000 in
theorem ct_Choice_highestPower {lau : Launch} {D : va_G} {cy : Nat → ClassId} {aa ad : Nat → Nat} (hI : wI (wC D cy aa ad)) (m : Mem)  (hlh : ∀ j : Int, 0 ≤ j → j < 3 → (0 ≤ m 10 j ∧ m 10 j ≤ 16) ∧ (0 ≤ m 11 j ∧ m 11 j ≤ 16)) (hce : ∀ c : Int, 0 ≤ c → c < 4913 → -1 ≤ m 9 c ∧ m 9 c ≤ 30000) : MT lau (wC D cy aa ad) yX1_highestPower cX1_highestPower 3 (some .int) ({ frames := 3, cells := 0, slots := 0, locals := 65 } : Room) m [.ref (aa 8)] (Pi (fun z m' => (mxP (fun c => 0 ≤ m 9 c ∧ inB (m 10) (m 11) c) (fun c => m 9 c % 64) 4913 z) ∧ m = m')) := by
  refine v_entry hI RX1 (by decide) rfl (Nat.le_of_ble_eq_true rfl) (fun E hE C X => ?_)
  subst hE
  show V E (wC D cy aa ad) 3 m 0 [(0, .ref (aa 8))] []
  refine v_bipush (z := -2) C dX1_highestPower_0 (by decide) ?_
  refine v_istore_n (L1 := [(1, .int (iz (-2))), (0, .ref (aa 8))]) C dX1_highestPower_2 (by decide) rfl ?_
  refine v_iconst (z := 0) C dX1_highestPower_3 rfl ?_
  refine v_istore_n (L1 := [(2, .int (iz (0))), (1, .int (iz (-2))), (0, .ref (aa 8))]) C dX1_highestPower_4 (by decide) rfl ?_
  have K5 : ∀ (nK : Nat) (fo : Int) (c : Int) (hc : 0 ≤ c ∧ c ≤ 4913) (hb : mxP (fun c => 0 ≤ m 9 c ∧ inB (m 10) (m 11) c) (fun c => m 9 c % 64) c fo), (4913 - c).toNat < nK → V E (wC D cy aa ad) 3 m 5 [(0, .ref (aa 8)), (1, .int (iz (fo))), (2, .int (iz (c)))] [] := by
    intro nK
    induction nK with
    | zero => intro fo c  hc hb hn; exact absurd hn (Nat.not_lt_zero _)
    | succ nK ih5 =>
      intro fo c  hc hb hn5
      have hsg := hb.sgn (fun d h0 h1 => by have := hce d h0 (by omega); show 0 ≤ m 9 d % 64 ∧ m 9 d % 64 ≤ 1000; omega)
      refine v_iload_n C 2 dX1_highestPower_5 rfl ?_
      refine v_aload_n C 0 dX1_highestPower_6 rfl ?_
      refine v_get C 8 0 lC8 (eC8 _) rfl inX1 (by decide) rfl qw251 dX1_highestPower_7 ?_
      refine v_alen C 9 0 lC9 (eC9 _) rfl dX1_highestPower_10 ?_
      refine v_st (st1 := [.int (iz (4913)), .int (iz (c))]) rfl ?_
      refine v_icmp_ge (tgt := 38) C dX1_highestPower_11 (by decide) (by omega) (by omega) (fun c1 => ?_) (fun c1 => ?_)
      · refine v_iload_n C 1 dX1_highestPower_38 rfl ?_
        refine v_iret C X rfl dX1_highestPower_39 ⟨_, rfl, ?_, ?_⟩
        · rw [show c = 4913 by omega] at hb; exact hb
        · rfl
      · have K32 : ∀ (f2 : Int) (hb2 : mxP (fun c => 0 ≤ m 9 c ∧ inB (m 10) (m 11) c) (fun c => m 9 c % 64) (c + 1) f2), V E (wC D cy aa ad) 3 m 32 [(0, .ref (aa 8)), (1, .int (iz (f2))), (2, .int (iz (c)))] [] := by
          intro f2  hb2
          refine v_iinc (L1 := [(2, .int (iz (c + 1))), (0, .ref (aa 8)), (1, .int (iz (f2)))]) C 2 dX1_highestPower_32 rfl (by decide) rfl ?_
          refine v_goto (tgt := 5) C dX1_highestPower_35 (by decide) ?_
          refine v_sub [1, 2, 0] rfl ?_
          exact ih5 (f2) (c + 1)  (by first | assumption | omega) (by exact hb2) (by omega)
        have hcc := hce c (by omega) (by omega)
        refine v_aload_n C 0 dX1_highestPower_14 rfl ?_
        refine v_iload_n C 2 dX1_highestPower_15 rfl ?_
        refine v_callV (st := []) (n := 1) (q := 8) C [.int (iz (c))] (ct_Choice_counts C.2.2.2.2.2.2.1 m (c) (by first | assumption | omega) (by exact hlh) (by exact hce)) lC8 (eC8 _) rfl qw852 qw12 qw849 rfl rfl ⟨Nat.le_of_ble_eq_true rfl, Nat.le_of_ble_eq_true rfl⟩ (by decide +kernel) qw850 qw851 rfl rfl (Nat.le_of_ble_eq_true rfl) dX1_highestPower_16 (fun r m2 hq2 => ?_)
        obtain ⟨z2, rfl, ⟨rfl, hq2, rfl⟩ | ⟨rfl, hq2, rfl⟩⟩ := hq2
        · show V E (wC D cy aa ad) 3 m 19 [(0, .ref (aa 8)), (1, .int (iz (fo))), (2, .int (iz (c)))] [.int (iz (1))]
          refine v_if_eq (tgt := 32) C dX1_highestPower_19 (by decide) (by omega) (fun c3 => by exact absurd c3 (by decide)) (fun c3 => ?_)
          refine v_iload_n C 1 dX1_highestPower_22 rfl ?_
          refine v_aload_n C 0 dX1_highestPower_23 rfl ?_
          refine v_iload_n C 2 dX1_highestPower_24 rfl ?_
          refine v_callV (st := [.int (iz (fo))]) (n := 1) (q := 8) C [.int (iz (c))] (ct_Choice_powerOf C.2.2.2.2.2.2.1 m (c) (by first | assumption | omega) (by first | assumption | omega)) lC8 (eC8 _) rfl qw861 qw12 qw858 rfl rfl ⟨Nat.le_of_ble_eq_true rfl, Nat.le_of_ble_eq_true rfl⟩ (by decide +kernel) qw859 qw860 rfl rfl (Nat.le_of_ble_eq_true rfl) dX1_highestPower_25 (fun r m4 hq4 => ?_)
          obtain ⟨z4, rfl, rfl, rfl⟩ := hq4
          show V E (wC D cy aa ad) 3 m 28 [(0, .ref (aa 8)), (1, .int (iz (fo))), (2, .int (iz (c)))] [.int (iz (m 9 c % 64)), .int (iz (fo))]
          refine v_mmax (st := []) C qw882 qw17 qw880 qw881 ⟨Nat.le_of_ble_eq_true rfl, Nat.le_of_ble_eq_true rfl⟩ (by omega) (by omega) (by decide) dX1_highestPower_28 ?_
          refine v_istore_n (L1 := [(1, .int (iz (if fo < m 9 c % 64 then m 9 c % 64 else fo))), (0, .ref (aa 8)), (2, .int (iz (c)))]) C dX1_highestPower_31 (by decide) rfl ?_
          refine v_sub [1, 0, 2] rfl ?_
          exact K32  (if fo < m 9 c % 64 then m 9 c % 64 else fo)  (by 
                        first
                          | exact hb.skip hq2
                          | (split
                             · rcases hsg with y | y
                               · subst y; exact hb.first (by omega) hq2 (fun d => by show 0 ≤ m 9 d % 64; omega)
                               · exact hb.new (by omega) hq2 (Or.inr (by show fo ≤ m 9 c % 64; omega))
                             · rcases hsg with y | y
                               · omega
                               · exact hb.keep (by omega) (by show m 9 c % 64 ≤ fo; omega))
                      )
        · show V E (wC D cy aa ad) 3 m 19 [(0, .ref (aa 8)), (1, .int (iz (fo))), (2, .int (iz (c)))] [.int (iz (0))]
          refine v_if_eq (tgt := 32) C dX1_highestPower_19 (by decide) (by omega) (fun c5 => ?_) (fun c5 => by exact absurd c5 (by decide))
          refine v_sub [0, 1, 2] rfl ?_
          exact K32  (fo)  (by 
                        first
                          | exact hb.skip hq2
                          | (split
                             · rcases hsg with y | y
                               · subst y; exact hb.first (by omega) hq2 (fun d => by show 0 ≤ m 9 d % 64; omega)
                               · exact hb.new (by omega) hq2 (Or.inr (by show fo ≤ m 9 c % 64; omega))
                             · rcases hsg with y | y
                               · omega
                               · exact hb.keep (by omega) (by show m 9 c % 64 ≤ fo; omega))
                      )
  refine v_sub [2, 1, 0] rfl ?_
  exact K5 _ (-2) (0)  (by first | assumption | omega) (by exact Or.inl ⟨rfl, fun c h0 h1 => by omega⟩) (Nat.lt_succ_self _)

set_option maxHeartbeats 4000000 in
set_option maxRecDepth 100000 in
theorem ct_Choice_count {lau : Launch} {D : va_G} {cy : Nat → ClassId} {aa ad : Nat → Nat} (hI : wI (wC D cy aa ad)) (m : Mem) (k : Int) (hk : -2147483648 ≤ k ∧ k ≤ 2147483647) (hlh : ∀ j : Int, 0 ≤ j → j < 3 → (0 ≤ m 10 j ∧ m 10 j ≤ 16) ∧ (0 ≤ m 11 j ∧ m 11 j ≤ 16)) (hce : ∀ c : Int, 0 ≤ c → c < 4913 → -1 ≤ m 9 c ∧ m 9 c ≤ 30000) : MT lau (wC D cy aa ad) yX1_count cX1_count 4 (some .int) ({ frames := 3, cells := 0, slots := 0, locals := 65 } : Room) m [.ref (aa 8), .int (iz (k))] (Pi (fun z m' => cnP (caB (m 9) (m 10) (m 11) k) 4913 = z ∧ m = m')) := by
  refine v_entry hI RX1 (by decide) rfl (Nat.le_of_ble_eq_true rfl) (fun E hE C X => ?_)
  subst hE
  show V E (wC D cy aa ad) 4 m 0 [(0, .ref (aa 8)), (1, .int (iz (k)))] []
  refine v_iconst (z := 0) C dX1_count_0 rfl ?_
  refine v_istore_n (L1 := [(2, .int (iz (0))), (0, .ref (aa 8)), (1, .int (iz (k)))]) C dX1_count_1 (by decide) rfl ?_
  refine v_iconst (z := 0) C dX1_count_2 rfl ?_
  refine v_istore_n (L1 := [(3, .int (iz (0))), (2, .int (iz (0))), (0, .ref (aa 8)), (1, .int (iz (k)))]) C dX1_count_3 (by decide) rfl ?_
  have K4 : ∀ (nK : Nat) (fo : Int) (c : Int) (hc : 0 ≤ c ∧ c ≤ 4913) (hb : fo = cnP (caB (m 9) (m 10) (m 11) k) c.toNat), (4913 - c).toNat < nK → V E (wC D cy aa ad) 4 m 4 [(0, .ref (aa 8)), (1, .int (iz (k))), (2, .int (iz (fo))), (3, .int (iz (c)))] [] := by
    intro nK
    induction nK with
    | zero => intro fo c  hc hb hn; exact absurd hn (Nat.not_lt_zero _)
    | succ nK ih4 =>
      intro fo c  hc hb hn4
      have e1 : (c + 1).toNat = c.toNat + 1 := by omega
      have e2 : ((c.toNat : Nat) : Int) = c := by omega
      refine v_iload_n C 3 dX1_count_4 rfl ?_
      refine v_aload_n C 0 dX1_count_5 rfl ?_
      refine v_get C 8 0 lC8 (eC8 _) rfl inX1 (by decide) rfl qw251 dX1_count_6 ?_
      refine v_alen C 9 0 lC9 (eC9 _) rfl dX1_count_9 ?_
      refine v_st (st1 := [.int (iz (4913)), .int (iz (c))]) rfl ?_
      refine v_icmp_ge (tgt := 39) C dX1_count_10 (by decide) (by omega) (by omega) (fun c1 => ?_) (fun c1 => ?_)
      · refine v_iload_n C 2 dX1_count_39 rfl ?_
        refine v_iret C X rfl dX1_count_40 ⟨_, rfl, ?_, ?_⟩
        · rw [show c.toNat = 4913 by omega] at hb; exact hb.symm
        · rfl
      · have K33 : ∀ (f2 : Int) (hb2 : f2 = cnP (caB (m 9) (m 10) (m 11) k) (c + 1).toNat), V E (wC D cy aa ad) 4 m 33 [(0, .ref (aa 8)), (1, .int (iz (k))), (2, .int (iz (f2))), (3, .int (iz (c)))] [] := by
          intro f2  hb2
          refine v_iinc (L1 := [(3, .int (iz (c + 1))), (0, .ref (aa 8)), (1, .int (iz (k))), (2, .int (iz (f2)))]) C 3 dX1_count_33 rfl (by decide) rfl ?_
          refine v_goto (tgt := 4) C dX1_count_36 (by decide) ?_
          refine v_sub [1, 2, 3, 0] rfl ?_
          exact ih4 (f2) (c + 1)  (by first | assumption | omega) (by exact hb2) (by omega)
        have hcc := hce c (by omega) (by omega)
        refine v_aload_n C 0 dX1_count_13 rfl ?_
        refine v_iload_n C 3 dX1_count_14 rfl ?_
        refine v_callV (st := []) (n := 1) (q := 8) C [.int (iz (c))] (ct_Choice_counts C.2.2.2.2.2.2.1 m (c) (by first | assumption | omega) (by exact hlh) (by exact hce)) lC8 (eC8 _) rfl qw852 qw12 qw849 rfl rfl ⟨Nat.le_of_ble_eq_true rfl, Nat.le_of_ble_eq_true rfl⟩ (by decide +kernel) qw850 qw851 rfl rfl (Nat.le_of_ble_eq_true rfl) dX1_count_15 (fun r m2 hq2 => ?_)
        obtain ⟨z2, rfl, ⟨rfl, hq2, rfl⟩ | ⟨rfl, hq2, rfl⟩⟩ := hq2
        · show V E (wC D cy aa ad) 4 m 18 [(0, .ref (aa 8)), (1, .int (iz (k))), (2, .int (iz (fo))), (3, .int (iz (c)))] [.int (iz (1))]
          refine v_if_eq (tgt := 33) C dX1_count_18 (by decide) (by omega) (fun c3 => by exact absurd c3 (by decide)) (fun c3 => ?_)
          refine v_aload_n C 0 dX1_count_21 rfl ?_
          refine v_iload_n C 3 dX1_count_22 rfl ?_
          refine v_callV (st := []) (n := 1) (q := 8) C [.int (iz (c))] (ct_Choice_powerOf C.2.2.2.2.2.2.1 m (c) (by first | assumption | omega) (by first | assumption | omega)) lC8 (eC8 _) rfl qw861 qw12 qw858 rfl rfl ⟨Nat.le_of_ble_eq_true rfl, Nat.le_of_ble_eq_true rfl⟩ (by decide +kernel) qw859 qw860 rfl rfl (Nat.le_of_ble_eq_true rfl) dX1_count_23 (fun r m4 hq4 => ?_)
          obtain ⟨z4, rfl, rfl, rfl⟩ := hq4
          show V E (wC D cy aa ad) 4 m 26 [(0, .ref (aa 8)), (1, .int (iz (k))), (2, .int (iz (fo))), (3, .int (iz (c)))] [.int (iz (m 9 c % 64))]
          refine v_iload_n C 1 dX1_count_26 rfl ?_
          refine v_icmp_lt (tgt := 33) C dX1_count_27 (by decide) (by omega) (by omega) (fun c5 => ?_) (fun c5 => ?_)
          · refine v_sub [0, 1, 2, 3] rfl ?_
            exact K33  (fo)  (by 
                            rw [e1]
                            first
                              | (rw [cnP_n (by rw [e2]; exact fun z => hq2 ⟨z.1, z.2.1⟩)]; exact hb)
                              | (rw [cnP_n (by rw [e2]; exact fun z => by have := z.2.2; omega)]; exact hb)
                              | (rw [cnP_y (by rw [e2]; exact ⟨hq2.1, hq2.2, by omega⟩), hb])
                          )
          · refine v_iinc (L1 := [(2, .int (iz (fo + 1))), (0, .ref (aa 8)), (1, .int (iz (k))), (3, .int (iz (c)))]) C 2 dX1_count_30 rfl (by decide) rfl ?_
            refine v_sub [1, 2, 0, 3] rfl ?_
            exact K33  (fo + 1)  (by 
                            rw [e1]
                            first
                              | (rw [cnP_n (by rw [e2]; exact fun z => hq2 ⟨z.1, z.2.1⟩)]; exact hb)
                              | (rw [cnP_n (by rw [e2]; exact fun z => by have := z.2.2; omega)]; exact hb)
                              | (rw [cnP_y (by rw [e2]; exact ⟨hq2.1, hq2.2, by omega⟩), hb])
                          )
        · show V E (wC D cy aa ad) 4 m 18 [(0, .ref (aa 8)), (1, .int (iz (k))), (2, .int (iz (fo))), (3, .int (iz (c)))] [.int (iz (0))]
          refine v_if_eq (tgt := 33) C dX1_count_18 (by decide) (by omega) (fun c6 => ?_) (fun c6 => by exact absurd c6 (by decide))
          refine v_sub [0, 1, 2, 3] rfl ?_
          exact K33  (fo)  (by 
                        rw [e1]
                        first
                          | (rw [cnP_n (by rw [e2]; exact fun z => hq2 ⟨z.1, z.2.1⟩)]; exact hb)
                          | (rw [cnP_n (by rw [e2]; exact fun z => by have := z.2.2; omega)]; exact hb)
                          | (rw [cnP_y (by rw [e2]; exact ⟨hq2.1, hq2.2, by omega⟩), hb])
                      )
  refine v_sub [2, 3, 1, 0] rfl ?_
  exact K4 _ (0) (0)  (by first | assumption | omega) (by rfl) (Nat.lt_succ_self _)

set_option maxHeartbeats 4000000 in
set_option maxRecDepth 100000 in
theorem ct_Choice_extreme {lau : Launch} {D : va_G} {cy : Nat → ClassId} {aa ad : Nat → Nat} (hI : wI (wC D cy aa ad)) (m : Mem) (k s up : Int) (hk : -2147483648 ≤ k ∧ k ≤ 2147483647) (hs : 0 ≤ s ∧ s ≤ 2) (hup : up = 0 ∨ up = 1) (hlh : ∀ j : Int, 0 ≤ j → j < 3 → (0 ≤ m 10 j ∧ m 10 j ≤ 16) ∧ (0 ≤ m 11 j ∧ m 11 j ≤ 16)) (hce : ∀ c : Int, 0 ≤ c → c < 4913 → -1 ≤ m 9 c ∧ m 9 c ≤ 30000) : MT lau (wC D cy aa ad) yX1_extreme cX1_extreme 7 (some .int) ({ frames := 3, cells := 0, slots := 0, locals := 65 } : Room) m [.ref (aa 8), .int (iz (k)), .int (iz (s)), .int (iz (up))] (Pi (fun z m' => ((up = 1 → mxP (caB (m 9) (m 10) (m 11) k) (fun c => unZ c s) 4913 z) ∧ (up = 0 → mnP (caB (m 9) (m 10) (m 11) k) (fun c => unZ c s) 4913 z)) ∧ m = m')) := by
  refine v_entry hI RX1 (by decide) rfl (Nat.le_of_ble_eq_true rfl) (fun E hE C X => ?_)
  subst hE
  show V E (wC D cy aa ad) 7 m 0 [(0, .ref (aa 8)), (1, .int (iz (k))), (2, .int (iz (s))), (3, .int (iz (up)))] []
  refine v_bipush (z := -2) C dX1_extreme_0 (by decide) ?_
  refine v_istore (L1 := [(4, .int (iz (-2))), (0, .ref (aa 8)), (1, .int (iz (k))), (2, .int (iz (s))), (3, .int (iz (up)))]) C dX1_extreme_2 (by decide) rfl ?_
  refine v_iconst (z := 0) C dX1_extreme_4 rfl ?_
  refine v_istore (L1 := [(5, .int (iz (0))), (4, .int (iz (-2))), (0, .ref (aa 8)), (1, .int (iz (k))), (2, .int (iz (s))), (3, .int (iz (up)))]) C dX1_extreme_5 (by decide) rfl ?_
  have K7 : ∀ (nK : Nat) (fo : Int) (c : Int) (hc : 0 ≤ c ∧ c ≤ 4913) (hb : (up = 1 → mxP (caB (m 9) (m 10) (m 11) k) (fun c => unZ c s) c fo) ∧ (up = 0 → mnP (caB (m 9) (m 10) (m 11) k) (fun c => unZ c s) c fo)), (4913 - c).toNat < nK → V E (wC D cy aa ad) 7 m 7 [(0, .ref (aa 8)), (1, .int (iz (k))), (2, .int (iz (s))), (3, .int (iz (up))), (4, .int (iz (fo))), (5, .int (iz (c)))] [] := by
    intro nK
    induction nK with
    | zero => intro fo c  hc hb hn; exact absurd hn (Nat.not_lt_zero _)
    | succ nK ih7 =>
      intro fo c  hc hb hn7
      have hvr : ∀ d : Int, 0 ≤ d → d < c → 0 ≤ (fun c => unZ c s) d ∧ (fun c => unZ c s) d ≤ 1000 := fun d h0 h1 => by have := unZ_rng (s := s) h0 (show d < 4913 by omega); show 0 ≤ unZ d s ∧ unZ d s ≤ 1000; omega
      have hsg : fo = -2 ∨ (0 ≤ fo ∧ fo ≤ 1000) := by
        rcases hup with y | y
        · exact (hb.2 y).sgn hvr
        · exact (hb.1 y).sgn hvr
      refine v_iload C 5 dX1_extreme_7 rfl ?_
      refine v_aload_n C 0 dX1_extreme_9 rfl ?_
      refine v_get C 8 0 lC8 (eC8 _) rfl inX1 (by decide) rfl qw251 dX1_extreme_10 ?_
      refine v_alen C 9 0 lC9 (eC9 _) rfl dX1_extreme_13 ?_
      refine v_st (st1 := [.int (iz (4913)), .int (iz (c))]) rfl ?_
      refine v_icmp_ge (tgt := 80) C dX1_extreme_14 (by decide) (by omega) (by omega) (fun c1 => ?_) (fun c1 => ?_)
      · refine v_iload C 4 dX1_extreme_80 rfl ?_
        refine v_iret C X rfl dX1_extreme_82 ⟨_, rfl, ?_, ?_⟩
        · rw [show c = 4913 by omega] at hb; exact hb
        · rfl
      · have K74 : ∀ (f2 : Int) (hb2 : (up = 1 → mxP (caB (m 9) (m 10) (m 11) k) (fun c => unZ c s) (c + 1) f2) ∧ (up = 0 → mnP (caB (m 9) (m 10) (m 11) k) (fun c => unZ c s) (c + 1) f2)), V E (wC D cy aa ad) 7 m 74 [(0, .ref (aa 8)), (1, .int (iz (k))), (2, .int (iz (s))), (3, .int (iz (up))), (4, .int (iz (f2))), (5, .int (iz (c)))] [] := by
          intro f2  hb2
          refine v_iinc (L1 := [(5, .int (iz (c + 1))), (0, .ref (aa 8)), (1, .int (iz (k))), (2, .int (iz (s))), (3, .int (iz (up))), (4, .int (iz (f2)))]) C 5 dX1_extreme_74 rfl (by decide) rfl ?_
          refine v_goto (tgt := 7) C dX1_extreme_77 (by decide) ?_
          refine v_sub [1, 2, 3, 4, 5, 0] rfl ?_
          exact ih7 (f2) (c + 1)  (by first | assumption | omega) (by exact hb2) (by omega)
        have hcc := hce c (by omega) (by omega)
        have hus := unZ_rng (s := s) (show 0 ≤ c by omega) (show c < 4913 by omega)
        have mxF : mxP (caB (m 9) (m 10) (m 11) k) (fun c => unZ c s) c (-2) → 0 ≤ c → (caB (m 9) (m 10) (m 11) k) c → mxP (caB (m 9) (m 10) (m 11) k) (fun c => unZ c s) (c + 1) (unZ c s) := by
          intro h h0 hp
          rcases h with ⟨-, b⟩ | ⟨c0, a, b, d, e0, f⟩
          · exact mxP.new (Or.inl ⟨rfl, b⟩) h0 hp (Or.inl ⟨rfl, fun c h1 h2 h3 => absurd h3 (b c h1 h2)⟩)
          · have := unZ_rng (s := s) a (show c0 < 4913 by omega); have e1 : unZ c0 s = -2 := e0; omega
        have mnF : mnP (caB (m 9) (m 10) (m 11) k) (fun c => unZ c s) c (-2) → 0 ≤ c → (caB (m 9) (m 10) (m 11) k) c → mnP (caB (m 9) (m 10) (m 11) k) (fun c => unZ c s) (c + 1) (unZ c s) := by
          intro h h0 hp
          rcases h with ⟨-, b⟩ | ⟨c0, a, b, d, e0, f⟩
          · refine Or.inr ⟨c, h0, by omega, hp, rfl, fun d h1 h2 h3 => ?_⟩
            by_cases e : d = c
            · rw [e]; exact Int.le_refl _
            · exact absurd h3 (b d h1 (by omega))
          · have := unZ_rng (s := s) a (show c0 < 4913 by omega); have e1 : unZ c0 s = -2 := e0; omega
        refine v_aload_n C 0 dX1_extreme_17 rfl ?_
        refine v_iload C 5 dX1_extreme_18 rfl ?_
        refine v_callV (st := []) (n := 1) (q := 8) C [.int (iz (c))] (ct_Choice_counts C.2.2.2.2.2.2.1 m (c) (by first | assumption | omega) (by exact hlh) (by exact hce)) lC8 (eC8 _) rfl qw852 qw12 qw849 rfl rfl ⟨Nat.le_of_ble_eq_true rfl, Nat.le_of_ble_eq_true rfl⟩ (by decide +kernel) qw850 qw851 rfl rfl (Nat.le_of_ble_eq_true rfl) dX1_extreme_20 (fun r m2 hq2 => ?_)
        obtain ⟨z2, rfl, ⟨rfl, hq2, rfl⟩ | ⟨rfl, hq2, rfl⟩⟩ := hq2
        · show V E (wC D cy aa ad) 7 m 23 [(0, .ref (aa 8)), (1, .int (iz (k))), (2, .int (iz (s))), (3, .int (iz (up))), (4, .int (iz (fo))), (5, .int (iz (c)))] [.int (iz (1))]
          refine v_if_eq (tgt := 74) C dX1_extreme_23 (by decide) (by omega) (fun c3 => by exact absurd c3 (by decide)) (fun c3 => ?_)
          refine v_aload_n C 0 dX1_extreme_26 rfl ?_
          refine v_iload C 5 dX1_extreme_27 rfl ?_
          refine v_callV (st := []) (n := 1) (q := 8) C [.int (iz (c))] (ct_Choice_powerOf C.2.2.2.2.2.2.1 m (c) (by first | assumption | omega) (by first | assumption | omega)) lC8 (eC8 _) rfl qw861 qw12 qw858 rfl rfl ⟨Nat.le_of_ble_eq_true rfl, Nat.le_of_ble_eq_true rfl⟩ (by decide +kernel) qw859 qw860 rfl rfl (Nat.le_of_ble_eq_true rfl) dX1_extreme_29 (fun r m4 hq4 => ?_)
          obtain ⟨z4, rfl, rfl, rfl⟩ := hq4
          show V E (wC D cy aa ad) 7 m 32 [(0, .ref (aa 8)), (1, .int (iz (k))), (2, .int (iz (s))), (3, .int (iz (up))), (4, .int (iz (fo))), (5, .int (iz (c)))] [.int (iz (m 9 c % 64))]
          refine v_iload_n C 1 dX1_extreme_32 rfl ?_
          refine v_icmp_lt (tgt := 74) C dX1_extreme_33 (by decide) (by omega) (by omega) (fun c5 => ?_) (fun c5 => ?_)
          · refine v_sub [0, 1, 2, 3, 4, 5] rfl ?_
            exact K74  (fo)  (by 
                            first
                              | exact ⟨fun y => (hb.1 y).skip (fun z => hq2 ⟨z.1, z.2.1⟩), fun y => (hb.2 y).skip (fun z => hq2 ⟨z.1, z.2.1⟩)⟩
                              | exact ⟨fun y => (hb.1 y).skip (fun z => by have := z.2.2; omega), fun y => (hb.2 y).skip (fun z => by have := z.2.2; omega)⟩
                              | (have e : fo = -2 := by omega
                                 subst e
                                 exact ⟨fun y => mxF (hb.1 y) hc.1 ⟨hq2.1, hq2.2, by omega⟩, fun y => mnF (hb.2 y) hc.1 ⟨hq2.1, hq2.2, by omega⟩⟩)
                              | exact ⟨fun y => (hb.1 y).keep (by omega) (by show unZ c s ≤ fo; omega), fun y => by omega⟩
                              | exact ⟨fun y => (hb.1 y).new hc.1 ⟨hq2.1, hq2.2, by omega⟩ (Or.inr (by show fo ≤ unZ c s; omega)), fun y => by omega⟩
                              | exact ⟨fun y => by omega, fun y => (hb.2 y).keep (by omega) (by show fo ≤ unZ c s; omega)⟩
                              | exact ⟨fun y => by omega, fun y => (hb.2 y).new hc.1 ⟨hq2.1, hq2.2, by omega⟩ (by show unZ c s ≤ fo; omega)⟩
                          )
          · refine v_iload C 5 dX1_extreme_36 rfl ?_
            refine v_iload_n C 2 dX1_extreme_38 rfl ?_
            refine v_callS (st := []) (n := 2) C [.int (iz (c)), .int (iz (s))] (ct_Choice_unitsOf C.2.2.2.2.2.2.1 m (c) (s) (by first | assumption | omega) (by first | assumption | omega)) qw832 qw12 qw857 rfl rfl ⟨Nat.le_of_ble_eq_true rfl, Nat.le_of_ble_eq_true rfl⟩ (by decide +kernel) qw831 rfl rfl (Nat.le_of_ble_eq_true rfl) dX1_extreme_39 (fun r m6 hq6 => ?_)
            obtain ⟨z6, rfl, rfl, rfl⟩ := hq6
            show V E (wC D cy aa ad) 7 m 42 [(0, .ref (aa 8)), (1, .int (iz (k))), (2, .int (iz (s))), (3, .int (iz (up))), (4, .int (iz (fo))), (5, .int (iz (c)))] [.int (iz (unZ c s))]
            refine v_istore (L1 := [(6, .int (iz (unZ c s))), (0, .ref (aa 8)), (1, .int (iz (k))), (2, .int (iz (s))), (3, .int (iz (up))), (4, .int (iz (fo))), (5, .int (iz (c)))]) C dX1_extreme_42 (by decide) rfl ?_
            refine v_iload C 5 dX1_extreme_44 rfl ?_
            refine v_if_lt (tgt := 70) C dX1_extreme_46 (by decide) (by omega) (fun c7 => ?_) (fun c7 => ?_)
            · refine v_iload C 0 dX1_extreme_70 rfl ?_
              refine v_istore (L1 := [(4, .int (iz (unZ c s))), (6, .int (iz (unZ c s))), (0, .ref (aa 8)), (1, .int (iz (k))), (2, .int (iz (s))), (3, .int (iz (up))), (5, .int (iz (c)))]) C dX1_extreme_72 (by decide) rfl ?_
              refine v_sub [2, 3, 4, 5, 0, 6] rfl ?_
              exact K74  (unZ c s)  (by 
                                first
                                  | exact ⟨fun y => (hb.1 y).skip (fun z => hq2 ⟨z.1, z.2.1⟩), fun y => (hb.2 y).skip (fun z => hq2 ⟨z.1, z.2.1⟩)⟩
                                  | exact ⟨fun y => (hb.1 y).skip (fun z => by have := z.2.2; omega), fun y => (hb.2 y).skip (fun z => by have := z.2.2; omega)⟩
                                  | (have e : fo = -2 := by omega
                                     subst e
                                     exact ⟨fun y => mxF (hb.1 y) hc.1 ⟨hq2.1, hq2.2, by omega⟩, fun y => mnF (hb.2 y) hc.1 ⟨hq2.1, hq2.2, by omega⟩⟩)
                                  | exact ⟨fun y => (hb.1 y).keep (by omega) (by show unZ c s ≤ fo; omega), fun y => by omega⟩
                                  | exact ⟨fun y => (hb.1 y).new hc.1 ⟨hq2.1, hq2.2, by omega⟩ (Or.inr (by show fo ≤ unZ c s; omega)), fun y => by omega⟩
                                  | exact ⟨fun y => by omega, fun y => (hb.2 y).keep (by omega) (by show fo ≤ unZ c s; omega)⟩
                                  | exact ⟨fun y => by omega, fun y => (hb.2 y).new hc.1 ⟨hq2.1, hq2.2, by omega⟩ (by show unZ c s ≤ fo; omega)⟩
                              )
            · refine v_iload_n C 4 dX1_extreme_49 rfl ?_
              refine v_if_eq (tgt := 63) C dX1_extreme_50 (by decide) (by omega) (fun c8 => ?_) (fun c8 => ?_)
              · refine v_iload C 0 dX1_extreme_63 rfl ?_
                refine v_iload C 5 dX1_extreme_65 rfl ?_
                refine v_icmp_ge (tgt := 74) C dX1_extreme_67 (by decide) (by omega) (by omega) (fun c9 => ?_) (fun c9 => ?_)
                · refine v_sub [1, 2, 3, 4, 5, 6] rfl ?_
                  exact K74  (fo)  (by 
                                        first
                                          | exact ⟨fun y => (hb.1 y).skip (fun z => hq2 ⟨z.1, z.2.1⟩), fun y => (hb.2 y).skip (fun z => hq2 ⟨z.1, z.2.1⟩)⟩
                                          | exact ⟨fun y => (hb.1 y).skip (fun z => by have := z.2.2; omega), fun y => (hb.2 y).skip (fun z => by have := z.2.2; omega)⟩
                                          | (have e : fo = -2 := by omega
                                             subst e
                                             exact ⟨fun y => mxF (hb.1 y) hc.1 ⟨hq2.1, hq2.2, by omega⟩, fun y => mnF (hb.2 y) hc.1 ⟨hq2.1, hq2.2, by omega⟩⟩)
                                          | exact ⟨fun y => (hb.1 y).keep (by omega) (by show unZ c s ≤ fo; omega), fun y => by omega⟩
                                          | exact ⟨fun y => (hb.1 y).new hc.1 ⟨hq2.1, hq2.2, by omega⟩ (Or.inr (by show fo ≤ unZ c s; omega)), fun y => by omega⟩
                                          | exact ⟨fun y => by omega, fun y => (hb.2 y).keep (by omega) (by show fo ≤ unZ c s; omega)⟩
                                          | exact ⟨fun y => by omega, fun y => (hb.2 y).new hc.1 ⟨hq2.1, hq2.2, by omega⟩ (by show unZ c s ≤ fo; omega)⟩
                                      )
                · refine v_iload C 0 dX1_extreme_70 rfl ?_
                  refine v_istore (L1 := [(4, .int (iz (unZ c s))), (6, .int (iz (unZ c s))), (0, .ref (aa 8)), (1, .int (iz (k))), (2, .int (iz (s))), (3, .int (iz (up))), (5, .int (iz (c)))]) C dX1_extreme_72 (by decide) rfl ?_
                  refine v_sub [2, 3, 4, 5, 0, 6] rfl ?_
                  exact K74  (unZ c s)  (by 
                                        first
                                          | exact ⟨fun y => (hb.1 y).skip (fun z => hq2 ⟨z.1, z.2.1⟩), fun y => (hb.2 y).skip (fun z => hq2 ⟨z.1, z.2.1⟩)⟩
                                          | exact ⟨fun y => (hb.1 y).skip (fun z => by have := z.2.2; omega), fun y => (hb.2 y).skip (fun z => by have := z.2.2; omega)⟩
                                          | (have e : fo = -2 := by omega
                                             subst e
                                             exact ⟨fun y => mxF (hb.1 y) hc.1 ⟨hq2.1, hq2.2, by omega⟩, fun y => mnF (hb.2 y) hc.1 ⟨hq2.1, hq2.2, by omega⟩⟩)
                                          | exact ⟨fun y => (hb.1 y).keep (by omega) (by show unZ c s ≤ fo; omega), fun y => by omega⟩
                                          | exact ⟨fun y => (hb.1 y).new hc.1 ⟨hq2.1, hq2.2, by omega⟩ (Or.inr (by show fo ≤ unZ c s; omega)), fun y => by omega⟩
                                          | exact ⟨fun y => by omega, fun y => (hb.2 y).keep (by omega) (by show fo ≤ unZ c s; omega)⟩
                                          | exact ⟨fun y => by omega, fun y => (hb.2 y).new hc.1 ⟨hq2.1, hq2.2, by omega⟩ (by show unZ c s ≤ fo; omega)⟩
                                      )
              · refine v_iload C 0 dX1_extreme_53 rfl ?_
                refine v_iload C 5 dX1_extreme_55 rfl ?_
                refine v_icmp_le (tgt := 74) C dX1_extreme_57 (by decide) (by omega) (by omega) (fun c10 => ?_) (fun c10 => ?_)
                · refine v_sub [1, 2, 3, 4, 5, 6] rfl ?_
                  exact K74  (fo)  (by 
                                        first
                                          | exact ⟨fun y => (hb.1 y).skip (fun z => hq2 ⟨z.1, z.2.1⟩), fun y => (hb.2 y).skip (fun z => hq2 ⟨z.1, z.2.1⟩)⟩
                                          | exact ⟨fun y => (hb.1 y).skip (fun z => by have := z.2.2; omega), fun y => (hb.2 y).skip (fun z => by have := z.2.2; omega)⟩
                                          | (have e : fo = -2 := by omega
                                             subst e
                                             exact ⟨fun y => mxF (hb.1 y) hc.1 ⟨hq2.1, hq2.2, by omega⟩, fun y => mnF (hb.2 y) hc.1 ⟨hq2.1, hq2.2, by omega⟩⟩)
                                          | exact ⟨fun y => (hb.1 y).keep (by omega) (by show unZ c s ≤ fo; omega), fun y => by omega⟩
                                          | exact ⟨fun y => (hb.1 y).new hc.1 ⟨hq2.1, hq2.2, by omega⟩ (Or.inr (by show fo ≤ unZ c s; omega)), fun y => by omega⟩
                                          | exact ⟨fun y => by omega, fun y => (hb.2 y).keep (by omega) (by show fo ≤ unZ c s; omega)⟩
                                          | exact ⟨fun y => by omega, fun y => (hb.2 y).new hc.1 ⟨hq2.1, hq2.2, by omega⟩ (by show unZ c s ≤ fo; omega)⟩
                                      )
                · refine v_goto (tgt := 70) C dX1_extreme_60 (by decide) ?_
                  refine v_iload C 0 dX1_extreme_70 rfl ?_
                  refine v_istore (L1 := [(4, .int (iz (unZ c s))), (6, .int (iz (unZ c s))), (0, .ref (aa 8)), (1, .int (iz (k))), (2, .int (iz (s))), (3, .int (iz (up))), (5, .int (iz (c)))]) C dX1_extreme_72 (by decide) rfl ?_
                  refine v_sub [2, 3, 4, 5, 0, 6] rfl ?_
                  exact K74  (unZ c s)  (by 
                                        first
                                          | exact ⟨fun y => (hb.1 y).skip (fun z => hq2 ⟨z.1, z.2.1⟩), fun y => (hb.2 y).skip (fun z => hq2 ⟨z.1, z.2.1⟩)⟩
                                          | exact ⟨fun y => (hb.1 y).skip (fun z => by have := z.2.2; omega), fun y => (hb.2 y).skip (fun z => by have := z.2.2; omega)⟩
                                          | (have e : fo = -2 := by omega
                                             subst e
                                             exact ⟨fun y => mxF (hb.1 y) hc.1 ⟨hq2.1, hq2.2, by omega⟩, fun y => mnF (hb.2 y) hc.1 ⟨hq2.1, hq2.2, by omega⟩⟩)
                                          | exact ⟨fun y => (hb.1 y).keep (by omega) (by show unZ c s ≤ fo; omega), fun y => by omega⟩
                                          | exact ⟨fun y => (hb.1 y).new hc.1 ⟨hq2.1, hq2.2, by omega⟩ (Or.inr (by show fo ≤ unZ c s; omega)), fun y => by omega⟩
                                          | exact ⟨fun y => by omega, fun y => (hb.2 y).keep (by omega) (by show fo ≤ unZ c s; omega)⟩
                                          | exact ⟨fun y => by omega, fun y => (hb.2 y).new hc.1 ⟨hq2.1, hq2.2, by omega⟩ (by show unZ c s ≤ fo; omega)⟩
                                      )
        · show V E (wC D cy aa ad) 7 m 23 [(0, .ref (aa 8)), (1, .int (iz (k))), (2, .int (iz (s))), (3, .int (iz (up))), (4, .int (iz (fo))), (5, .int (iz (c)))] [.int (iz (0))]
          refine v_if_eq (tgt := 74) C dX1_extreme_23 (by decide) (by omega) (fun c11 => ?_) (fun c11 => by exact absurd c11 (by decide))
          refine v_sub [0, 1, 2, 3, 4, 5] rfl ?_
          exact K74  (fo)  (by 
                        first
                          | exact ⟨fun y => (hb.1 y).skip (fun z => hq2 ⟨z.1, z.2.1⟩), fun y => (hb.2 y).skip (fun z => hq2 ⟨z.1, z.2.1⟩)⟩
                          | exact ⟨fun y => (hb.1 y).skip (fun z => by have := z.2.2; omega), fun y => (hb.2 y).skip (fun z => by have := z.2.2; omega)⟩
                          | (have e : fo = -2 := by omega
                             subst e
                             exact ⟨fun y => mxF (hb.1 y) hc.1 ⟨hq2.1, hq2.2, by omega⟩, fun y => mnF (hb.2 y) hc.1 ⟨hq2.1, hq2.2, by omega⟩⟩)
                          | exact ⟨fun y => (hb.1 y).keep (by omega) (by show unZ c s ≤ fo; omega), fun y => by omega⟩
                          | exact ⟨fun y => (hb.1 y).new hc.1 ⟨hq2.1, hq2.2, by omega⟩ (Or.inr (by show fo ≤ unZ c s; omega)), fun y => by omega⟩
                          | exact ⟨fun y => by omega, fun y => (hb.2 y).keep (by omega) (by show fo ≤ unZ c s; omega)⟩
                          | exact ⟨fun y => by omega, fun y => (hb.2 y).new hc.1 ⟨hq2.1, hq2.2, by omega⟩ (by show unZ c s ≤ fo; omega)⟩
                      )
  refine v_sub [2, 3, 4, 5, 1, 0] rfl ?_
  exact K7 _ (-2) (0)  (by first | assumption | omega) (by exact ⟨fun _ => Or.inl ⟨rfl, fun c h0 h1 => by omega⟩, fun _ => Or.inl ⟨rfl, fun c h0 h1 => by omega⟩⟩) (Nat.lt_succ_self _)

set_option maxHeartbeats 4000000 in
set_option maxRecDepth 100000 in
theorem ct_Choice_powerHeld {lau : Launch} {D : va_G} {cy : Nat → ClassId} {aa ad : Nat → Nat} (hI : wI (wC D cy aa ad)) (m : Mem) (k kf ks kt kc : Nat) (P : Int) (hk : RocketAt k kf ks kt kc) (hrk : RkIs m k kf ks kt kc) (hP : 1 ≤ P ∧ P ≤ 40) (hu : ∀ j : Int, 0 ≤ j → j < m k 5 → 0 ≤ m 20 j ∧ m 20 j ≤ 16) : MT lau (wC D cy aa ad) yX1_powerHeld cX1_powerHeld 4 (some .int) ({ frames := 4, cells := 0, slots := 0, locals := 123 } : Room) m [.ref (aa 8), .ref (aa k), .int (iz (P)), .ref (aa 19)] (Pi (fun z m' => ((¬ hoA (m kf) (m k 5) P (m 20) ∧ z = -1) ∨ (hoA (m kf) (m k 5) P (m 20) ∧ (0 ≤ z ∧ z ≤ 40) ∧ paA (m kf) (m k 5) (m k 2) (m k 3) P (m 20) z)) ∧ m' 19 3 = stZ (m kf) (m k 5) P (m 20) 0 ∧ (∀ q, (q < 15 ∨ q = 20 ∨ (23 ≤ q ∧ q < 39) ∨ 42 ≤ q) → m' q = m q))) := by
  refine v_entry hI RX1 (by decide) rfl (Nat.le_of_ble_eq_true rfl) (fun E hE C X => ?_)
  subst hE
  show V E (wC D cy aa ad) 4 m 0 [(0, .ref (aa 8)), (1, .ref (aa k)), (2, .int (iz (P))), (3, .ref (aa 19))] []
  have hkk : 73 ≤ k ∧ 73 ≤ kf ∧ 73 ≤ ks ∧ 73 ≤ kt ∧ 73 ≤ kc := by unfold RocketAt at hk; omega
  obtain ⟨hk5, hF, hup, hlw, -⟩ := id hrk
  have hDv : DvOk (m k 5) P (m 20) := ⟨hk5, hP, hu⟩
  obtain ⟨al1, al2, al3, al4, al5⟩ := hDv.al hF
  refine v_aload_n C 3 dX1_powerHeld_0 rfl ?_
  refine v_aload_n C 1 dX1_powerHeld_1 rfl ?_
  refine v_iload_n C 2 dX1_powerHeld_2 rfl ?_
  refine v_callV (st := []) (n := 2) (q := 19) C [.ref (aa k), .int (iz (P))] (ct_Weights_weigh C.2.2.2.2.2.2.1 m (19) (20) (21) (22) (k) (kf) (ks) (kt) (kc) (P) (by unfold WeightsAt; decide) hk (by first | assumption | omega) (by first | assumption | omega) (by first | assumption | omega) (by first | assumption | omega)) lC19 (eC19 _) rfl qw682 qw8 qw841 rfl rfl ⟨Nat.le_of_ble_eq_true rfl, Nat.le_of_ble_eq_true rfl⟩ (by decide +kernel) qw680 qw681 rfl rfl (Nat.le_of_ble_eq_true rfl) dX1_powerHeld_3 (fun r m1 hq1 => ?_)
  obtain ⟨rfl, hq1⟩ := hq1
  show V E (wC D cy aa ad) 4 m1 6 [(0, .ref (aa 8)), (1, .ref (aa k)), (2, .int (iz (P))), (3, .ref (aa 19))] []
  have o3 : ∀ q, (q < 19 ∨ q = 20 ∨ 23 ≤ q) → m1 q = m q := fun q h => hq1.2 q (by omega) (by omega) (by omega)
  have k3 : m1 k = m k := o3 k (by omega)
  have kf3 : m1 kf = m kf := o3 kf (by omega)
  have hW := hq1.1
  have hst : ∀ j : Int, 0 ≤ j → j < m k 5 → 1 ≤ m1 21 j ∧ m1 21 j ≤ 400 := fun j h0 h1 => by have := stZ_rng (s := j) hF hk5.2 hP hu h0 (by omega); rw [(hW.2 j h0 h1).1]; omega
  refine v_aload_n C 3 dX1_powerHeld_6 rfl ?_
  refine v_aload_n C 1 dX1_powerHeld_7 rfl ?_
  refine v_callV (st := []) (n := 1) (q := 19) C [.ref (aa k)] (ct_Weights_holdsAll C.2.2.2.2.2.2.1 m1 (19) (20) (21) (22) (k) (kf) (ks) (kt) (kc) (by unfold WeightsAt; decide) hk (by rw [k3]; exact hk5) (by rw [k3, kf3]; exact hF) (by rw [k3]; exact hst)) lC19 (eC19 _) rfl qw794 qw8 qw842 rfl rfl ⟨Nat.le_of_ble_eq_true rfl, Nat.le_of_ble_eq_true rfl⟩ (by decide +kernel) qw792 qw793 rfl rfl (Nat.le_of_ble_eq_true rfl) dX1_powerHeld_8 (fun r m2 hq2 => ?_)
  obtain ⟨z2, rfl, ⟨rfl, hq2, rfl⟩ | ⟨rfl, hq2, rfl⟩⟩ := hq2
  · show V E (wC D cy aa ad) 4 m1 11 [(0, .ref (aa 8)), (1, .ref (aa k)), (2, .int (iz (P))), (3, .ref (aa 19))] [.int (iz (1))]
    rw [k3, kf3] at hq2
    have hho := hW.hoA.mp hq2
    refine v_if_ne (tgt := 16) C dX1_powerHeld_11 (by decide) (by omega) (fun c3 => ?_) (fun c3 => by exact absurd c3 (by decide))
    refine v_aload_n C 3 dX1_powerHeld_16 rfl ?_
    refine v_aload_n C 1 dX1_powerHeld_17 rfl ?_
    refine v_aload_n C 0 dX1_powerHeld_18 rfl ?_
    refine v_get C 8 3 lC8 (eC8 _) rfl inX1 (by decide) rfl qw254 dX1_powerHeld_19 ?_
    refine v_callV (st := []) (n := 2) (q := 19) C [.ref (aa k), .ref (aa 39)] (ct_Weights_speedInto C.2.2.2.2.2.2.1 m1 (19) (20) (21) (22) (k) (kf) (ks) (kt) (kc) (39) (40) (41) (42) (by unfold WeightsAt; decide) hk (by unfold RatioAt; decide) (by rw [k3]; exact hk5)) lC19 (eC19 _) rfl qw725 qw8 qw843 rfl rfl ⟨Nat.le_of_ble_eq_true rfl, Nat.le_of_ble_eq_true rfl⟩ (by decide +kernel) qw723 qw724 rfl rfl (Nat.le_of_ble_eq_true rfl) dX1_powerHeld_22 (fun r m4 hq4 => ?_)
    obtain ⟨rfl, hq4⟩ := hq4
    show V E (wC D cy aa ad) 4 m4 25 [(0, .ref (aa 8)), (1, .ref (aa k)), (2, .int (iz (P))), (3, .ref (aa 19))] []
    have zq := hq4.1
    rw [k3, kf3, hW.spT] at zq
    have o22 : ∀ q, (q < 39 ∨ 42 ≤ q) → m4 q = m1 q := fun q h => hq4.2 q (by omega) (by omega) (by omega)
    have k22 : m4 k = m k := by rw [o22 k (by omega), k3]
    refine v_aload_n C 0 dX1_powerHeld_25 rfl ?_
    refine v_get C 8 4 lC8 (eC8 _) rfl inX1 (by decide) rfl qw255 dX1_powerHeld_26 ?_
    refine v_aload_n C 0 dX1_powerHeld_29 rfl ?_
    refine v_get C 8 3 lC8 (eC8 _) rfl inX1 (by decide) rfl qw254 dX1_powerHeld_30 ?_
    refine v_aload_n C 1 dX1_powerHeld_33 rfl ?_
    refine v_get C k 2 (RocketAt.l0 hk) (RocketAt.e0 hk _) rfl inX6 (by decide) rfl qw374 dX1_powerHeld_34 ?_
    refine v_aload_n C 1 dX1_powerHeld_37 rfl ?_
    refine v_get C k 3 (RocketAt.l0 hk) (RocketAt.e0 hk _) rfl inX6 (by decide) rfl qw378 dX1_powerHeld_38 ?_
    refine v_callV (st := []) (n := 3) (q := 7) C [.ref (aa 39), .int (iz (m4 k 2)), .int (iz (m4 k 3))] (ct_Scale_powerOf C.2.2.2.2.2.2.1 m4 (39) (40) (41) (42) (spT (m kf) (m k 5) P (m 20)) (m4 k 2) (m4 k 3) (by unfold RatioAt; decide) (by exact zq) (by exact al1) (by exact al2) (by exact le_560 al3) (by exact le_560 (Int.le_trans al5 al3)) (by rw [k22]; exact hup) (by rw [k22]; exact hlw) (by rw [k22]; exact nb_ok (by omega) (le_450 al3) hlw.1 (by omega)) (by rw [k22]; exact nb_ok (by omega) (le_450 (Int.le_trans al5 al3)) (by omega) hup.2)) lC7 (eC7 _) rfl qw738 qw10 qw844 rfl rfl ⟨Nat.le_of_ble_eq_true rfl, Nat.le_of_ble_eq_true rfl⟩ (by decide +kernel) qw736 qw737 rfl rfl (Nat.le_of_ble_eq_true rfl) dX1_powerHeld_41 (fun r m5 hq5 => ?_)
    obtain ⟨z5, rfl, hq5, hm5⟩ := hq5
    show V E (wC D cy aa ad) 4 m5 44 [(0, .ref (aa 8)), (1, .ref (aa k)), (2, .int (iz (P))), (3, .ref (aa 19))] [.int (iz (z5))]
    refine v_iret C X rfl dX1_powerHeld_44 ⟨_, rfl, ?_, ?_⟩
    · rw [k22] at hq5; exact Or.inr ⟨hho, hq5.pos al5, hq5⟩
    · exact ⟨by rw [hm5 19 (by omega) (by omega) (by omega) (by omega), o22 19 (by omega)]; exact hW.1, fun q h => by rw [hm5 q (by omega) (by omega) (by omega) (by omega), o22 q (by omega), o3 q (by omega)]⟩
  · show V E (wC D cy aa ad) 4 m1 11 [(0, .ref (aa 8)), (1, .ref (aa k)), (2, .int (iz (P))), (3, .ref (aa 19))] [.int (iz (0))]
    rw [k3, kf3] at hq2
    have hho := fun z => hq2 (hW.hoA.mpr z)
    refine v_if_ne (tgt := 16) C dX1_powerHeld_11 (by decide) (by omega) (fun c6 => by exact absurd c6 (by decide)) (fun c6 => ?_)
    refine v_iconst (z := -1) C dX1_powerHeld_14 rfl ?_
    refine v_iret C X rfl dX1_powerHeld_15 ⟨_, rfl, ?_, ?_⟩
    · exact Or.inl ⟨hho, rfl⟩
    · exact ⟨hW.1, fun q h => o3 q (by omega)⟩
