theorem beB.skip {g lo hi : Int → Int} {k n z : Int} (h : beB g lo hi k n z) (hn : ¬ caB g lo hi k n) : beB g lo hi k (n + 1) z := by
  rcases h with ⟨a, b⟩ | ⟨a, b, c, d⟩
  · refine Or.inl ⟨a, fun c h0 h1 => ?_⟩
    by_cases e : c = n
    · rw [e]; exact hn
    · exact b c h0 (by omega)
  · refine Or.inr ⟨a, by omega, c, fun c h0 h1 h2 => ?_⟩
    by_cases e : c = n
    · rw [e] at h2; exact absurd h2 hn
    · exact d c h0 (by omega) h2
theorem beB.new {g lo hi : Int → Int} {k n z : Int} (h : beB g lo hi k n z) (h0 : 0 ≤ n) (hn : caB g lo hi k n) (hz : z < 0 ∨ g n / 64 < g z / 64) : beB g lo hi k (n + 1) n := by
  refine Or.inr ⟨h0, by omega, hn, fun c h1 h2 h3 => ?_⟩
  by_cases e : c = n
  · rw [e]; exact Or.inr ⟨rfl, Int.le_refl _⟩
  · rcases h with ⟨a, b⟩ | ⟨a, b, c0, d⟩
    · exact absurd h3 (b c h1 (by omega))
    · have := d c h1 (by omega) h3; omega
theorem beB.keep {g lo hi : Int → Int} {k n z : Int} (h : beB g lo hi k n z) (h0 : 0 ≤ z) (hz : g z / 64 ≤ g n / 64) : beB g lo hi k (n + 1) z := by
  rcases h with ⟨a, b⟩ | ⟨a, b, c0, d⟩
  · omega
  · refine Or.inr ⟨a, by omega, c0, fun c h1 h2 h3 => ?_⟩
    by_cases e : c = n
    · rw [e]; omega
    · exact d c h1 (by omega) h3
set_option maxHeartbeats 4000000 in
set_option maxRecDepth 100000 in
theorem ct_Choice_best {lau : Launch} {D : va_G} {cy : Nat → ClassId} {aa ad : Nat → Nat} (hI : wI (wC D cy aa ad)) (m : Mem) (k : Int) (hk : -2147483648 ≤ k ∧ k ≤ 2147483647) (hlh : ∀ j : Int, 0 ≤ j → j < 3 → (0 ≤ m 10 j ∧ m 10 j ≤ 16) ∧ (0 ≤ m 11 j ∧ m 11 j ≤ 16)) (hce : ∀ c : Int, 0 ≤ c → c < 4913 → -1 ≤ m 9 c ∧ m 9 c ≤ 30000) : MT lau (wC D cy aa ad) yX1_best cX1_best 4 (some .int) ({ frames := 3, cells := 0, slots := 0, locals := 65 } : Room) m [.ref (aa 8), .int (iz (k))] (Pi (fun z m' => (beB (m 9) (m 10) (m 11) k 4913 z) ∧ m = m')) := by
  refine v_entry hI RX1 (by decide) rfl (Nat.le_of_ble_eq_true rfl) (fun E hE C X => ?_)
  subst hE
  show V E (wC D cy aa ad) 4 m 0 [(0, .ref (aa 8)), (1, .int (iz (k)))] []
  refine v_iconst (z := -1) C dX1_best_0 rfl ?_
  refine v_istore_n (L1 := [(2, .int (iz (-1))), (0, .ref (aa 8)), (1, .int (iz (k)))]) C dX1_best_1 (by decide) rfl ?_
  refine v_iconst (z := 0) C dX1_best_2 rfl ?_
  refine v_istore_n (L1 := [(3, .int (iz (0))), (2, .int (iz (-1))), (0, .ref (aa 8)), (1, .int (iz (k)))]) C dX1_best_3 (by decide) rfl ?_
  have K4 : ∀ (nK : Nat) (fo : Int) (c : Int) (hc : 0 ≤ c ∧ c ≤ 4913) (hb : beB (m 9) (m 10) (m 11) k c fo), (4913 - c).toNat < nK → V E (wC D cy aa ad) 4 m 4 [(0, .ref (aa 8)), (1, .int (iz (k))), (2, .int (iz (fo))), (3, .int (iz (c)))] [] := by
    intro nK
    induction nK with
    | zero => intro fo c  hc hb hn; exact absurd hn (Nat.not_lt_zero _)
    | succ nK ih4 =>
      intro fo c  hc hb hn4
      have hfr : fo = -1 ∨ (0 ≤ fo ∧ fo < c ∧ 0 ≤ m 9 fo) := by
        rcases hb with z | z
        · exact Or.inl z.1
        · exact Or.inr ⟨z.1, z.2.1, z.2.2.1.1⟩
      refine v_iload_n C 3 dX1_best_4 rfl ?_
      refine v_aload_n C 0 dX1_best_5 rfl ?_
      refine v_get C 8 0 lC8 (eC8 _) rfl inX1 (by decide) rfl qw251 dX1_best_6 ?_
      refine v_alen C 9 0 lC9 (eC9 _) rfl dX1_best_9 ?_
      refine v_st (st1 := [.int (iz (4913)), .int (iz (c))]) rfl ?_
      refine v_icmp_ge (tgt := 55) C dX1_best_10 (by decide) (by omega) (by omega) (fun c1 => ?_) (fun c1 => ?_)
      · refine v_iload_n C 2 dX1_best_55 rfl ?_
        refine v_iret C X rfl dX1_best_56 ⟨_, rfl, ?_, ?_⟩
        · rw [show c = 4913 by omega] at hb; exact hb
        · rfl
      · have K49 : ∀ (f2 : Int) (hb2 : beB (m 9) (m 10) (m 11) k (c + 1) f2), V E (wC D cy aa ad) 4 m 49 [(0, .ref (aa 8)), (1, .int (iz (k))), (2, .int (iz (f2))), (3, .int (iz (c)))] [] := by
          intro f2  hb2
          refine v_iinc (L1 := [(3, .int (iz (c + 1))), (0, .ref (aa 8)), (1, .int (iz (k))), (2, .int (iz (f2)))]) C 3 dX1_best_49 rfl (by decide) rfl ?_
          refine v_goto (tgt := 4) C dX1_best_52 (by decide) ?_
          refine v_sub [1, 2, 3, 0] rfl ?_
          exact ih4 (f2) (c + 1)  (by first | assumption | omega) (by exact hb2) (by omega)
        have hcc := hce c (by omega) (by omega)
        refine v_aload_n C 0 dX1_best_13 rfl ?_
        refine v_iload_n C 3 dX1_best_14 rfl ?_
        refine v_callV (st := []) (n := 1) (q := 8) C [.int (iz (c))] (ct_Choice_counts C.2.2.2.2.2.2.1 m (c) (by first | assumption | omega) (by exact hlh) (by exact hce)) lC8 (eC8 _) rfl qw852 qw12 qw849 rfl rfl ⟨Nat.le_of_ble_eq_true rfl, Nat.le_of_ble_eq_true rfl⟩ (by decide +kernel) qw850 qw851 rfl rfl (Nat.le_of_ble_eq_true rfl) dX1_best_15 (fun r m2 hq2 => ?_)
        obtain ⟨z2, rfl, ⟨rfl, hq2, rfl⟩ | ⟨rfl, hq2, rfl⟩⟩ := hq2
        · show V E (wC D cy aa ad) 4 m 18 [(0, .ref (aa 8)), (1, .int (iz (k))), (2, .int (iz (fo))), (3, .int (iz (c)))] [.int (iz (1))]
          refine v_if_eq (tgt := 49) C dX1_best_18 (by decide) (by omega) (fun c3 => by exact absurd c3 (by decide)) (fun c3 => ?_)
          refine v_aload_n C 0 dX1_best_21 rfl ?_
          refine v_iload_n C 3 dX1_best_22 rfl ?_
          refine v_callV (st := []) (n := 1) (q := 8) C [.int (iz (c))] (ct_Choice_powerOf C.2.2.2.2.2.2.1 m (c) (by first | assumption | omega) (by first | assumption | omega)) lC8 (eC8 _) rfl qw861 qw12 qw858 rfl rfl ⟨Nat.le_of_ble_eq_true rfl, Nat.le_of_ble_eq_true rfl⟩ (by decide +kernel) qw859 qw860 rfl rfl (Nat.le_of_ble_eq_true rfl) dX1_best_23 (fun r m4 hq4 => ?_)
          obtain ⟨z4, rfl, rfl, rfl⟩ := hq4
          show V E (wC D cy aa ad) 4 m 26 [(0, .ref (aa 8)), (1, .int (iz (k))), (2, .int (iz (fo))), (3, .int (iz (c)))] [.int (iz (m 9 c % 64))]
          refine v_iload_n C 1 dX1_best_26 rfl ?_
          refine v_icmp_lt (tgt := 49) C dX1_best_27 (by decide) (by omega) (by omega) (fun c5 => ?_) (fun c5 => ?_)
          · refine v_sub [0, 1, 2, 3] rfl ?_
            exact K49  (fo)  (by 
                            first
                              | exact hb.skip (fun z => hq2 ⟨z.1, z.2.1⟩)
                              | exact hb.skip (fun z => by have := z.2.2; omega)
                              | exact hb.new (by omega) ⟨hq2.1, hq2.2, by omega⟩ (Or.inl (by omega))
                              | exact hb.new (by omega) ⟨hq2.1, hq2.2, by omega⟩ (Or.inr (by omega))
                              | exact hb.keep (by omega) (by omega)
                          )
          · refine v_iload_n C 2 dX1_best_30 rfl ?_
            refine v_if_lt (tgt := 47) C dX1_best_31 (by decide) (by omega) (fun c6 => ?_) (fun c6 => ?_)
            · refine v_iload_n C 3 dX1_best_47 rfl ?_
              refine v_istore_n (L1 := [(2, .int (iz (c))), (0, .ref (aa 8)), (1, .int (iz (k))), (3, .int (iz (c)))]) C dX1_best_48 (by decide) rfl ?_
              refine v_sub [1, 2, 0, 3] rfl ?_
              exact K49  (c)  (by 
                                first
                                  | exact hb.skip (fun z => hq2 ⟨z.1, z.2.1⟩)
                                  | exact hb.skip (fun z => by have := z.2.2; omega)
                                  | exact hb.new (by omega) ⟨hq2.1, hq2.2, by omega⟩ (Or.inl (by omega))
                                  | exact hb.new (by omega) ⟨hq2.1, hq2.2, by omega⟩ (Or.inr (by omega))
                                  | exact hb.keep (by omega) (by omega)
                              )
            · have hcf := hce fo (by omega) (by omega)
              refine v_aload_n C 0 dX1_best_34 rfl ?_
              refine v_iload_n C 3 dX1_best_35 rfl ?_
              refine v_callV (st := []) (n := 1) (q := 8) C [.int (iz (c))] (ct_Choice_weightOf C.2.2.2.2.2.2.1 m (c) (by first | assumption | omega) (by first | assumption | omega)) lC8 (eC8 _) rfl qw865 qw12 qw862 rfl rfl ⟨Nat.le_of_ble_eq_true rfl, Nat.le_of_ble_eq_true rfl⟩ (by decide +kernel) qw863 qw864 rfl rfl (Nat.le_of_ble_eq_true rfl) dX1_best_36 (fun r m7 hq7 => ?_)
              obtain ⟨z7, rfl, rfl, rfl⟩ := hq7
              show V E (wC D cy aa ad) 4 m 39 [(0, .ref (aa 8)), (1, .int (iz (k))), (2, .int (iz (fo))), (3, .int (iz (c)))] [.int (iz (m 9 c / 64))]
              refine v_aload_n C 0 dX1_best_39 rfl ?_
              refine v_iload_n C 2 dX1_best_40 rfl ?_
              refine v_callV (st := [.int (iz (m 9 c / 64))]) (n := 1) (q := 8) C [.int (iz (fo))] (ct_Choice_weightOf C.2.2.2.2.2.2.1 m (fo) (by first | assumption | omega) (by have := hce fo (by omega) (by omega); omega)) lC8 (eC8 _) rfl qw865 qw12 qw862 rfl rfl ⟨Nat.le_of_ble_eq_true rfl, Nat.le_of_ble_eq_true rfl⟩ (by decide +kernel) qw863 qw864 rfl rfl (Nat.le_of_ble_eq_true rfl) dX1_best_41 (fun r m8 hq8 => ?_)
              obtain ⟨z8, rfl, rfl, rfl⟩ := hq8
              show V E (wC D cy aa ad) 4 m 44 [(0, .ref (aa 8)), (1, .int (iz (k))), (2, .int (iz (fo))), (3, .int (iz (c)))] [.int (iz (m 9 fo / 64)), .int (iz (m 9 c / 64))]
              refine v_icmp_ge (tgt := 49) C dX1_best_44 (by decide) (by omega) (by omega) (fun c9 => ?_) (fun c9 => ?_)
              · refine v_sub [0, 1, 2, 3] rfl ?_
                exact K49  (fo)  (by 
                                    first
                                      | exact hb.skip (fun z => hq2 ⟨z.1, z.2.1⟩)
                                      | exact hb.skip (fun z => by have := z.2.2; omega)
                                      | exact hb.new (by omega) ⟨hq2.1, hq2.2, by omega⟩ (Or.inl (by omega))
                                      | exact hb.new (by omega) ⟨hq2.1, hq2.2, by omega⟩ (Or.inr (by omega))
                                      | exact hb.keep (by omega) (by omega)
                                  )
              · refine v_iload_n C 3 dX1_best_47 rfl ?_
                refine v_istore_n (L1 := [(2, .int (iz (c))), (0, .ref (aa 8)), (1, .int (iz (k))), (3, .int (iz (c)))]) C dX1_best_48 (by decide) rfl ?_
                refine v_sub [1, 2, 0, 3] rfl ?_
                exact K49  (c)  (by 
                                    first
                                      | exact hb.skip (fun z => hq2 ⟨z.1, z.2.1⟩)
                                      | exact hb.skip (fun z => by have := z.2.2; omega)
                                      | exact hb.new (by omega) ⟨hq2.1, hq2.2, by omega⟩ (Or.inl (by omega))
                                      | exact hb.new (by omega) ⟨hq2.1, hq2.2, by omega⟩ (Or.inr (by omega))
                                      | exact hb.keep (by omega) (by omega)
                                  )
        · show V E (wC D cy aa ad) 4 m 18 [(0, .ref (aa 8)), (1, .int (iz (k))), (2, .int (iz (fo))), (3, .int (iz (c)))] [.int (iz (0))]
          refine v_if_eq (tgt := 49) C dX1_best_18 (by decide) (by omega) (fun c10 => ?_) (fun c10 => by exact absurd c10 (by decide))
          refine v_sub [0, 1, 2, 3] rfl ?_
          exact K49  (fo)  (by 
                        first
                          | exact hb.skip (fun z => hq2 ⟨z.1, z.2.1⟩)
                          | exact hb.skip (fun z => by have := z.2.2; omega)
                          | exact hb.new (by omega) ⟨hq2.1, hq2.2, by omega⟩ (Or.inl (by omega))
                          | exact hb.new (by omega) ⟨hq2.1, hq2.2, by omega⟩ (Or.inr (by omega))
                          | exact hb.keep (by omega) (by omega)
                      )
  refine v_sub [2, 3, 1, 0] rfl ?_
  exact K4 _ (-1) (0)  (by first | assumption | omega) (by exact Or.inl ⟨rfl, fun c h0 h1 => by omega⟩) (Nat.lt_succ_self _)
