/-! the machine does what the functions say -/
set_option maxRecDepth 16000
theorem g_X10_priceOf_L1_ok (I : Nat → Int32) (L : Nat → Int64) (A : Nat → Nat → Int32) (J : Nat → Nat → Int64) (tw : Nat) (dr : Nat) (rt : Nat) (sc : Nat) (a1 : Int32) (out : Option Value × tw_S) : ∀ (n : Nat) (v1_2 : Int32) (v1_3 : Int32) (ex : Int32), g_X10_priceOf_L1 A a1 n v1_2 v1_3 = some ex → tw_ME 277 (33, [none, none, some (.int ex), none], [], (I, L, tw_P tw dr rt sc, A, J, 57)) out → tw_ME 277 (4, [some (.ref 44), some (.int a1), some (.int v1_2), some (.int v1_3)], [], (I, L, tw_P tw dr rt sc, A, J, 57)) out := by
  intro n
  induction n with
  | zero =>
    intro v1_2 v1_3 ex h _
    cases h
  | succ n ih =>
    intro v1_2 v1_3 ex h K
    rw [g_X10_priceOf_L1] at h
    refine tw_blk (cd := tw_c277) rfl 1 (c1 := (5, [some (.ref 44), some (.int a1), some (.int v1_2), some (.int v1_3)], [.int v1_3], (I, L, tw_P tw dr rt sc, A, J, 57))) rfl ?_
    refine tw_blk (cd := tw_c277) rfl 3 (c1 := (8, [some (.ref 44), some (.int a1), some (.int v1_2), some (.int v1_3)], [.int 3, .ref 47, .int v1_3], (I, L, tw_P tw dr rt sc, A, J, 57))) rfl ?_
    obtain ⟨x3, hx2, h⟩ := tw_bindE h
    refine tw_iald (cd := tw_c277) (N := 241) rfl rfl rfl rfl hx2 ?_
    by_cases hc4 : x3 ≤ v1_3
    · rw [if_pos hc4] at h
      refine tw_br (cd := tw_c277) rfl rfl rfl (by exact if_pos hc4) ?_
      refine tw_forget (ls2 := [none, none, some (.int v1_2), none]) ⟨rfl, trivial⟩ ?_
      have h := Option.some.inj h
      subst h
      exact K
    · rw [if_neg hc4] at h
      refine tw_br (cd := tw_c277) rfl rfl rfl (by exact if_neg hc4) ?_
      refine tw_blk (cd := tw_c277) rfl 3 (c1 := (13, [some (.ref 44), some (.int a1), some (.int v1_2), some (.int v1_3)], [.int v1_3, .int a1, .int v1_2], (I, L, tw_P tw dr rt sc, A, J, 57))) rfl ?_
      refine tw_callE (cd := tw_c277) rfl rfl rfl rfl rfl (e_X10_hasBit I L A J tw dr rt sc a1 v1_3 _ rfl) (by exact Or.inl rfl) ?_
      obtain ⟨x6, hj7, h⟩ := tw_bindE h
      have K : tw_ME 277 (29, [some (.ref 44), some (.int a1), none, some (.int v1_3)], [.int x6, .int v1_2], (I, L, tw_P tw dr rt sc, A, J, 57)) out := by
        refine tw_blk (cd := tw_c277) rfl 4 (c1 := (4, [some (.ref 44), some (.int a1), some (.int (v1_2 + x6)), some (.int (v1_3 + (1 : Int32)))], [], (I, L, tw_P tw dr rt sc, A, J, 57))) rfl ?_
        exact ih (v1_2 + x6) (v1_3 + (1 : Int32)) _ h K
      by_cases hc5 : (g_X10_hasBit a1 v1_3) = true
      · rw [if_pos hc5] at hj7
        refine tw_br (cd := tw_c277) rfl rfl rfl (by exact if_neg (tw_b_t hc5)) ?_
        refine tw_blk (cd := tw_c277) rfl 9 (c1 := (24, [some (.ref 44), some (.int a1), some (.int v1_2), some (.int v1_3)], [.int (((26 : Int32) + ((4 : Int32) * v1_3)) + (3 : Int32)), .ref 47, .int v1_2], (I, L, tw_P tw dr rt sc, A, J, 57))) rfl ?_
        obtain ⟨x9, hx8, hj7⟩ := tw_bindE hj7
        refine tw_iald (cd := tw_c277) (N := 241) rfl rfl rfl rfl hx8 ?_
        refine tw_blk (cd := tw_c277) rfl 3 (c1 := (29, [some (.ref 44), some (.int a1), some (.int v1_2), some (.int v1_3)], [.int (x9 - (1 : Int32)), .int v1_2], (I, L, tw_P tw dr rt sc, A, J, 57))) rfl ?_
        refine tw_forget (ls2 := [some (.ref 44), some (.int a1), none, some (.int v1_3)]) ⟨rfl, rfl, rfl, trivial⟩ ?_
        have hj7s := Option.some.inj hj7
        subst hj7s
        exact K
      · rw [if_neg hc5] at hj7
        refine tw_br (cd := tw_c277) rfl rfl rfl (by exact if_pos (tw_b_f hc5)) ?_
        refine tw_blk (cd := tw_c277) rfl 1 (c1 := (29, [some (.ref 44), some (.int a1), some (.int v1_2), some (.int v1_3)], [.int 0, .int v1_2], (I, L, tw_P tw dr rt sc, A, J, 57))) rfl ?_
        refine tw_forget (ls2 := [some (.ref 44), some (.int a1), none, some (.int v1_3)]) ⟨rfl, rfl, rfl, trivial⟩ ?_
        have hj7s := Option.some.inj hj7
        subst hj7s
        exact K
theorem e_X10_priceOf (I : Nat → Int32) (L : Nat → Int64) (A : Nat → Nat → Int32) (J : Nat → Nat → Int64) (tw dr : Nat) (rt : Nat) (sc : Nat) (a1 : Int32) : ∀ r : Int32, g_X10_priceOf A a1 = some r → tw_ME 277 (0, [some (.ref 44), some (.int a1), none, none], [], (I, L, tw_P tw dr rt sc, A, J, 57)) (some (.int r), (I, L, tw_P tw dr rt sc, A, J, 57)) := by
  intro r h
  unfold g_X10_priceOf at h
  refine tw_blk (cd := tw_c277) rfl 4 (c1 := (4, [some (.ref 44), some (.int a1), some (.int 0), some (.int 0)], [], (I, L, tw_P tw dr rt sc, A, J, 57))) rfl ?_
  obtain ⟨x1, hx10, h⟩ := tw_bindE h
  refine g_X10_priceOf_L1_ok I L A J tw dr rt sc a1 _ 4096 (0 : Int32) (0 : Int32) _ hx10 ?_
  refine tw_blk (cd := tw_c277) rfl 1 (c1 := (34, [none, none, some (.int x1), none], [.int x1], (I, L, tw_P tw dr rt sc, A, J, 57))) rfl ?_
  have h := Option.some.inj h
  subst h
  exact tw_retE (cd := tw_c277) rfl rfl rfl rfl
theorem g_X10_stoppersOf_L1_ok (I : Nat → Int32) (L : Nat → Int64) (A : Nat → Nat → Int32) (J : Nat → Nat → Int64) (tw : Nat) (dr : Nat) (rt : Nat) (sc : Nat) (a1 : Int32) (out : Option Value × tw_S) : ∀ (n : Nat) (v1_3 : Int32) (v1_4 : Int32) (ex : Int32), g_X10_stoppersOf_L1 A a1 n v1_3 v1_4 = some ex → tw_ME 278 (49, [some (.ref 44), some (.int a1), some (.int ((80 : Int32) + ((5 : Int32) * a1))), some (.int ex), none, none, none], [], (I, L, tw_P tw dr rt sc, A, J, 57)) out → tw_ME 278 (10, [some (.ref 44), some (.int a1), some (.int ((80 : Int32) + ((5 : Int32) * a1))), some (.int v1_3), some (.int v1_4), none, none], [], (I, L, tw_P tw dr rt sc, A, J, 57)) out := by
  intro n
  induction n with
  | zero =>
    intro v1_3 v1_4 ex h _
    cases h
  | succ n ih =>
    intro v1_3 v1_4 ex h K
    rw [g_X10_stoppersOf_L1] at h
    refine tw_blk (cd := tw_c278) rfl 1 (c1 := (11, [some (.ref 44), some (.int a1), some (.int ((80 : Int32) + ((5 : Int32) * a1))), some (.int v1_3), some (.int v1_4), none, none], [.int v1_4], (I, L, tw_P tw dr rt sc, A, J, 57))) rfl ?_
    refine tw_blk (cd := tw_c278) rfl 3 (c1 := (14, [some (.ref 44), some (.int a1), some (.int ((80 : Int32) + ((5 : Int32) * a1))), some (.int v1_3), some (.int v1_4), none, none], [.int 3, .ref 47, .int v1_4], (I, L, tw_P tw dr rt sc, A, J, 57))) rfl ?_
    obtain ⟨x3, hx2, h⟩ := tw_bindE h
    refine tw_iald (cd := tw_c278) (N := 241) rfl rfl rfl rfl hx2 ?_
    by_cases hc4 : x3 ≤ v1_4
    · rw [if_pos hc4] at h
      refine tw_br (cd := tw_c278) rfl rfl rfl (by exact if_pos hc4) ?_
      refine tw_forget (ls2 := [some (.ref 44), some (.int a1), some (.int ((80 : Int32) + ((5 : Int32) * a1))), some (.int v1_3), none, none, none]) ⟨rfl, rfl, rfl, rfl, trivial⟩ ?_
      have h := Option.some.inj h
      subst h
      exact K
    · rw [if_neg hc4] at h
      refine tw_br (cd := tw_c278) rfl rfl rfl (by exact if_neg hc4) ?_
      refine tw_blk (cd := tw_c278) rfl 3 (c1 := (19, [some (.ref 44), some (.int a1), some (.int ((80 : Int32) + ((5 : Int32) * a1))), some (.int v1_3), some (.int v1_4), none, none], [.int v1_4, .ref 44, .int v1_3], (I, L, tw_P tw dr rt sc, A, J, 57))) rfl ?_
      obtain ⟨c5, hx6, h⟩ := tw_bindE h
      refine tw_callE (cd := tw_c278) rfl rfl rfl rfl rfl (e_X10_canHire I L A J tw dr rt sc v1_4 _ hx6) (by exact Or.inl rfl) ?_
      obtain ⟨x8, hj9, h⟩ := tw_bindE h
      have K : tw_ME 278 (45, [some (.ref 44), some (.int a1), some (.int ((80 : Int32) + ((5 : Int32) * a1))), none, some (.int v1_4), none, none], [.int x8, .int v1_3], (I, L, tw_P tw dr rt sc, A, J, 57)) out := by
        refine tw_blk (cd := tw_c278) rfl 4 (c1 := (10, [some (.ref 44), some (.int a1), some (.int ((80 : Int32) + ((5 : Int32) * a1))), some (.int (v1_3 ||| x8)), some (.int (v1_4 + (1 : Int32))), none, none], [], (I, L, tw_P tw dr rt sc, A, J, 57))) rfl ?_
        exact ih (v1_3 ||| x8) (v1_4 + (1 : Int32)) _ h K
      by_cases hc7 : c5 = true
      · rw [if_pos hc7] at hj9
        refine tw_br (cd := tw_c278) rfl rfl rfl (by exact if_neg (tw_b_t hc7)) ?_
        refine tw_blk (cd := tw_c278) rfl 3 (c1 := (24, [some (.ref 44), some (.int a1), some (.int ((80 : Int32) + ((5 : Int32) * a1))), some (.int v1_3), some (.int v1_4), none, none], [.int v1_4, .ref 49, .int v1_3], (I, L, tw_P tw dr rt sc, A, J, 57))) rfl ?_
        obtain ⟨x11, hx10, hj9⟩ := tw_bindE hj9
        refine tw_iald (cd := tw_c278) (N := 8) rfl rfl rfl rfl hx10 ?_
        by_cases hc12 : x11 = 0
        · rw [if_pos hc12] at hj9
          refine tw_br (cd := tw_c278) rfl rfl rfl (by exact if_pos hc12) ?_
          refine tw_blk (cd := tw_c278) rfl 4 (c1 := (30, [some (.ref 44), some (.int a1), some (.int ((80 : Int32) + ((5 : Int32) * a1))), some (.int v1_3), some (.int v1_4), none, none], [.int ((80 : Int32) + ((5 : Int32) * a1)), .ref 47, .int v1_4, .int v1_3], (I, L, tw_P tw dr rt sc, A, J, 57))) rfl ?_
          obtain ⟨x14, hx13, hj9⟩ := tw_bindE hj9
          refine tw_iald (cd := tw_c278) (N := 241) rfl rfl rfl rfl hx13 ?_
          by_cases hc15 : v1_4 = x14
          · rw [if_pos hc15] at hj9
            refine tw_br (cd := tw_c278) rfl rfl rfl (by exact if_pos hc15) ?_
            refine tw_blk (cd := tw_c278) rfl 1 (c1 := (45, [some (.ref 44), some (.int a1), some (.int ((80 : Int32) + ((5 : Int32) * a1))), some (.int v1_3), some (.int v1_4), none, none], [.int 0, .int v1_3], (I, L, tw_P tw dr rt sc, A, J, 57))) rfl ?_
            refine tw_forget (ls2 := [some (.ref 44), some (.int a1), some (.int ((80 : Int32) + ((5 : Int32) * a1))), none, some (.int v1_4), none, none]) ⟨rfl, rfl, rfl, rfl, trivial⟩ ?_
            have hj9s := Option.some.inj hj9
            subst hj9s
            exact K
          · rw [if_neg hc15] at hj9
            refine tw_br (cd := tw_c278) rfl rfl rfl (by exact if_neg hc15) ?_
            refine tw_blk (cd := tw_c278) rfl 6 (c1 := (38, [some (.ref 44), some (.int a1), some (.int ((80 : Int32) + ((5 : Int32) * a1))), some (.int v1_3), some (.int v1_4), none, none], [.int (((80 : Int32) + ((5 : Int32) * a1)) + (1 : Int32)), .ref 47, .int v1_4, .int v1_3], (I, L, tw_P tw dr rt sc, A, J, 57))) rfl ?_
            obtain ⟨x17, hx16, hj9⟩ := tw_bindE hj9
            refine tw_iald (cd := tw_c278) (N := 241) rfl rfl rfl rfl hx16 ?_
            by_cases hc18 : v1_4 = x17
            · rw [if_pos hc18] at hj9
              refine tw_br (cd := tw_c278) rfl rfl rfl (by exact if_pos hc18) ?_
              refine tw_blk (cd := tw_c278) rfl 1 (c1 := (45, [some (.ref 44), some (.int a1), some (.int ((80 : Int32) + ((5 : Int32) * a1))), some (.int v1_3), some (.int v1_4), none, none], [.int 0, .int v1_3], (I, L, tw_P tw dr rt sc, A, J, 57))) rfl ?_
              refine tw_forget (ls2 := [some (.ref 44), some (.int a1), some (.int ((80 : Int32) + ((5 : Int32) * a1))), none, some (.int v1_4), none, none]) ⟨rfl, rfl, rfl, rfl, trivial⟩ ?_
              have hj9s := Option.some.inj hj9
              subst hj9s
              exact K
            · rw [if_neg hc18] at hj9
              refine tw_br (cd := tw_c278) rfl rfl rfl (by exact if_neg hc18) ?_
              refine tw_blk (cd := tw_c278) rfl 4 (c1 := (45, [some (.ref 44), some (.int a1), some (.int ((80 : Int32) + ((5 : Int32) * a1))), some (.int v1_3), some (.int v1_4), none, none], [.int ((1 : Int32) <<< (v1_4 &&& 31)), .int v1_3], (I, L, tw_P tw dr rt sc, A, J, 57))) rfl ?_
              refine tw_forget (ls2 := [some (.ref 44), some (.int a1), some (.int ((80 : Int32) + ((5 : Int32) * a1))), none, some (.int v1_4), none, none]) ⟨rfl, rfl, rfl, rfl, trivial⟩ ?_
              have hj9s := Option.some.inj hj9
              subst hj9s
              exact K
        · rw [if_neg hc12] at hj9
          refine tw_br (cd := tw_c278) rfl rfl rfl (by exact if_neg hc12) ?_
          refine tw_blk (cd := tw_c278) rfl 1 (c1 := (45, [some (.ref 44), some (.int a1), some (.int ((80 : Int32) + ((5 : Int32) * a1))), some (.int v1_3), some (.int v1_4), none, none], [.int 0, .int v1_3], (I, L, tw_P tw dr rt sc, A, J, 57))) rfl ?_
          refine tw_forget (ls2 := [some (.ref 44), some (.int a1), some (.int ((80 : Int32) + ((5 : Int32) * a1))), none, some (.int v1_4), none, none]) ⟨rfl, rfl, rfl, rfl, trivial⟩ ?_
          have hj9s := Option.some.inj hj9
          subst hj9s
          exact K
      · rw [if_neg hc7] at hj9
        refine tw_br (cd := tw_c278) rfl rfl rfl (by exact if_pos (tw_b_f hc7)) ?_
        refine tw_blk (cd := tw_c278) rfl 1 (c1 := (45, [some (.ref 44), some (.int a1), some (.int ((80 : Int32) + ((5 : Int32) * a1))), some (.int v1_3), some (.int v1_4), none, none], [.int 0, .int v1_3], (I, L, tw_P tw dr rt sc, A, J, 57))) rfl ?_
        refine tw_forget (ls2 := [some (.ref 44), some (.int a1), some (.int ((80 : Int32) + ((5 : Int32) * a1))), none, some (.int v1_4), none, none]) ⟨rfl, rfl, rfl, rfl, trivial⟩ ?_
        have hj9s := Option.some.inj hj9
        subst hj9s
        exact K
theorem g_X10_stoppersOf_L3_ok (I : Nat → Int32) (L : Nat → Int64) (A : Nat → Nat → Int32) (J : Nat → Nat → Int64) (tw : Nat) (dr : Nat) (rt : Nat) (sc : Nat) (a1 : Int32) (x1 : Int32) (v2_4 : Int32) (v2_5 : Int32) (I_2 : Nat → Int32) (A_2 : Nat → Nat → Int32) (x23 : Int32) (A31 : Nat → Nat → Int32) (out : Option Value × tw_S) : ∀ (n : Nat) (v3_6 : Int32) (A_3 : Nat → Nat → Int32) (ex : Nat → Nat → Int32), g_X10_stoppersOf_L3 a1 v2_5 n v3_6 A_3 = some ex → tw_ME 278 (105, [some (.ref 44), some (.int a1), some (.int ((80 : Int32) + ((5 : Int32) * a1))), some (.int x1), some (.int v2_4), some (.int v2_5), none], [], (I_2, L, tw_P tw dr rt sc, ex, J, 57)) out → tw_ME 278 (81, [some (.ref 44), some (.int a1), some (.int ((80 : Int32) + ((5 : Int32) * a1))), some (.int x1), some (.int v2_4), some (.int v2_5), some (.int v3_6)], [], (I_2, L, tw_P tw dr rt sc, A_3, J, 57)) out := by
  intro n
  induction n with
  | zero =>
    intro v3_6 A_3 ex h _
    cases h
  | succ n ih =>
    intro v3_6 A_3 ex h K
    rw [g_X10_stoppersOf_L3] at h
    refine tw_blk (cd := tw_c278) rfl 1 (c1 := (82, [some (.ref 44), some (.int a1), some (.int ((80 : Int32) + ((5 : Int32) * a1))), some (.int x1), some (.int v2_4), some (.int v2_5), some (.int v3_6)], [.int v3_6], (I_2, L, tw_P tw dr rt sc, A_3, J, 57))) rfl ?_
    refine tw_blk (cd := tw_c278) rfl 3 (c1 := (85, [some (.ref 44), some (.int a1), some (.int ((80 : Int32) + ((5 : Int32) * a1))), some (.int x1), some (.int v2_4), some (.int v2_5), some (.int v3_6)], [.int 3, .ref 47, .int v3_6], (I_2, L, tw_P tw dr rt sc, A_3, J, 57))) rfl ?_
    obtain ⟨x35, hx34, h⟩ := tw_bindE h
    refine tw_iald (cd := tw_c278) (N := 241) rfl rfl rfl rfl hx34 ?_
    by_cases hc36 : x35 ≤ v3_6
    · rw [if_pos hc36] at h
      refine tw_br (cd := tw_c278) rfl rfl rfl (by exact if_pos hc36) ?_
      refine tw_forget (ls2 := [some (.ref 44), some (.int a1), some (.int ((80 : Int32) + ((5 : Int32) * a1))), some (.int x1), some (.int v2_4), some (.int v2_5), none]) ⟨rfl, rfl, rfl, rfl, rfl, rfl, trivial⟩ ?_
      have h := Option.some.inj h
      subst h
      exact K
    · rw [if_neg hc36] at h
      refine tw_br (cd := tw_c278) rfl rfl rfl (by exact if_neg hc36) ?_
      refine tw_blk (cd := tw_c278) rfl 2 (c1 := (89, [some (.ref 44), some (.int a1), some (.int ((80 : Int32) + ((5 : Int32) * a1))), some (.int x1), some (.int v2_4), some (.int v2_5), some (.int v3_6)], [.int v3_6, .int v2_5], (I_2, L, tw_P tw dr rt sc, A_3, J, 57))) rfl ?_
      refine tw_callE (cd := tw_c278) rfl rfl rfl rfl rfl (e_X10_hasBit I_2 L A_3 J tw dr rt sc v2_5 v3_6 _ rfl) (by exact Or.inl rfl) ?_
      obtain ⟨A38, hj39, h⟩ := tw_bindE h
      have K : tw_ME 278 (103, [some (.ref 44), some (.int a1), some (.int ((80 : Int32) + ((5 : Int32) * a1))), some (.int x1), some (.int v2_4), some (.int v2_5), some (.int v3_6)], [], (I_2, L, tw_P tw dr rt sc, A38, J, 57)) out := by
        refine tw_blk (cd := tw_c278) rfl 2 (c1 := (81, [some (.ref 44), some (.int a1), some (.int ((80 : Int32) + ((5 : Int32) * a1))), some (.int x1), some (.int v2_4), some (.int v2_5), some (.int (v3_6 + (1 : Int32)))], [], (I_2, L, tw_P tw dr rt sc, A38, J, 57))) rfl ?_
        exact ih (v3_6 + (1 : Int32)) A38 _ h K
      by_cases hc37 : (g_X10_hasBit v2_5 v3_6) = true
      · rw [if_pos hc37] at hj39
        refine tw_br (cd := tw_c278) rfl rfl rfl (by exact if_neg (tw_b_t hc37)) ?_
        refine tw_blk (cd := tw_c278) rfl 8 (c1 := (99, [some (.ref 44), some (.int a1), some (.int ((80 : Int32) + ((5 : Int32) * a1))), some (.int x1), some (.int v2_4), some (.int v2_5), some (.int v3_6)], [.int (((80 : Int32) + ((5 : Int32) * a1)) + (2 : Int32)), .ref 47, .int v3_6, .ref 52], (I_2, L, tw_P tw dr rt sc, A_3, J, 57))) rfl ?_
        obtain ⟨x41, hx40, hj39⟩ := tw_bindE hj39
        refine tw_iald (cd := tw_c278) (N := 241) rfl rfl rfl rfl hx40 ?_
        refine tw_blk (cd := tw_c278) rfl 2 (c1 := (102, [some (.ref 44), some (.int a1), some (.int ((80 : Int32) + ((5 : Int32) * a1))), some (.int x1), some (.int v2_4), some (.int v2_5), some (.int v3_6)], [.int (x41 + (1 : Int32)), .int v3_6, .ref 52], (I_2, L, tw_P tw dr rt sc, A_3, J, 57))) rfl ?_
        obtain ⟨w43, hx42, hj39⟩ := tw_bindE hj39
        refine tw_iast (cd := tw_c278) (N := 8) rfl rfl rfl rfl hx42 ?_
        have hj39s := Option.some.inj hj39
        subst hj39s
        exact K
      · rw [if_neg hc37] at hj39
        refine tw_br (cd := tw_c278) rfl rfl rfl (by exact if_pos (tw_b_f hc37)) ?_
        have hj39s := Option.some.inj hj39
        subst hj39s
        exact K
theorem g_X10_stoppersOf_L4_ok (I : Nat → Int32) (L : Nat → Int64) (A : Nat → Nat → Int32) (J : Nat → Nat → Int64) (tw : Nat) (dr : Nat) (rt : Nat) (sc : Nat) (a1 : Int32) (x1 : Int32) (v2_4 : Int32) (v2_5 : Int32) (I_2 : Nat → Int32) (A_2 : Nat → Nat → Int32) (x23 : Int32) (x48 : Int32) (x50 : Int32) (A53 : Nat → Nat → Int32) (out : Option Value × tw_S) : ∀ (n : Nat) (v4_6 : Int32) (A_4 : Nat → Nat → Int32) (ex : Nat → Nat → Int32), g_X10_stoppersOf_L4 a1 v2_5 n v4_6 A_4 = some ex → tw_ME 278 (105, [some (.ref 44), some (.int a1), some (.int ((80 : Int32) + ((5 : Int32) * a1))), some (.int x1), some (.int v2_4), some (.int v2_5), none], [], (I_2, L, tw_P tw dr rt sc, ex, J, 57)) out → tw_ME 278 (81, [some (.ref 44), some (.int a1), some (.int ((80 : Int32) + ((5 : Int32) * a1))), some (.int x1), some (.int v2_4), some (.int v2_5), some (.int v4_6)], [], (I_2, L, tw_P tw dr rt sc, A_4, J, 57)) out := by
  intro n
  induction n with
  | zero =>
    intro v4_6 A_4 ex h _
    cases h
  | succ n ih =>
    intro v4_6 A_4 ex h K
    rw [g_X10_stoppersOf_L4] at h
    refine tw_blk (cd := tw_c278) rfl 1 (c1 := (82, [some (.ref 44), some (.int a1), some (.int ((80 : Int32) + ((5 : Int32) * a1))), some (.int x1), some (.int v2_4), some (.int v2_5), some (.int v4_6)], [.int v4_6], (I_2, L, tw_P tw dr rt sc, A_4, J, 57))) rfl ?_
    refine tw_blk (cd := tw_c278) rfl 3 (c1 := (85, [some (.ref 44), some (.int a1), some (.int ((80 : Int32) + ((5 : Int32) * a1))), some (.int x1), some (.int v2_4), some (.int v2_5), some (.int v4_6)], [.int 3, .ref 47, .int v4_6], (I_2, L, tw_P tw dr rt sc, A_4, J, 57))) rfl ?_
    obtain ⟨x57, hx56, h⟩ := tw_bindE h
    refine tw_iald (cd := tw_c278) (N := 241) rfl rfl rfl rfl hx56 ?_
    by_cases hc58 : x57 ≤ v4_6
    · rw [if_pos hc58] at h
      refine tw_br (cd := tw_c278) rfl rfl rfl (by exact if_pos hc58) ?_
      refine tw_forget (ls2 := [some (.ref 44), some (.int a1), some (.int ((80 : Int32) + ((5 : Int32) * a1))), some (.int x1), some (.int v2_4), some (.int v2_5), none]) ⟨rfl, rfl, rfl, rfl, rfl, rfl, trivial⟩ ?_
      have h := Option.some.inj h
      subst h
      exact K
    · rw [if_neg hc58] at h
      refine tw_br (cd := tw_c278) rfl rfl rfl (by exact if_neg hc58) ?_
      refine tw_blk (cd := tw_c278) rfl 2 (c1 := (89, [some (.ref 44), some (.int a1), some (.int ((80 : Int32) + ((5 : Int32) * a1))), some (.int x1), some (.int v2_4), some (.int v2_5), some (.int v4_6)], [.int v4_6, .int v2_5], (I_2, L, tw_P tw dr rt sc, A_4, J, 57))) rfl ?_
      refine tw_callE (cd := tw_c278) rfl rfl rfl rfl rfl (e_X10_hasBit I_2 L A_4 J tw dr rt sc v2_5 v4_6 _ rfl) (by exact Or.inl rfl) ?_
      obtain ⟨A60, hj61, h⟩ := tw_bindE h
      have K : tw_ME 278 (103, [some (.ref 44), some (.int a1), some (.int ((80 : Int32) + ((5 : Int32) * a1))), some (.int x1), some (.int v2_4), some (.int v2_5), some (.int v4_6)], [], (I_2, L, tw_P tw dr rt sc, A60, J, 57)) out := by
        refine tw_blk (cd := tw_c278) rfl 2 (c1 := (81, [some (.ref 44), some (.int a1), some (.int ((80 : Int32) + ((5 : Int32) * a1))), some (.int x1), some (.int v2_4), some (.int v2_5), some (.int (v4_6 + (1 : Int32)))], [], (I_2, L, tw_P tw dr rt sc, A60, J, 57))) rfl ?_
        exact ih (v4_6 + (1 : Int32)) A60 _ h K
      by_cases hc59 : (g_X10_hasBit v2_5 v4_6) = true
      · rw [if_pos hc59] at hj61
        refine tw_br (cd := tw_c278) rfl rfl rfl (by exact if_neg (tw_b_t hc59)) ?_
        refine tw_blk (cd := tw_c278) rfl 8 (c1 := (99, [some (.ref 44), some (.int a1), some (.int ((80 : Int32) + ((5 : Int32) * a1))), some (.int x1), some (.int v2_4), some (.int v2_5), some (.int v4_6)], [.int (((80 : Int32) + ((5 : Int32) * a1)) + (2 : Int32)), .ref 47, .int v4_6, .ref 52], (I_2, L, tw_P tw dr rt sc, A_4, J, 57))) rfl ?_
        obtain ⟨x63, hx62, hj61⟩ := tw_bindE hj61
        refine tw_iald (cd := tw_c278) (N := 241) rfl rfl rfl rfl hx62 ?_
        refine tw_blk (cd := tw_c278) rfl 2 (c1 := (102, [some (.ref 44), some (.int a1), some (.int ((80 : Int32) + ((5 : Int32) * a1))), some (.int x1), some (.int v2_4), some (.int v2_5), some (.int v4_6)], [.int (x63 + (1 : Int32)), .int v4_6, .ref 52], (I_2, L, tw_P tw dr rt sc, A_4, J, 57))) rfl ?_
        obtain ⟨w65, hx64, hj61⟩ := tw_bindE hj61
        refine tw_iast (cd := tw_c278) (N := 8) rfl rfl rfl rfl hx64 ?_
        have hj61s := Option.some.inj hj61
        subst hj61s
        exact K
      · rw [if_neg hc59] at hj61
        refine tw_br (cd := tw_c278) rfl rfl rfl (by exact if_pos (tw_b_f hc59)) ?_
        have hj61s := Option.some.inj hj61
        subst hj61s
        exact K
theorem g_X10_stoppersOf_L2_ok (I : Nat → Int32) (L : Nat → Int64) (A : Nat → Nat → Int32) (J : Nat → Nat → Int64) (tw : Nat) (dr : Nat) (rt : Nat) (sc : Nat) (a1 : Int32) (x1 : Int32) (out : Option Value × tw_S) : ∀ (n : Nat) (v2_4 : Int32) (v2_5 : Int32) (I_2 : Nat → Int32) (A_2 : Nat → Nat → Int32) (ex : (Int32 × (Nat → Int32) × (Nat → Nat → Int32))), g_X10_stoppersOf_L2 a1 x1 n v2_4 v2_5 I_2 A_2 = some ex → tw_ME 278 (115, [none, none, none, none, some (.int (ex.1)), none, none], [], ((ex.2.1), L, tw_P tw dr rt sc, (ex.2.2), J, 57)) out → tw_ME 278 (53, [some (.ref 44), some (.int a1), some (.int ((80 : Int32) + ((5 : Int32) * a1))), some (.int x1), some (.int v2_4), some (.int v2_5), none], [], (I_2, L, tw_P tw dr rt sc, A_2, J, 57)) out := by
  intro n
  induction n with
  | zero =>
    intro v2_4 v2_5 I_2 A_2 ex h _
    cases h
  | succ n ih =>
    intro v2_4 v2_5 I_2 A_2 ex h K
    rw [g_X10_stoppersOf_L2] at h
    refine tw_blk (cd := tw_c278) rfl 1 (c1 := (54, [some (.ref 44), some (.int a1), some (.int ((80 : Int32) + ((5 : Int32) * a1))), some (.int x1), some (.int v2_4), some (.int v2_5), none], [.int v2_5], (I_2, L, tw_P tw dr rt sc, A_2, J, 57))) rfl ?_
    refine tw_blk (cd := tw_c278) rfl 4 (c1 := (58, [some (.ref 44), some (.int a1), some (.int ((80 : Int32) + ((5 : Int32) * a1))), some (.int x1), some (.int v2_4), some (.int v2_5), none], [.int 3, .ref 47, .int 1, .int v2_5], (I_2, L, tw_P tw dr rt sc, A_2, J, 57))) rfl ?_
    obtain ⟨x23, hx22, h⟩ := tw_bindE h
    refine tw_iald (cd := tw_c278) (N := 241) rfl rfl rfl rfl hx22 ?_
    refine tw_blk (cd := tw_c278) rfl 1 (c1 := (60, [some (.ref 44), some (.int a1), some (.int ((80 : Int32) + ((5 : Int32) * a1))), some (.int x1), some (.int v2_4), some (.int v2_5), none], [.int ((1 : Int32) <<< (x23 &&& 31)), .int v2_5], (I_2, L, tw_P tw dr rt sc, A_2, J, 57))) rfl ?_
    by_cases hc24 : ((1 : Int32) <<< (x23 &&& 31)) ≤ v2_5
    · rw [if_pos hc24] at h
      refine tw_br (cd := tw_c278) rfl rfl rfl (by exact if_pos hc24) ?_
      refine tw_forget (ls2 := [none, none, none, none, some (.int v2_4), none, none]) ⟨rfl, trivial⟩ ?_
      have h := Option.some.inj h
      subst h
      exact K
    · rw [if_neg hc24] at h
      refine tw_br (cd := tw_c278) rfl rfl rfl (by exact if_neg hc24) ?_
      refine tw_blk (cd := tw_c278) rfl 5 (c1 := (66, [some (.ref 44), some (.int a1), some (.int ((80 : Int32) + ((5 : Int32) * a1))), some (.int x1), some (.int v2_4), some (.int v2_5), none], [.int (v2_5 &&& (x1 ^^^ (-1 : Int32)))], (I_2, L, tw_P tw dr rt sc, A_2, J, 57))) rfl ?_
      obtain ⟨⟨x26, I27, A28⟩, hj29, h⟩ := tw_bindE h
      dsimp only at h
      have K : tw_ME 278 (113, [some (.ref 44), some (.int a1), some (.int ((80 : Int32) + ((5 : Int32) * a1))), some (.int x1), some (.int x26), some (.int v2_5), none], [], (I27, L, tw_P tw dr rt sc, A28, J, 57)) out := by
        refine tw_blk (cd := tw_c278) rfl 2 (c1 := (53, [some (.ref 44), some (.int a1), some (.int ((80 : Int32) + ((5 : Int32) * a1))), some (.int x1), some (.int x26), some (.int (v2_5 + (1 : Int32))), none], [], (I27, L, tw_P tw dr rt sc, A28, J, 57))) rfl ?_
        exact ih x26 (v2_5 + (1 : Int32)) I27 A28 _ h K
      by_cases hc25 : (v2_5 &&& (x1 ^^^ (-1 : Int32))) = 0
      · rw [if_pos hc25] at hj29
        refine tw_br (cd := tw_c278) rfl rfl rfl (by exact if_pos hc25) ?_
        refine tw_blk (cd := tw_c278) rfl 1 (c1 := (68, [some (.ref 44), some (.int a1), some (.int ((80 : Int32) + ((5 : Int32) * a1))), some (.int x1), some (.int v2_4), some (.int v2_5), none], [.int v2_4], (I_2, L, tw_P tw dr rt sc, A_2, J, 57))) rfl ?_
        by_cases hc30 : v2_4 < 0
        · rw [if_pos hc30] at hj29
          refine tw_br (cd := tw_c278) rfl rfl rfl (by exact if_pos hc30) ?_
          refine tw_blk (cd := tw_c278) rfl 1 (c1 := (78, [some (.ref 44), some (.int a1), some (.int ((80 : Int32) + ((5 : Int32) * a1))), some (.int x1), some (.int v2_4), some (.int v2_5), none], [.ref 44], (I_2, L, tw_P tw dr rt sc, A_2, J, 57))) rfl ?_
          obtain ⟨A31, hx32, hj29⟩ := tw_bindE hj29
          refine tw_callE (cd := tw_c278) rfl rfl rfl rfl rfl (e_X10_asNow I_2 L A_2 J tw dr rt sc _ hx32) (by exact Or.inl rfl) ?_
          refine tw_blk (cd := tw_c278) rfl 2 (c1 := (81, [some (.ref 44), some (.int a1), some (.int ((80 : Int32) + ((5 : Int32) * a1))), some (.int x1), some (.int v2_4), some (.int v2_5), some (.int 0)], [], (I_2, L, tw_P tw dr rt sc, A31, J, 57))) rfl ?_
          obtain ⟨A33, hx47, hj29⟩ := tw_bindE hj29
          refine g_X10_stoppersOf_L3_ok I L A J tw dr rt sc a1 x1 v2_4 v2_5 I_2 A_2 x23 A31 _ 4096 (0 : Int32) A31 _ hx47 ?_
          refine tw_blk (cd := tw_c278) rfl 2 (c1 := (107, [some (.ref 44), some (.int a1), some (.int ((80 : Int32) + ((5 : Int32) * a1))), some (.int x1), some (.int v2_4), some (.int v2_5), none], [.int a1, .ref 44], (I_2, L, tw_P tw dr rt sc, A33, J, 57))) rfl ?_
          obtain ⟨I44, hx45, hj29⟩ := tw_bindE hj29
          refine tw_callE (cd := tw_c278) rfl rfl rfl rfl rfl (e_X10_runTold I_2 L A33 J tw dr rt sc a1 _ hx45) (by exact Or.inl rfl) ?_
          refine tw_blk (cd := tw_c278) rfl 2 (c1 := (110, [some (.ref 44), some (.int a1), some (.int ((80 : Int32) + ((5 : Int32) * a1))), some (.int x1), some (.int v2_4), some (.int v2_5), none], [.int (I44 4425)], (I44, L, tw_P tw dr rt sc, A33, J, 57))) rfl ?_
          by_cases hc46 : (I44 4425) = 0
          · rw [if_pos hc46] at hj29
            refine tw_br (cd := tw_c278) rfl rfl rfl (by exact if_pos hc46) ?_
            refine tw_blk (cd := tw_c278) rfl 2 (c1 := (113, [some (.ref 44), some (.int a1), some (.int ((80 : Int32) + ((5 : Int32) * a1))), some (.int x1), some (.int v2_5), some (.int v2_5), none], [], (I44, L, tw_P tw dr rt sc, A33, J, 57))) rfl ?_
            have hj29s := Option.some.inj hj29
            obtain ⟨hj29_0, hj29r0⟩ := Prod.mk.inj hj29s
            obtain ⟨hj29_1, hj29r1⟩ := Prod.mk.inj hj29r0
            subst hj29_0
            subst hj29_1
            subst hj29r1
            exact K
          · rw [if_neg hc46] at hj29
            refine tw_br (cd := tw_c278) rfl rfl rfl (by exact if_neg hc46) ?_
            have hj29s := Option.some.inj hj29
            obtain ⟨hj29_0, hj29r0⟩ := Prod.mk.inj hj29s
            obtain ⟨hj29_1, hj29r1⟩ := Prod.mk.inj hj29r0
            subst hj29_0
            subst hj29_1
            subst hj29r1
            exact K
        · rw [if_neg hc30] at hj29
          refine tw_br (cd := tw_c278) rfl rfl rfl (by exact if_neg hc30) ?_
          refine tw_blk (cd := tw_c278) rfl 2 (c1 := (71, [some (.ref 44), some (.int a1), some (.int ((80 : Int32) + ((5 : Int32) * a1))), some (.int x1), some (.int v2_4), some (.int v2_5), none], [.int v2_5, .ref 44], (I_2, L, tw_P tw dr rt sc, A_2, J, 57))) rfl ?_
          obtain ⟨x48, hx49, hj29⟩ := tw_bindE hj29
          refine tw_callE (cd := tw_c278) rfl rfl rfl rfl rfl (e_X10_priceOf I_2 L A_2 J tw dr rt sc v2_5 _ hx49) (by exact Or.inl rfl) ?_
          refine tw_blk (cd := tw_c278) rfl 2 (c1 := (74, [some (.ref 44), some (.int a1), some (.int ((80 : Int32) + ((5 : Int32) * a1))), some (.int x1), some (.int v2_4), some (.int v2_5), none], [.int v2_4, .ref 44, .int x48], (I_2, L, tw_P tw dr rt sc, A_2, J, 57))) rfl ?_
          obtain ⟨x50, hx51, hj29⟩ := tw_bindE hj29
          refine tw_callE (cd := tw_c278) rfl rfl rfl rfl rfl (e_X10_priceOf I_2 L A_2 J tw dr rt sc v2_4 _ hx51) (by exact Or.inl rfl) ?_
          by_cases hc52 : x48 < x50
          · rw [if_pos hc52] at hj29
            refine tw_br (cd := tw_c278) rfl rfl rfl (by exact if_pos hc52) ?_
            refine tw_blk (cd := tw_c278) rfl 1 (c1 := (78, [some (.ref 44), some (.int a1), some (.int ((80 : Int32) + ((5 : Int32) * a1))), some (.int x1), some (.int v2_4), some (.int v2_5), none], [.ref 44], (I_2, L, tw_P tw dr rt sc, A_2, J, 57))) rfl ?_
            obtain ⟨A53, hx54, hj29⟩ := tw_bindE hj29
            refine tw_callE (cd := tw_c278) rfl rfl rfl rfl rfl (e_X10_asNow I_2 L A_2 J tw dr rt sc _ hx54) (by exact Or.inl rfl) ?_
            refine tw_blk (cd := tw_c278) rfl 2 (c1 := (81, [some (.ref 44), some (.int a1), some (.int ((80 : Int32) + ((5 : Int32) * a1))), some (.int x1), some (.int v2_4), some (.int v2_5), some (.int 0)], [], (I_2, L, tw_P tw dr rt sc, A53, J, 57))) rfl ?_
            obtain ⟨A55, hx69, hj29⟩ := tw_bindE hj29
            refine g_X10_stoppersOf_L4_ok I L A J tw dr rt sc a1 x1 v2_4 v2_5 I_2 A_2 x23 x48 x50 A53 _ 4096 (0 : Int32) A53 _ hx69 ?_
            refine tw_blk (cd := tw_c278) rfl 2 (c1 := (107, [some (.ref 44), some (.int a1), some (.int ((80 : Int32) + ((5 : Int32) * a1))), some (.int x1), some (.int v2_4), some (.int v2_5), none], [.int a1, .ref 44], (I_2, L, tw_P tw dr rt sc, A55, J, 57))) rfl ?_
            obtain ⟨I66, hx67, hj29⟩ := tw_bindE hj29
            refine tw_callE (cd := tw_c278) rfl rfl rfl rfl rfl (e_X10_runTold I_2 L A55 J tw dr rt sc a1 _ hx67) (by exact Or.inl rfl) ?_
            refine tw_blk (cd := tw_c278) rfl 2 (c1 := (110, [some (.ref 44), some (.int a1), some (.int ((80 : Int32) + ((5 : Int32) * a1))), some (.int x1), some (.int v2_4), some (.int v2_5), none], [.int (I66 4425)], (I66, L, tw_P tw dr rt sc, A55, J, 57))) rfl ?_
            by_cases hc68 : (I66 4425) = 0
            · rw [if_pos hc68] at hj29
              refine tw_br (cd := tw_c278) rfl rfl rfl (by exact if_pos hc68) ?_
              refine tw_blk (cd := tw_c278) rfl 2 (c1 := (113, [some (.ref 44), some (.int a1), some (.int ((80 : Int32) + ((5 : Int32) * a1))), some (.int x1), some (.int v2_5), some (.int v2_5), none], [], (I66, L, tw_P tw dr rt sc, A55, J, 57))) rfl ?_
              have hj29s := Option.some.inj hj29
              obtain ⟨hj29_0, hj29r0⟩ := Prod.mk.inj hj29s
              obtain ⟨hj29_1, hj29r1⟩ := Prod.mk.inj hj29r0
              subst hj29_0
              subst hj29_1
              subst hj29r1
              exact K
            · rw [if_neg hc68] at hj29
              refine tw_br (cd := tw_c278) rfl rfl rfl (by exact if_neg hc68) ?_
              have hj29s := Option.some.inj hj29
              obtain ⟨hj29_0, hj29r0⟩ := Prod.mk.inj hj29s
              obtain ⟨hj29_1, hj29r1⟩ := Prod.mk.inj hj29r0
              subst hj29_0
              subst hj29_1
              subst hj29r1
              exact K
          · rw [if_neg hc52] at hj29
            refine tw_br (cd := tw_c278) rfl rfl rfl (by exact if_neg hc52) ?_
            refine tw_blk (cd := tw_c278) rfl 1 (c1 := (113, [some (.ref 44), some (.int a1), some (.int ((80 : Int32) + ((5 : Int32) * a1))), some (.int x1), some (.int v2_4), some (.int v2_5), none], [], (I_2, L, tw_P tw dr rt sc, A_2, J, 57))) rfl ?_
            have hj29s := Option.some.inj hj29
            obtain ⟨hj29_0, hj29r0⟩ := Prod.mk.inj hj29s
            obtain ⟨hj29_1, hj29r1⟩ := Prod.mk.inj hj29r0
            subst hj29_0
            subst hj29_1
            subst hj29r1
            exact K
      · rw [if_neg hc25] at hj29
        refine tw_br (cd := tw_c278) rfl rfl rfl (by exact if_neg hc25) ?_
        have hj29s := Option.some.inj hj29
        obtain ⟨hj29_0, hj29r0⟩ := Prod.mk.inj hj29s
        obtain ⟨hj29_1, hj29r1⟩ := Prod.mk.inj hj29r0
        subst hj29_0
        subst hj29_1
        subst hj29r1
        exact K
theorem e_X10_stoppersOf (I : Nat → Int32) (L : Nat → Int64) (A : Nat → Nat → Int32) (J : Nat → Nat → Int64) (tw dr : Nat) (rt : Nat) (sc : Nat) (a1 : Int32) : ∀ r : (Int32 × (Nat → Int32) × (Nat → Nat → Int32)), g_X10_stoppersOf I A a1 = some r → tw_ME 278 (0, [some (.ref 44), some (.int a1), none, none, none, none, none], [], (I, L, tw_P tw dr rt sc, A, J, 57)) (some (.int r.1), ((r.2.1), L, tw_P tw dr rt sc, (r.2.2), J, 57)) := by
  intro r h
  unfold g_X10_stoppersOf at h
  refine tw_blk (cd := tw_c278) rfl 10 (c1 := (10, [some (.ref 44), some (.int a1), some (.int ((80 : Int32) + ((5 : Int32) * a1))), some (.int 0), some (.int 0), none, none], [], (I, L, tw_P tw dr rt sc, A, J, 57))) rfl ?_
  obtain ⟨x1, hx71, h⟩ := tw_bindE h
  refine g_X10_stoppersOf_L1_ok I L A J tw dr rt sc a1 _ 4096 (0 : Int32) (0 : Int32) _ hx71 ?_
  refine tw_blk (cd := tw_c278) rfl 4 (c1 := (53, [some (.ref 44), some (.int a1), some (.int ((80 : Int32) + ((5 : Int32) * a1))), some (.int x1), some (.int (-2)), some (.int 0), none], [], (I, L, tw_P tw dr rt sc, A, J, 57))) rfl ?_
  obtain ⟨⟨x19, I20, A21⟩, hx70, h⟩ := tw_bindE h
  dsimp only at h
  refine g_X10_stoppersOf_L2_ok I L A J tw dr rt sc a1 x1 _ 4096 (-2 : Int32) (0 : Int32) I A _ hx70 ?_
  refine tw_blk (cd := tw_c278) rfl 1 (c1 := (116, [none, none, none, none, some (.int x19), none, none], [.int x19], (I20, L, tw_P tw dr rt sc, A21, J, 57))) rfl ?_
  have h := Option.some.inj h
  subst h
  exact tw_retE (cd := tw_c278) rfl rfl rfl rfl
theorem e_X10_stoppers (I : Nat → Int32) (L : Nat → Int64) (A : Nat → Nat → Int32) (J : Nat → Nat → Int64) (tw dr : Nat) (rt : Nat) (sc : Nat) (a1 : Int32) : ∀ r : (Int32 × (Nat → Int32) × (Nat → Nat → Int32)), g_X10_stoppers I A a1 = some r → tw_ME 279 (0, [some (.ref 44), some (.int a1)], [], (I, L, tw_P tw dr rt sc, A, J, 57)) (some (.int r.1), ((r.2.1), L, tw_P tw dr rt sc, (r.2.2), J, 57)) := by
  intro r h
  unfold g_X10_stoppers at h
  refine tw_blk (cd := tw_c279) rfl 1 (c1 := (1, [some (.ref 44), some (.int a1)], [.ref 44], (I, L, tw_P tw dr rt sc, A, J, 57))) rfl ?_
  obtain ⟨I1, hx2, h⟩ := tw_letE h
  refine tw_callE (cd := tw_c279) rfl rfl rfl rfl rfl (e_X10_good I L A J tw dr rt sc _ hx2) (by exact Or.inl rfl) ?_
  refine tw_blk (cd := tw_c279) rfl 2 (c1 := (4, [some (.ref 44), some (.int a1)], [.int a1, .ref 44], (I1, L, tw_P tw dr rt sc, A, J, 57))) rfl ?_
  obtain ⟨c3, hx4, h⟩ := tw_bindE h
  refine tw_callE (cd := tw_c279) rfl rfl rfl rfl rfl (e_X10_isQuarrel I1 L A J tw dr rt sc a1 _ hx4) (by exact Or.inl rfl) ?_
  by_cases hc5 : c3 = true
  · rw [if_pos hc5] at h
    refine tw_br (cd := tw_c279) rfl rfl rfl (by exact if_neg (tw_b_t hc5)) ?_
    refine tw_blk (cd := tw_c279) rfl 2 (c1 := (8, [some (.ref 44), some (.int a1)], [.int a1, .ref 44], (I1, L, tw_P tw dr rt sc, A, J, 57))) rfl ?_
    obtain ⟨⟨x6, I7, A8⟩, hx9, h⟩ := tw_bindE h
    dsimp only at h
    refine tw_callE (cd := tw_c279) rfl rfl rfl rfl rfl (e_X10_stoppersOf I1 L A J tw dr rt sc a1 _ hx9) (by exact Or.inl rfl) ?_
    refine tw_blk (cd := tw_c279) rfl 1 (c1 := (13, [some (.ref 44), some (.int a1)], [.int x6], (I7, L, tw_P tw dr rt sc, A8, J, 57))) rfl ?_
    have h := Option.some.inj h
    subst h
    exact tw_retE (cd := tw_c279) rfl rfl rfl rfl
  · rw [if_neg hc5] at h
    refine tw_br (cd := tw_c279) rfl rfl rfl (by exact if_pos (tw_b_f hc5)) ?_
    refine tw_blk (cd := tw_c279) rfl 2 (c1 := (12, [some (.ref 44), some (.int a1)], [.int 1, .ref 44], (I1, L, tw_P tw dr rt sc, A, J, 57))) rfl ?_
    obtain ⟨⟨x10, I11⟩, hx12, h⟩ := tw_letE h
    dsimp only at h
    refine tw_callE (cd := tw_c279) rfl rfl rfl rfl rfl (e_X10_no I1 L A J tw dr rt sc (1 : Int32) _ hx12) (by exact Or.inl rfl) ?_
    have h := Option.some.inj h
    subst h
    exact tw_retE (cd := tw_c279) rfl rfl rfl rfl
theorem e_X9_price (I : Nat → Int32) (L : Nat → Int64) (A : Nat → Nat → Int32) (J : Nat → Nat → Int64) (rt : Nat) (sc : Nat) (a1 : Int32) : ∀ r : (Int32 × (Nat → Int32) × (Nat → Nat → Int32) × Nat), g_X9_price I A sc a1 = some r → tw_ME 140 (0, [some (.ref 0), some (.int a1), none], [], (I, L, tw_P 2 14 rt sc, A, J, 57)) (some (.int r.1), ((r.2.1), L, tw_P 2 14 rt (r.2.2.2), (r.2.2.1), J, 57)) := by
  intro r h
  unfold g_X9_price at h
  refine tw_blk (cd := tw_c140) rfl 2 (c1 := (2, [some (.ref 0), some (.int a1), none], [.int a1, .ref 0], (I, L, tw_P 2 14 rt sc, A, J, 57))) rfl ?_
  refine tw_callE (cd := tw_c140) rfl rfl rfl rfl rfl (e_X9_isQuarrel I L A J rt sc a1 _ rfl) (by exact Or.inl rfl) ?_
  by_cases hc1 : (g_X9_isQuarrel A a1) = true
  · rw [if_pos hc1] at h
    refine tw_br (cd := tw_c140) rfl rfl rfl (by exact if_neg (tw_b_t hc1)) ?_
    refine tw_blk (cd := tw_c140) rfl 1 (c1 := (9, [some (.ref 0), some (.int a1), none], [.ref 0], (I, L, tw_P 2 14 rt sc, A, J, 57))) rfl ?_
    obtain ⟨⟨I2, A3⟩, hx4, h⟩ := tw_bindE h
    dsimp only at h
    refine tw_callE (cd := tw_c140) rfl rfl rfl rfl rfl (e_X9_showNow I L A J rt sc _ hx4) (by exact Or.inl rfl) ?_
    refine tw_blk (cd := tw_c140) rfl 3 (c1 := (13, [some (.ref 0), some (.int a1), none], [.int a1, .ref 41], (I2, L, tw_P 2 14 rt 2, A3, J, 57))) rfl ?_
    obtain ⟨⟨x5, I6, A7⟩, hx8, h⟩ := tw_bindE h
    dsimp only at h
    refine tw_callE (cd := tw_c140) rfl rfl rfl rfl rfl (e_X3_cheapestStoppers I2 L A3 J 2 14 rt a1 _ hx8) (by exact Or.inl rfl) ?_
    refine tw_blk (cd := tw_c140) rfl 4 (c1 := (18, [some (.ref 0), some (.int a1), some (.int x5)], [.int (-2), .int x5, .ref 0], (I6, L, tw_P 2 14 rt 2, A7, J, 57))) rfl ?_
    obtain ⟨x10, hj11, h⟩ := tw_bindE h
    have K : tw_ME 140 (25, [none, none, none], [.int x10, .ref 0], (I6, L, tw_P 2 14 rt 2, A7, J, 57)) (some (.int r.1), ((r.2.1), L, tw_P 2 14 rt (r.2.2.2), (r.2.2.1), J, 57)) := by
      obtain ⟨⟨x14, I15⟩, hx16, h⟩ := tw_letE h
      dsimp only at h
      refine tw_callE (cd := tw_c140) rfl rfl rfl rfl rfl (e_X9_grant I6 L A7 J 2 14 rt 2 x10 _ hx16) (by exact Or.inl rfl) ?_
      have h := Option.some.inj h
      subst h
      exact tw_retE (cd := tw_c140) rfl rfl rfl rfl
    by_cases hc9 : x5 = (-2 : Int32)
    · rw [if_pos hc9] at hj11
      refine tw_br (cd := tw_c140) rfl rfl rfl (by exact if_pos hc9) ?_
      refine tw_blk (cd := tw_c140) rfl 2 (c1 := (25, [some (.ref 0), some (.int a1), some (.int x5)], [.int (-2), .ref 0], (I6, L, tw_P 2 14 rt 2, A7, J, 57))) rfl ?_
      refine tw_forget (ls2 := [none, none, none]) trivial ?_
      have hj11s := Option.some.inj hj11
      subst hj11s
      exact K
    · rw [if_neg hc9] at hj11
      refine tw_br (cd := tw_c140) rfl rfl rfl (by exact if_neg hc9) ?_
      refine tw_blk (cd := tw_c140) rfl 3 (c1 := (24, [some (.ref 0), some (.int a1), some (.int x5)], [.int x5, .ref 2, .ref 0], (I6, L, tw_P 2 14 rt 2, A7, J, 57))) rfl ?_
      obtain ⟨x12, hx13, hj11⟩ := tw_bindE hj11
      refine tw_callE (cd := tw_c140) rfl rfl rfl rfl rfl (e_X8_priceOf_2 I6 L A7 J 2 14 rt 2 x5 _ hx13) (by exact Or.inl rfl) ?_
      refine tw_forget (ls2 := [none, none, none]) trivial ?_
      have hj11s := Option.some.inj hj11
      subst hj11s
      exact K
  · rw [if_neg hc1] at h
    refine tw_br (cd := tw_c140) rfl rfl rfl (by exact if_pos (tw_b_f hc1)) ?_
    refine tw_blk (cd := tw_c140) rfl 2 (c1 := (6, [some (.ref 0), some (.int a1), none], [.int 1, .ref 0], (I, L, tw_P 2 14 rt sc, A, J, 57))) rfl ?_
    obtain ⟨⟨x17, I18⟩, hx19, h⟩ := tw_letE h
    dsimp only at h
    refine tw_callE (cd := tw_c140) rfl rfl rfl rfl rfl (e_X9_refuse I L A J 2 14 rt sc (1 : Int32) _ hx19) (by exact Or.inl rfl) ?_
    have h := Option.some.inj h
    subst h
    exact tw_retE (cd := tw_c140) rfl rfl rfl rfl
theorem e_X10_price (I : Nat → Int32) (L : Nat → Int64) (A : Nat → Nat → Int32) (J : Nat → Nat → Int64) (tw dr : Nat) (rt : Nat) (sc : Nat) (a1 : Int32) : ∀ r : (Int32 × (Nat → Int32) × (Nat → Nat → Int32)), g_X10_price I A a1 = some r → tw_ME 280 (0, [some (.ref 44), some (.int a1), none], [], (I, L, tw_P tw dr rt sc, A, J, 57)) (some (.int r.1), ((r.2.1), L, tw_P tw dr rt sc, (r.2.2), J, 57)) := by
  intro r h
  unfold g_X10_price at h
  refine tw_blk (cd := tw_c280) rfl 1 (c1 := (1, [some (.ref 44), some (.int a1), none], [.ref 44], (I, L, tw_P tw dr rt sc, A, J, 57))) rfl ?_
  obtain ⟨I1, hx2, h⟩ := tw_letE h
  refine tw_callE (cd := tw_c280) rfl rfl rfl rfl rfl (e_X10_good I L A J tw dr rt sc _ hx2) (by exact Or.inl rfl) ?_
  refine tw_blk (cd := tw_c280) rfl 2 (c1 := (4, [some (.ref 44), some (.int a1), none], [.int a1, .ref 44], (I1, L, tw_P tw dr rt sc, A, J, 57))) rfl ?_
  obtain ⟨c3, hx4, h⟩ := tw_bindE h
  refine tw_callE (cd := tw_c280) rfl rfl rfl rfl rfl (e_X10_isQuarrel I1 L A J tw dr rt sc a1 _ hx4) (by exact Or.inl rfl) ?_
  by_cases hc5 : c3 = true
  · rw [if_pos hc5] at h
    refine tw_br (cd := tw_c280) rfl rfl rfl (by exact if_neg (tw_b_t hc5)) ?_
    refine tw_blk (cd := tw_c280) rfl 2 (c1 := (12, [some (.ref 44), some (.int a1), none], [.int a1, .ref 44], (I1, L, tw_P tw dr rt sc, A, J, 57))) rfl ?_
    obtain ⟨⟨x6, I7, A8⟩, hx9, h⟩ := tw_bindE h
    dsimp only at h
    refine tw_callE (cd := tw_c280) rfl rfl rfl rfl rfl (e_X10_stoppersOf I1 L A J tw dr rt sc a1 _ hx9) (by exact Or.inl rfl) ?_
    refine tw_blk (cd := tw_c280) rfl 2 (c1 := (15, [some (.ref 44), some (.int a1), some (.int x6)], [.int x6], (I7, L, tw_P tw dr rt sc, A8, J, 57))) rfl ?_
    by_cases hc10 : 0 ≤ x6
    · rw [if_pos hc10] at h
      refine tw_br (cd := tw_c280) rfl rfl rfl (by exact if_pos hc10) ?_
      refine tw_blk (cd := tw_c280) rfl 2 (c1 := (20, [some (.ref 44), some (.int a1), some (.int x6)], [.int x6, .ref 44], (I7, L, tw_P tw dr rt sc, A8, J, 57))) rfl ?_
      obtain ⟨x11, hx12, h⟩ := tw_bindE h
      refine tw_callE (cd := tw_c280) rfl rfl rfl rfl rfl (e_X10_priceOf I7 L A8 J tw dr rt sc x6 _ hx12) (by exact Or.inl rfl) ?_
      have h := Option.some.inj h
      subst h
      exact tw_retE (cd := tw_c280) rfl rfl rfl rfl
    · rw [if_neg hc10] at h
      refine tw_br (cd := tw_c280) rfl rfl rfl (by exact if_neg hc10) ?_
      refine tw_blk (cd := tw_c280) rfl 2 (c1 := (21, [some (.ref 44), some (.int a1), some (.int x6)], [.int (-2)], (I7, L, tw_P tw dr rt sc, A8, J, 57))) rfl ?_
      have h := Option.some.inj h
      subst h
      exact tw_retE (cd := tw_c280) rfl rfl rfl rfl
  · rw [if_neg hc5] at h
    refine tw_br (cd := tw_c280) rfl rfl rfl (by exact if_pos (tw_b_f hc5)) ?_
    refine tw_blk (cd := tw_c280) rfl 2 (c1 := (8, [some (.ref 44), some (.int a1), none], [.int 1, .ref 44], (I1, L, tw_P tw dr rt sc, A, J, 57))) rfl ?_
    obtain ⟨⟨x13, I14⟩, hx15, h⟩ := tw_letE h
    dsimp only at h
    refine tw_callE (cd := tw_c280) rfl rfl rfl rfl rfl (e_X10_no I1 L A J tw dr rt sc (1 : Int32) _ hx15) (by exact Or.inl rfl) ?_
    have h := Option.some.inj h
    subst h
    exact tw_retE (cd := tw_c280) rfl rfl rfl rfl
theorem e_X9_stoppedIf (I : Nat → Int32) (L : Nat → Int64) (A : Nat → Nat → Int32) (J : Nat → Nat → Int64) (rt : Nat) (sc : Nat) (a1 : Int32) (a2 : Int32) : ∀ r : (Int32 × (Nat → Int32) × (Nat → Nat → Int32) × Nat), g_X9_stoppedIf I A sc a1 a2 = some r → tw_ME 141 (0, [some (.ref 0), some (.int a1), some (.int a2)], [], (I, L, tw_P 2 14 rt sc, A, J, 57)) (some (.int r.1), ((r.2.1), L, tw_P 2 14 rt (r.2.2.2), (r.2.2.1), J, 57)) := by
  intro r h
  unfold g_X9_stoppedIf at h
  refine tw_blk (cd := tw_c141) rfl 2 (c1 := (2, [some (.ref 0), some (.int a1), some (.int a2)], [.int a1, .ref 0], (I, L, tw_P 2 14 rt sc, A, J, 57))) rfl ?_
  refine tw_callE (cd := tw_c141) rfl rfl rfl rfl rfl (e_X9_isPerson I L A J rt sc a1 _ rfl) (by exact Or.inl rfl) ?_
  by_cases hc1 : (g_X9_isPerson A a1) = true
  · rw [if_pos hc1] at h
    refine tw_br (cd := tw_c141) rfl rfl rfl (by exact if_neg (tw_b_t hc1)) ?_
    refine tw_blk (cd := tw_c141) rfl 2 (c1 := (6, [some (.ref 0), some (.int a1), some (.int a2)], [.int a2, .ref 0], (I, L, tw_P 2 14 rt sc, A, J, 57))) rfl ?_
    refine tw_callE (cd := tw_c141) rfl rfl rfl rfl rfl (e_X9_isPlace I L A J rt sc a2 _ rfl) (by exact Or.inl rfl) ?_
    by_cases hc2 : (g_X9_isPlace A a2) = true
    · rw [if_pos hc2] at h
      refine tw_br (cd := tw_c141) rfl rfl rfl (by exact if_neg (tw_b_t hc2)) ?_
      refine tw_blk (cd := tw_c141) rfl 3 (c1 := (15, [some (.ref 0), some (.int a1), some (.int a2)], [.int a1, .ref 2], (I, L, tw_P 2 14 rt sc, A, J, 57))) rfl ?_
      refine tw_callE (cd := tw_c141) rfl rfl rfl rfl rfl (e_X8_canBeHired_2 I L A J 2 14 rt sc a1 _ rfl) (by exact Or.inl rfl) ?_
      by_cases hc3 : (g_X8_canBeHired_2 A a1) = true
      · rw [if_pos hc3] at h
        refine tw_br (cd := tw_c141) rfl rfl rfl (by exact if_neg (tw_b_t hc3)) ?_
        refine tw_blk (cd := tw_c141) rfl 1 (c1 := (22, [some (.ref 0), some (.int a1), some (.int a2)], [.ref 0], (I, L, tw_P 2 14 rt sc, A, J, 57))) rfl ?_
        obtain ⟨⟨I4, A5⟩, hx6, h⟩ := tw_bindE h
        dsimp only at h
        refine tw_callE (cd := tw_c141) rfl rfl rfl rfl rfl (e_X9_showNow I L A J rt sc _ hx6) (by exact Or.inl rfl) ?_
        refine tw_blk (cd := tw_c141) rfl 7 (c1 := (30, [some (.ref 0), some (.int a1), some (.int a2)], [.int a2, .int a1, .int (I4 3301), .ref 36], (I4, L, tw_P 2 14 rt 2, A5, J, 57))) rfl ?_
        refine tw_callE (cd := tw_c141) rfl rfl rfl rfl rfl (e_X0_sending I4 L A5 J 2 14 rt 2 (I4 3301) a1 a2 _ rfl) (by exact Or.inl rfl) ?_
        refine tw_blk (cd := tw_c141) rfl 4 (c1 := (35, [some (.ref 0), some (.int a1), some (.int a2)], [.ref 41, .ref 0], ((upd I4 3602 (g_X0_sending (I4 3301) a1 a2)), L, tw_P 2 14 rt 2, A5, J, 57))) rfl ?_
        obtain ⟨⟨x7, I8, A9⟩, hx10, h⟩ := tw_bindE h
        dsimp only at h
        refine tw_callE (cd := tw_c141) rfl rfl rfl rfl rfl (e_X3_stoppedOnes (upd I4 3602 (g_X0_sending (I4 3301) a1 a2)) L A5 J 2 14 rt _ hx10) (by exact Or.inl rfl) ?_
        obtain ⟨⟨x11, I12⟩, hx13, h⟩ := tw_letE h
        dsimp only at h
        refine tw_callE (cd := tw_c141) rfl rfl rfl rfl rfl (e_X9_grant I8 L A9 J 2 14 rt 2 x7 _ hx13) (by exact Or.inl rfl) ?_
        have h := Option.some.inj h
        subst h
        exact tw_retE (cd := tw_c141) rfl rfl rfl rfl
      · rw [if_neg hc3] at h
        refine tw_br (cd := tw_c141) rfl rfl rfl (by exact if_pos (tw_b_f hc3)) ?_
        refine tw_blk (cd := tw_c141) rfl 2 (c1 := (19, [some (.ref 0), some (.int a1), some (.int a2)], [.int 5, .ref 0], (I, L, tw_P 2 14 rt sc, A, J, 57))) rfl ?_
        obtain ⟨⟨x14, I15⟩, hx16, h⟩ := tw_letE h
        dsimp only at h
        refine tw_callE (cd := tw_c141) rfl rfl rfl rfl rfl (e_X9_refuse I L A J 2 14 rt sc (5 : Int32) _ hx16) (by exact Or.inl rfl) ?_
        have h := Option.some.inj h
        subst h
        exact tw_retE (cd := tw_c141) rfl rfl rfl rfl
    · rw [if_neg hc2] at h
      refine tw_br (cd := tw_c141) rfl rfl rfl (by exact if_pos (tw_b_f hc2)) ?_
      refine tw_blk (cd := tw_c141) rfl 2 (c1 := (10, [some (.ref 0), some (.int a1), some (.int a2)], [.int 1, .ref 0], (I, L, tw_P 2 14 rt sc, A, J, 57))) rfl ?_
      obtain ⟨⟨x17, I18⟩, hx19, h⟩ := tw_letE h
      dsimp only at h
      refine tw_callE (cd := tw_c141) rfl rfl rfl rfl rfl (e_X9_refuse I L A J 2 14 rt sc (1 : Int32) _ hx19) (by exact Or.inl rfl) ?_
      have h := Option.some.inj h
      subst h
      exact tw_retE (cd := tw_c141) rfl rfl rfl rfl
  · rw [if_neg hc1] at h
    refine tw_br (cd := tw_c141) rfl rfl rfl (by exact if_pos (tw_b_f hc1)) ?_
    refine tw_blk (cd := tw_c141) rfl 2 (c1 := (10, [some (.ref 0), some (.int a1), some (.int a2)], [.int 1, .ref 0], (I, L, tw_P 2 14 rt sc, A, J, 57))) rfl ?_
    obtain ⟨⟨x20, I21⟩, hx22, h⟩ := tw_letE h
    dsimp only at h
    refine tw_callE (cd := tw_c141) rfl rfl rfl rfl rfl (e_X9_refuse I L A J 2 14 rt sc (1 : Int32) _ hx22) (by exact Or.inl rfl) ?_
    have h := Option.some.inj h
    subst h
    exact tw_retE (cd := tw_c141) rfl rfl rfl rfl
theorem e_X10_stoppedWith (I : Nat → Int32) (L : Nat → Int64) (A : Nat → Nat → Int32) (J : Nat → Nat → Int64) (tw dr : Nat) (rt : Nat) (sc : Nat) (a1 : Int32) (a2 : Int32) : ∀ r : (Int32 × (Nat → Int32) × (Nat → Nat → Int32)), g_X10_stoppedWith I A a1 a2 = some r → tw_ME 281 (0, [some (.ref 44), some (.int a1), some (.int a2)], [], (I, L, tw_P tw dr rt sc, A, J, 57)) (some (.int r.1), ((r.2.1), L, tw_P tw dr rt sc, (r.2.2), J, 57)) := by
  intro r h
  unfold g_X10_stoppedWith at h
  refine tw_blk (cd := tw_c281) rfl 1 (c1 := (1, [some (.ref 44), some (.int a1), some (.int a2)], [.ref 44], (I, L, tw_P tw dr rt sc, A, J, 57))) rfl ?_
  obtain ⟨A1, hx2, h⟩ := tw_bindE h
  refine tw_callE (cd := tw_c281) rfl rfl rfl rfl rfl (e_X10_asNow I L A J tw dr rt sc _ hx2) (by exact Or.inl rfl) ?_
  refine tw_blk (cd := tw_c281) rfl 6 (c1 := (8, [some (.ref 44), some (.int a1), some (.int a2)], [.int (a2 + (1 : Int32)), .int a1, .ref 52], (I, L, tw_P tw dr rt sc, A1, J, 57))) rfl ?_
  obtain ⟨w4, hx3, h⟩ := tw_bindE h
  refine tw_iast (cd := tw_c281) (N := 8) rfl rfl rfl rfl hx3 ?_
  refine tw_blk (cd := tw_c281) rfl 1 (c1 := (10, [some (.ref 44), some (.int a1), some (.int a2)], [.ref 44], (I, L, tw_P tw dr rt sc, (va_up A1 52 w4), J, 57))) rfl ?_
  obtain ⟨⟨x5, I6⟩, hx7, h⟩ := tw_bindE h
  dsimp only at h
  refine tw_callE (cd := tw_c281) rfl rfl rfl rfl rfl (e_X10_stopped I L (va_up A1 52 w4) J tw dr rt sc _ hx7) (by exact Or.inl rfl) ?_
  have h := Option.some.inj h
  subst h
  exact tw_retE (cd := tw_c281) rfl rfl rfl rfl
theorem e_X10_stoppedIf (I : Nat → Int32) (L : Nat → Int64) (A : Nat → Nat → Int32) (J : Nat → Nat → Int64) (tw dr : Nat) (rt : Nat) (sc : Nat) (a1 : Int32) (a2 : Int32) : ∀ r : (Int32 × (Nat → Int32) × (Nat → Nat → Int32)), g_X10_stoppedIf I A a1 a2 = some r → tw_ME 282 (0, [some (.ref 44), some (.int a1), some (.int a2)], [], (I, L, tw_P tw dr rt sc, A, J, 57)) (some (.int r.1), ((r.2.1), L, tw_P tw dr rt sc, (r.2.2), J, 57)) := by
  intro r h
  unfold g_X10_stoppedIf at h
  refine tw_blk (cd := tw_c282) rfl 1 (c1 := (1, [some (.ref 44), some (.int a1), some (.int a2)], [.ref 44], (I, L, tw_P tw dr rt sc, A, J, 57))) rfl ?_
  obtain ⟨I1, hx2, h⟩ := tw_letE h
  refine tw_callE (cd := tw_c282) rfl rfl rfl rfl rfl (e_X10_good I L A J tw dr rt sc _ hx2) (by exact Or.inl rfl) ?_
  refine tw_blk (cd := tw_c282) rfl 2 (c1 := (4, [some (.ref 44), some (.int a1), some (.int a2)], [.int a1, .ref 44], (I1, L, tw_P tw dr rt sc, A, J, 57))) rfl ?_
  obtain ⟨c3, hx4, h⟩ := tw_bindE h
  refine tw_callE (cd := tw_c282) rfl rfl rfl rfl rfl (e_X10_isPerson I1 L A J tw dr rt sc a1 _ hx4) (by exact Or.inl rfl) ?_
  by_cases hc5 : c3 = true
  · rw [if_pos hc5] at h
    refine tw_br (cd := tw_c282) rfl rfl rfl (by exact if_neg (tw_b_t hc5)) ?_
    refine tw_blk (cd := tw_c282) rfl 2 (c1 := (8, [some (.ref 44), some (.int a1), some (.int a2)], [.int a2, .ref 44], (I1, L, tw_P tw dr rt sc, A, J, 57))) rfl ?_
    obtain ⟨c6, hx7, h⟩ := tw_bindE h
    refine tw_callE (cd := tw_c282) rfl rfl rfl rfl rfl (e_X10_isPlace I1 L A J tw dr rt sc a2 _ hx7) (by exact Or.inl rfl) ?_
    by_cases hc8 : c6 = true
    · rw [if_pos hc8] at h
      refine tw_br (cd := tw_c282) rfl rfl rfl (by exact if_neg (tw_b_t hc8)) ?_
      refine tw_blk (cd := tw_c282) rfl 2 (c1 := (16, [some (.ref 44), some (.int a1), some (.int a2)], [.int a1, .ref 44], (I1, L, tw_P tw dr rt sc, A, J, 57))) rfl ?_
      obtain ⟨c9, hx10, h⟩ := tw_bindE h
      refine tw_callE (cd := tw_c282) rfl rfl rfl rfl rfl (e_X10_canHire I1 L A J tw dr rt sc a1 _ hx10) (by exact Or.inl rfl) ?_
      by_cases hc11 : c9 = true
      · rw [if_pos hc11] at h
        refine tw_br (cd := tw_c282) rfl rfl rfl (by exact if_neg (tw_b_t hc11)) ?_
        refine tw_blk (cd := tw_c282) rfl 3 (c1 := (21, [some (.ref 44), some (.int a1), some (.int a2)], [.int a2, .int a1, .ref 44], (I1, L, tw_P tw dr rt sc, A, J, 57))) rfl ?_
        obtain ⟨⟨x12, I13, A14⟩, hx15, h⟩ := tw_bindE h
        dsimp only at h
        refine tw_callE (cd := tw_c282) rfl rfl rfl rfl rfl (e_X10_stoppedWith I1 L A J tw dr rt sc a1 a2 _ hx15) (by exact Or.inl rfl) ?_
        refine tw_blk (cd := tw_c282) rfl 1 (c1 := (26, [some (.ref 44), some (.int a1), some (.int a2)], [.int x12], (I13, L, tw_P tw dr rt sc, A14, J, 57))) rfl ?_
        have h := Option.some.inj h
        subst h
        exact tw_retE (cd := tw_c282) rfl rfl rfl rfl
      · rw [if_neg hc11] at h
        refine tw_br (cd := tw_c282) rfl rfl rfl (by exact if_pos (tw_b_f hc11)) ?_
        refine tw_blk (cd := tw_c282) rfl 2 (c1 := (25, [some (.ref 44), some (.int a1), some (.int a2)], [.int 5, .ref 44], (I1, L, tw_P tw dr rt sc, A, J, 57))) rfl ?_
        obtain ⟨⟨x16, I17⟩, hx18, h⟩ := tw_letE h
        dsimp only at h
        refine tw_callE (cd := tw_c282) rfl rfl rfl rfl rfl (e_X10_no I1 L A J tw dr rt sc (5 : Int32) _ hx18) (by exact Or.inl rfl) ?_
        have h := Option.some.inj h
        subst h
        exact tw_retE (cd := tw_c282) rfl rfl rfl rfl
    · rw [if_neg hc8] at h
      refine tw_br (cd := tw_c282) rfl rfl rfl (by exact if_pos (tw_b_f hc8)) ?_
      refine tw_blk (cd := tw_c282) rfl 2 (c1 := (12, [some (.ref 44), some (.int a1), some (.int a2)], [.int 1, .ref 44], (I1, L, tw_P tw dr rt sc, A, J, 57))) rfl ?_
      obtain ⟨⟨x19, I20⟩, hx21, h⟩ := tw_letE h
      dsimp only at h
      refine tw_callE (cd := tw_c282) rfl rfl rfl rfl rfl (e_X10_no I1 L A J tw dr rt sc (1 : Int32) _ hx21) (by exact Or.inl rfl) ?_
      have h := Option.some.inj h
      subst h
      exact tw_retE (cd := tw_c282) rfl rfl rfl rfl
  · rw [if_neg hc5] at h
    refine tw_br (cd := tw_c282) rfl rfl rfl (by exact if_pos (tw_b_f hc5)) ?_
    refine tw_blk (cd := tw_c282) rfl 2 (c1 := (12, [some (.ref 44), some (.int a1), some (.int a2)], [.int 1, .ref 44], (I1, L, tw_P tw dr rt sc, A, J, 57))) rfl ?_
    obtain ⟨⟨x22, I23⟩, hx24, h⟩ := tw_letE h
    dsimp only at h
    refine tw_callE (cd := tw_c282) rfl rfl rfl rfl rfl (e_X10_no I1 L A J tw dr rt sc (1 : Int32) _ hx24) (by exact Or.inl rfl) ?_
    have h := Option.some.inj h
    subst h
    exact tw_retE (cd := tw_c282) rfl rfl rfl rfl
theorem g_X3_bestSending_L2_ok (I : Nat → Int32) (L : Nat → Int64) (A : Nat → Nat → Int32) (J : Nat → Nat → Int64) (tw : Nat) (dr : Nat) (rt : Nat) (x1 : Int32) (I2 : Nat → Int32) (A3 : Nat → Nat → Int32) (v1_2 : Int32) (v1_3 : Int32) (v1_4 : Int32) (I_1 : Nat → Int32) (A_1 : Nat → Nat → Int32) (out : Option Value × tw_S) : ∀ (n : Nat) (v2_2 : Int32) (v2_3 : Int32) (v2_5 : Int32) (I_2 : Nat → Int32) (A_2 : Nat → Nat → Int32) (ex : (Int32 × Int32 × (Nat → Int32) × (Nat → Nat → Int32))), g_X3_bestSending_L2 I v1_4 n v2_2 v2_3 v2_5 I_2 A_2 = some ex → tw_ME 43 (60, [some (.ref 41), some (.int (I 3602)), some (.int (ex.1)), some (.int (ex.2.1)), some (.int v1_4), none, none], [], ((ex.2.2.1), L, tw_P tw dr rt 2, (ex.2.2.2), J, 57)) out → tw_ME 43 (21, [some (.ref 41), some (.int (I 3602)), some (.int v2_2), some (.int v2_3), some (.int v1_4), some (.int v2_5), none], [], (I_2, L, tw_P tw dr rt 2, A_2, J, 57)) out := by
  intro n
  induction n with
  | zero =>
    intro v2_2 v2_3 v2_5 I_2 A_2 ex h _
    cases h
  | succ n ih =>
    intro v2_2 v2_3 v2_5 I_2 A_2 ex h K
    rw [g_X3_bestSending_L2] at h
    refine tw_blk (cd := tw_c43) rfl 1 (c1 := (22, [some (.ref 41), some (.int (I 3602)), some (.int v2_2), some (.int v2_3), some (.int v1_4), some (.int v2_5), none], [.int v2_5], (I_2, L, tw_P tw dr rt 2, A_2, J, 57))) rfl ?_
    refine tw_blk (cd := tw_c43) rfl 4 (c1 := (26, [some (.ref 41), some (.int (I 3602)), some (.int v2_2), some (.int v2_3), some (.int v1_4), some (.int v2_5), none], [.int 1, .ref 2, .int v2_5], (I_2, L, tw_P tw dr rt 2, A_2, J, 57))) rfl ?_
    refine tw_callE (cd := tw_c43) rfl rfl rfl rfl rfl (e_X8_count_2 I_2 L A_2 J tw dr rt 2 (1 : Int32) _ rfl) (by exact Or.inl rfl) ?_
    by_cases hc13 : (g_X8_count_2 A_2 (1 : Int32)) ≤ v2_5
    · rw [if_pos hc13] at h
      refine tw_br (cd := tw_c43) rfl rfl rfl (by exact if_pos hc13) ?_
      refine tw_forget (ls2 := [some (.ref 41), some (.int (I 3602)), some (.int v2_2), some (.int v2_3), some (.int v1_4), none, none]) ⟨rfl, rfl, rfl, rfl, rfl, trivial⟩ ?_
      have h := Option.some.inj h
      subst h
      exact K
    · rw [if_neg hc13] at h
      refine tw_br (cd := tw_c43) rfl rfl rfl (by exact if_neg hc13) ?_
      refine tw_blk (cd := tw_c43) rfl 5 (c1 := (33, [some (.ref 41), some (.int (I 3602)), some (.int v2_2), some (.int v2_3), some (.int v1_4), some (.int v2_5), none], [.int v2_5, .int v1_4, .int (I 3602), .ref 36], (I_2, L, tw_P tw dr rt 2, A_2, J, 57))) rfl ?_
      refine tw_callE (cd := tw_c43) rfl rfl rfl rfl rfl (e_X0_sending I_2 L A_2 J tw dr rt 2 (I 3602) v1_4 v2_5 _ rfl) (by exact Or.inl rfl) ?_
      refine tw_blk (cd := tw_c43) rfl 5 (c1 := (39, [some (.ref 41), some (.int (I 3602)), some (.int v2_2), some (.int v2_3), some (.int v1_4), some (.int v2_5), none], [.int v1_4, .ref 2], ((upd I_2 3602 (g_X0_sending (I 3602) v1_4 v2_5)), L, tw_P tw dr rt 2, A_2, J, 57))) rfl ?_
      refine tw_callE (cd := tw_c43) rfl rfl rfl rfl rfl (e_X8_canBeHired_2 (upd I_2 3602 (g_X0_sending (I 3602) v1_4 v2_5)) L A_2 J tw dr rt 2 v1_4 _ rfl) (by exact Or.inl rfl) ?_
      obtain ⟨⟨x15, I16, A17⟩, hj18, h⟩ := tw_bindE h
      dsimp only at h
      have K : tw_ME 43 (46, [some (.ref 41), some (.int (I 3602)), some (.int v2_2), some (.int v2_3), some (.int v1_4), some (.int v2_5), none], [.int x15], (I16, L, tw_P tw dr rt 2, A17, J, 57)) out := by
        refine tw_blk (cd := tw_c43) rfl 3 (c1 := (49, [some (.ref 41), some (.int (I 3602)), some (.int v2_2), some (.int v2_3), some (.int v1_4), some (.int v2_5), some (.int x15)], [.int v2_3, .int x15], (I16, L, tw_P tw dr rt 2, A17, J, 57))) rfl ?_
        obtain ⟨⟨x24, x25⟩, hj26, h⟩ := tw_bindE h
        dsimp only at h
        have K : tw_ME 43 (58, [some (.ref 41), some (.int (I 3602)), some (.int x24), some (.int x25), some (.int v1_4), some (.int v2_5), none], [], (I16, L, tw_P tw dr rt 2, A17, J, 57)) out := by
          refine tw_blk (cd := tw_c43) rfl 2 (c1 := (21, [some (.ref 41), some (.int (I 3602)), some (.int x24), some (.int x25), some (.int v1_4), some (.int (v2_5 + (1 : Int32))), none], [], (I16, L, tw_P tw dr rt 2, A17, J, 57))) rfl ?_
          exact ih x24 x25 (v2_5 + (1 : Int32)) I16 A17 _ h K
        by_cases hc23 : x15 ≤ v2_3
        · rw [if_pos hc23] at hj26
          refine tw_br (cd := tw_c43) rfl rfl rfl (by exact if_pos hc23) ?_
          refine tw_forget (ls2 := [some (.ref 41), some (.int (I 3602)), some (.int v2_2), some (.int v2_3), some (.int v1_4), some (.int v2_5), none]) ⟨rfl, rfl, rfl, rfl, rfl, rfl, trivial⟩ ?_
          have hj26s := Option.some.inj hj26
          obtain ⟨hj26_0, hj26r0⟩ := Prod.mk.inj hj26s
          subst hj26_0
          subst hj26r0
          exact K
        · rw [if_neg hc23] at hj26
          refine tw_br (cd := tw_c43) rfl rfl rfl (by exact if_neg hc23) ?_
          refine tw_blk (cd := tw_c43) rfl 8 (c1 := (58, [some (.ref 41), some (.int (I 3602)), some (.int ((v1_4 * (10 : Int32)) + v2_5)), some (.int x15), some (.int v1_4), some (.int v2_5), some (.int x15)], [], (I16, L, tw_P tw dr rt 2, A17, J, 57))) rfl ?_
          refine tw_forget (ls2 := [some (.ref 41), some (.int (I 3602)), some (.int ((v1_4 * (10 : Int32)) + v2_5)), some (.int x15), some (.int v1_4), some (.int v2_5), none]) ⟨rfl, rfl, rfl, rfl, rfl, rfl, trivial⟩ ?_
          have hj26s := Option.some.inj hj26
          obtain ⟨hj26_0, hj26r0⟩ := Prod.mk.inj hj26s
          subst hj26_0
          subst hj26r0
          exact K
      by_cases hc14 : (g_X8_canBeHired_2 A_2 v1_4) = true
      · rw [if_pos hc14] at hj18
        refine tw_br (cd := tw_c43) rfl rfl rfl (by exact if_neg (tw_b_t hc14)) ?_
        refine tw_blk (cd := tw_c43) rfl 1 (c1 := (42, [some (.ref 41), some (.int (I 3602)), some (.int v2_2), some (.int v2_3), some (.int v1_4), some (.int v2_5), none], [.ref 41], ((upd I_2 3602 (g_X0_sending (I 3602) v1_4 v2_5)), L, tw_P tw dr rt 2, A_2, J, 57))) rfl ?_
        obtain ⟨⟨x19, I20, A21⟩, hx22, hj18⟩ := tw_bindE hj18
        dsimp only at hj18
        refine tw_callE (cd := tw_c43) rfl rfl rfl rfl rfl (e_X3_stoppedOnes (upd I_2 3602 (g_X0_sending (I 3602) v1_4 v2_5)) L A_2 J tw dr rt _ hx22) (by exact Or.inl rfl) ?_
        refine tw_callE (cd := tw_c43) rfl rfl rfl rfl rfl (e_J6_bitCount_0f7a4 I20 L A21 J tw dr rt 2 x19 _ rfl) (by exact Or.inl rfl) ?_
        refine tw_blk (cd := tw_c43) rfl 1 (c1 := (46, [some (.ref 41), some (.int (I 3602)), some (.int v2_2), some (.int v2_3), some (.int v1_4), some (.int v2_5), none], [.int (g_J6_bitCount_0f7a4 x19)], (I20, L, tw_P tw dr rt 2, A21, J, 57))) rfl ?_
        have hj18s := Option.some.inj hj18
        obtain ⟨hj18_0, hj18r0⟩ := Prod.mk.inj hj18s
        obtain ⟨hj18_1, hj18r1⟩ := Prod.mk.inj hj18r0
        subst hj18_0
        subst hj18_1
        subst hj18r1
        exact K
      · rw [if_neg hc14] at hj18
        refine tw_br (cd := tw_c43) rfl rfl rfl (by exact if_pos (tw_b_f hc14)) ?_
        refine tw_blk (cd := tw_c43) rfl 1 (c1 := (46, [some (.ref 41), some (.int (I 3602)), some (.int v2_2), some (.int v2_3), some (.int v1_4), some (.int v2_5), none], [.int 0], ((upd I_2 3602 (g_X0_sending (I 3602) v1_4 v2_5)), L, tw_P tw dr rt 2, A_2, J, 57))) rfl ?_
        have hj18s := Option.some.inj hj18
        obtain ⟨hj18_0, hj18r0⟩ := Prod.mk.inj hj18s
        obtain ⟨hj18_1, hj18r1⟩ := Prod.mk.inj hj18r0
        subst hj18_0
        subst hj18_1
        subst hj18r1
        exact K
theorem g_X3_bestSending_L1_ok (I : Nat → Int32) (L : Nat → Int64) (A : Nat → Nat → Int32) (J : Nat → Nat → Int64) (tw : Nat) (dr : Nat) (rt : Nat) (x1 : Int32) (I2 : Nat → Int32) (A3 : Nat → Nat → Int32) (out : Option Value × tw_S) : ∀ (n : Nat) (v1_2 : Int32) (v1_3 : Int32) (v1_4 : Int32) (I_1 : Nat → Int32) (A_1 : Nat → Nat → Int32) (ex : (Int32 × (Nat → Int32) × (Nat → Nat → Int32))), g_X3_bestSending_L1 I n v1_2 v1_3 v1_4 I_1 A_1 = some ex → tw_ME 43 (62, [some (.ref 41), some (.int (I 3602)), some (.int (ex.1)), none, none, none, none], [], ((ex.2.1), L, tw_P tw dr rt 2, (ex.2.2), J, 57)) out → tw_ME 43 (12, [some (.ref 41), some (.int (I 3602)), some (.int v1_2), some (.int v1_3), some (.int v1_4), none, none], [], (I_1, L, tw_P tw dr rt 2, A_1, J, 57)) out := by
  intro n
  induction n with
  | zero =>
    intro v1_2 v1_3 v1_4 I_1 A_1 ex h _
    cases h
  | succ n ih =>
    intro v1_2 v1_3 v1_4 I_1 A_1 ex h K
    rw [g_X3_bestSending_L1] at h
    refine tw_blk (cd := tw_c43) rfl 1 (c1 := (13, [some (.ref 41), some (.int (I 3602)), some (.int v1_2), some (.int v1_3), some (.int v1_4), none, none], [.int v1_4], (I_1, L, tw_P tw dr rt 2, A_1, J, 57))) rfl ?_
    refine tw_blk (cd := tw_c43) rfl 4 (c1 := (17, [some (.ref 41), some (.int (I 3602)), some (.int v1_2), some (.int v1_3), some (.int v1_4), none, none], [.int 3, .ref 2, .int v1_4], (I_1, L, tw_P tw dr rt 2, A_1, J, 57))) rfl ?_
    refine tw_callE (cd := tw_c43) rfl rfl rfl rfl rfl (e_X8_count_2 I_1 L A_1 J tw dr rt 2 (3 : Int32) _ rfl) (by exact Or.inl rfl) ?_
    by_cases hc8 : (g_X8_count_2 A_1 (3 : Int32)) ≤ v1_4
    · rw [if_pos hc8] at h
      refine tw_br (cd := tw_c43) rfl rfl rfl (by exact if_pos hc8) ?_
      refine tw_forget (ls2 := [some (.ref 41), some (.int (I 3602)), some (.int v1_2), none, none, none, none]) ⟨rfl, rfl, rfl, trivial⟩ ?_
      have h := Option.some.inj h
      subst h
      exact K
    · rw [if_neg hc8] at h
      refine tw_br (cd := tw_c43) rfl rfl rfl (by exact if_neg hc8) ?_
      refine tw_blk (cd := tw_c43) rfl 2 (c1 := (21, [some (.ref 41), some (.int (I 3602)), some (.int v1_2), some (.int v1_3), some (.int v1_4), some (.int 0), none], [], (I_1, L, tw_P tw dr rt 2, A_1, J, 57))) rfl ?_
      obtain ⟨⟨x9, x10, I11, A12⟩, hx27, h⟩ := tw_bindE h
      dsimp only at h
      refine g_X3_bestSending_L2_ok I L A J tw dr rt x1 I2 A3 v1_2 v1_3 v1_4 I_1 A_1 _ 4096 v1_2 v1_3 (0 : Int32) I_1 A_1 _ hx27 ?_
      refine tw_blk (cd := tw_c43) rfl 2 (c1 := (12, [some (.ref 41), some (.int (I 3602)), some (.int x9), some (.int x10), some (.int (v1_4 + (1 : Int32))), none, none], [], (I11, L, tw_P tw dr rt 2, A12, J, 57))) rfl ?_
      exact ih x9 x10 (v1_4 + (1 : Int32)) I11 A12 _ h K
theorem e_X3_bestSending (I : Nat → Int32) (L : Nat → Int64) (A : Nat → Nat → Int32) (J : Nat → Nat → Int64) (tw dr : Nat) (rt : Nat) : ∀ r : (Int32 × (Nat → Int32) × (Nat → Nat → Int32)), g_X3_bestSending I A = some r → tw_ME 43 (0, [some (.ref 41), none, none, none, none, none, none], [], (I, L, tw_P tw dr rt 2, A, J, 57)) (some (.int r.1), ((r.2.1), L, tw_P tw dr rt 2, (r.2.2), J, 57)) := by
  intro r h
  unfold g_X3_bestSending at h
  refine tw_blk (cd := tw_c43) rfl 7 (c1 := (7, [some (.ref 41), some (.int (I 3602)), some (.int (-2)), none, none, none, none], [.ref 41], (I, L, tw_P tw dr rt 2, A, J, 57))) rfl ?_
  obtain ⟨⟨x1, I2, A3⟩, hx4, h⟩ := tw_bindE h
  dsimp only at h
  refine tw_callE (cd := tw_c43) rfl rfl rfl rfl rfl (e_X3_stoppedOnes I L A J tw dr rt _ hx4) (by exact Or.inl rfl) ?_
  refine tw_callE (cd := tw_c43) rfl rfl rfl rfl rfl (e_J6_bitCount_0f7a4 I2 L A3 J tw dr rt 2 x1 _ rfl) (by exact Or.inl rfl) ?_
  refine tw_blk (cd := tw_c43) rfl 3 (c1 := (12, [some (.ref 41), some (.int (I 3602)), some (.int (-2)), some (.int (g_J6_bitCount_0f7a4 x1)), some (.int 0), none, none], [], (I2, L, tw_P tw dr rt 2, A3, J, 57))) rfl ?_
  obtain ⟨⟨x5, I6, A7⟩, hx28, h⟩ := tw_bindE h
  dsimp only at h
  refine g_X3_bestSending_L1_ok I L A J tw dr rt x1 I2 A3 _ 4096 (-2 : Int32) (g_J6_bitCount_0f7a4 x1) (0 : Int32) I2 A3 _ hx28 ?_
  refine tw_blk (cd := tw_c43) rfl 5 (c1 := (67, [some (.ref 41), some (.int (I 3602)), some (.int x5), none, none, none, none], [.int x5], ((upd I6 3602 (I 3602)), L, tw_P tw dr rt 2, A7, J, 57))) rfl ?_
  have h := Option.some.inj h
  subst h
  exact tw_retE (cd := tw_c43) rfl rfl rfl rfl
