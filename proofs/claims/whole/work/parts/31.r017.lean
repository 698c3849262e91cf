/-! the machine does what the functions say -/
theorem g_X9_three_L1_ok (I : Nat → Int32) (L : Nat → Int64) (A : Nat → Nat → Int32) (J : Nat → Nat → Int64) (rt : Nat) (sc : Nat) (a1 : Int32) (a2 : Int32) (c1 : Bool) (I2 : Nat → Int32) (A3 : Nat → Nat → Int32) (x6 : Int32) (out : Option Value × tw_S) : ∀ (n : Nat) (v1_4 : Int32) (v1_5 : Int32) (ex : Int32), g_X9_three_L1 A3 x6 n v1_4 v1_5 = some ex → tw_ME 151 (50, [some (.ref 0), none, none, none, some (.int ex), none, none], [], (I2, L, tw_P 2 14 rt 2, A3, J, 57)) out → tw_ME 151 (17, [some (.ref 0), none, none, some (.int x6), some (.int v1_4), some (.int v1_5), none], [], (I2, L, tw_P 2 14 rt 2, A3, J, 57)) out := by
  intro n
  induction n with
  | zero =>
    intro v1_4 v1_5 ex h _
    cases h
  | succ n ih =>
    intro v1_4 v1_5 ex h K
    rw [g_X9_three_L1] at h
    refine tw_blk (cd := tw_c151) rfl 1 (c1 := (18, [some (.ref 0), none, none, some (.int x6), some (.int v1_4), some (.int v1_5), none], [.int v1_5], (I2, L, tw_P 2 14 rt 2, A3, J, 57))) rfl ?_
    refine tw_blk (cd := tw_c151) rfl 1 (c1 := (19, [some (.ref 0), none, none, some (.int x6), some (.int v1_4), some (.int v1_5), none], [.int x6, .int v1_5], (I2, L, tw_P 2 14 rt 2, A3, J, 57))) rfl ?_
    by_cases hc9 : x6 < v1_5
    · rw [if_pos hc9] at h
      refine tw_br (cd := tw_c151) rfl rfl rfl (by exact if_pos hc9) ?_
      refine tw_forget (ls2 := [some (.ref 0), none, none, none, some (.int v1_4), none, none]) ⟨rfl, rfl, trivial⟩ ?_
      have h := Option.some.inj h
      subst h
      exact K
    · rw [if_neg hc9] at h
      refine tw_br (cd := tw_c151) rfl rfl rfl (by exact if_neg hc9) ?_
      refine tw_blk (cd := tw_c151) rfl 5 (c1 := (25, [some (.ref 0), none, none, some (.int x6), some (.int v1_4), some (.int v1_5), none], [.int (v1_5 &&& (x6 ^^^ (-1 : Int32)))], (I2, L, tw_P 2 14 rt 2, A3, J, 57))) rfl ?_
      obtain ⟨x11, hj12, h⟩ := tw_bindE h
      have K : tw_ME 151 (35, [some (.ref 0), none, none, some (.int x6), some (.int v1_4), some (.int v1_5), none], [.int x11], (I2, L, tw_P 2 14 rt 2, A3, J, 57)) out := by
        refine tw_blk (cd := tw_c151) rfl 2 (c1 := (37, [some (.ref 0), none, none, some (.int x6), some (.int v1_4), some (.int v1_5), some (.int x11)], [.int x11], (I2, L, tw_P 2 14 rt 2, A3, J, 57))) rfl ?_
        obtain ⟨x17, hj18, h⟩ := tw_bindE h
        have K : tw_ME 151 (48, [some (.ref 0), none, none, some (.int x6), some (.int x17), some (.int v1_5), none], [], (I2, L, tw_P 2 14 rt 2, A3, J, 57)) out := by
          refine tw_blk (cd := tw_c151) rfl 2 (c1 := (17, [some (.ref 0), none, none, some (.int x6), some (.int x17), some (.int (v1_5 + (1 : Int32))), none], [], (I2, L, tw_P 2 14 rt 2, A3, J, 57))) rfl ?_
          exact ih x17 (v1_5 + (1 : Int32)) _ h K
        by_cases hc16 : x11 = 0
        · rw [if_pos hc16] at hj18
          refine tw_br (cd := tw_c151) rfl rfl rfl (by exact if_pos hc16) ?_
          refine tw_forget (ls2 := [some (.ref 0), none, none, some (.int x6), some (.int v1_4), some (.int v1_5), none]) ⟨rfl, rfl, rfl, rfl, trivial⟩ ?_
          have hj18s := Option.some.inj hj18
          subst hj18s
          exact K
        · rw [if_neg hc16] at hj18
          refine tw_br (cd := tw_c151) rfl rfl rfl (by exact if_neg hc16) ?_
          refine tw_blk (cd := tw_c151) rfl 2 (c1 := (40, [some (.ref 0), none, none, some (.int x6), some (.int v1_4), some (.int v1_5), some (.int x11)], [.int (-2), .int v1_4], (I2, L, tw_P 2 14 rt 2, A3, J, 57))) rfl ?_
          by_cases hc19 : v1_4 = (-2 : Int32)
          · rw [if_pos hc19] at hj18
            refine tw_br (cd := tw_c151) rfl rfl rfl (by exact if_pos hc19) ?_
            refine tw_blk (cd := tw_c151) rfl 2 (c1 := (48, [some (.ref 0), none, none, some (.int x6), some (.int v1_5), some (.int v1_5), some (.int x11)], [], (I2, L, tw_P 2 14 rt 2, A3, J, 57))) rfl ?_
            refine tw_forget (ls2 := [some (.ref 0), none, none, some (.int x6), some (.int v1_5), some (.int v1_5), none]) ⟨rfl, rfl, rfl, rfl, trivial⟩ ?_
            have hj18s := Option.some.inj hj18
            subst hj18s
            exact K
          · rw [if_neg hc19] at hj18
            refine tw_br (cd := tw_c151) rfl rfl rfl (by exact if_neg hc19) ?_
            refine tw_blk (cd := tw_c151) rfl 1 (c1 := (42, [some (.ref 0), none, none, some (.int x6), some (.int v1_4), some (.int v1_5), some (.int x11)], [.int v1_5], (I2, L, tw_P 2 14 rt 2, A3, J, 57))) rfl ?_
            refine tw_callE (cd := tw_c151) rfl rfl rfl rfl rfl (e_J6_bitCount_0f7a4 I2 L A3 J rt 2 v1_5 _ rfl) (by exact Or.inl rfl) ?_
            refine tw_blk (cd := tw_c151) rfl 1 (c1 := (44, [some (.ref 0), none, none, some (.int x6), some (.int v1_4), some (.int v1_5), some (.int x11)], [.int v1_4, .int (g_J6_bitCount_0f7a4 v1_5)], (I2, L, tw_P 2 14 rt 2, A3, J, 57))) rfl ?_
            refine tw_callE (cd := tw_c151) rfl rfl rfl rfl rfl (e_J6_bitCount_0f7a4 I2 L A3 J rt 2 v1_4 _ rfl) (by exact Or.inl rfl) ?_
            by_cases hc20 : (g_J6_bitCount_0f7a4 v1_4) ≤ (g_J6_bitCount_0f7a4 v1_5)
            · rw [if_pos hc20] at hj18
              refine tw_br (cd := tw_c151) rfl rfl rfl (by exact if_pos hc20) ?_
              refine tw_forget (ls2 := [some (.ref 0), none, none, some (.int x6), some (.int v1_4), some (.int v1_5), none]) ⟨rfl, rfl, rfl, rfl, trivial⟩ ?_
              have hj18s := Option.some.inj hj18
              subst hj18s
              exact K
            · rw [if_neg hc20] at hj18
              refine tw_br (cd := tw_c151) rfl rfl rfl (by exact if_neg hc20) ?_
              refine tw_blk (cd := tw_c151) rfl 2 (c1 := (48, [some (.ref 0), none, none, some (.int x6), some (.int v1_5), some (.int v1_5), some (.int x11)], [], (I2, L, tw_P 2 14 rt 2, A3, J, 57))) rfl ?_
              refine tw_forget (ls2 := [some (.ref 0), none, none, some (.int x6), some (.int v1_5), some (.int v1_5), none]) ⟨rfl, rfl, rfl, rfl, trivial⟩ ?_
              have hj18s := Option.some.inj hj18
              subst hj18s
              exact K
      by_cases hc10 : (v1_5 &&& (x6 ^^^ (-1 : Int32))) = 0
      · rw [if_pos hc10] at hj12
        refine tw_br (cd := tw_c151) rfl rfl rfl (by exact if_pos hc10) ?_
        refine tw_blk (cd := tw_c151) rfl 3 (c1 := (29, [some (.ref 0), none, none, some (.int x6), some (.int v1_4), some (.int v1_5), none], [.int v1_5, .ref 36], (I2, L, tw_P 2 14 rt 2, A3, J, 57))) rfl ?_
        obtain ⟨x13, hx14, hj12⟩ := tw_bindE hj12
        refine tw_callE (cd := tw_c151) rfl rfl rfl rfl rfl (e_X6_eyesOf I2 L A3 J rt v1_5 _ hx14) (by exact Or.inl rfl) ?_
        refine tw_blk (cd := tw_c151) rfl 1 (c1 := (31, [some (.ref 0), none, none, some (.int x6), some (.int v1_4), some (.int v1_5), none], [.int 6, .int x13], (I2, L, tw_P 2 14 rt 2, A3, J, 57))) rfl ?_
        by_cases hc15 : x13 < (6 : Int32)
        · rw [if_pos hc15] at hj12
          refine tw_br (cd := tw_c151) rfl rfl rfl (by exact if_pos hc15) ?_
          refine tw_blk (cd := tw_c151) rfl 1 (c1 := (35, [some (.ref 0), none, none, some (.int x6), some (.int v1_4), some (.int v1_5), none], [.int 0], (I2, L, tw_P 2 14 rt 2, A3, J, 57))) rfl ?_
          have hj12s := Option.some.inj hj12
          subst hj12s
          exact K
        · rw [if_neg hc15] at hj12
          refine tw_br (cd := tw_c151) rfl rfl rfl (by exact if_neg hc15) ?_
          refine tw_blk (cd := tw_c151) rfl 2 (c1 := (35, [some (.ref 0), none, none, some (.int x6), some (.int v1_4), some (.int v1_5), none], [.int 1], (I2, L, tw_P 2 14 rt 2, A3, J, 57))) rfl ?_
          have hj12s := Option.some.inj hj12
          subst hj12s
          exact K
      · rw [if_neg hc10] at hj12
        refine tw_br (cd := tw_c151) rfl rfl rfl (by exact if_neg hc10) ?_
        refine tw_blk (cd := tw_c151) rfl 1 (c1 := (35, [some (.ref 0), none, none, some (.int x6), some (.int v1_4), some (.int v1_5), none], [.int 0], (I2, L, tw_P 2 14 rt 2, A3, J, 57))) rfl ?_
        have hj12s := Option.some.inj hj12
        subst hj12s
        exact K
theorem e_X9_three (I : Nat → Int32) (L : Nat → Int64) (A : Nat → Nat → Int32) (J : Nat → Nat → Int64) (rt : Nat) (sc : Nat) (a1 : Int32) (a2 : Int32) : ∀ r : (Int32 × (Nat → Int32) × (Nat → Nat → Int32) × Nat), g_X9_three I A sc a1 a2 = some r → tw_ME 151 (0, [some (.ref 0), some (.int a1), some (.int a2), none, none, none, none], [], (I, L, tw_P 2 14 rt sc, A, J, 57)) (some (.int r.1), ((r.2.1), L, tw_P 2 14 rt (r.2.2.2), (r.2.2.1), J, 57)) := by
  intro r h
  unfold g_X9_three at h
  refine tw_blk (cd := tw_c151) rfl 3 (c1 := (3, [some (.ref 0), some (.int a1), some (.int a2), none, none, none, none], [.int a2, .int a1, .ref 0], (I, L, tw_P 2 14 rt sc, A, J, 57))) rfl ?_
  obtain ⟨⟨c1, I2, A3⟩, hx4, h⟩ := tw_bindE h
  dsimp only at h
  refine tw_callE (cd := tw_c151) rfl rfl rfl rfl rfl (e_X9_mayNotLook I L A J rt sc a1 a2 _ hx4) (by exact Or.inl rfl) ?_
  by_cases hc5 : c1 = true
  · subst hc5
    rw [if_pos rfl] at h
    refine tw_br (cd := tw_c151) rfl rfl rfl (by exact rfl) ?_
    refine tw_blk (cd := tw_c151) rfl 1 (c1 := (6, [some (.ref 0), some (.int a1), some (.int a2), none, none, none, none], [.int (-1)], (I2, L, tw_P 2 14 rt sc, A3, J, 57))) rfl ?_
    have h := Option.some.inj h
    subst h
    exact tw_retE (cd := tw_c151) rfl rfl rfl rfl
  · have hc5 := Bool.eq_false_iff.mpr hc5
    subst hc5
    rw [if_neg (by decide)] at h
    refine tw_br (cd := tw_c151) rfl rfl rfl (by exact rfl) ?_
    refine tw_blk (cd := tw_c151) rfl 4 (c1 := (11, [some (.ref 0), some (.int a1), some (.int a2), none, none, none, none], [.int a2, .int a1, .ref 36], (I2, L, tw_P 2 14 rt 2, A3, J, 57))) rfl ?_
    obtain ⟨x6, hx7, h⟩ := tw_bindE h
    refine tw_callE (cd := tw_c151) rfl rfl rfl rfl rfl (e_X6_seers I2 L A3 J rt a1 a2 _ hx7) (by exact Or.inl rfl) ?_
    refine tw_blk (cd := tw_c151) rfl 5 (c1 := (17, [some (.ref 0), some (.int a1), some (.int a2), some (.int x6), some (.int (-2)), some (.int 0), none], [], (I2, L, tw_P 2 14 rt 2, A3, J, 57))) rfl ?_
    obtain ⟨x8, hx24, h⟩ := tw_bindE h
    refine tw_forget (ls2 := [some (.ref 0), none, none, some (.int x6), some (.int (-2)), some (.int 0), none]) ⟨rfl, rfl, rfl, rfl, trivial⟩ ?_
    refine g_X9_three_L1_ok I L A J rt sc a1 a2 c1 I2 A3 x6 _ 4096 (-2 : Int32) (0 : Int32) _ hx24 ?_
    refine tw_blk (cd := tw_c151) rfl 2 (c1 := (52, [some (.ref 0), none, none, none, some (.int x8), none, none], [.int x8, .ref 0], (I2, L, tw_P 2 14 rt 2, A3, J, 57))) rfl ?_
    obtain ⟨⟨x21, I22⟩, hx23, h⟩ := tw_letE h
    dsimp only at h
    refine tw_callE (cd := tw_c151) rfl rfl rfl rfl rfl (e_X9_grant I2 L A3 J rt 2 x8 _ hx23) (by exact Or.inl rfl) ?_
    have h := Option.some.inj h
    subst h
    exact tw_retE (cd := tw_c151) rfl rfl rfl rfl
theorem g_X10_three_L1_ok (I : Nat → Int32) (L : Nat → Int64) (A : Nat → Nat → Int32) (J : Nat → Nat → Int64) (rt : Nat) (sc : Nat) (a1 : Int32) (a2 : Int32) (I1 : Nat → Int32) (c3 : Bool) (A6 : Nat → Nat → Int32) (x8 : Int32) (out : Option Value × tw_S) : ∀ (n : Nat) (v1_5 : Int32) (v1_6 : Int32) (ex : Int32), g_X10_three_L1 A6 x8 n v1_5 v1_6 = some ex → tw_ME 296 (58, [none, none, none, none, none, some (.int ex), none], [], (I1, L, tw_P 2 14 rt sc, A6, J, 57)) out → tw_ME 296 (28, [some (.ref 44), none, none, none, some (.int x8), some (.int v1_5), some (.int v1_6)], [], (I1, L, tw_P 2 14 rt sc, A6, J, 57)) out := by
  intro n
  induction n with
  | zero =>
    intro v1_5 v1_6 ex h _
    cases h
  | succ n ih =>
    intro v1_5 v1_6 ex h K
    rw [g_X10_three_L1] at h
    refine tw_blk (cd := tw_c296) rfl 1 (c1 := (29, [some (.ref 44), none, none, none, some (.int x8), some (.int v1_5), some (.int v1_6)], [.int v1_6], (I1, L, tw_P 2 14 rt sc, A6, J, 57))) rfl ?_
    refine tw_blk (cd := tw_c296) rfl 4 (c1 := (33, [some (.ref 44), none, none, none, some (.int x8), some (.int v1_5), some (.int v1_6)], [.int 3, .ref 47, .int 1, .int v1_6], (I1, L, tw_P 2 14 rt sc, A6, J, 57))) rfl ?_
    obtain ⟨x12, hx11, h⟩ := tw_bindE h
    refine tw_iald (cd := tw_c296) (N := 241) rfl rfl rfl rfl hx11 ?_
    refine tw_blk (cd := tw_c296) rfl 1 (c1 := (35, [some (.ref 44), none, none, none, some (.int x8), some (.int v1_5), some (.int v1_6)], [.int ((1 : Int32) <<< (x12 &&& 31)), .int v1_6], (I1, L, tw_P 2 14 rt sc, A6, J, 57))) rfl ?_
    by_cases hc13 : ((1 : Int32) <<< (x12 &&& 31)) ≤ v1_6
    · rw [if_pos hc13] at h
      refine tw_br (cd := tw_c296) rfl rfl rfl (by exact if_pos hc13) ?_
      refine tw_forget (ls2 := [none, none, none, none, none, some (.int v1_5), none]) ⟨rfl, trivial⟩ ?_
      have h := Option.some.inj h
      subst h
      exact K
    · rw [if_neg hc13] at h
      refine tw_br (cd := tw_c296) rfl rfl rfl (by exact if_neg hc13) ?_
      refine tw_blk (cd := tw_c296) rfl 5 (c1 := (41, [some (.ref 44), none, none, none, some (.int x8), some (.int v1_5), some (.int v1_6)], [.int (v1_6 &&& (x8 ^^^ (-1 : Int32)))], (I1, L, tw_P 2 14 rt sc, A6, J, 57))) rfl ?_
      obtain ⟨x15, hj16, h⟩ := tw_bindE h
      have K : tw_ME 296 (56, [some (.ref 44), none, none, none, some (.int x8), some (.int x15), some (.int v1_6)], [], (I1, L, tw_P 2 14 rt sc, A6, J, 57)) out := by
        refine tw_blk (cd := tw_c296) rfl 2 (c1 := (28, [some (.ref 44), none, none, none, some (.int x8), some (.int x15), some (.int (v1_6 + (1 : Int32)))], [], (I1, L, tw_P 2 14 rt sc, A6, J, 57))) rfl ?_
        exact ih x15 (v1_6 + (1 : Int32)) _ h K
      by_cases hc14 : (v1_6 &&& (x8 ^^^ (-1 : Int32))) = 0
      · rw [if_pos hc14] at hj16
        refine tw_br (cd := tw_c296) rfl rfl rfl (by exact if_pos hc14) ?_
        refine tw_blk (cd := tw_c296) rfl 2 (c1 := (44, [some (.ref 44), none, none, none, some (.int x8), some (.int v1_5), some (.int v1_6)], [.int v1_6, .ref 44], (I1, L, tw_P 2 14 rt sc, A6, J, 57))) rfl ?_
        obtain ⟨x17, hx18, hj16⟩ := tw_bindE hj16
        refine tw_callE (cd := tw_c296) rfl rfl rfl rfl rfl (e_X10_eyesOf I1 L A6 J rt sc v1_6 _ hx18) (by exact Or.inl rfl) ?_
        refine tw_blk (cd := tw_c296) rfl 1 (c1 := (46, [some (.ref 44), none, none, none, some (.int x8), some (.int v1_5), some (.int v1_6)], [.int 6, .int x17], (I1, L, tw_P 2 14 rt sc, A6, J, 57))) rfl ?_
        by_cases hc19 : x17 < (6 : Int32)
        · rw [if_pos hc19] at hj16
          refine tw_br (cd := tw_c296) rfl rfl rfl (by exact if_pos hc19) ?_
          have hj16s := Option.some.inj hj16
          subst hj16s
          exact K
        · rw [if_neg hc19] at hj16
          refine tw_br (cd := tw_c296) rfl rfl rfl (by exact if_neg hc19) ?_
          refine tw_blk (cd := tw_c296) rfl 1 (c1 := (48, [some (.ref 44), none, none, none, some (.int x8), some (.int v1_5), some (.int v1_6)], [.int v1_5], (I1, L, tw_P 2 14 rt sc, A6, J, 57))) rfl ?_
          by_cases hc20 : v1_5 < 0
          · rw [if_pos hc20] at hj16
            refine tw_br (cd := tw_c296) rfl rfl rfl (by exact if_pos hc20) ?_
            refine tw_blk (cd := tw_c296) rfl 2 (c1 := (56, [some (.ref 44), none, none, none, some (.int x8), some (.int v1_6), some (.int v1_6)], [], (I1, L, tw_P 2 14 rt sc, A6, J, 57))) rfl ?_
            have hj16s := Option.some.inj hj16
            subst hj16s
            exact K
          · rw [if_neg hc20] at hj16
            refine tw_br (cd := tw_c296) rfl rfl rfl (by exact if_neg hc20) ?_
            refine tw_blk (cd := tw_c296) rfl 1 (c1 := (50, [some (.ref 44), none, none, none, some (.int x8), some (.int v1_5), some (.int v1_6)], [.int v1_6], (I1, L, tw_P 2 14 rt sc, A6, J, 57))) rfl ?_
            obtain ⟨x21, hx22, hj16⟩ := tw_bindE hj16
            refine tw_callE (cd := tw_c296) rfl rfl rfl rfl rfl (e_X10_ones I1 L A6 J rt sc v1_6 _ hx22) (by exact Or.inl rfl) ?_
            refine tw_blk (cd := tw_c296) rfl 1 (c1 := (52, [some (.ref 44), none, none, none, some (.int x8), some (.int v1_5), some (.int v1_6)], [.int v1_5, .int x21], (I1, L, tw_P 2 14 rt sc, A6, J, 57))) rfl ?_
            obtain ⟨x23, hx24, hj16⟩ := tw_bindE hj16
            refine tw_callE (cd := tw_c296) rfl rfl rfl rfl rfl (e_X10_ones I1 L A6 J rt sc v1_5 _ hx24) (by exact Or.inl rfl) ?_
            by_cases hc25 : x23 ≤ x21
            · rw [if_pos hc25] at hj16
              refine tw_br (cd := tw_c296) rfl rfl rfl (by exact if_pos hc25) ?_
              have hj16s := Option.some.inj hj16
              subst hj16s
              exact K
            · rw [if_neg hc25] at hj16
              refine tw_br (cd := tw_c296) rfl rfl rfl (by exact if_neg hc25) ?_
              refine tw_blk (cd := tw_c296) rfl 2 (c1 := (56, [some (.ref 44), none, none, none, some (.int x8), some (.int v1_6), some (.int v1_6)], [], (I1, L, tw_P 2 14 rt sc, A6, J, 57))) rfl ?_
              have hj16s := Option.some.inj hj16
              subst hj16s
              exact K
      · rw [if_neg hc14] at hj16
        refine tw_br (cd := tw_c296) rfl rfl rfl (by exact if_neg hc14) ?_
        have hj16s := Option.some.inj hj16
        subst hj16s
        exact K
theorem e_X10_three (I : Nat → Int32) (L : Nat → Int64) (A : Nat → Nat → Int32) (J : Nat → Nat → Int64) (rt : Nat) (sc : Nat) (a1 : Int32) (a2 : Int32) : ∀ r : (Int32 × (Nat → Int32) × (Nat → Nat → Int32)), g_X10_three I A a1 a2 = some r → tw_ME 296 (0, [some (.ref 44), some (.int a1), some (.int a2), none, none, none, none], [], (I, L, tw_P 2 14 rt sc, A, J, 57)) (some (.int r.1), ((r.2.1), L, tw_P 2 14 rt sc, (r.2.2), J, 57)) := by
  intro r h
  unfold g_X10_three at h
  refine tw_blk (cd := tw_c296) rfl 1 (c1 := (1, [some (.ref 44), some (.int a1), some (.int a2), none, none, none, none], [.ref 44], (I, L, tw_P 2 14 rt sc, A, J, 57))) rfl ?_
  obtain ⟨I1, hx2, h⟩ := tw_letE h
  refine tw_callE (cd := tw_c296) rfl rfl rfl rfl rfl (e_X10_good I L A J rt sc _ hx2) (by exact Or.inl rfl) ?_
  refine tw_blk (cd := tw_c296) rfl 3 (c1 := (5, [some (.ref 44), some (.int a1), some (.int a2), none, none, none, none], [.int a1, .ref 44, .ref 44], (I1, L, tw_P 2 14 rt sc, A, J, 57))) rfl ?_
  obtain ⟨c3, hx4, h⟩ := tw_bindE h
  refine tw_callE (cd := tw_c296) rfl rfl rfl rfl rfl (e_X10_isPlace I1 L A J rt sc a1 _ hx4) (by exact Or.inl rfl) ?_
  refine tw_blk (cd := tw_c296) rfl 2 (c1 := (8, [some (.ref 44), some (.int a1), some (.int a2), none, none, none, none], [.int a2, .ref 44, .int (tw_b c3), .ref 44], (I1, L, tw_P 2 14 rt sc, A, J, 57))) rfl ?_
  refine tw_callE (cd := tw_c296) rfl rfl rfl rfl rfl (e_X10_isMinute I1 L A J rt sc a2 _ rfl) (by exact Or.inl rfl) ?_
  refine tw_callE (cd := tw_c296) rfl rfl rfl rfl rfl (e_X10_why I1 L A J rt sc (tw_b c3) (tw_b (g_X10_isMinute a2)) _ rfl) (by exact Or.inl rfl) ?_
  refine tw_blk (cd := tw_c296) rfl 2 (c1 := (12, [some (.ref 44), some (.int a1), some (.int a2), some (.int (g_X10_why (tw_b c3) (tw_b (g_X10_isMinute a2)))), none, none, none], [.int (g_X10_why (tw_b c3) (tw_b (g_X10_isMinute a2)))], (I1, L, tw_P 2 14 rt sc, A, J, 57))) rfl ?_
  by_cases hc5 : (g_X10_why (tw_b c3) (tw_b (g_X10_isMinute a2))) = 0
  · rw [if_pos hc5] at h
    refine tw_br (cd := tw_c296) rfl rfl rfl (by exact if_pos hc5) ?_
    refine tw_blk (cd := tw_c296) rfl 1 (c1 := (18, [some (.ref 44), some (.int a1), some (.int a2), some (.int (g_X10_why (tw_b c3) (tw_b (g_X10_isMinute a2)))), none, none, none], [.ref 44], (I1, L, tw_P 2 14 rt sc, A, J, 57))) rfl ?_
    obtain ⟨A6, hx7, h⟩ := tw_bindE h
    refine tw_callE (cd := tw_c296) rfl rfl rfl rfl rfl (e_X10_asNow I1 L A J rt sc _ hx7) (by exact Or.inl rfl) ?_
    refine tw_blk (cd := tw_c296) rfl 3 (c1 := (22, [some (.ref 44), some (.int a1), some (.int a2), some (.int (g_X10_why (tw_b c3) (tw_b (g_X10_isMinute a2)))), none, none, none], [.int a2, .int a1, .ref 44], (I1, L, tw_P 2 14 rt sc, A6, J, 57))) rfl ?_
    obtain ⟨x8, hx9, h⟩ := tw_bindE h
    refine tw_callE (cd := tw_c296) rfl rfl rfl rfl rfl (e_X10_watchersOf I1 L A6 J rt sc a1 a2 _ hx9) (by exact Or.inl rfl) ?_
    refine tw_blk (cd := tw_c296) rfl 5 (c1 := (28, [some (.ref 44), some (.int a1), some (.int a2), some (.int (g_X10_why (tw_b c3) (tw_b (g_X10_isMinute a2)))), some (.int x8), some (.int (-2)), some (.int 0)], [], (I1, L, tw_P 2 14 rt sc, A6, J, 57))) rfl ?_
    obtain ⟨x10, hx26, h⟩ := tw_bindE h
    refine tw_forget (ls2 := [some (.ref 44), none, none, none, some (.int x8), some (.int (-2)), some (.int 0)]) ⟨rfl, rfl, rfl, rfl, trivial⟩ ?_
    refine g_X10_three_L1_ok I L A J rt sc a1 a2 I1 c3 A6 x8 _ 4096 (-2 : Int32) (0 : Int32) _ hx26 ?_
    refine tw_blk (cd := tw_c296) rfl 1 (c1 := (59, [none, none, none, none, none, some (.int x10), none], [.int x10], (I1, L, tw_P 2 14 rt sc, A6, J, 57))) rfl ?_
    have h := Option.some.inj h
    subst h
    exact tw_retE (cd := tw_c296) rfl rfl rfl rfl
  · rw [if_neg hc5] at h
    refine tw_br (cd := tw_c296) rfl rfl rfl (by exact if_neg hc5) ?_
    refine tw_blk (cd := tw_c296) rfl 2 (c1 := (15, [some (.ref 44), some (.int a1), some (.int a2), some (.int (g_X10_why (tw_b c3) (tw_b (g_X10_isMinute a2)))), none, none, none], [.int (g_X10_why (tw_b c3) (tw_b (g_X10_isMinute a2))), .ref 44], (I1, L, tw_P 2 14 rt sc, A, J, 57))) rfl ?_
    obtain ⟨⟨x27, I28⟩, hx29, h⟩ := tw_letE h
    dsimp only at h
    refine tw_callE (cd := tw_c296) rfl rfl rfl rfl rfl (e_X10_no I1 L A J rt sc (g_X10_why (tw_b c3) (tw_b (g_X10_isMinute a2))) _ hx29) (by exact Or.inl rfl) ?_
    have h := Option.some.inj h
    subst h
    exact tw_retE (cd := tw_c296) rfl rfl rfl rfl
theorem e_X9_mayNotHeat (I : Nat → Int32) (L : Nat → Int64) (A : Nat → Nat → Int32) (J : Nat → Nat → Int64) (rt : Nat) (sc : Nat) (a1 : Int32) : ∀ r : (Bool × (Nat → Int32)), g_X9_mayNotHeat I A a1 = r → tw_ME 157 (0, [some (.ref 0), some (.int a1)], [], (I, L, tw_P 2 14 rt sc, A, J, 57)) (some (.int (tw_b r.1)), ((r.2), L, tw_P 2 14 rt sc, A, J, 57)) := by
  intro r h
  unfold g_X9_mayNotHeat at h
  refine tw_blk (cd := tw_c157) rfl 1 (c1 := (1, [some (.ref 0), some (.int a1)], [.ref 0], (I, L, tw_P 2 14 rt sc, A, J, 57))) rfl ?_
  refine tw_callE (cd := tw_c157) rfl rfl rfl rfl rfl (e_X9_hasTown I L A J rt sc _ rfl) (by exact Or.inl rfl) ?_
  by_cases hc1 : (g_X9_hasTown A) = true
  · rw [if_pos hc1] at h
    refine tw_br (cd := tw_c157) rfl rfl rfl (by exact if_neg (tw_b_t hc1)) ?_
    refine tw_blk (cd := tw_c157) rfl 1 (c1 := (9, [some (.ref 0), some (.int a1)], [.int a1], (I, L, tw_P 2 14 rt sc, A, J, 57))) rfl ?_
    by_cases hc2 : a1 < 0
    · rw [if_pos hc2] at h
      refine tw_br (cd := tw_c157) rfl rfl rfl (by exact if_pos hc2) ?_
      refine tw_blk (cd := tw_c157) rfl 4 (c1 := (17, [some (.ref 0), some (.int a1)], [.int 1], ((upd I 12 (2 : Int32)), L, tw_P 2 14 rt sc, A, J, 57))) rfl ?_
      subst h
      exact tw_retZ (cd := tw_c157) (b := true) rfl rfl rfl rfl
    · rw [if_neg hc2] at h
      refine tw_br (cd := tw_c157) rfl rfl rfl (by exact if_neg hc2) ?_
      refine tw_blk (cd := tw_c157) rfl 2 (c1 := (12, [some (.ref 0), some (.int a1)], [.int 9, .int a1], (I, L, tw_P 2 14 rt sc, A, J, 57))) rfl ?_
      by_cases hc3 : a1 ≤ (9 : Int32)
      · rw [if_pos hc3] at h
        refine tw_br (cd := tw_c157) rfl rfl rfl (by exact if_pos hc3) ?_
        refine tw_blk (cd := tw_c157) rfl 1 (c1 := (19, [some (.ref 0), some (.int a1)], [.int 0], (I, L, tw_P 2 14 rt sc, A, J, 57))) rfl ?_
        subst h
        exact tw_retZ (cd := tw_c157) (b := false) rfl rfl rfl rfl
      · rw [if_neg hc3] at h
        refine tw_br (cd := tw_c157) rfl rfl rfl (by exact if_neg hc3) ?_
        refine tw_blk (cd := tw_c157) rfl 4 (c1 := (17, [some (.ref 0), some (.int a1)], [.int 1], ((upd I 12 (2 : Int32)), L, tw_P 2 14 rt sc, A, J, 57))) rfl ?_
        subst h
        exact tw_retZ (cd := tw_c157) (b := true) rfl rfl rfl rfl
  · rw [if_neg hc1] at h
    refine tw_br (cd := tw_c157) rfl rfl rfl (by exact if_pos (tw_b_f hc1)) ?_
    refine tw_blk (cd := tw_c157) rfl 4 (c1 := (7, [some (.ref 0), some (.int a1)], [.int 1], ((upd I 12 (1 : Int32)), L, tw_P 2 14 rt sc, A, J, 57))) rfl ?_
    subst h
    exact tw_retZ (cd := tw_c157) (b := true) rfl rfl rfl rfl
theorem e_X9_due (I : Nat → Int32) (L : Nat → Int64) (A : Nat → Nat → Int32) (J : Nat → Nat → Int64) (rt : Nat) (sc : Nat) (a0 : Int32) (a1 : Int32) (a2 : Int32) : ∀ r : Int32, g_X9_due a0 a1 a2 = r → tw_ME 155 (0, [some (.int a0), some (.int a1), some (.int a2)], [], (I, L, tw_P 2 14 rt sc, A, J, 57)) (some (.int r), (I, L, tw_P 2 14 rt sc, A, J, 57)) := by
  intro r h
  unfold g_X9_due at h
  refine tw_blk (cd := tw_c155) rfl 1 (c1 := (1, [some (.int a0), some (.int a1), some (.int a2)], [.int a1], (I, L, tw_P 2 14 rt sc, A, J, 57))) rfl ?_
  by_cases hc1 : a1 = 0
  · rw [if_pos hc1] at h
    refine tw_br (cd := tw_c155) rfl rfl rfl (by exact if_pos hc1) ?_
    refine tw_blk (cd := tw_c155) rfl 1 (c1 := (11, [some (.int a0), some (.int a1), some (.int a2)], [.int a2], (I, L, tw_P 2 14 rt sc, A, J, 57))) rfl ?_
    by_cases hc2 : a2 = 0
    · rw [if_pos hc2] at h
      refine tw_br (cd := tw_c155) rfl rfl rfl (by exact if_pos hc2) ?_
      refine tw_blk (cd := tw_c155) rfl 1 (c1 := (16, [some (.int a0), some (.int a1), some (.int a2)], [.int 2], (I, L, tw_P 2 14 rt sc, A, J, 57))) rfl ?_
      subst h
      exact tw_retE (cd := tw_c155) rfl rfl rfl rfl
    · rw [if_neg hc2] at h
      refine tw_br (cd := tw_c155) rfl rfl rfl (by exact if_neg hc2) ?_
      refine tw_blk (cd := tw_c155) rfl 3 (c1 := (16, [some (.int a0), some (.int a1), some (.int a2)], [.int (-a0)], (I, L, tw_P 2 14 rt sc, A, J, 57))) rfl ?_
      subst h
      exact tw_retE (cd := tw_c155) rfl rfl rfl rfl
  · rw [if_neg hc1] at h
    refine tw_br (cd := tw_c155) rfl rfl rfl (by exact if_neg hc1) ?_
    refine tw_blk (cd := tw_c155) rfl 1 (c1 := (3, [some (.int a0), some (.int a1), some (.int a2)], [.int a2], (I, L, tw_P 2 14 rt sc, A, J, 57))) rfl ?_
    by_cases hc3 : a2 = 0
    · rw [if_pos hc3] at h
      refine tw_br (cd := tw_c155) rfl rfl rfl (by exact if_pos hc3) ?_
      refine tw_blk (cd := tw_c155) rfl 1 (c1 := (9, [some (.int a0), some (.int a1), some (.int a2)], [.int 4], (I, L, tw_P 2 14 rt sc, A, J, 57))) rfl ?_
      subst h
      exact tw_retE (cd := tw_c155) rfl rfl rfl rfl
    · rw [if_neg hc3] at h
      refine tw_br (cd := tw_c155) rfl rfl rfl (by exact if_neg hc3) ?_
      refine tw_blk (cd := tw_c155) rfl 4 (c1 := (9, [some (.int a0), some (.int a1), some (.int a2)], [.int ((1 : Int32) - a0)], (I, L, tw_P 2 14 rt sc, A, J, 57))) rfl ?_
      subst h
      exact tw_retE (cd := tw_c155) rfl rfl rfl rfl
theorem e_X9_says (I : Nat → Int32) (L : Nat → Int64) (A : Nat → Nat → Int32) (J : Nat → Nat → Int64) (rt : Nat) (sc : Nat) (a1 : Int32) (a2 : Int32) (a3 : Int32) (a4 : Int32) : ∀ r : (Int32 × (Nat → Int32)), g_X9_says I A a1 a2 a3 a4 = r → tw_ME 152 (0, [some (.ref 0), some (.int a1), some (.int a2), some (.int a3), some (.int a4)], [], (I, L, tw_P 2 14 rt sc, A, J, 57)) (some (.int r.1), ((r.2), L, tw_P 2 14 rt sc, A, J, 57)) := by
  intro r h
  unfold g_X9_says at h
  refine tw_blk (cd := tw_c152) rfl 2 (c1 := (2, [some (.ref 0), some (.int a1), some (.int a2), some (.int a3), some (.int a4)], [.int a1, .ref 0], (I, L, tw_P 2 14 rt sc, A, J, 57))) rfl ?_
  obtain ⟨⟨c1, I2⟩, hx3, h⟩ := tw_letE h
  dsimp only at h
  refine tw_callE (cd := tw_c152) rfl rfl rfl rfl rfl (e_X9_mayNotHeat I L A J rt sc a1 _ hx3) (by exact Or.inl rfl) ?_
  by_cases hc4 : c1 = true
  · rw [if_pos hc4] at h
    refine tw_br (cd := tw_c152) rfl rfl rfl (by exact if_neg (tw_b_t hc4)) ?_
    refine tw_blk (cd := tw_c152) rfl 1 (c1 := (5, [some (.ref 0), some (.int a1), some (.int a2), some (.int a3), some (.int a4)], [.int (-100)], (I2, L, tw_P 2 14 rt sc, A, J, 57))) rfl ?_
    subst h
    exact tw_retE (cd := tw_c152) rfl rfl rfl rfl
  · rw [if_neg hc4] at h
    refine tw_br (cd := tw_c152) rfl rfl rfl (by exact if_pos (tw_b_f hc4)) ?_
    refine tw_blk (cd := tw_c152) rfl 2 (c1 := (8, [some (.ref 0), some (.int a1), some (.int a2), some (.int a3), some (.int a4)], [.int a4, .ref 0], (I2, L, tw_P 2 14 rt sc, A, J, 57))) rfl ?_
    obtain ⟨x6, hj7, h⟩ := tw_letE h
    have K : tw_ME 152 (18, [none, none, none, none, none], [.int x6, .ref 0], (I2, L, tw_P 2 14 rt sc, A, J, 57)) (some (.int r.1), ((r.2), L, tw_P 2 14 rt sc, A, J, 57)) := by
      obtain ⟨⟨x8, I9⟩, hx10, h⟩ := tw_letE h
      dsimp only at h
      refine tw_callE (cd := tw_c152) rfl rfl rfl rfl rfl (e_X9_grant I2 L A J rt sc x6 _ hx10) (by exact Or.inl rfl) ?_
      subst h
      exact tw_retE (cd := tw_c152) rfl rfl rfl rfl
    by_cases hc5 : a4 = 0
    · rw [if_pos hc5] at hj7
      refine tw_br (cd := tw_c152) rfl rfl rfl (by exact if_pos hc5) ?_
      refine tw_blk (cd := tw_c152) rfl 3 (c1 := (17, [some (.ref 0), some (.int a1), some (.int a2), some (.int a3), some (.int a4)], [.int a3, .int a2, .int a1, .ref 0], (I2, L, tw_P 2 14 rt sc, A, J, 57))) rfl ?_
      refine tw_callE (cd := tw_c152) rfl rfl rfl rfl rfl (e_X9_due I2 L A J rt sc a1 a2 a3 _ rfl) (by exact Or.inl rfl) ?_
      refine tw_forget (ls2 := [none, none, none, none, none]) trivial ?_
      subst hj7
      exact K
    · rw [if_neg hc5] at hj7
      refine tw_br (cd := tw_c152) rfl rfl rfl (by exact if_neg hc5) ?_
      refine tw_blk (cd := tw_c152) rfl 3 (c1 := (12, [some (.ref 0), some (.int a1), some (.int a2), some (.int a3), some (.int a4)], [.int a2, .int a3, .int a1, .ref 0], (I2, L, tw_P 2 14 rt sc, A, J, 57))) rfl ?_
      refine tw_callE (cd := tw_c152) rfl rfl rfl rfl rfl (e_X9_due I2 L A J rt sc a1 a3 a2 _ rfl) (by exact Or.inl rfl) ?_
      refine tw_blk (cd := tw_c152) rfl 1 (c1 := (18, [some (.ref 0), some (.int a1), some (.int a2), some (.int a3), some (.int a4)], [.int (g_X9_due a1 a3 a2), .ref 0], (I2, L, tw_P 2 14 rt sc, A, J, 57))) rfl ?_
      refine tw_forget (ls2 := [none, none, none, none, none]) trivial ?_
      subst hj7
      exact K
theorem e_X10_saysOf (I : Nat → Int32) (L : Nat → Int64) (A : Nat → Nat → Int32) (J : Nat → Nat → Int64) (rt : Nat) (sc : Nat) (a0 : Int32) (a1 : Int32) (a2 : Int32) : ∀ r : Int32, g_X10_saysOf a0 a1 a2 = r → tw_ME 297 (0, [some (.int a0), some (.int a1), some (.int a2)], [], (I, L, tw_P 2 14 rt sc, A, J, 57)) (some (.int r), (I, L, tw_P 2 14 rt sc, A, J, 57)) := by
  intro r h
  unfold g_X10_saysOf at h
  refine tw_blk (cd := tw_c297) rfl 1 (c1 := (1, [some (.int a0), some (.int a1), some (.int a2)], [.int a1], (I, L, tw_P 2 14 rt sc, A, J, 57))) rfl ?_
  by_cases hc1 : a1 = 0
  · rw [if_pos hc1] at h
    refine tw_br (cd := tw_c297) rfl rfl rfl (by exact if_pos hc1) ?_
    refine tw_blk (cd := tw_c297) rfl 1 (c1 := (11, [some (.int a0), some (.int a1), some (.int a2)], [.int a2], (I, L, tw_P 2 14 rt sc, A, J, 57))) rfl ?_
    by_cases hc2 : a2 = 0
    · rw [if_pos hc2] at h
      refine tw_br (cd := tw_c297) rfl rfl rfl (by exact if_pos hc2) ?_
      refine tw_blk (cd := tw_c297) rfl 1 (c1 := (16, [some (.int a0), some (.int a1), some (.int a2)], [.int 2], (I, L, tw_P 2 14 rt sc, A, J, 57))) rfl ?_
      subst h
      exact tw_retE (cd := tw_c297) rfl rfl rfl rfl
    · rw [if_neg hc2] at h
      refine tw_br (cd := tw_c297) rfl rfl rfl (by exact if_neg hc2) ?_
      refine tw_blk (cd := tw_c297) rfl 3 (c1 := (16, [some (.int a0), some (.int a1), some (.int a2)], [.int (-a0)], (I, L, tw_P 2 14 rt sc, A, J, 57))) rfl ?_
      subst h
      exact tw_retE (cd := tw_c297) rfl rfl rfl rfl
  · rw [if_neg hc1] at h
    refine tw_br (cd := tw_c297) rfl rfl rfl (by exact if_neg hc1) ?_
    refine tw_blk (cd := tw_c297) rfl 1 (c1 := (3, [some (.int a0), some (.int a1), some (.int a2)], [.int a2], (I, L, tw_P 2 14 rt sc, A, J, 57))) rfl ?_
    by_cases hc3 : a2 = 0
    · rw [if_pos hc3] at h
      refine tw_br (cd := tw_c297) rfl rfl rfl (by exact if_pos hc3) ?_
      refine tw_blk (cd := tw_c297) rfl 2 (c1 := (16, [some (.int a0), some (.int a1), some (.int a2)], [.int 4], (I, L, tw_P 2 14 rt sc, A, J, 57))) rfl ?_
      subst h
      exact tw_retE (cd := tw_c297) rfl rfl rfl rfl
    · rw [if_neg hc3] at h
      refine tw_br (cd := tw_c297) rfl rfl rfl (by exact if_neg hc3) ?_
      refine tw_blk (cd := tw_c297) rfl 4 (c1 := (16, [some (.int a0), some (.int a1), some (.int a2)], [.int ((1 : Int32) - a0)], (I, L, tw_P 2 14 rt sc, A, J, 57))) rfl ?_
      subst h
      exact tw_retE (cd := tw_c297) rfl rfl rfl rfl
theorem e_X10_says (I : Nat → Int32) (L : Nat → Int64) (A : Nat → Nat → Int32) (J : Nat → Nat → Int64) (rt : Nat) (sc : Nat) (a1 : Int32) (a2 : Int32) (a3 : Int32) (a4 : Int32) : ∀ r : (Int32 × (Nat → Int32)), g_X10_says I a1 a2 a3 a4 = r → tw_ME 298 (0, [some (.ref 44), some (.int a1), some (.int a2), some (.int a3), some (.int a4), none], [], (I, L, tw_P 2 14 rt sc, A, J, 57)) (some (.int r.1), ((r.2), L, tw_P 2 14 rt sc, A, J, 57)) := by
  intro r h
  unfold g_X10_says at h
  refine tw_blk (cd := tw_c298) rfl 1 (c1 := (1, [some (.ref 44), some (.int a1), some (.int a2), some (.int a3), some (.int a4), none], [.ref 44], (I, L, tw_P 2 14 rt sc, A, J, 57))) rfl ?_
  obtain ⟨I1, hx2, h⟩ := tw_letE h
  refine tw_callE (cd := tw_c298) rfl rfl rfl rfl rfl (e_X10_good I L A J rt sc _ hx2) (by exact Or.inl rfl) ?_
  refine tw_blk (cd := tw_c298) rfl 6 (c1 := (8, [some (.ref 44), some (.int a1), some (.int a2), some (.int a3), some (.int a4), none], [.int 9, .int 0, .int a1, .int (I1 4414), .ref 44], (I1, L, tw_P 2 14 rt sc, A, J, 57))) rfl ?_
  refine tw_callE (cd := tw_c298) rfl rfl rfl rfl rfl (e_X10_in I1 L A J rt sc a1 (0 : Int32) (9 : Int32) _ rfl) (by exact Or.inl rfl) ?_
  refine tw_callE (cd := tw_c298) rfl rfl rfl rfl rfl (e_X10_why I1 L A J rt sc (I1 4414) (tw_b (g_X10_in a1 (0 : Int32) (9 : Int32))) _ rfl) (by exact Or.inl rfl) ?_
  refine tw_blk (cd := tw_c298) rfl 2 (c1 := (12, [some (.ref 44), some (.int a1), some (.int a2), some (.int a3), some (.int a4), some (.int (g_X10_why (I1 4414) (tw_b (g_X10_in a1 (0 : Int32) (9 : Int32)))))], [.int (g_X10_why (I1 4414) (tw_b (g_X10_in a1 (0 : Int32) (9 : Int32))))], (I1, L, tw_P 2 14 rt sc, A, J, 57))) rfl ?_
  by_cases hc3 : (g_X10_why (I1 4414) (tw_b (g_X10_in a1 (0 : Int32) (9 : Int32)))) = 0
  · rw [if_pos hc3] at h
    refine tw_br (cd := tw_c298) rfl rfl rfl (by exact if_pos hc3) ?_
    refine tw_blk (cd := tw_c298) rfl 1 (c1 := (14, [some (.ref 44), some (.int a1), some (.int a2), some (.int a3), some (.int a4), some (.int (g_X10_why (I1 4414) (tw_b (g_X10_in a1 (0 : Int32) (9 : Int32)))))], [.int a4], (I1, L, tw_P 2 14 rt sc, A, J, 57))) rfl ?_
    by_cases hc4 : a4 = 0
    · rw [if_pos hc4] at h
      refine tw_br (cd := tw_c298) rfl rfl rfl (by exact if_pos hc4) ?_
      refine tw_blk (cd := tw_c298) rfl 3 (c1 := (23, [some (.ref 44), some (.int a1), some (.int a2), some (.int a3), some (.int a4), some (.int (g_X10_why (I1 4414) (tw_b (g_X10_in a1 (0 : Int32) (9 : Int32)))))], [.int a3, .int a2, .int a1], (I1, L, tw_P 2 14 rt sc, A, J, 57))) rfl ?_
      refine tw_callE (cd := tw_c298) rfl rfl rfl rfl rfl (e_X10_saysOf I1 L A J rt sc a1 a2 a3 _ rfl) (by exact Or.inl rfl) ?_
      subst h
      exact tw_retE (cd := tw_c298) rfl rfl rfl rfl
    · rw [if_neg hc4] at h
      refine tw_br (cd := tw_c298) rfl rfl rfl (by exact if_neg hc4) ?_
      refine tw_blk (cd := tw_c298) rfl 3 (c1 := (18, [some (.ref 44), some (.int a1), some (.int a2), some (.int a3), some (.int a4), some (.int (g_X10_why (I1 4414) (tw_b (g_X10_in a1 (0 : Int32) (9 : Int32)))))], [.int a2, .int a3, .int a1], (I1, L, tw_P 2 14 rt sc, A, J, 57))) rfl ?_
      refine tw_callE (cd := tw_c298) rfl rfl rfl rfl rfl (e_X10_saysOf I1 L A J rt sc a1 a3 a2 _ rfl) (by exact Or.inl rfl) ?_
      refine tw_blk (cd := tw_c298) rfl 1 (c1 := (24, [some (.ref 44), some (.int a1), some (.int a2), some (.int a3), some (.int a4), some (.int (g_X10_why (I1 4414) (tw_b (g_X10_in a1 (0 : Int32) (9 : Int32)))))], [.int (g_X10_saysOf a1 a3 a2)], (I1, L, tw_P 2 14 rt sc, A, J, 57))) rfl ?_
      subst h
      exact tw_retE (cd := tw_c298) rfl rfl rfl rfl
  · rw [if_neg hc3] at h
    refine tw_br (cd := tw_c298) rfl rfl rfl (by exact if_neg hc3) ?_
    refine tw_blk (cd := tw_c298) rfl 4 (c1 := (29, [some (.ref 44), some (.int a1), some (.int a2), some (.int a3), some (.int a4), some (.int (g_X10_why (I1 4414) (tw_b (g_X10_in a1 (0 : Int32) (9 : Int32)))))], [.int (-100)], ((upd I1 4411 (g_X10_why (I1 4414) (tw_b (g_X10_in a1 (0 : Int32) (9 : Int32))))), L, tw_P 2 14 rt sc, A, J, 57))) rfl ?_
    subst h
    exact tw_retE (cd := tw_c298) rfl rfl rfl rfl
theorem e_X9_isRest (I : Nat → Int32) (L : Nat → Int64) (A : Nat → Nat → Int32) (J : Nat → Nat → Int64) (rt : Nat) (sc : Nat) (a0 : Int32) (a1 : Int32) (a2 : Int32) : ∀ r : Bool, g_X9_isRest a0 a1 a2 = r → tw_ME 156 (0, [some (.int a0), some (.int a1), some (.int a2)], [], (I, L, tw_P 2 14 rt sc, A, J, 57)) (some (.int (tw_b r)), (I, L, tw_P 2 14 rt sc, A, J, 57)) := by
  intro r h
  unfold g_X9_isRest at h
  refine tw_blk (cd := tw_c156) rfl 3 (c1 := (3, [some (.int a0), some (.int a1), some (.int a2)], [.int a2, .int a1, .int a0], (I, L, tw_P 2 14 rt sc, A, J, 57))) rfl ?_
  refine tw_callE (cd := tw_c156) rfl rfl rfl rfl rfl (e_X9_due I L A J rt sc a0 a1 a2 _ rfl) (by exact Or.inl rfl) ?_
  refine tw_blk (cd := tw_c156) rfl 2 (c1 := (6, [some (.int a0), some (.int a1), some (.int a2)], [.int a1, .int a0, .int (g_X9_due a0 a1 a2)], (I, L, tw_P 2 14 rt sc, A, J, 57))) rfl ?_
  obtain ⟨x2, hj3, h⟩ := tw_letE h
  have K : tw_ME 156 (10, [some (.int a0), some (.int a1), some (.int a2)], [.int x2, .int a0, .int (g_X9_due a0 a1 a2)], (I, L, tw_P 2 14 rt sc, A, J, 57)) (some (.int (tw_b r)), (I, L, tw_P 2 14 rt sc, A, J, 57)) := by
    refine tw_blk (cd := tw_c156) rfl 1 (c1 := (11, [some (.int a0), some (.int a1), some (.int a2)], [.int a2, .int x2, .int a0, .int (g_X9_due a0 a1 a2)], (I, L, tw_P 2 14 rt sc, A, J, 57))) rfl ?_
    refine tw_callE (cd := tw_c156) rfl rfl rfl rfl rfl (e_X9_due I L A J rt sc a0 x2 a2 _ rfl) (by exact Or.inl rfl) ?_
    by_cases hc4 : (g_X9_due a0 a1 a2) < (g_X9_due a0 x2 a2)
    · rw [if_pos hc4] at h
      refine tw_br (cd := tw_c156) rfl rfl rfl (by exact if_pos hc4) ?_
      refine tw_blk (cd := tw_c156) rfl 1 (c1 := (29, [some (.int a0), some (.int a1), some (.int a2)], [.int 0], (I, L, tw_P 2 14 rt sc, A, J, 57))) rfl ?_
      subst h
      exact tw_retZ (cd := tw_c156) (b := false) rfl rfl rfl rfl
    · rw [if_neg hc4] at h
      refine tw_br (cd := tw_c156) rfl rfl rfl (by exact if_neg hc4) ?_
      refine tw_blk (cd := tw_c156) rfl 3 (c1 := (16, [some (.int a0), some (.int a1), some (.int a2)], [.int a1, .int a2, .int a0], (I, L, tw_P 2 14 rt sc, A, J, 57))) rfl ?_
      refine tw_callE (cd := tw_c156) rfl rfl rfl rfl rfl (e_X9_due I L A J rt sc a0 a2 a1 _ rfl) (by exact Or.inl rfl) ?_
      refine tw_blk (cd := tw_c156) rfl 2 (c1 := (19, [some (.int a0), some (.int a1), some (.int a2)], [.int a2, .int a0, .int (g_X9_due a0 a2 a1)], (I, L, tw_P 2 14 rt sc, A, J, 57))) rfl ?_
      obtain ⟨x6, hj7, h⟩ := tw_letE h
      have K : tw_ME 156 (23, [none, some (.int a1), none], [.int x6, .int a0, .int (g_X9_due a0 a2 a1)], (I, L, tw_P 2 14 rt sc, A, J, 57)) (some (.int (tw_b r)), (I, L, tw_P 2 14 rt sc, A, J, 57)) := by
        refine tw_blk (cd := tw_c156) rfl 1 (c1 := (24, [none, some (.int a1), none], [.int a1, .int x6, .int a0, .int (g_X9_due a0 a2 a1)], (I, L, tw_P 2 14 rt sc, A, J, 57))) rfl ?_
        refine tw_callE (cd := tw_c156) rfl rfl rfl rfl rfl (e_X9_due I L A J rt sc a0 x6 a1 _ rfl) (by exact Or.inl rfl) ?_
        by_cases hc8 : (g_X9_due a0 a2 a1) < (g_X9_due a0 x6 a1)
        · rw [if_pos hc8] at h
          refine tw_br (cd := tw_c156) rfl rfl rfl (by exact if_pos hc8) ?_
          refine tw_blk (cd := tw_c156) rfl 1 (c1 := (29, [none, some (.int a1), none], [.int 0], (I, L, tw_P 2 14 rt sc, A, J, 57))) rfl ?_
          subst h
          exact tw_retZ (cd := tw_c156) (b := false) rfl rfl rfl rfl
        · rw [if_neg hc8] at h
          refine tw_br (cd := tw_c156) rfl rfl rfl (by exact if_neg hc8) ?_
          refine tw_blk (cd := tw_c156) rfl 2 (c1 := (29, [none, some (.int a1), none], [.int 1], (I, L, tw_P 2 14 rt sc, A, J, 57))) rfl ?_
          subst h
          exact tw_retZ (cd := tw_c156) (b := true) rfl rfl rfl rfl
      by_cases hc5 : a2 = 0
      · rw [if_pos hc5] at hj7
        refine tw_br (cd := tw_c156) rfl rfl rfl (by exact if_pos hc5) ?_
        refine tw_blk (cd := tw_c156) rfl 2 (c1 := (23, [some (.int a0), some (.int a1), some (.int a2)], [.int 1, .int a0, .int (g_X9_due a0 a2 a1)], (I, L, tw_P 2 14 rt sc, A, J, 57))) rfl ?_
        refine tw_forget (ls2 := [none, some (.int a1), none]) ⟨rfl, trivial⟩ ?_
        subst hj7
        exact K
      · rw [if_neg hc5] at hj7
        refine tw_br (cd := tw_c156) rfl rfl rfl (by exact if_neg hc5) ?_
        refine tw_blk (cd := tw_c156) rfl 1 (c1 := (23, [some (.int a0), some (.int a1), some (.int a2)], [.int 0, .int a0, .int (g_X9_due a0 a2 a1)], (I, L, tw_P 2 14 rt sc, A, J, 57))) rfl ?_
        refine tw_forget (ls2 := [none, some (.int a1), none]) ⟨rfl, trivial⟩ ?_
        subst hj7
        exact K
  by_cases hc1 : a1 = 0
  · rw [if_pos hc1] at hj3
    refine tw_br (cd := tw_c156) rfl rfl rfl (by exact if_pos hc1) ?_
    refine tw_blk (cd := tw_c156) rfl 2 (c1 := (10, [some (.int a0), some (.int a1), some (.int a2)], [.int 1, .int a0, .int (g_X9_due a0 a1 a2)], (I, L, tw_P 2 14 rt sc, A, J, 57))) rfl ?_
    subst hj3
    exact K
  · rw [if_neg hc1] at hj3
    refine tw_br (cd := tw_c156) rfl rfl rfl (by exact if_neg hc1) ?_
    refine tw_blk (cd := tw_c156) rfl 1 (c1 := (10, [some (.int a0), some (.int a1), some (.int a2)], [.int 0, .int a0, .int (g_X9_due a0 a1 a2)], (I, L, tw_P 2 14 rt sc, A, J, 57))) rfl ?_
    subst hj3
    exact K
theorem g_X9_rests_L1_ok (I : Nat → Int32) (L : Nat → Int64) (A : Nat → Nat → Int32) (J : Nat → Nat → Int64) (rt : Nat) (sc : Nat) (a1 : Int32) (c1 : Bool) (I2 : Nat → Int32) (out : Option Value × tw_S) : ∀ (n : Nat) (v1_2 : Int32) (v1_3 : Int32) (ex : Int32), g_X9_rests_L1 a1 n v1_2 v1_3 = some ex → tw_ME 153 (33, [some (.ref 0), none, some (.int ex), none], [], (I2, L, tw_P 2 14 rt sc, A, J, 57)) out → tw_ME 153 (10, [some (.ref 0), some (.int a1), some (.int v1_2), some (.int v1_3)], [], (I2, L, tw_P 2 14 rt sc, A, J, 57)) out := by
  intro n
  induction n with
  | zero =>
    intro v1_2 v1_3 ex h _
    cases h
  | succ n ih =>
    intro v1_2 v1_3 ex h K
    rw [g_X9_rests_L1] at h
    refine tw_blk (cd := tw_c153) rfl 1 (c1 := (11, [some (.ref 0), some (.int a1), some (.int v1_2), some (.int v1_3)], [.int v1_3], (I2, L, tw_P 2 14 rt sc, A, J, 57))) rfl ?_
    refine tw_blk (cd := tw_c153) rfl 1 (c1 := (12, [some (.ref 0), some (.int a1), some (.int v1_2), some (.int v1_3)], [.int 4, .int v1_3], (I2, L, tw_P 2 14 rt sc, A, J, 57))) rfl ?_
    by_cases hc6 : (4 : Int32) ≤ v1_3
    · rw [if_pos hc6] at h
      refine tw_br (cd := tw_c153) rfl rfl rfl (by exact if_pos hc6) ?_
      refine tw_forget (ls2 := [some (.ref 0), none, some (.int v1_2), none]) ⟨rfl, rfl, trivial⟩ ?_
      have h := Option.some.inj h
      subst h
      exact K
    · rw [if_neg hc6] at h
      refine tw_br (cd := tw_c153) rfl rfl rfl (by exact if_neg hc6) ?_
      refine tw_blk (cd := tw_c153) rfl 3 (c1 := (16, [some (.ref 0), some (.int a1), some (.int v1_2), some (.int v1_3)], [.int 2, .int v1_3, .int a1], (I2, L, tw_P 2 14 rt sc, A, J, 57))) rfl ?_
      obtain ⟨x8, hj9, h⟩ := tw_bindE h
      have K : tw_ME 153 (20, [some (.ref 0), some (.int a1), some (.int v1_2), some (.int v1_3)], [.int x8, .int a1], (I2, L, tw_P 2 14 rt sc, A, J, 57)) out := by
        refine tw_blk (cd := tw_c153) rfl 2 (c1 := (22, [some (.ref 0), some (.int a1), some (.int v1_2), some (.int v1_3)], [.int 2, .int v1_3, .int x8, .int a1], (I2, L, tw_P 2 14 rt sc, A, J, 57))) rfl ?_
        refine tw_br (cd := tw_c153) rfl rfl rfl (by exact rfl) ?_
        refine tw_blk (cd := tw_c153) rfl 1 (c1 := (24, [some (.ref 0), some (.int a1), some (.int v1_2), some (.int v1_3)], [.int 1, .int (v1_3 - v1_3 / (2 : Int32) * (2 : Int32)), .int x8, .int a1], (I2, L, tw_P 2 14 rt sc, A, J, 57))) rfl ?_
        obtain ⟨x11, hj12, h⟩ := tw_bindE h
        have K : tw_ME 153 (28, [some (.ref 0), some (.int a1), some (.int v1_2), some (.int v1_3)], [.int x11, .int x8, .int a1], (I2, L, tw_P 2 14 rt sc, A, J, 57)) out := by
          refine tw_callE (cd := tw_c153) rfl rfl rfl rfl rfl (e_X9_isRest I2 L A J rt sc a1 x8 x11 _ rfl) (by exact Or.inl rfl) ?_
          obtain ⟨x14, hj15, h⟩ := tw_bindE h
          have K : tw_ME 153 (31, [some (.ref 0), some (.int a1), some (.int x14), some (.int v1_3)], [], (I2, L, tw_P 2 14 rt sc, A, J, 57)) out := by
            refine tw_blk (cd := tw_c153) rfl 2 (c1 := (10, [some (.ref 0), some (.int a1), some (.int x14), some (.int (v1_3 + (1 : Int32)))], [], (I2, L, tw_P 2 14 rt sc, A, J, 57))) rfl ?_
            exact ih x14 (v1_3 + (1 : Int32)) _ h K
          by_cases hc13 : (g_X9_isRest a1 x8 x11) = true
          · rw [if_pos hc13] at hj15
            refine tw_br (cd := tw_c153) rfl rfl rfl (by exact if_neg (tw_b_t hc13)) ?_
            refine tw_blk (cd := tw_c153) rfl 1 (c1 := (31, [some (.ref 0), some (.int a1), some (.int (v1_2 + (1 : Int32))), some (.int v1_3)], [], (I2, L, tw_P 2 14 rt sc, A, J, 57))) rfl ?_
            have hj15s := Option.some.inj hj15
            subst hj15s
            exact K
          · rw [if_neg hc13] at hj15
            refine tw_br (cd := tw_c153) rfl rfl rfl (by exact if_pos (tw_b_f hc13)) ?_
            have hj15s := Option.some.inj hj15
            subst hj15s
            exact K
        by_cases hc10 : (v1_3 - v1_3 / (2 : Int32) * (2 : Int32)) = (1 : Int32)
        · rw [if_pos hc10] at hj12
          refine tw_br (cd := tw_c153) rfl rfl rfl (by exact if_pos hc10) ?_
          refine tw_blk (cd := tw_c153) rfl 2 (c1 := (28, [some (.ref 0), some (.int a1), some (.int v1_2), some (.int v1_3)], [.int 1, .int x8, .int a1], (I2, L, tw_P 2 14 rt sc, A, J, 57))) rfl ?_
          have hj12s := Option.some.inj hj12
          subst hj12s
          exact K
        · rw [if_neg hc10] at hj12
          refine tw_br (cd := tw_c153) rfl rfl rfl (by exact if_neg hc10) ?_
          refine tw_blk (cd := tw_c153) rfl 1 (c1 := (28, [some (.ref 0), some (.int a1), some (.int v1_2), some (.int v1_3)], [.int 0, .int x8, .int a1], (I2, L, tw_P 2 14 rt sc, A, J, 57))) rfl ?_
          have hj12s := Option.some.inj hj12
          subst hj12s
          exact K
      by_cases hc7 : v1_3 < (2 : Int32)
      · rw [if_pos hc7] at hj9
        refine tw_br (cd := tw_c153) rfl rfl rfl (by exact if_pos hc7) ?_
        refine tw_blk (cd := tw_c153) rfl 1 (c1 := (20, [some (.ref 0), some (.int a1), some (.int v1_2), some (.int v1_3)], [.int 0, .int a1], (I2, L, tw_P 2 14 rt sc, A, J, 57))) rfl ?_
        have hj9s := Option.some.inj hj9
        subst hj9s
        exact K
      · rw [if_neg hc7] at hj9
        refine tw_br (cd := tw_c153) rfl rfl rfl (by exact if_neg hc7) ?_
        refine tw_blk (cd := tw_c153) rfl 2 (c1 := (20, [some (.ref 0), some (.int a1), some (.int v1_2), some (.int v1_3)], [.int 1, .int a1], (I2, L, tw_P 2 14 rt sc, A, J, 57))) rfl ?_
        have hj9s := Option.some.inj hj9
        subst hj9s
        exact K
theorem e_X9_rests (I : Nat → Int32) (L : Nat → Int64) (A : Nat → Nat → Int32) (J : Nat → Nat → Int64) (rt : Nat) (sc : Nat) (a1 : Int32) : ∀ r : (Int32 × (Nat → Int32)), g_X9_rests I A a1 = some r → tw_ME 153 (0, [some (.ref 0), some (.int a1), none, none], [], (I, L, tw_P 2 14 rt sc, A, J, 57)) (some (.int r.1), ((r.2), L, tw_P 2 14 rt sc, A, J, 57)) := by
  intro r h
  unfold g_X9_rests at h
  refine tw_blk (cd := tw_c153) rfl 2 (c1 := (2, [some (.ref 0), some (.int a1), none, none], [.int a1, .ref 0], (I, L, tw_P 2 14 rt sc, A, J, 57))) rfl ?_
  obtain ⟨⟨c1, I2⟩, hx3, h⟩ := tw_letE h
  dsimp only at h
  refine tw_callE (cd := tw_c153) rfl rfl rfl rfl rfl (e_X9_mayNotHeat I L A J rt sc a1 _ hx3) (by exact Or.inl rfl) ?_
  by_cases hc4 : c1 = true
  · rw [if_pos hc4] at h
    refine tw_br (cd := tw_c153) rfl rfl rfl (by exact if_neg (tw_b_t hc4)) ?_
    refine tw_blk (cd := tw_c153) rfl 1 (c1 := (5, [some (.ref 0), some (.int a1), none, none], [.int (-1)], (I2, L, tw_P 2 14 rt sc, A, J, 57))) rfl ?_
    have h := Option.some.inj h
    subst h
    exact tw_retE (cd := tw_c153) rfl rfl rfl rfl
  · rw [if_neg hc4] at h
    refine tw_br (cd := tw_c153) rfl rfl rfl (by exact if_pos (tw_b_f hc4)) ?_
    refine tw_blk (cd := tw_c153) rfl 4 (c1 := (10, [some (.ref 0), some (.int a1), some (.int 0), some (.int 0)], [], (I2, L, tw_P 2 14 rt sc, A, J, 57))) rfl ?_
    obtain ⟨x5, hx19, h⟩ := tw_bindE h
    refine g_X9_rests_L1_ok I L A J rt sc a1 c1 I2 _ 4096 (0 : Int32) (0 : Int32) _ hx19 ?_
    refine tw_blk (cd := tw_c153) rfl 2 (c1 := (35, [some (.ref 0), none, some (.int x5), none], [.int x5, .ref 0], (I2, L, tw_P 2 14 rt sc, A, J, 57))) rfl ?_
    obtain ⟨⟨x16, I17⟩, hx18, h⟩ := tw_letE h
    dsimp only at h
    refine tw_callE (cd := tw_c153) rfl rfl rfl rfl rfl (e_X9_grant I2 L A J rt sc x5 _ hx18) (by exact Or.inl rfl) ?_
    have h := Option.some.inj h
    subst h
    exact tw_retE (cd := tw_c153) rfl rfl rfl rfl
theorem g_X10_seekRests_L1_ok (I : Nat → Int32) (L : Nat → Int64) (A : Nat → Nat → Int32) (J : Nat → Nat → Int64) (rt : Nat) (sc : Nat) (a1 : Int32) (out : Option Value × tw_S) : ∀ (n : Nat) (v1_2 : Int32) (v1_3 : Int32) (I_1 : Nat → Int32) (ex : (Int32 × (Nat → Int32))), g_X10_seekRests_L1 a1 n v1_2 v1_3 I_1 = some ex → tw_ME 299 (69, [none, none, some (.int (ex.1)), none, none, none], [], ((ex.2), L, tw_P 2 14 rt sc, A, J, 57)) out → tw_ME 299 (7, [some (.ref 44), some (.int a1), some (.int v1_2), some (.int v1_3), none, none], [], (I_1, L, tw_P 2 14 rt sc, A, J, 57)) out := by
  intro n
  induction n with
  | zero =>
    intro v1_2 v1_3 I_1 ex h _
    cases h
  | succ n ih =>
    intro v1_2 v1_3 I_1 ex h K
    rw [g_X10_seekRests_L1] at h
    refine tw_blk (cd := tw_c299) rfl 1 (c1 := (8, [some (.ref 44), some (.int a1), some (.int v1_2), some (.int v1_3), none, none], [.int v1_3], (I_1, L, tw_P 2 14 rt sc, A, J, 57))) rfl ?_
    refine tw_blk (cd := tw_c299) rfl 1 (c1 := (9, [some (.ref 44), some (.int a1), some (.int v1_2), some (.int v1_3), none, none], [.int 4, .int v1_3], (I_1, L, tw_P 2 14 rt sc, A, J, 57))) rfl ?_
    by_cases hc3 : (4 : Int32) ≤ v1_3
    · rw [if_pos hc3] at h
      refine tw_br (cd := tw_c299) rfl rfl rfl (by exact if_pos hc3) ?_
      refine tw_forget (ls2 := [none, none, some (.int v1_2), none, none, none]) ⟨rfl, trivial⟩ ?_
      have h := Option.some.inj h
      subst h
      exact K
    · rw [if_neg hc3] at h
      refine tw_br (cd := tw_c299) rfl rfl rfl (by exact if_neg hc3) ?_
      refine tw_blk (cd := tw_c299) rfl 2 (c1 := (12, [some (.ref 44), some (.int a1), some (.int v1_2), some (.int v1_3), none, none], [.int 1, .int v1_3], (I_1, L, tw_P 2 14 rt sc, A, J, 57))) rfl ?_
      obtain ⟨x5, hj6, h⟩ := tw_bindE h
      have K : tw_ME 299 (16, [some (.ref 44), some (.int a1), some (.int v1_2), some (.int v1_3), none, none], [.int x5], (I_1, L, tw_P 2 14 rt sc, A, J, 57)) out := by
        refine tw_blk (cd := tw_c299) rfl 3 (c1 := (19, [some (.ref 44), some (.int a1), some (.int v1_2), some (.int v1_3), some (.int x5), none], [.int 2, .int v1_3], (I_1, L, tw_P 2 14 rt sc, A, J, 57))) rfl ?_
        refine tw_br (cd := tw_c299) rfl rfl rfl (by exact rfl) ?_
        refine tw_blk (cd := tw_c299) rfl 1 (c1 := (21, [some (.ref 44), some (.int a1), some (.int v1_2), some (.int v1_3), some (.int x5), none], [.int 1, .int (v1_3 - v1_3 / (2 : Int32) * (2 : Int32))], (I_1, L, tw_P 2 14 rt sc, A, J, 57))) rfl ?_
        obtain ⟨x8, hj9, h⟩ := tw_bindE h
        have K : tw_ME 299 (25, [some (.ref 44), some (.int a1), some (.int v1_2), some (.int v1_3), some (.int x5), none], [.int x8], (I_1, L, tw_P 2 14 rt sc, A, J, 57)) out := by
          refine tw_blk (cd := tw_c299) rfl 3 (c1 := (28, [some (.ref 44), some (.int a1), some (.int v1_2), some (.int v1_3), some (.int x5), some (.int x8)], [.int x5, .int a1], (I_1, L, tw_P 2 14 rt sc, A, J, 57))) rfl ?_
          obtain ⟨x11, hj12, h⟩ := tw_bindE h
          have K : tw_ME 299 (32, [some (.ref 44), some (.int a1), some (.int v1_2), some (.int v1_3), some (.int x5), some (.int x8)], [.int x11, .int a1], (I_1, L, tw_P 2 14 rt sc, A, J, 57)) out := by
            refine tw_blk (cd := tw_c299) rfl 1 (c1 := (33, [some (.ref 44), some (.int a1), some (.int v1_2), some (.int v1_3), some (.int x5), some (.int x8)], [.int x8, .int x11, .int a1], (I_1, L, tw_P 2 14 rt sc, A, J, 57))) rfl ?_
            refine tw_callE (cd := tw_c299) rfl rfl rfl rfl rfl (e_X10_saysOf I_1 L A J rt sc a1 x11 x8 _ rfl) (by exact Or.inl rfl) ?_
            refine tw_blk (cd := tw_c299) rfl 3 (c1 := (37, [some (.ref 44), some (.int a1), some (.int v1_2), some (.int v1_3), some (.int x5), some (.int x8)], [.int x8, .int x5, .int a1, .int (g_X10_saysOf a1 x11 x8)], (I_1, L, tw_P 2 14 rt sc, A, J, 57))) rfl ?_
            refine tw_callE (cd := tw_c299) rfl rfl rfl rfl rfl (e_X10_saysOf I_1 L A J rt sc a1 x5 x8 _ rfl) (by exact Or.inl rfl) ?_
            obtain ⟨⟨x14, I15⟩, hj16, h⟩ := tw_bindE h
            dsimp only at h
            have K : tw_ME 299 (67, [some (.ref 44), some (.int a1), some (.int x14), some (.int v1_3), none, none], [], (I15, L, tw_P 2 14 rt sc, A, J, 57)) out := by
              refine tw_blk (cd := tw_c299) rfl 2 (c1 := (7, [some (.ref 44), some (.int a1), some (.int x14), some (.int (v1_3 + (1 : Int32))), none, none], [], (I15, L, tw_P 2 14 rt sc, A, J, 57))) rfl ?_
              exact ih x14 (v1_3 + (1 : Int32)) I15 _ h K
            by_cases hc13 : (g_X10_saysOf a1 x5 x8) < (g_X10_saysOf a1 x11 x8)
            · rw [if_pos hc13] at hj16
              refine tw_br (cd := tw_c299) rfl rfl rfl (by exact if_pos hc13) ?_
              refine tw_forget (ls2 := [some (.ref 44), some (.int a1), some (.int v1_2), some (.int v1_3), none, none]) ⟨rfl, rfl, rfl, rfl, trivial⟩ ?_
              have hj16s := Option.some.inj hj16
              obtain ⟨hj16_0, hj16r0⟩ := Prod.mk.inj hj16s
              subst hj16_0
              subst hj16r0
              exact K
            · rw [if_neg hc13] at hj16
              refine tw_br (cd := tw_c299) rfl rfl rfl (by exact if_neg hc13) ?_
              refine tw_blk (cd := tw_c299) rfl 2 (c1 := (41, [some (.ref 44), some (.int a1), some (.int v1_2), some (.int v1_3), some (.int x5), some (.int x8)], [.int x8, .int a1], (I_1, L, tw_P 2 14 rt sc, A, J, 57))) rfl ?_
              obtain ⟨x18, hj19, hj16⟩ := tw_bindE hj16
              have K : tw_ME 299 (45, [some (.ref 44), some (.int a1), some (.int v1_2), some (.int v1_3), some (.int x5), some (.int x8)], [.int x18, .int a1], (I_1, L, tw_P 2 14 rt sc, A, J, 57)) (some (.int r.1), ((r.2), L, tw_P 2 14 rt sc, A, J, 57)) := by
                refine tw_blk (cd := tw_c299) rfl 1 (c1 := (46, [some (.ref 44), some (.int a1), some (.int v1_2), some (.int v1_3), some (.int x5), some (.int x8)], [.int x5, .int x18, .int a1], (I_1, L, tw_P 2 14 rt sc, A, J, 57))) rfl ?_
                refine tw_callE (cd := tw_c299) rfl rfl rfl rfl rfl (e_X10_saysOf I_1 L A J rt sc a1 x18 x5 _ rfl) (by exact Or.inl rfl) ?_
                refine tw_blk (cd := tw_c299) rfl 3 (c1 := (50, [some (.ref 44), some (.int a1), some (.int v1_2), some (.int v1_3), some (.int x5), some (.int x8)], [.int x5, .int x8, .int a1, .int (g_X10_saysOf a1 x18 x5)], (I_1, L, tw_P 2 14 rt sc, A, J, 57))) rfl ?_
                refine tw_callE (cd := tw_c299) rfl rfl rfl rfl rfl (e_X10_saysOf I_1 L A J rt sc a1 x8 x5 _ rfl) (by exact Or.inl rfl) ?_
                by_cases hc20 : (g_X10_saysOf a1 x18 x5) ≤ (g_X10_saysOf a1 x8 x5)
                · rw [if_pos hc20] at hj16
                  refine tw_br (cd := tw_c299) rfl rfl rfl (by exact if_pos hc20) ?_
                  refine tw_blk (cd := tw_c299) rfl 1 (c1 := (54, [some (.ref 44), some (.int a1), some (.int v1_2), some (.int v1_3), some (.int x5), some (.int x8)], [.int v1_2], (I_1, L, tw_P 2 14 rt sc, A, J, 57))) rfl ?_
                  obtain ⟨I22, hj23, hj16⟩ := tw_bindE hj16
                  have K : tw_ME 299 (66, [some (.ref 44), some (.int a1), some (.int v1_2), some (.int v1_3), none, none], [], (I22, L, tw_P 2 14 rt sc, A, J, 57)) (some (.int r.1), ((r.2), L, tw_P 2 14 rt sc, A, J, 57)) := by
                    refine tw_blk (cd := tw_c299) rfl 1 (c1 := (67, [some (.ref 44), some (.int a1), some (.int (v1_2 + (1 : Int32))), some (.int v1_3), none, none], [], (I22, L, tw_P 2 14 rt sc, A, J, 57))) rfl ?_
                    have hj16s := Option.some.inj hj16
                    obtain ⟨hj16_0, hj16r0⟩ := Prod.mk.inj hj16s
                    subst hj16_0
                    subst hj16r0
                    exact K
                  by_cases hc21 : v1_2 = 0
                  · rw [if_pos hc21] at hj23
                    refine tw_br (cd := tw_c299) rfl rfl rfl (by exact if_pos hc21) ?_
                    refine tw_blk (cd := tw_c299) rfl 4 (c1 := (59, [some (.ref 44), some (.int a1), some (.int v1_2), some (.int v1_3), some (.int x5), some (.int x8)], [.int 2, .int v1_3, .int 10, .ref 44], (I_1, L, tw_P 2 14 rt sc, A, J, 57))) rfl ?_
                    refine tw_br (cd := tw_c299) rfl rfl rfl (by exact rfl) ?_
                    refine tw_blk (cd := tw_c299) rfl 3 (c1 := (63, [some (.ref 44), some (.int a1), some (.int v1_2), some (.int v1_3), some (.int x5), some (.int x8)], [.int 2, .int v1_3, .int ((10 : Int32) * (v1_3 / (2 : Int32))), .ref 44], (I_1, L, tw_P 2 14 rt sc, A, J, 57))) rfl ?_
                    refine tw_br (cd := tw_c299) rfl rfl rfl (by exact rfl) ?_
                    refine tw_blk (cd := tw_c299) rfl 2 (c1 := (66, [some (.ref 44), some (.int a1), some (.int v1_2), some (.int v1_3), some (.int x5), some (.int x8)], [], ((upd I_1 4436 (((10 : Int32) * (v1_3 / (2 : Int32))) + (v1_3 - v1_3 / (2 : Int32) * (2 : Int32)))), L, tw_P 2 14 rt sc, A, J, 57))) rfl ?_
                    refine tw_forget (ls2 := [some (.ref 44), some (.int a1), some (.int v1_2), some (.int v1_3), none, none]) ⟨rfl, rfl, rfl, rfl, trivial⟩ ?_
                    have hj23s := Option.some.inj hj23
                    subst hj23s
                    exact K
                  · rw [if_neg hc21] at hj23
                    refine tw_br (cd := tw_c299) rfl rfl rfl (by exact if_neg hc21) ?_
                    refine tw_forget (ls2 := [some (.ref 44), some (.int a1), some (.int v1_2), some (.int v1_3), none, none]) ⟨rfl, rfl, rfl, rfl, trivial⟩ ?_
                    have hj23s := Option.some.inj hj23
                    subst hj23s
                    exact K
                · rw [if_neg hc20] at hj16
                  refine tw_br (cd := tw_c299) rfl rfl rfl (by exact if_neg hc20) ?_
                  refine tw_blk (cd := tw_c299) rfl 1 (c1 := (67, [some (.ref 44), some (.int a1), some (.int v1_2), some (.int v1_3), some (.int x5), some (.int x8)], [], (I_1, L, tw_P 2 14 rt sc, A, J, 57))) rfl ?_
                  refine tw_forget (ls2 := [some (.ref 44), some (.int a1), some (.int v1_2), some (.int v1_3), none, none]) ⟨rfl, rfl, rfl, rfl, trivial⟩ ?_
                  have hj16s := Option.some.inj hj16
                  obtain ⟨hj16_0, hj16r0⟩ := Prod.mk.inj hj16s
                  subst hj16_0
                  subst hj16r0
                  exact K
              by_cases hc17 : x8 = 0
              · rw [if_pos hc17] at hj19
                refine tw_br (cd := tw_c299) rfl rfl rfl (by exact if_pos hc17) ?_
                refine tw_blk (cd := tw_c299) rfl 2 (c1 := (45, [some (.ref 44), some (.int a1), some (.int v1_2), some (.int v1_3), some (.int x5), some (.int x8)], [.int 1, .int a1], (I_1, L, tw_P 2 14 rt sc, A, J, 57))) rfl ?_
                have hj19s := Option.some.inj hj19
                subst hj19s
                exact K
              · rw [if_neg hc17] at hj19
                refine tw_br (cd := tw_c299) rfl rfl rfl (by exact if_neg hc17) ?_
                refine tw_blk (cd := tw_c299) rfl 1 (c1 := (45, [some (.ref 44), some (.int a1), some (.int v1_2), some (.int v1_3), some (.int x5), some (.int x8)], [.int 0, .int a1], (I_1, L, tw_P 2 14 rt sc, A, J, 57))) rfl ?_
                have hj19s := Option.some.inj hj19
                subst hj19s
                exact K
          by_cases hc10 : x5 = 0
          · rw [if_pos hc10] at hj12
            refine tw_br (cd := tw_c299) rfl rfl rfl (by exact if_pos hc10) ?_
            refine tw_blk (cd := tw_c299) rfl 2 (c1 := (32, [some (.ref 44), some (.int a1), some (.int v1_2), some (.int v1_3), some (.int x5), some (.int x8)], [.int 1, .int a1], (I_1, L, tw_P 2 14 rt sc, A, J, 57))) rfl ?_
            have hj12s := Option.some.inj hj12
            subst hj12s
            exact K
          · rw [if_neg hc10] at hj12
            refine tw_br (cd := tw_c299) rfl rfl rfl (by exact if_neg hc10) ?_
            refine tw_blk (cd := tw_c299) rfl 1 (c1 := (32, [some (.ref 44), some (.int a1), some (.int v1_2), some (.int v1_3), some (.int x5), some (.int x8)], [.int 0, .int a1], (I_1, L, tw_P 2 14 rt sc, A, J, 57))) rfl ?_
            have hj12s := Option.some.inj hj12
            subst hj12s
            exact K
        by_cases hc7 : (v1_3 - v1_3 / (2 : Int32) * (2 : Int32)) = (1 : Int32)
        · rw [if_pos hc7] at hj9
          refine tw_br (cd := tw_c299) rfl rfl rfl (by exact if_pos hc7) ?_
          refine tw_blk (cd := tw_c299) rfl 2 (c1 := (25, [some (.ref 44), some (.int a1), some (.int v1_2), some (.int v1_3), some (.int x5), none], [.int 1], (I_1, L, tw_P 2 14 rt sc, A, J, 57))) rfl ?_
          have hj9s := Option.some.inj hj9
          subst hj9s
          exact K
        · rw [if_neg hc7] at hj9
          refine tw_br (cd := tw_c299) rfl rfl rfl (by exact if_neg hc7) ?_
          refine tw_blk (cd := tw_c299) rfl 1 (c1 := (25, [some (.ref 44), some (.int a1), some (.int v1_2), some (.int v1_3), some (.int x5), none], [.int 0], (I_1, L, tw_P 2 14 rt sc, A, J, 57))) rfl ?_
          have hj9s := Option.some.inj hj9
          subst hj9s
          exact K
      by_cases hc4 : v1_3 ≤ (1 : Int32)
      · rw [if_pos hc4] at hj6
        refine tw_br (cd := tw_c299) rfl rfl rfl (by exact if_pos hc4) ?_
        refine tw_blk (cd := tw_c299) rfl 1 (c1 := (16, [some (.ref 44), some (.int a1), some (.int v1_2), some (.int v1_3), none, none], [.int 0], (I_1, L, tw_P 2 14 rt sc, A, J, 57))) rfl ?_
        have hj6s := Option.some.inj hj6
        subst hj6s
        exact K
      · rw [if_neg hc4] at hj6
        refine tw_br (cd := tw_c299) rfl rfl rfl (by exact if_neg hc4) ?_
        refine tw_blk (cd := tw_c299) rfl 2 (c1 := (16, [some (.ref 44), some (.int a1), some (.int v1_2), some (.int v1_3), none, none], [.int 1], (I_1, L, tw_P 2 14 rt sc, A, J, 57))) rfl ?_
        have hj6s := Option.some.inj hj6
        subst hj6s
        exact K
theorem e_X10_seekRests (I : Nat → Int32) (L : Nat → Int64) (A : Nat → Nat → Int32) (J : Nat → Nat → Int64) (rt : Nat) (sc : Nat) (a1 : Int32) : ∀ r : (Int32 × (Nat → Int32)), g_X10_seekRests I a1 = some r → tw_ME 299 (0, [some (.ref 44), some (.int a1), none, none, none, none], [], (I, L, tw_P 2 14 rt sc, A, J, 57)) (some (.int r.1), ((r.2), L, tw_P 2 14 rt sc, A, J, 57)) := by
  intro r h
  unfold g_X10_seekRests at h
  refine tw_blk (cd := tw_c299) rfl 7 (c1 := (7, [some (.ref 44), some (.int a1), some (.int 0), some (.int 0), none, none], [], ((upd I 4436 (-2 : Int32)), L, tw_P 2 14 rt sc, A, J, 57))) rfl ?_
  obtain ⟨⟨x1, I2⟩, hx24, h⟩ := tw_bindE h
  dsimp only at h
  refine g_X10_seekRests_L1_ok I L A J rt sc a1 _ 4096 (0 : Int32) (0 : Int32) (upd I 4436 (-2 : Int32)) _ hx24 ?_
  refine tw_blk (cd := tw_c299) rfl 1 (c1 := (70, [none, none, some (.int x1), none, none, none], [.int x1], (I2, L, tw_P 2 14 rt sc, A, J, 57))) rfl ?_
  have h := Option.some.inj h
  subst h
  exact tw_retE (cd := tw_c299) rfl rfl rfl rfl
