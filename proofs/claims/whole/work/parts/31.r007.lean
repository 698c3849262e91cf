/-! the machine does what the functions say -/
set_option maxRecDepth 16000
theorem e_X9_isSight (I : Nat → Int32) (L : Nat → Int64) (A : Nat → Nat → Int32) (J : Nat → Nat → Int64) (rt : Nat) (sc : Nat) (a1 : Int32) : ∀ r : Bool, g_X9_isSight A a1 = r → tw_ME 179 (0, [some (.ref 0), some (.int a1)], [], (I, L, tw_P 2 14 rt sc, A, J, 57)) (some (.int (tw_b r)), (I, L, tw_P 2 14 rt sc, A, J, 57)) := by
  intro r h
  unfold g_X9_isSight at h
  refine tw_blk (cd := tw_c179) rfl 1 (c1 := (1, [some (.ref 0), some (.int a1)], [.int a1], (I, L, tw_P 2 14 rt sc, A, J, 57))) rfl ?_
  by_cases hc1 : a1 < 0
  · rw [if_pos hc1] at h
    refine tw_br (cd := tw_c179) rfl rfl rfl (by exact if_pos hc1) ?_
    refine tw_blk (cd := tw_c179) rfl 1 (c1 := (11, [some (.ref 0), some (.int a1)], [.int 0], (I, L, tw_P 2 14 rt sc, A, J, 57))) rfl ?_
    subst h
    exact tw_retZ (cd := tw_c179) (b := false) rfl rfl rfl rfl
  · rw [if_neg hc1] at h
    refine tw_br (cd := tw_c179) rfl rfl rfl (by exact if_neg hc1) ?_
    refine tw_blk (cd := tw_c179) rfl 4 (c1 := (6, [some (.ref 0), some (.int a1)], [.int 2, .ref 2, .int a1], (I, L, tw_P 2 14 rt sc, A, J, 57))) rfl ?_
    refine tw_callE (cd := tw_c179) rfl rfl rfl rfl rfl (e_X8_count_2 I L A J 2 14 rt sc (2 : Int32) _ rfl) (by exact Or.inl rfl) ?_
    by_cases hc2 : (g_X8_count_2 A (2 : Int32)) ≤ a1
    · rw [if_pos hc2] at h
      refine tw_br (cd := tw_c179) rfl rfl rfl (by exact if_pos hc2) ?_
      refine tw_blk (cd := tw_c179) rfl 1 (c1 := (11, [some (.ref 0), some (.int a1)], [.int 0], (I, L, tw_P 2 14 rt sc, A, J, 57))) rfl ?_
      subst h
      exact tw_retZ (cd := tw_c179) (b := false) rfl rfl rfl rfl
    · rw [if_neg hc2] at h
      refine tw_br (cd := tw_c179) rfl rfl rfl (by exact if_neg hc2) ?_
      refine tw_blk (cd := tw_c179) rfl 2 (c1 := (11, [some (.ref 0), some (.int a1)], [.int 1], (I, L, tw_P 2 14 rt sc, A, J, 57))) rfl ?_
      subst h
      exact tw_retZ (cd := tw_c179) (b := true) rfl rfl rfl rfl
theorem e_X9_sight (I : Nat → Int32) (L : Nat → Int64) (A : Nat → Nat → Int32) (J : Nat → Nat → Int64) (rt : Nat) (sc : Nat) (a1 : Int32) (a2 : Int32) : ∀ r : (Int32 × (Nat → Int32)), g_X9_sight I A a1 a2 = r → tw_ME 118 (0, [some (.ref 0), some (.int a1), some (.int a2)], [], (I, L, tw_P 2 14 rt sc, A, J, 57)) (some (.int r.1), ((r.2), L, tw_P 2 14 rt sc, A, J, 57)) := by
  intro r h
  unfold g_X9_sight at h
  refine tw_blk (cd := tw_c118) rfl 2 (c1 := (2, [some (.ref 0), some (.int a1), some (.int a2)], [.int a1, .ref 0], (I, L, tw_P 2 14 rt sc, A, J, 57))) rfl ?_
  refine tw_callE (cd := tw_c118) rfl rfl rfl rfl rfl (e_X9_isSight I L A J rt sc a1 _ rfl) (by exact Or.inl rfl) ?_
  by_cases hc1 : (g_X9_isSight A a1) = true
  · rw [if_pos hc1] at h
    refine tw_br (cd := tw_c118) rfl rfl rfl (by exact if_neg (tw_b_t hc1)) ?_
    refine tw_blk (cd := tw_c118) rfl 1 (c1 := (5, [some (.ref 0), some (.int a1), some (.int a2)], [.int a2], (I, L, tw_P 2 14 rt sc, A, J, 57))) rfl ?_
    by_cases hc2 : a2 < 0
    · rw [if_pos hc2] at h
      refine tw_br (cd := tw_c118) rfl rfl rfl (by exact if_pos hc2) ?_
      refine tw_blk (cd := tw_c118) rfl 2 (c1 := (11, [some (.ref 0), some (.int a1), some (.int a2)], [.int 1, .ref 0], (I, L, tw_P 2 14 rt sc, A, J, 57))) rfl ?_
      obtain ⟨⟨x3, I4⟩, hx5, h⟩ := tw_letE h
      dsimp only at h
      refine tw_callE (cd := tw_c118) rfl rfl rfl rfl rfl (e_X9_refuse I L A J 2 14 rt sc (1 : Int32) _ hx5) (by exact Or.inl rfl) ?_
      subst h
      exact tw_retE (cd := tw_c118) rfl rfl rfl rfl
    · rw [if_neg hc2] at h
      refine tw_br (cd := tw_c118) rfl rfl rfl (by exact if_neg hc2) ?_
      refine tw_blk (cd := tw_c118) rfl 2 (c1 := (8, [some (.ref 0), some (.int a1), some (.int a2)], [.int 2, .int a2], (I, L, tw_P 2 14 rt sc, A, J, 57))) rfl ?_
      by_cases hc6 : a2 ≤ (2 : Int32)
      · rw [if_pos hc6] at h
        refine tw_br (cd := tw_c118) rfl rfl rfl (by exact if_pos hc6) ?_
        refine tw_blk (cd := tw_c118) rfl 2 (c1 := (15, [some (.ref 0), some (.int a1), some (.int a2)], [.int 2, .int a2], (I, L, tw_P 2 14 rt sc, A, J, 57))) rfl ?_
        by_cases hc7 : a2 = (2 : Int32)
        · rw [if_pos hc7] at h
          refine tw_br (cd := tw_c118) rfl rfl rfl (by exact if_pos hc7) ?_
          refine tw_blk (cd := tw_c118) rfl 8 (c1 := (24, [some (.ref 0), some (.int a1), some (.int a2)], [.int (((I 3300) >>> (a1 &&& 31)) &&& (1 : Int32)), .ref 0], (I, L, tw_P 2 14 rt sc, A, J, 57))) rfl ?_
          obtain ⟨⟨x8, I9⟩, hx10, h⟩ := tw_letE h
          dsimp only at h
          refine tw_callE (cd := tw_c118) rfl rfl rfl rfl rfl (e_X9_grant I L A J 2 14 rt sc (((I 3300) >>> (a1 &&& 31)) &&& (1 : Int32)) _ hx10) (by exact Or.inl rfl) ?_
          subst h
          exact tw_retE (cd := tw_c118) rfl rfl rfl rfl
        · rw [if_neg hc7] at h
          refine tw_br (cd := tw_c118) rfl rfl rfl (by exact if_neg hc7) ?_
          refine tw_blk (cd := tw_c118) rfl 2 (c1 := (28, [some (.ref 0), some (.int a1), some (.int a2)], [.int a2, .ref 0], (I, L, tw_P 2 14 rt sc, A, J, 57))) rfl ?_
          obtain ⟨x12, hj13, h⟩ := tw_letE h
          have K : tw_ME 118 (40, [none, none, none], [.int x12, .ref 0], (I, L, tw_P 2 14 rt sc, A, J, 57)) (some (.int r.1), ((r.2), L, tw_P 2 14 rt sc, A, J, 57)) := by
            obtain ⟨⟨x14, I15⟩, hx16, h⟩ := tw_letE h
            dsimp only at h
            refine tw_callE (cd := tw_c118) rfl rfl rfl rfl rfl (e_X9_grant I L A J 2 14 rt sc x12 _ hx16) (by exact Or.inl rfl) ?_
            subst h
            exact tw_retE (cd := tw_c118) rfl rfl rfl rfl
          by_cases hc11 : a2 = 0
          · rw [if_pos hc11] at hj13
            refine tw_br (cd := tw_c118) rfl rfl rfl (by exact if_pos hc11) ?_
            refine tw_blk (cd := tw_c118) rfl 4 (c1 := (33, [some (.ref 0), some (.int a1), some (.int a2)], [.int a1, .ref 4, .ref 0], (I, L, tw_P 2 14 rt sc, A, J, 57))) rfl ?_
            refine tw_callE (cd := tw_c118) rfl rfl rfl rfl rfl (tw_e_get I L (tw_P 2 14 rt sc) A J (q := 4) (N := 8) rfl rfl (by decide) a1) (by exact Or.inl rfl) ?_
            refine tw_blk (cd := tw_c118) rfl 1 (c1 := (40, [some (.ref 0), some (.int a1), some (.int a2)], [.int (tw_get0 8 (A 4) a1), .ref 0], (I, L, tw_P 2 14 rt sc, A, J, 57))) rfl ?_
            refine tw_forget (ls2 := [none, none, none]) trivial ?_
            subst hj13
            exact K
          · rw [if_neg hc11] at hj13
            refine tw_br (cd := tw_c118) rfl rfl rfl (by exact if_neg hc11) ?_
            refine tw_blk (cd := tw_c118) rfl 4 (c1 := (39, [some (.ref 0), some (.int a1), some (.int a2)], [.int a1, .ref 5, .ref 0], (I, L, tw_P 2 14 rt sc, A, J, 57))) rfl ?_
            refine tw_callE (cd := tw_c118) rfl rfl rfl rfl rfl (tw_e_get I L (tw_P 2 14 rt sc) A J (q := 5) (N := 8) rfl rfl (by decide) a1) (by exact Or.inl rfl) ?_
            refine tw_forget (ls2 := [none, none, none]) trivial ?_
            subst hj13
            exact K
      · rw [if_neg hc6] at h
        refine tw_br (cd := tw_c118) rfl rfl rfl (by exact if_neg hc6) ?_
        refine tw_blk (cd := tw_c118) rfl 2 (c1 := (11, [some (.ref 0), some (.int a1), some (.int a2)], [.int 1, .ref 0], (I, L, tw_P 2 14 rt sc, A, J, 57))) rfl ?_
        obtain ⟨⟨x17, I18⟩, hx19, h⟩ := tw_letE h
        dsimp only at h
        refine tw_callE (cd := tw_c118) rfl rfl rfl rfl rfl (e_X9_refuse I L A J 2 14 rt sc (1 : Int32) _ hx19) (by exact Or.inl rfl) ?_
        subst h
        exact tw_retE (cd := tw_c118) rfl rfl rfl rfl
  · rw [if_neg hc1] at h
    refine tw_br (cd := tw_c118) rfl rfl rfl (by exact if_pos (tw_b_f hc1)) ?_
    refine tw_blk (cd := tw_c118) rfl 2 (c1 := (11, [some (.ref 0), some (.int a1), some (.int a2)], [.int 1, .ref 0], (I, L, tw_P 2 14 rt sc, A, J, 57))) rfl ?_
    obtain ⟨⟨x20, I21⟩, hx22, h⟩ := tw_letE h
    dsimp only at h
    refine tw_callE (cd := tw_c118) rfl rfl rfl rfl rfl (e_X9_refuse I L A J 2 14 rt sc (1 : Int32) _ hx22) (by exact Or.inl rfl) ?_
    subst h
    exact tw_retE (cd := tw_c118) rfl rfl rfl rfl
theorem e_X10_isSight (I : Nat → Int32) (L : Nat → Int64) (A : Nat → Nat → Int32) (J : Nat → Nat → Int64) (tw dr : Nat) (rt : Nat) (sc : Nat) (a1 : Int32) : ∀ r : Bool, g_X10_isSight I A a1 = some r → tw_ME 238 (0, [some (.ref 44), some (.int a1)], [], (I, L, tw_P tw dr rt sc, A, J, 57)) (some (.int (tw_b r)), (I, L, tw_P tw dr rt sc, A, J, 57)) := by
  intro r h
  unfold g_X10_isSight at h
  refine tw_blk (cd := tw_c238) rfl 2 (c1 := (2, [some (.ref 44), some (.int a1)], [.int (I 4414)], (I, L, tw_P tw dr rt sc, A, J, 57))) rfl ?_
  by_cases hc1 : (I 4414) = 0
  · rw [if_pos hc1] at h
    refine tw_br (cd := tw_c238) rfl rfl rfl (by exact if_pos hc1) ?_
    refine tw_blk (cd := tw_c238) rfl 1 (c1 := (16, [some (.ref 44), some (.int a1)], [.int 0], (I, L, tw_P tw dr rt sc, A, J, 57))) rfl ?_
    have h := Option.some.inj h
    subst h
    exact tw_retZ (cd := tw_c238) (b := false) rfl rfl rfl rfl
  · rw [if_neg hc1] at h
    refine tw_br (cd := tw_c238) rfl rfl rfl (by exact if_neg hc1) ?_
    refine tw_blk (cd := tw_c238) rfl 5 (c1 := (8, [some (.ref 44), some (.int a1)], [.int 2, .ref 47, .int 0, .int a1], (I, L, tw_P tw dr rt sc, A, J, 57))) rfl ?_
    obtain ⟨x3, hx2, h⟩ := tw_bindE h
    refine tw_iald (cd := tw_c238) (N := 241) rfl rfl rfl rfl hx2 ?_
    refine tw_blk (cd := tw_c238) rfl 2 (c1 := (11, [some (.ref 44), some (.int a1)], [.int (x3 - (1 : Int32)), .int 0, .int a1], (I, L, tw_P tw dr rt sc, A, J, 57))) rfl ?_
    refine tw_callE (cd := tw_c238) rfl rfl rfl rfl rfl (e_X10_in I L A J tw dr rt sc a1 (0 : Int32) (x3 - (1 : Int32)) _ rfl) (by exact Or.inl rfl) ?_
    by_cases hc4 : (g_X10_in a1 (0 : Int32) (x3 - (1 : Int32))) = true
    · rw [if_pos hc4] at h
      refine tw_br (cd := tw_c238) rfl rfl rfl (by exact if_neg (tw_b_t hc4)) ?_
      refine tw_blk (cd := tw_c238) rfl 2 (c1 := (16, [some (.ref 44), some (.int a1)], [.int 1], (I, L, tw_P tw dr rt sc, A, J, 57))) rfl ?_
      have h := Option.some.inj h
      subst h
      exact tw_retZ (cd := tw_c238) (b := true) rfl rfl rfl rfl
    · rw [if_neg hc4] at h
      refine tw_br (cd := tw_c238) rfl rfl rfl (by exact if_pos (tw_b_f hc4)) ?_
      refine tw_blk (cd := tw_c238) rfl 1 (c1 := (16, [some (.ref 44), some (.int a1)], [.int 0], (I, L, tw_P tw dr rt sc, A, J, 57))) rfl ?_
      have h := Option.some.inj h
      subst h
      exact tw_retZ (cd := tw_c238) (b := false) rfl rfl rfl rfl
theorem e_X10_sight (I : Nat → Int32) (L : Nat → Int64) (A : Nat → Nat → Int32) (J : Nat → Nat → Int64) (tw dr : Nat) (rt : Nat) (sc : Nat) (a1 : Int32) (a2 : Int32) : ∀ r : (Int32 × (Nat → Int32)), g_X10_sight I A a1 a2 = some r → tw_ME 252 (0, [some (.ref 44), some (.int a1), some (.int a2)], [], (I, L, tw_P tw dr rt sc, A, J, 57)) (some (.int r.1), ((r.2), L, tw_P tw dr rt sc, A, J, 57)) := by
  intro r h
  unfold g_X10_sight at h
  refine tw_blk (cd := tw_c252) rfl 1 (c1 := (1, [some (.ref 44), some (.int a1), some (.int a2)], [.ref 44], (I, L, tw_P tw dr rt sc, A, J, 57))) rfl ?_
  obtain ⟨I1, hx2, h⟩ := tw_letE h
  refine tw_callE (cd := tw_c252) rfl rfl rfl rfl rfl (e_X10_good I L A J tw dr rt sc _ hx2) (by exact Or.inl rfl) ?_
  refine tw_blk (cd := tw_c252) rfl 2 (c1 := (4, [some (.ref 44), some (.int a1), some (.int a2)], [.int a1, .ref 44], (I1, L, tw_P tw dr rt sc, A, J, 57))) rfl ?_
  obtain ⟨c3, hx4, h⟩ := tw_bindE h
  refine tw_callE (cd := tw_c252) rfl rfl rfl rfl rfl (e_X10_isSight I1 L A J tw dr rt sc a1 _ hx4) (by exact Or.inl rfl) ?_
  by_cases hc5 : c3 = true
  · rw [if_pos hc5] at h
    refine tw_br (cd := tw_c252) rfl rfl rfl (by exact if_neg (tw_b_t hc5)) ?_
    refine tw_blk (cd := tw_c252) rfl 3 (c1 := (9, [some (.ref 44), some (.int a1), some (.int a2)], [.int 2, .int 0, .int a2], (I1, L, tw_P tw dr rt sc, A, J, 57))) rfl ?_
    refine tw_callE (cd := tw_c252) rfl rfl rfl rfl rfl (e_X10_in I1 L A J tw dr rt sc a2 (0 : Int32) (2 : Int32) _ rfl) (by exact Or.inl rfl) ?_
    by_cases hc6 : (g_X10_in a2 (0 : Int32) (2 : Int32)) = true
    · rw [if_pos hc6] at h
      refine tw_br (cd := tw_c252) rfl rfl rfl (by exact if_neg (tw_b_t hc6)) ?_
      refine tw_blk (cd := tw_c252) rfl 2 (c1 := (17, [some (.ref 44), some (.int a1), some (.int a2)], [.int 2, .int a2], (I1, L, tw_P tw dr rt sc, A, J, 57))) rfl ?_
      by_cases hc7 : (2 : Int32) ≤ a2
      · rw [if_pos hc7] at h
        refine tw_br (cd := tw_c252) rfl rfl rfl (by exact if_pos hc7) ?_
        refine tw_blk (cd := tw_c252) rfl 3 (c1 := (32, [some (.ref 44), some (.int a1), some (.int a2)], [.int 6, .ref 49], (I1, L, tw_P tw dr rt sc, A, J, 57))) rfl ?_
        obtain ⟨x9, hx8, h⟩ := tw_bindE h
        refine tw_iald (cd := tw_c252) (N := 8) rfl rfl rfl rfl hx8 ?_
        refine tw_blk (cd := tw_c252) rfl 4 (c1 := (37, [some (.ref 44), some (.int a1), some (.int a2)], [.int ((x9 >>> (a1 &&& 31)) &&& (1 : Int32))], (I1, L, tw_P tw dr rt sc, A, J, 57))) rfl ?_
        have h := Option.some.inj h
        subst h
        exact tw_retE (cd := tw_c252) rfl rfl rfl rfl
      · rw [if_neg hc7] at h
        refine tw_br (cd := tw_c252) rfl rfl rfl (by exact if_neg hc7) ?_
        refine tw_blk (cd := tw_c252) rfl 9 (c1 := (27, [some (.ref 44), some (.int a1), some (.int a2)], [.int (((10 : Int32) + ((2 : Int32) * a1)) + a2), .ref 47], (I1, L, tw_P tw dr rt sc, A, J, 57))) rfl ?_
        obtain ⟨x11, hx10, h⟩ := tw_bindE h
        refine tw_iald (cd := tw_c252) (N := 241) rfl rfl rfl rfl hx10 ?_
        refine tw_blk (cd := tw_c252) rfl 1 (c1 := (37, [some (.ref 44), some (.int a1), some (.int a2)], [.int x11], (I1, L, tw_P tw dr rt sc, A, J, 57))) rfl ?_
        have h := Option.some.inj h
        subst h
        exact tw_retE (cd := tw_c252) rfl rfl rfl rfl
    · rw [if_neg hc6] at h
      refine tw_br (cd := tw_c252) rfl rfl rfl (by exact if_pos (tw_b_f hc6)) ?_
      refine tw_blk (cd := tw_c252) rfl 2 (c1 := (13, [some (.ref 44), some (.int a1), some (.int a2)], [.int 1, .ref 44], (I1, L, tw_P tw dr rt sc, A, J, 57))) rfl ?_
      obtain ⟨⟨x12, I13⟩, hx14, h⟩ := tw_letE h
      dsimp only at h
      refine tw_callE (cd := tw_c252) rfl rfl rfl rfl rfl (e_X10_no I1 L A J tw dr rt sc (1 : Int32) _ hx14) (by exact Or.inl rfl) ?_
      have h := Option.some.inj h
      subst h
      exact tw_retE (cd := tw_c252) rfl rfl rfl rfl
  · rw [if_neg hc5] at h
    refine tw_br (cd := tw_c252) rfl rfl rfl (by exact if_pos (tw_b_f hc5)) ?_
    refine tw_blk (cd := tw_c252) rfl 2 (c1 := (13, [some (.ref 44), some (.int a1), some (.int a2)], [.int 1, .ref 44], (I1, L, tw_P tw dr rt sc, A, J, 57))) rfl ?_
    obtain ⟨⟨x15, I16⟩, hx17, h⟩ := tw_letE h
    dsimp only at h
    refine tw_callE (cd := tw_c252) rfl rfl rfl rfl rfl (e_X10_no I1 L A J tw dr rt sc (1 : Int32) _ hx17) (by exact Or.inl rfl) ?_
    have h := Option.some.inj h
    subst h
    exact tw_retE (cd := tw_c252) rfl rfl rfl rfl
theorem e_X9_isQuarrel (I : Nat → Int32) (L : Nat → Int64) (A : Nat → Nat → Int32) (J : Nat → Nat → Int64) (rt : Nat) (sc : Nat) (a1 : Int32) : ∀ r : Bool, g_X9_isQuarrel A a1 = r → tw_ME 181 (0, [some (.ref 0), some (.int a1)], [], (I, L, tw_P 2 14 rt sc, A, J, 57)) (some (.int (tw_b r)), (I, L, tw_P 2 14 rt sc, A, J, 57)) := by
  intro r h
  unfold g_X9_isQuarrel at h
  refine tw_blk (cd := tw_c181) rfl 1 (c1 := (1, [some (.ref 0), some (.int a1)], [.int a1], (I, L, tw_P 2 14 rt sc, A, J, 57))) rfl ?_
  by_cases hc1 : a1 < 0
  · rw [if_pos hc1] at h
    refine tw_br (cd := tw_c181) rfl rfl rfl (by exact if_pos hc1) ?_
    refine tw_blk (cd := tw_c181) rfl 1 (c1 := (11, [some (.ref 0), some (.int a1)], [.int 0], (I, L, tw_P 2 14 rt sc, A, J, 57))) rfl ?_
    subst h
    exact tw_retZ (cd := tw_c181) (b := false) rfl rfl rfl rfl
  · rw [if_neg hc1] at h
    refine tw_br (cd := tw_c181) rfl rfl rfl (by exact if_neg hc1) ?_
    refine tw_blk (cd := tw_c181) rfl 4 (c1 := (6, [some (.ref 0), some (.int a1)], [.int 5, .ref 2, .int a1], (I, L, tw_P 2 14 rt sc, A, J, 57))) rfl ?_
    refine tw_callE (cd := tw_c181) rfl rfl rfl rfl rfl (e_X8_count_2 I L A J 2 14 rt sc (5 : Int32) _ rfl) (by exact Or.inl rfl) ?_
    by_cases hc2 : (g_X8_count_2 A (5 : Int32)) ≤ a1
    · rw [if_pos hc2] at h
      refine tw_br (cd := tw_c181) rfl rfl rfl (by exact if_pos hc2) ?_
      refine tw_blk (cd := tw_c181) rfl 1 (c1 := (11, [some (.ref 0), some (.int a1)], [.int 0], (I, L, tw_P 2 14 rt sc, A, J, 57))) rfl ?_
      subst h
      exact tw_retZ (cd := tw_c181) (b := false) rfl rfl rfl rfl
    · rw [if_neg hc2] at h
      refine tw_br (cd := tw_c181) rfl rfl rfl (by exact if_neg hc2) ?_
      refine tw_blk (cd := tw_c181) rfl 2 (c1 := (11, [some (.ref 0), some (.int a1)], [.int 1], (I, L, tw_P 2 14 rt sc, A, J, 57))) rfl ?_
      subst h
      exact tw_retZ (cd := tw_c181) (b := true) rfl rfl rfl rfl
theorem e_X9_quarrel (I : Nat → Int32) (L : Nat → Int64) (A : Nat → Nat → Int32) (J : Nat → Nat → Int64) (rt : Nat) (sc : Nat) (a1 : Int32) (a2 : Int32) : ∀ r : (Int32 × (Nat → Int32)), g_X9_quarrel I A a1 a2 = r → tw_ME 119 (0, [some (.ref 0), some (.int a1), some (.int a2)], [], (I, L, tw_P 2 14 rt sc, A, J, 57)) (some (.int r.1), ((r.2), L, tw_P 2 14 rt sc, A, J, 57)) := by
  intro r h
  unfold g_X9_quarrel at h
  refine tw_blk (cd := tw_c119) rfl 2 (c1 := (2, [some (.ref 0), some (.int a1), some (.int a2)], [.int a1, .ref 0], (I, L, tw_P 2 14 rt sc, A, J, 57))) rfl ?_
  refine tw_callE (cd := tw_c119) rfl rfl rfl rfl rfl (e_X9_isQuarrel I L A J rt sc a1 _ rfl) (by exact Or.inl rfl) ?_
  by_cases hc1 : (g_X9_isQuarrel A a1) = true
  · rw [if_pos hc1] at h
    refine tw_br (cd := tw_c119) rfl rfl rfl (by exact if_neg (tw_b_t hc1)) ?_
    refine tw_blk (cd := tw_c119) rfl 1 (c1 := (5, [some (.ref 0), some (.int a1), some (.int a2)], [.int a2], (I, L, tw_P 2 14 rt sc, A, J, 57))) rfl ?_
    by_cases hc2 : a2 < 0
    · rw [if_pos hc2] at h
      refine tw_br (cd := tw_c119) rfl rfl rfl (by exact if_pos hc2) ?_
      refine tw_blk (cd := tw_c119) rfl 2 (c1 := (11, [some (.ref 0), some (.int a1), some (.int a2)], [.int 1, .ref 0], (I, L, tw_P 2 14 rt sc, A, J, 57))) rfl ?_
      obtain ⟨⟨x3, I4⟩, hx5, h⟩ := tw_letE h
      dsimp only at h
      refine tw_callE (cd := tw_c119) rfl rfl rfl rfl rfl (e_X9_refuse I L A J 2 14 rt sc (1 : Int32) _ hx5) (by exact Or.inl rfl) ?_
      subst h
      exact tw_retE (cd := tw_c119) rfl rfl rfl rfl
    · rw [if_neg hc2] at h
      refine tw_br (cd := tw_c119) rfl rfl rfl (by exact if_neg hc2) ?_
      refine tw_blk (cd := tw_c119) rfl 2 (c1 := (8, [some (.ref 0), some (.int a1), some (.int a2)], [.int 5, .int a2], (I, L, tw_P 2 14 rt sc, A, J, 57))) rfl ?_
      by_cases hc6 : a2 < (5 : Int32)
      · rw [if_pos hc6] at h
        refine tw_br (cd := tw_c119) rfl rfl rfl (by exact if_pos hc6) ?_
        refine tw_blk (cd := tw_c119) rfl 5 (c1 := (18, [some (.ref 0), some (.int a1), some (.int a2)], [.int a2, .int a1, .ref 2, .ref 0], (I, L, tw_P 2 14 rt sc, A, J, 57))) rfl ?_
        refine tw_callE (cd := tw_c119) rfl rfl rfl rfl rfl (e_X8_fact_2 I L A J 2 14 rt sc a1 a2 _ rfl) (by exact Or.inl rfl) ?_
        obtain ⟨⟨x7, I8⟩, hx9, h⟩ := tw_letE h
        dsimp only at h
        refine tw_callE (cd := tw_c119) rfl rfl rfl rfl rfl (e_X9_grant I L A J 2 14 rt sc (g_X8_fact_2 A a1 a2) _ hx9) (by exact Or.inl rfl) ?_
        subst h
        exact tw_retE (cd := tw_c119) rfl rfl rfl rfl
      · rw [if_neg hc6] at h
        refine tw_br (cd := tw_c119) rfl rfl rfl (by exact if_neg hc6) ?_
        refine tw_blk (cd := tw_c119) rfl 2 (c1 := (11, [some (.ref 0), some (.int a1), some (.int a2)], [.int 1, .ref 0], (I, L, tw_P 2 14 rt sc, A, J, 57))) rfl ?_
        obtain ⟨⟨x10, I11⟩, hx12, h⟩ := tw_letE h
        dsimp only at h
        refine tw_callE (cd := tw_c119) rfl rfl rfl rfl rfl (e_X9_refuse I L A J 2 14 rt sc (1 : Int32) _ hx12) (by exact Or.inl rfl) ?_
        subst h
        exact tw_retE (cd := tw_c119) rfl rfl rfl rfl
  · rw [if_neg hc1] at h
    refine tw_br (cd := tw_c119) rfl rfl rfl (by exact if_pos (tw_b_f hc1)) ?_
    refine tw_blk (cd := tw_c119) rfl 2 (c1 := (11, [some (.ref 0), some (.int a1), some (.int a2)], [.int 1, .ref 0], (I, L, tw_P 2 14 rt sc, A, J, 57))) rfl ?_
    obtain ⟨⟨x13, I14⟩, hx15, h⟩ := tw_letE h
    dsimp only at h
    refine tw_callE (cd := tw_c119) rfl rfl rfl rfl rfl (e_X9_refuse I L A J 2 14 rt sc (1 : Int32) _ hx15) (by exact Or.inl rfl) ?_
    subst h
    exact tw_retE (cd := tw_c119) rfl rfl rfl rfl
theorem e_X10_isQuarrel (I : Nat → Int32) (L : Nat → Int64) (A : Nat → Nat → Int32) (J : Nat → Nat → Int64) (tw dr : Nat) (rt : Nat) (sc : Nat) (a1 : Int32) : ∀ r : Bool, g_X10_isQuarrel I A a1 = some r → tw_ME 237 (0, [some (.ref 44), some (.int a1)], [], (I, L, tw_P tw dr rt sc, A, J, 57)) (some (.int (tw_b r)), (I, L, tw_P tw dr rt sc, A, J, 57)) := by
  intro r h
  unfold g_X10_isQuarrel at h
  refine tw_blk (cd := tw_c237) rfl 2 (c1 := (2, [some (.ref 44), some (.int a1)], [.int (I 4414)], (I, L, tw_P tw dr rt sc, A, J, 57))) rfl ?_
  by_cases hc1 : (I 4414) = 0
  · rw [if_pos hc1] at h
    refine tw_br (cd := tw_c237) rfl rfl rfl (by exact if_pos hc1) ?_
    refine tw_blk (cd := tw_c237) rfl 1 (c1 := (16, [some (.ref 44), some (.int a1)], [.int 0], (I, L, tw_P tw dr rt sc, A, J, 57))) rfl ?_
    have h := Option.some.inj h
    subst h
    exact tw_retZ (cd := tw_c237) (b := false) rfl rfl rfl rfl
  · rw [if_neg hc1] at h
    refine tw_br (cd := tw_c237) rfl rfl rfl (by exact if_neg hc1) ?_
    refine tw_blk (cd := tw_c237) rfl 5 (c1 := (8, [some (.ref 44), some (.int a1)], [.int 5, .ref 47, .int 0, .int a1], (I, L, tw_P tw dr rt sc, A, J, 57))) rfl ?_
    obtain ⟨x3, hx2, h⟩ := tw_bindE h
    refine tw_iald (cd := tw_c237) (N := 241) rfl rfl rfl rfl hx2 ?_
    refine tw_blk (cd := tw_c237) rfl 2 (c1 := (11, [some (.ref 44), some (.int a1)], [.int (x3 - (1 : Int32)), .int 0, .int a1], (I, L, tw_P tw dr rt sc, A, J, 57))) rfl ?_
    refine tw_callE (cd := tw_c237) rfl rfl rfl rfl rfl (e_X10_in I L A J tw dr rt sc a1 (0 : Int32) (x3 - (1 : Int32)) _ rfl) (by exact Or.inl rfl) ?_
    by_cases hc4 : (g_X10_in a1 (0 : Int32) (x3 - (1 : Int32))) = true
    · rw [if_pos hc4] at h
      refine tw_br (cd := tw_c237) rfl rfl rfl (by exact if_neg (tw_b_t hc4)) ?_
      refine tw_blk (cd := tw_c237) rfl 2 (c1 := (16, [some (.ref 44), some (.int a1)], [.int 1], (I, L, tw_P tw dr rt sc, A, J, 57))) rfl ?_
      have h := Option.some.inj h
      subst h
      exact tw_retZ (cd := tw_c237) (b := true) rfl rfl rfl rfl
    · rw [if_neg hc4] at h
      refine tw_br (cd := tw_c237) rfl rfl rfl (by exact if_pos (tw_b_f hc4)) ?_
      refine tw_blk (cd := tw_c237) rfl 1 (c1 := (16, [some (.ref 44), some (.int a1)], [.int 0], (I, L, tw_P tw dr rt sc, A, J, 57))) rfl ?_
      have h := Option.some.inj h
      subst h
      exact tw_retZ (cd := tw_c237) (b := false) rfl rfl rfl rfl
theorem e_X10_quarrel (I : Nat → Int32) (L : Nat → Int64) (A : Nat → Nat → Int32) (J : Nat → Nat → Int64) (tw dr : Nat) (rt : Nat) (sc : Nat) (a1 : Int32) (a2 : Int32) : ∀ r : (Int32 × (Nat → Int32)), g_X10_quarrel I A a1 a2 = some r → tw_ME 253 (0, [some (.ref 44), some (.int a1), some (.int a2)], [], (I, L, tw_P tw dr rt sc, A, J, 57)) (some (.int r.1), ((r.2), L, tw_P tw dr rt sc, A, J, 57)) := by
  intro r h
  unfold g_X10_quarrel at h
  refine tw_blk (cd := tw_c253) rfl 1 (c1 := (1, [some (.ref 44), some (.int a1), some (.int a2)], [.ref 44], (I, L, tw_P tw dr rt sc, A, J, 57))) rfl ?_
  obtain ⟨I1, hx2, h⟩ := tw_letE h
  refine tw_callE (cd := tw_c253) rfl rfl rfl rfl rfl (e_X10_good I L A J tw dr rt sc _ hx2) (by exact Or.inl rfl) ?_
  refine tw_blk (cd := tw_c253) rfl 2 (c1 := (4, [some (.ref 44), some (.int a1), some (.int a2)], [.int a1, .ref 44], (I1, L, tw_P tw dr rt sc, A, J, 57))) rfl ?_
  obtain ⟨c3, hx4, h⟩ := tw_bindE h
  refine tw_callE (cd := tw_c253) rfl rfl rfl rfl rfl (e_X10_isQuarrel I1 L A J tw dr rt sc a1 _ hx4) (by exact Or.inl rfl) ?_
  by_cases hc5 : c3 = true
  · rw [if_pos hc5] at h
    refine tw_br (cd := tw_c253) rfl rfl rfl (by exact if_neg (tw_b_t hc5)) ?_
    refine tw_blk (cd := tw_c253) rfl 3 (c1 := (9, [some (.ref 44), some (.int a1), some (.int a2)], [.int 4, .int 0, .int a2], (I1, L, tw_P tw dr rt sc, A, J, 57))) rfl ?_
    refine tw_callE (cd := tw_c253) rfl rfl rfl rfl rfl (e_X10_in I1 L A J tw dr rt sc a2 (0 : Int32) (4 : Int32) _ rfl) (by exact Or.inl rfl) ?_
    by_cases hc6 : (g_X10_in a2 (0 : Int32) (4 : Int32)) = true
    · rw [if_pos hc6] at h
      refine tw_br (cd := tw_c253) rfl rfl rfl (by exact if_neg (tw_b_t hc6)) ?_
      refine tw_blk (cd := tw_c253) rfl 9 (c1 := (20, [some (.ref 44), some (.int a1), some (.int a2)], [.int (((80 : Int32) + ((5 : Int32) * a1)) + a2), .ref 47], (I1, L, tw_P tw dr rt sc, A, J, 57))) rfl ?_
      obtain ⟨x8, hx7, h⟩ := tw_bindE h
      refine tw_iald (cd := tw_c253) (N := 241) rfl rfl rfl rfl hx7 ?_
      refine tw_blk (cd := tw_c253) rfl 1 (c1 := (25, [some (.ref 44), some (.int a1), some (.int a2)], [.int x8], (I1, L, tw_P tw dr rt sc, A, J, 57))) rfl ?_
      have h := Option.some.inj h
      subst h
      exact tw_retE (cd := tw_c253) rfl rfl rfl rfl
    · rw [if_neg hc6] at h
      refine tw_br (cd := tw_c253) rfl rfl rfl (by exact if_pos (tw_b_f hc6)) ?_
      refine tw_blk (cd := tw_c253) rfl 2 (c1 := (24, [some (.ref 44), some (.int a1), some (.int a2)], [.int 1, .ref 44], (I1, L, tw_P tw dr rt sc, A, J, 57))) rfl ?_
      obtain ⟨⟨x9, I10⟩, hx11, h⟩ := tw_letE h
      dsimp only at h
      refine tw_callE (cd := tw_c253) rfl rfl rfl rfl rfl (e_X10_no I1 L A J tw dr rt sc (1 : Int32) _ hx11) (by exact Or.inl rfl) ?_
      have h := Option.some.inj h
      subst h
      exact tw_retE (cd := tw_c253) rfl rfl rfl rfl
  · rw [if_neg hc5] at h
    refine tw_br (cd := tw_c253) rfl rfl rfl (by exact if_pos (tw_b_f hc5)) ?_
    refine tw_blk (cd := tw_c253) rfl 2 (c1 := (24, [some (.ref 44), some (.int a1), some (.int a2)], [.int 1, .ref 44], (I1, L, tw_P tw dr rt sc, A, J, 57))) rfl ?_
    obtain ⟨⟨x12, I13⟩, hx14, h⟩ := tw_letE h
    dsimp only at h
    refine tw_callE (cd := tw_c253) rfl rfl rfl rfl rfl (e_X10_no I1 L A J tw dr rt sc (1 : Int32) _ hx14) (by exact Or.inl rfl) ?_
    have h := Option.some.inj h
    subst h
    exact tw_retE (cd := tw_c253) rfl rfl rfl rfl
theorem e_X9_isMinute (I : Nat → Int32) (L : Nat → Int64) (A : Nat → Nat → Int32) (J : Nat → Nat → Int64) (tw dr : Nat) (rt : Nat) (sc : Nat) (a0 : Int32) : ∀ r : Bool, g_X9_isMinute a0 = r → tw_ME 182 (0, [some (.int a0)], [], (I, L, tw_P tw dr rt sc, A, J, 57)) (some (.int (tw_b r)), (I, L, tw_P tw dr rt sc, A, J, 57)) := by
  intro r h
  unfold g_X9_isMinute at h
  refine tw_blk (cd := tw_c182) rfl 1 (c1 := (1, [some (.int a0)], [.int a0], (I, L, tw_P tw dr rt sc, A, J, 57))) rfl ?_
  by_cases hc1 : a0 < 0
  · rw [if_pos hc1] at h
    refine tw_br (cd := tw_c182) rfl rfl rfl (by exact if_pos hc1) ?_
    refine tw_blk (cd := tw_c182) rfl 1 (c1 := (8, [some (.int a0)], [.int 0], (I, L, tw_P tw dr rt sc, A, J, 57))) rfl ?_
    subst h
    exact tw_retZ (cd := tw_c182) (b := false) rfl rfl rfl rfl
  · rw [if_neg hc1] at h
    refine tw_br (cd := tw_c182) rfl rfl rfl (by exact if_neg hc1) ?_
    refine tw_blk (cd := tw_c182) rfl 2 (c1 := (4, [some (.int a0)], [.int 60, .int a0], (I, L, tw_P tw dr rt sc, A, J, 57))) rfl ?_
    by_cases hc2 : (60 : Int32) ≤ a0
    · rw [if_pos hc2] at h
      refine tw_br (cd := tw_c182) rfl rfl rfl (by exact if_pos hc2) ?_
      refine tw_blk (cd := tw_c182) rfl 1 (c1 := (8, [some (.int a0)], [.int 0], (I, L, tw_P tw dr rt sc, A, J, 57))) rfl ?_
      subst h
      exact tw_retZ (cd := tw_c182) (b := false) rfl rfl rfl rfl
    · rw [if_neg hc2] at h
      refine tw_br (cd := tw_c182) rfl rfl rfl (by exact if_neg hc2) ?_
      refine tw_blk (cd := tw_c182) rfl 2 (c1 := (8, [some (.int a0)], [.int 1], (I, L, tw_P tw dr rt sc, A, J, 57))) rfl ?_
      subst h
      exact tw_retZ (cd := tw_c182) (b := true) rfl rfl rfl rfl
theorem g_X6_show_L1_ok (I : Nat → Int32) (L : Nat → Int64) (A : Nat → Nat → Int32) (J : Nat → Nat → Int64) (tw : Nat) (dr : Nat) (rt : Nat) (sc : Nat) (a2 : Int32) (a3 : Int32) (out : Option Value × tw_S) : ∀ (n : Nat) (v1_4 : Int32) (A_1 : Nat → Nat → Int32) (ex : Nat → Nat → Int32), g_X6_show_L1 n v1_4 A_1 = some ex → tw_ME 77 (33, [none, none, none, none, none], [], ((upd (upd I 3601 a2) 3602 a3), L, tw_P tw dr rt 2, ex, J, 57)) out → tw_ME 77 (11, [some (.ref 36), none, none, none, some (.int v1_4)], [], ((upd (upd I 3601 a2) 3602 a3), L, tw_P tw dr rt 2, A_1, J, 57)) out := by
  intro n
  induction n with
  | zero =>
    intro v1_4 A_1 ex h _
    cases h
  | succ n ih =>
    intro v1_4 A_1 ex h K
    rw [g_X6_show_L1] at h
    refine tw_blk (cd := tw_c77) rfl 1 (c1 := (12, [some (.ref 36), none, none, none, some (.int v1_4)], [.int v1_4], ((upd (upd I 3601 a2) 3602 a3), L, tw_P tw dr rt 2, A_1, J, 57))) rfl ?_
    refine tw_blk (cd := tw_c77) rfl 1 (c1 := (13, [some (.ref 36), none, none, none, some (.int v1_4)], [.int 6, .int v1_4], ((upd (upd I 3601 a2) 3602 a3), L, tw_P tw dr rt 2, A_1, J, 57))) rfl ?_
    by_cases hc2 : (6 : Int32) ≤ v1_4
    · rw [if_pos hc2] at h
      refine tw_br (cd := tw_c77) rfl rfl rfl (by exact if_pos hc2) ?_
      refine tw_forget (ls2 := [none, none, none, none, none]) trivial ?_
      have h := Option.some.inj h
      subst h
      exact K
    · rw [if_neg hc2] at h
      refine tw_br (cd := tw_c77) rfl rfl rfl (by exact if_neg hc2) ?_
      refine tw_blk (cd := tw_c77) rfl 7 (c1 := (21, [some (.ref 36), none, none, none, some (.int v1_4)], [.int v1_4, .ref 7, .int v1_4, .ref 37], ((upd (upd I 3601 a2) 3602 a3), L, tw_P tw dr rt 2, A_1, J, 57))) rfl ?_
      refine tw_callE (cd := tw_c77) rfl rfl rfl rfl rfl (tw_e_get (upd (upd I 3601 a2) 3602 a3) L (tw_P tw dr rt 2) A_1 J (q := 7) (N := 6) rfl rfl (by decide) v1_4) (by exact Or.inl rfl) ?_
      obtain ⟨w3, hw4, h⟩ := tw_letE h
      refine tw_callE (cd := tw_c77) rfl rfl rfl rfl rfl (tw_e_put (upd (upd I 3601 a2) 3602 a3) L (tw_P tw dr rt 2) A_1 J (q := 37) (N := 6) rfl rfl (by decide) v1_4 (tw_get0 6 (A_1 7) v1_4) w3 hw4) (by exact Or.inl rfl) ?_
      refine tw_blk (cd := tw_c77) rfl 6 (c1 := (29, [some (.ref 36), none, none, none, some (.int v1_4)], [.int v1_4, .ref 2, .int v1_4, .ref 38], ((upd (upd I 3601 a2) 3602 a3), L, tw_P tw dr rt 2, (va_up A_1 37 w3), J, 57))) rfl ?_
      refine tw_callE (cd := tw_c77) rfl rfl rfl rfl rfl (e_X8_eyesByKind_2 (upd (upd I 3601 a2) 3602 a3) L (va_up A_1 37 w3) J tw dr rt 2 v1_4 _ rfl) (by exact Or.inl rfl) ?_
      obtain ⟨w5, hw6, h⟩ := tw_letE h
      refine tw_callE (cd := tw_c77) rfl rfl rfl rfl rfl (tw_e_put (upd (upd I 3601 a2) 3602 a3) L (tw_P tw dr rt 2) (va_up A_1 37 w3) J (q := 38) (N := 6) rfl rfl (by decide) v1_4 (g_X8_eyesByKind_2 (va_up A_1 37 w3) v1_4) w5 hw6) (by exact Or.inl rfl) ?_
      refine tw_blk (cd := tw_c77) rfl 2 (c1 := (11, [some (.ref 36), none, none, none, some (.int (v1_4 + (1 : Int32)))], [], ((upd (upd I 3601 a2) 3602 a3), L, tw_P tw dr rt 2, (va_up (va_up A_1 37 w3) 38 w5), J, 57))) rfl ?_
      exact ih (v1_4 + (1 : Int32)) (va_up (va_up A_1 37 w3) 38 w5) _ h K
theorem e_X6_show (I : Nat → Int32) (L : Nat → Int64) (A : Nat → Nat → Int32) (J : Nat → Nat → Int64) (tw dr : Nat) (rt : Nat) (sc : Nat) (a2 : Int32) (a3 : Int32) : ∀ r : ((Nat → Int32) × (Nat → Nat → Int32)), g_X6_show I A a2 a3 = some r → tw_ME 77 (0, [some (.ref 36), some (.ref 2), some (.int a2), some (.int a3), none], [], (I, L, tw_P tw dr rt sc, A, J, 57)) (none, ((r.1), L, tw_P tw dr rt 2, (r.2), J, 57)) := by
  intro r h
  unfold g_X6_show at h
  refine tw_blk (cd := tw_c77) rfl 2 (c1 := (2, [some (.ref 36), some (.ref 2), some (.int a2), some (.int a3), none], [.ref 2, .ref 36], (I, L, tw_P tw dr rt sc, A, J, 57))) rfl ?_
  refine tw_putP_sc (cd := tw_c77) rfl rfl rfl ?_
  refine tw_blk (cd := tw_c77) rfl 8 (c1 := (11, [some (.ref 36), some (.ref 2), some (.int a2), some (.int a3), some (.int 0)], [], ((upd (upd I 3601 a2) 3602 a3), L, tw_P tw dr rt 2, A, J, 57))) rfl ?_
  obtain ⟨A1, hx7, h⟩ := tw_bindE h
  refine tw_forget (ls2 := [some (.ref 36), none, none, none, some (.int 0)]) ⟨rfl, rfl, trivial⟩ ?_
  refine g_X6_show_L1_ok I L A J tw dr rt sc a2 a3 _ 4096 (0 : Int32) A _ hx7 ?_
  have h := Option.some.inj h
  subst h
  exact tw_retE (cd := tw_c77) rfl rfl rfl rfl
theorem e_X9_showNow (I : Nat → Int32) (L : Nat → Int64) (A : Nat → Nat → Int32) (J : Nat → Nat → Int64) (rt : Nat) (sc : Nat) : ∀ r : ((Nat → Int32) × (Nat → Nat → Int32)), g_X9_showNow I A = some r → tw_ME 183 (0, [some (.ref 0)], [], (I, L, tw_P 2 14 rt sc, A, J, 57)) (none, ((r.1), L, tw_P 2 14 rt 2, (r.2), J, 57)) := by
  intro r h
  unfold g_X9_showNow at h
  refine tw_blk (cd := tw_c183) rfl 10 (c1 := (10, [some (.ref 0)], [.int (I 3301), .int (I 3300), .ref 2, .ref 36], (I, L, tw_P 2 14 rt sc, A, J, 57))) rfl ?_
  obtain ⟨⟨I1, A2⟩, hx3, h⟩ := tw_bindE h
  dsimp only at h
  refine tw_callE (cd := tw_c183) rfl rfl rfl rfl rfl (e_X6_show I L A J 2 14 rt sc (I 3300) (I 3301) _ hx3) (by exact Or.inl rfl) ?_
  have h := Option.some.inj h
  subst h
  exact tw_retE (cd := tw_c183) rfl rfl rfl rfl
theorem e_X6_spotOf (I : Nat → Int32) (L : Nat → Int64) (A : Nat → Nat → Int32) (J : Nat → Nat → Int64) (tw dr : Nat) (rt : Nat) (a1 : Int32) (a2 : Int32) : ∀ r : Int32, g_X6_spotOf I A a1 a2 = r → tw_ME 83 (0, [some (.ref 36), some (.int a1), some (.int a2), none], [], (I, L, tw_P tw dr rt 2, A, J, 57)) (some (.int r), (I, L, tw_P tw dr rt 2, A, J, 57)) := by
  intro r h
  unfold g_X6_spotOf at h
  refine tw_blk (cd := tw_c83) rfl 3 (c1 := (3, [some (.ref 36), some (.int a1), some (.int a2), none], [.int a1, .int (I 3602)], (I, L, tw_P tw dr rt 2, A, J, 57))) rfl ?_
  refine tw_callE (cd := tw_c83) rfl rfl rfl rfl rfl (e_X0_sentTo I L A J tw dr rt 2 (I 3602) a1 _ rfl) (by exact Or.inl rfl) ?_
  refine tw_blk (cd := tw_c83) rfl 3 (c1 := (7, [some (.ref 36), some (.int a1), some (.int a2), some (.int (g_X0_sentTo (I 3602) a1))], [.int (-1), .int (g_X0_sentTo (I 3602) a1)], (I, L, tw_P tw dr rt 2, A, J, 57))) rfl ?_
  by_cases hc1 : (g_X0_sentTo (I 3602) a1) = (-1 : Int32)
  · rw [if_pos hc1] at h
    refine tw_br (cd := tw_c83) rfl rfl rfl (by exact if_pos hc1) ?_
    refine tw_blk (cd := tw_c83) rfl 8 (c1 := (18, [some (.ref 36), some (.int a1), some (.int a2), some (.int (g_X0_sentTo (I 3602) a1))], [.int ((a1 * (60 : Int32)) + a2), .ref 9], (I, L, tw_P tw dr rt 2, A, J, 57))) rfl ?_
    refine tw_callE (cd := tw_c83) rfl rfl rfl rfl rfl (tw_e_get I L (tw_P tw dr rt 2) A J (q := 9) (N := 360) rfl rfl (by decide) ((a1 * (60 : Int32)) + a2)) (by exact Or.inl rfl) ?_
    subst h
    exact tw_retE (cd := tw_c83) rfl rfl rfl rfl
  · rw [if_neg hc1] at h
    refine tw_br (cd := tw_c83) rfl rfl rfl (by exact if_neg hc1) ?_
    refine tw_blk (cd := tw_c83) rfl 2 (c1 := (19, [some (.ref 36), some (.int a1), some (.int a2), some (.int (g_X0_sentTo (I 3602) a1))], [.int (g_X0_sentTo (I 3602) a1)], (I, L, tw_P tw dr rt 2, A, J, 57))) rfl ?_
    subst h
    exact tw_retE (cd := tw_c83) rfl rfl rfl rfl
theorem e_X9_at (I : Nat → Int32) (L : Nat → Int64) (A : Nat → Nat → Int32) (J : Nat → Nat → Int64) (rt : Nat) (sc : Nat) (a1 : Int32) (a2 : Int32) : ∀ r : (Int32 × (Nat → Int32) × (Nat → Nat → Int32) × Nat), g_X9_at I A sc a1 a2 = some r → tw_ME 120 (0, [some (.ref 0), some (.int a1), some (.int a2)], [], (I, L, tw_P 2 14 rt sc, A, J, 57)) (some (.int r.1), ((r.2.1), L, tw_P 2 14 rt (r.2.2.2), (r.2.2.1), J, 57)) := by
  intro r h
  unfold g_X9_at at h
  refine tw_blk (cd := tw_c120) rfl 2 (c1 := (2, [some (.ref 0), some (.int a1), some (.int a2)], [.int a1, .ref 0], (I, L, tw_P 2 14 rt sc, A, J, 57))) rfl ?_
  refine tw_callE (cd := tw_c120) rfl rfl rfl rfl rfl (e_X9_isPerson I L A J rt sc a1 _ rfl) (by exact Or.inl rfl) ?_
  by_cases hc1 : (g_X9_isPerson A a1) = true
  · rw [if_pos hc1] at h
    refine tw_br (cd := tw_c120) rfl rfl rfl (by exact if_neg (tw_b_t hc1)) ?_
    refine tw_blk (cd := tw_c120) rfl 1 (c1 := (9, [some (.ref 0), some (.int a1), some (.int a2)], [.int a2], (I, L, tw_P 2 14 rt sc, A, J, 57))) rfl ?_
    refine tw_callE (cd := tw_c120) rfl rfl rfl rfl rfl (e_X9_isMinute I L A J 2 14 rt sc a2 _ rfl) (by exact Or.inl rfl) ?_
    by_cases hc2 : (g_X9_isMinute a2) = true
    · rw [if_pos hc2] at h
      refine tw_br (cd := tw_c120) rfl rfl rfl (by exact if_neg (tw_b_t hc2)) ?_
      refine tw_blk (cd := tw_c120) rfl 1 (c1 := (16, [some (.ref 0), some (.int a1), some (.int a2)], [.ref 0], (I, L, tw_P 2 14 rt sc, A, J, 57))) rfl ?_
      obtain ⟨⟨I3, A4⟩, hx5, h⟩ := tw_bindE h
      dsimp only at h
      refine tw_callE (cd := tw_c120) rfl rfl rfl rfl rfl (e_X9_showNow I L A J rt sc _ hx5) (by exact Or.inl rfl) ?_
      refine tw_blk (cd := tw_c120) rfl 5 (c1 := (22, [some (.ref 0), some (.int a1), some (.int a2)], [.int a2, .int a1, .ref 36, .ref 0], (I3, L, tw_P 2 14 rt 2, A4, J, 57))) rfl ?_
      refine tw_callE (cd := tw_c120) rfl rfl rfl rfl rfl (e_X6_spotOf I3 L A4 J 2 14 rt a1 a2 _ rfl) (by exact Or.inl rfl) ?_
      obtain ⟨⟨x6, I7⟩, hx8, h⟩ := tw_letE h
      dsimp only at h
      refine tw_callE (cd := tw_c120) rfl rfl rfl rfl rfl (e_X9_grant I3 L A4 J 2 14 rt 2 (g_X6_spotOf I3 A4 a1 a2) _ hx8) (by exact Or.inl rfl) ?_
      have h := Option.some.inj h
      subst h
      exact tw_retE (cd := tw_c120) rfl rfl rfl rfl
    · rw [if_neg hc2] at h
      refine tw_br (cd := tw_c120) rfl rfl rfl (by exact if_pos (tw_b_f hc2)) ?_
      refine tw_blk (cd := tw_c120) rfl 2 (c1 := (13, [some (.ref 0), some (.int a1), some (.int a2)], [.int 2, .ref 0], (I, L, tw_P 2 14 rt sc, A, J, 57))) rfl ?_
      obtain ⟨⟨x9, I10⟩, hx11, h⟩ := tw_letE h
      dsimp only at h
      refine tw_callE (cd := tw_c120) rfl rfl rfl rfl rfl (e_X9_refuse I L A J 2 14 rt sc (2 : Int32) _ hx11) (by exact Or.inl rfl) ?_
      have h := Option.some.inj h
      subst h
      exact tw_retE (cd := tw_c120) rfl rfl rfl rfl
  · rw [if_neg hc1] at h
    refine tw_br (cd := tw_c120) rfl rfl rfl (by exact if_pos (tw_b_f hc1)) ?_
    refine tw_blk (cd := tw_c120) rfl 2 (c1 := (6, [some (.ref 0), some (.int a1), some (.int a2)], [.int 1, .ref 0], (I, L, tw_P 2 14 rt sc, A, J, 57))) rfl ?_
    obtain ⟨⟨x12, I13⟩, hx14, h⟩ := tw_letE h
    dsimp only at h
    refine tw_callE (cd := tw_c120) rfl rfl rfl rfl rfl (e_X9_refuse I L A J 2 14 rt sc (1 : Int32) _ hx14) (by exact Or.inl rfl) ?_
    have h := Option.some.inj h
    subst h
    exact tw_retE (cd := tw_c120) rfl rfl rfl rfl
theorem e_X10_isMinute (I : Nat → Int32) (L : Nat → Int64) (A : Nat → Nat → Int32) (J : Nat → Nat → Int64) (tw dr : Nat) (rt : Nat) (sc : Nat) (a1 : Int32) : ∀ r : Bool, g_X10_isMinute a1 = r → tw_ME 249 (0, [some (.ref 44), some (.int a1)], [], (I, L, tw_P tw dr rt sc, A, J, 57)) (some (.int (tw_b r)), (I, L, tw_P tw dr rt sc, A, J, 57)) := by
  intro r h
  unfold g_X10_isMinute at h
  refine tw_blk (cd := tw_c249) rfl 3 (c1 := (3, [some (.ref 44), some (.int a1)], [.int 59, .int 0, .int a1], (I, L, tw_P tw dr rt sc, A, J, 57))) rfl ?_
  refine tw_callE (cd := tw_c249) rfl rfl rfl rfl rfl (e_X10_in I L A J tw dr rt sc a1 (0 : Int32) (59 : Int32) _ rfl) (by exact Or.inl rfl) ?_
  subst h
  exact tw_retZ (cd := tw_c249) (b := (g_X10_in a1 (0 : Int32) (59 : Int32))) rfl rfl rfl rfl
theorem e_X10_why (I : Nat → Int32) (L : Nat → Int64) (A : Nat → Nat → Int32) (J : Nat → Nat → Int64) (tw dr : Nat) (rt : Nat) (sc : Nat) (a1 : Int32) (a2 : Int32) : ∀ r : Int32, g_X10_why a1 a2 = r → tw_ME 248 (0, [some (.ref 44), some (.int a1), some (.int a2)], [], (I, L, tw_P tw dr rt sc, A, J, 57)) (some (.int r), (I, L, tw_P tw dr rt sc, A, J, 57)) := by
  intro r h
  unfold g_X10_why at h
  refine tw_blk (cd := tw_c248) rfl 1 (c1 := (1, [some (.ref 44), some (.int a1), some (.int a2)], [.int a1], (I, L, tw_P tw dr rt sc, A, J, 57))) rfl ?_
  by_cases hc1 : a1 = 0
  · rw [if_pos hc1] at h
    refine tw_br (cd := tw_c248) rfl rfl rfl (by exact if_pos hc1) ?_
    refine tw_blk (cd := tw_c248) rfl 2 (c1 := (9, [some (.ref 44), some (.int a1), some (.int a2)], [.int 1], (I, L, tw_P tw dr rt sc, A, J, 57))) rfl ?_
    subst h
    exact tw_retE (cd := tw_c248) rfl rfl rfl rfl
  · rw [if_neg hc1] at h
    refine tw_br (cd := tw_c248) rfl rfl rfl (by exact if_neg hc1) ?_
    refine tw_blk (cd := tw_c248) rfl 1 (c1 := (5, [some (.ref 44), some (.int a1), some (.int a2)], [.int a2], (I, L, tw_P tw dr rt sc, A, J, 57))) rfl ?_
    by_cases hc2 : a2 = 0
    · rw [if_pos hc2] at h
      refine tw_br (cd := tw_c248) rfl rfl rfl (by exact if_pos hc2) ?_
      refine tw_blk (cd := tw_c248) rfl 1 (c1 := (9, [some (.ref 44), some (.int a1), some (.int a2)], [.int 2], (I, L, tw_P tw dr rt sc, A, J, 57))) rfl ?_
      subst h
      exact tw_retE (cd := tw_c248) rfl rfl rfl rfl
    · rw [if_neg hc2] at h
      refine tw_br (cd := tw_c248) rfl rfl rfl (by exact if_neg hc2) ?_
      refine tw_blk (cd := tw_c248) rfl 2 (c1 := (9, [some (.ref 44), some (.int a1), some (.int a2)], [.int 0], (I, L, tw_P tw dr rt sc, A, J, 57))) rfl ?_
      subst h
      exact tw_retE (cd := tw_c248) rfl rfl rfl rfl
theorem g_X10_asNow_L1_ok (I : Nat → Int32) (L : Nat → Int64) (A : Nat → Nat → Int32) (J : Nat → Nat → Int64) (tw : Nat) (dr : Nat) (rt : Nat) (sc : Nat) (w1 : Nat → Int32) (out : Option Value × tw_S) : ∀ (n : Nat) (v1_1 : Int32) (A_1 : Nat → Nat → Int32) (ex : Nat → Nat → Int32), g_X10_asNow_L1 n v1_1 A_1 = some ex → tw_ME 240 (45, [none, none], [], (I, L, tw_P tw dr rt sc, ex, J, 57)) out → tw_ME 240 (10, [some (.ref 44), some (.int v1_1)], [], (I, L, tw_P tw dr rt sc, A_1, J, 57)) out := by
  intro n
  induction n with
  | zero =>
    intro v1_1 A_1 ex h _
    cases h
  | succ n ih =>
    intro v1_1 A_1 ex h K
    rw [g_X10_asNow_L1] at h
    refine tw_blk (cd := tw_c240) rfl 1 (c1 := (11, [some (.ref 44), some (.int v1_1)], [.int v1_1], (I, L, tw_P tw dr rt sc, A_1, J, 57))) rfl ?_
    refine tw_blk (cd := tw_c240) rfl 3 (c1 := (14, [some (.ref 44), some (.int v1_1)], [.int 3, .ref 47, .int v1_1], (I, L, tw_P tw dr rt sc, A_1, J, 57))) rfl ?_
    obtain ⟨x5, hx4, h⟩ := tw_bindE h
    refine tw_iald (cd := tw_c240) (N := 241) rfl rfl rfl rfl hx4 ?_
    by_cases hc6 : x5 ≤ v1_1
    · rw [if_pos hc6] at h
      refine tw_br (cd := tw_c240) rfl rfl rfl (by exact if_pos hc6) ?_
      refine tw_forget (ls2 := [none, none]) trivial ?_
      have h := Option.some.inj h
      subst h
      exact K
    · rw [if_neg hc6] at h
      refine tw_br (cd := tw_c240) rfl rfl rfl (by exact if_neg hc6) ?_
      refine tw_blk (cd := tw_c240) rfl 12 (c1 := (28, [some (.ref 44), some (.int v1_1)], [.int (((26 : Int32) + ((4 : Int32) * v1_1)) + (2 : Int32)), .ref 47, .int v1_1, .ref 53], (I, L, tw_P tw dr rt sc, A_1, J, 57))) rfl ?_
      obtain ⟨x8, hx7, h⟩ := tw_bindE h
      refine tw_iald (cd := tw_c240) (N := 241) rfl rfl rfl rfl hx7 ?_
      obtain ⟨w10, hx9, h⟩ := tw_bindE h
      refine tw_iast (cd := tw_c240) (N := 6) rfl rfl rfl rfl hx9 ?_
      refine tw_blk (cd := tw_c240) rfl 10 (c1 := (40, [some (.ref 44), some (.int v1_1)], [.int ((26 : Int32) + ((4 : Int32) * v1_1)), .ref 47, .int v1_1, .ref 54], (I, L, tw_P tw dr rt sc, (va_up A_1 53 w10), J, 57))) rfl ?_
      obtain ⟨x12, hx11, h⟩ := tw_bindE h
      refine tw_iald (cd := tw_c240) (N := 241) rfl rfl rfl rfl hx11 ?_
      refine tw_callE (cd := tw_c240) rfl rfl rfl rfl rfl (e_X10_eyesOfKind I L (va_up A_1 53 w10) J tw dr rt sc x12 _ rfl) (by exact Or.inl rfl) ?_
      obtain ⟨w14, hx13, h⟩ := tw_bindE h
      refine tw_iast (cd := tw_c240) (N := 6) rfl rfl rfl rfl hx13 ?_
      refine tw_blk (cd := tw_c240) rfl 2 (c1 := (10, [some (.ref 44), some (.int (v1_1 + (1 : Int32)))], [], (I, L, tw_P tw dr rt sc, (va_up (va_up A_1 53 w10) 54 w14), J, 57))) rfl ?_
      exact ih (v1_1 + (1 : Int32)) (va_up (va_up A_1 53 w10) 54 w14) _ h K
theorem e_X10_asNow (I : Nat → Int32) (L : Nat → Int64) (A : Nat → Nat → Int32) (J : Nat → Nat → Int64) (tw dr : Nat) (rt : Nat) (sc : Nat) : ∀ r : Nat → Nat → Int32, g_X10_asNow A = some r → tw_ME 240 (0, [some (.ref 44), none], [], (I, L, tw_P tw dr rt sc, A, J, 57)) (none, (I, L, tw_P tw dr rt sc, r, J, 57)) := by
  intro r h
  unfold g_X10_asNow at h
  refine tw_blk (cd := tw_c240) rfl 7 (c1 := (7, [some (.ref 44), none], [.int 8, .int 0, .ref 52, .int 0, .ref 49], (I, L, tw_P tw dr rt sc, A, J, 57))) rfl ?_
  obtain ⟨w1, hw2, h⟩ := tw_bindE h
  refine tw_callE (cd := tw_c240) rfl rfl rfl rfl rfl (tw_e_copy I L (tw_P tw dr rt sc) A J (q1 := 49) (q2 := 52) (N1 := 8) (N2 := 8) rfl rfl rfl rfl (by decide) (0 : Int32) (0 : Int32) (8 : Int32) w1 hw2) (by exact Or.inl rfl) ?_
  refine tw_blk (cd := tw_c240) rfl 2 (c1 := (10, [some (.ref 44), some (.int 0)], [], (I, L, tw_P tw dr rt sc, (va_up A 52 w1), J, 57))) rfl ?_
  obtain ⟨A3, hx15, h⟩ := tw_bindE h
  refine g_X10_asNow_L1_ok I L A J tw dr rt sc w1 _ 4096 (0 : Int32) (va_up A 52 w1) _ hx15 ?_
  have h := Option.some.inj h
  subst h
  exact tw_retE (cd := tw_c240) rfl rfl rfl rfl
theorem g_X10_placeOf_L1_ok (I : Nat → Int32) (L : Nat → Int64) (A : Nat → Nat → Int32) (J : Nat → Nat → Int64) (tw : Nat) (dr : Nat) (rt : Nat) (sc : Nat) (a1 : Int32) (a2 : Int32) (x2 : Int32) (x5 : Int32) (out : Option Value × tw_S) : ∀ (n : Nat) (v1_3 : Int32) (v1_4 : Int32) (ex : Int32), g_X10_placeOf_L1 A a1 a2 n v1_3 v1_4 = some ex → tw_ME 241 (66, [none, none, none, some (.int ex), none], [], (I, L, tw_P tw dr rt sc, A, J, 57)) out → tw_ME 241 (25, [some (.ref 44), some (.int a1), some (.int a2), some (.int v1_3), some (.int v1_4)], [], (I, L, tw_P tw dr rt sc, A, J, 57)) out := by
  intro n
  induction n with
  | zero =>
    intro v1_3 v1_4 ex h _
    cases h
  | succ n ih =>
    intro v1_3 v1_4 ex h K
    rw [g_X10_placeOf_L1] at h
    refine tw_blk (cd := tw_c241) rfl 1 (c1 := (26, [some (.ref 44), some (.int a1), some (.int a2), some (.int v1_3), some (.int v1_4)], [.int v1_4], (I, L, tw_P tw dr rt sc, A, J, 57))) rfl ?_
    refine tw_blk (cd := tw_c241) rfl 3 (c1 := (29, [some (.ref 44), some (.int a1), some (.int a2), some (.int v1_3), some (.int v1_4)], [.int 4, .ref 47, .int v1_4], (I, L, tw_P tw dr rt sc, A, J, 57))) rfl ?_
    obtain ⟨x8, hx7, h⟩ := tw_bindE h
    refine tw_iald (cd := tw_c241) (N := 241) rfl rfl rfl rfl hx7 ?_
    by_cases hc9 : x8 ≤ v1_4
    · rw [if_pos hc9] at h
      refine tw_br (cd := tw_c241) rfl rfl rfl (by exact if_pos hc9) ?_
      refine tw_forget (ls2 := [none, none, none, some (.int v1_3), none]) ⟨rfl, trivial⟩ ?_
      have h := Option.some.inj h
      subst h
      exact K
    · rw [if_neg hc9] at h
      refine tw_br (cd := tw_c241) rfl rfl rfl (by exact if_neg hc9) ?_
      refine tw_blk (cd := tw_c241) rfl 7 (c1 := (38, [some (.ref 44), some (.int a1), some (.int a2), some (.int v1_3), some (.int v1_4)], [.int ((50 : Int32) + ((3 : Int32) * v1_4)), .ref 47], (I, L, tw_P tw dr rt sc, A, J, 57))) rfl ?_
      obtain ⟨x11, hx10, h⟩ := tw_bindE h
      refine tw_iald (cd := tw_c241) (N := 241) rfl rfl rfl rfl hx10 ?_
      refine tw_blk (cd := tw_c241) rfl 1 (c1 := (40, [some (.ref 44), some (.int a1), some (.int a2), some (.int v1_3), some (.int v1_4)], [.int a1, .int x11], (I, L, tw_P tw dr rt sc, A, J, 57))) rfl ?_
      obtain ⟨x13, hj14, h⟩ := tw_bindE h
      have K : tw_ME 241 (64, [some (.ref 44), some (.int a1), some (.int a2), some (.int x13), some (.int v1_4)], [], (I, L, tw_P tw dr rt sc, A, J, 57)) out := by
        refine tw_blk (cd := tw_c241) rfl 2 (c1 := (25, [some (.ref 44), some (.int a1), some (.int a2), some (.int x13), some (.int (v1_4 + (1 : Int32)))], [], (I, L, tw_P tw dr rt sc, A, J, 57))) rfl ?_
        exact ih x13 (v1_4 + (1 : Int32)) _ h K
      by_cases hc12 : x11 = a1
      · rw [if_pos hc12] at hj14
        refine tw_br (cd := tw_c241) rfl rfl rfl (by exact if_pos hc12) ?_
        refine tw_blk (cd := tw_c241) rfl 9 (c1 := (50, [some (.ref 44), some (.int a1), some (.int a2), some (.int v1_3), some (.int v1_4)], [.int (((50 : Int32) + ((3 : Int32) * v1_4)) + (2 : Int32)), .ref 47], (I, L, tw_P tw dr rt sc, A, J, 57))) rfl ?_
        obtain ⟨x16, hx15, hj14⟩ := tw_bindE hj14
        refine tw_iald (cd := tw_c241) (N := 241) rfl rfl rfl rfl hx15 ?_
        refine tw_blk (cd := tw_c241) rfl 1 (c1 := (52, [some (.ref 44), some (.int a1), some (.int a2), some (.int v1_3), some (.int v1_4)], [.int a2, .int x16], (I, L, tw_P tw dr rt sc, A, J, 57))) rfl ?_
        by_cases hc17 : a2 < x16
        · rw [if_pos hc17] at hj14
          refine tw_br (cd := tw_c241) rfl rfl rfl (by exact if_pos hc17) ?_
          have hj14s := Option.some.inj hj14
          subst hj14s
          exact K
        · rw [if_neg hc17] at hj14
          refine tw_br (cd := tw_c241) rfl rfl rfl (by exact if_neg hc17) ?_
          refine tw_blk (cd := tw_c241) rfl 9 (c1 := (62, [some (.ref 44), some (.int a1), some (.int a2), some (.int v1_3), some (.int v1_4)], [.int (((50 : Int32) + ((3 : Int32) * v1_4)) + (1 : Int32)), .ref 47], (I, L, tw_P tw dr rt sc, A, J, 57))) rfl ?_
          obtain ⟨x19, hx18, hj14⟩ := tw_bindE hj14
          refine tw_iald (cd := tw_c241) (N := 241) rfl rfl rfl rfl hx18 ?_
          refine tw_blk (cd := tw_c241) rfl 1 (c1 := (64, [some (.ref 44), some (.int a1), some (.int a2), some (.int x19), some (.int v1_4)], [], (I, L, tw_P tw dr rt sc, A, J, 57))) rfl ?_
          have hj14s := Option.some.inj hj14
          subst hj14s
          exact K
      · rw [if_neg hc12] at hj14
        refine tw_br (cd := tw_c241) rfl rfl rfl (by exact if_neg hc12) ?_
        have hj14s := Option.some.inj hj14
        subst hj14s
        exact K
theorem e_X10_placeOf (I : Nat → Int32) (L : Nat → Int64) (A : Nat → Nat → Int32) (J : Nat → Nat → Int64) (tw dr : Nat) (rt : Nat) (sc : Nat) (a1 : Int32) (a2 : Int32) : ∀ r : Int32, g_X10_placeOf A a1 a2 = some r → tw_ME 241 (0, [some (.ref 44), some (.int a1), some (.int a2), none, none], [], (I, L, tw_P tw dr rt sc, A, J, 57)) (some (.int r), (I, L, tw_P tw dr rt sc, A, J, 57)) := by
  intro r h
  unfold g_X10_placeOf at h
  refine tw_blk (cd := tw_c241) rfl 3 (c1 := (3, [some (.ref 44), some (.int a1), some (.int a2), none, none], [.int a1, .ref 52], (I, L, tw_P tw dr rt sc, A, J, 57))) rfl ?_
  obtain ⟨x2, hx1, h⟩ := tw_bindE h
  refine tw_iald (cd := tw_c241) (N := 8) rfl rfl rfl rfl hx1 ?_
  by_cases hc3 : x2 ≤ 0
  · rw [if_pos hc3] at h
    refine tw_br (cd := tw_c241) rfl rfl rfl (by exact if_pos hc3) ?_
    refine tw_blk (cd := tw_c241) rfl 9 (c1 := (21, [some (.ref 44), some (.int a1), some (.int a2), none, none], [.int (((26 : Int32) + ((4 : Int32) * a1)) + (1 : Int32)), .ref 47], (I, L, tw_P tw dr rt sc, A, J, 57))) rfl ?_
    obtain ⟨x5, hx4, h⟩ := tw_bindE h
    refine tw_iald (cd := tw_c241) (N := 241) rfl rfl rfl rfl hx4 ?_
    refine tw_blk (cd := tw_c241) rfl 3 (c1 := (25, [some (.ref 44), some (.int a1), some (.int a2), some (.int x5), some (.int 0)], [], (I, L, tw_P tw dr rt sc, A, J, 57))) rfl ?_
    obtain ⟨x6, hx20, h⟩ := tw_bindE h
    refine g_X10_placeOf_L1_ok I L A J tw dr rt sc a1 a2 x2 x5 _ 4096 x5 (0 : Int32) _ hx20 ?_
    refine tw_blk (cd := tw_c241) rfl 1 (c1 := (67, [none, none, none, some (.int x6), none], [.int x6], (I, L, tw_P tw dr rt sc, A, J, 57))) rfl ?_
    have h := Option.some.inj h
    subst h
    exact tw_retE (cd := tw_c241) rfl rfl rfl rfl
  · rw [if_neg hc3] at h
    refine tw_br (cd := tw_c241) rfl rfl rfl (by exact if_neg hc3) ?_
    refine tw_blk (cd := tw_c241) rfl 3 (c1 := (8, [some (.ref 44), some (.int a1), some (.int a2), none, none], [.int a1, .ref 52], (I, L, tw_P tw dr rt sc, A, J, 57))) rfl ?_
    obtain ⟨x22, hx21, h⟩ := tw_bindE h
    refine tw_iald (cd := tw_c241) (N := 8) rfl rfl rfl rfl hx21 ?_
    refine tw_blk (cd := tw_c241) rfl 2 (c1 := (11, [some (.ref 44), some (.int a1), some (.int a2), none, none], [.int (x22 - (1 : Int32))], (I, L, tw_P tw dr rt sc, A, J, 57))) rfl ?_
    have h := Option.some.inj h
    subst h
    exact tw_retE (cd := tw_c241) rfl rfl rfl rfl
theorem e_X10_at (I : Nat → Int32) (L : Nat → Int64) (A : Nat → Nat → Int32) (J : Nat → Nat → Int64) (tw dr : Nat) (rt : Nat) (sc : Nat) (a1 : Int32) (a2 : Int32) : ∀ r : (Int32 × (Nat → Int32) × (Nat → Nat → Int32)), g_X10_at I A a1 a2 = some r → tw_ME 254 (0, [some (.ref 44), some (.int a1), some (.int a2), none], [], (I, L, tw_P tw dr rt sc, A, J, 57)) (some (.int r.1), ((r.2.1), L, tw_P tw dr rt sc, (r.2.2), J, 57)) := by
  intro r h
  unfold g_X10_at at h
  refine tw_blk (cd := tw_c254) rfl 1 (c1 := (1, [some (.ref 44), some (.int a1), some (.int a2), none], [.ref 44], (I, L, tw_P tw dr rt sc, A, J, 57))) rfl ?_
  obtain ⟨I1, hx2, h⟩ := tw_letE h
  refine tw_callE (cd := tw_c254) rfl rfl rfl rfl rfl (e_X10_good I L A J tw dr rt sc _ hx2) (by exact Or.inl rfl) ?_
  refine tw_blk (cd := tw_c254) rfl 3 (c1 := (5, [some (.ref 44), some (.int a1), some (.int a2), none], [.int a1, .ref 44, .ref 44], (I1, L, tw_P tw dr rt sc, A, J, 57))) rfl ?_
  obtain ⟨c3, hx4, h⟩ := tw_bindE h
  refine tw_callE (cd := tw_c254) rfl rfl rfl rfl rfl (e_X10_isPerson I1 L A J tw dr rt sc a1 _ hx4) (by exact Or.inl rfl) ?_
  refine tw_blk (cd := tw_c254) rfl 2 (c1 := (8, [some (.ref 44), some (.int a1), some (.int a2), none], [.int a2, .ref 44, .int (tw_b c3), .ref 44], (I1, L, tw_P tw dr rt sc, A, J, 57))) rfl ?_
  refine tw_callE (cd := tw_c254) rfl rfl rfl rfl rfl (e_X10_isMinute I1 L A J tw dr rt sc a2 _ rfl) (by exact Or.inl rfl) ?_
  refine tw_callE (cd := tw_c254) rfl rfl rfl rfl rfl (e_X10_why I1 L A J tw dr rt sc (tw_b c3) (tw_b (g_X10_isMinute a2)) _ rfl) (by exact Or.inl rfl) ?_
  refine tw_blk (cd := tw_c254) rfl 2 (c1 := (12, [some (.ref 44), some (.int a1), some (.int a2), some (.int (g_X10_why (tw_b c3) (tw_b (g_X10_isMinute a2))))], [.int (g_X10_why (tw_b c3) (tw_b (g_X10_isMinute a2)))], (I1, L, tw_P tw dr rt sc, A, J, 57))) rfl ?_
  by_cases hc5 : (g_X10_why (tw_b c3) (tw_b (g_X10_isMinute a2))) = 0
  · rw [if_pos hc5] at h
    refine tw_br (cd := tw_c254) rfl rfl rfl (by exact if_pos hc5) ?_
    refine tw_blk (cd := tw_c254) rfl 1 (c1 := (18, [some (.ref 44), some (.int a1), some (.int a2), some (.int (g_X10_why (tw_b c3) (tw_b (g_X10_isMinute a2))))], [.ref 44], (I1, L, tw_P tw dr rt sc, A, J, 57))) rfl ?_
    obtain ⟨A6, hx7, h⟩ := tw_bindE h
    refine tw_callE (cd := tw_c254) rfl rfl rfl rfl rfl (e_X10_asNow I1 L A J tw dr rt sc _ hx7) (by exact Or.inl rfl) ?_
    refine tw_blk (cd := tw_c254) rfl 3 (c1 := (22, [some (.ref 44), some (.int a1), some (.int a2), some (.int (g_X10_why (tw_b c3) (tw_b (g_X10_isMinute a2))))], [.int a2, .int a1, .ref 44], (I1, L, tw_P tw dr rt sc, A6, J, 57))) rfl ?_
    obtain ⟨x8, hx9, h⟩ := tw_bindE h
    refine tw_callE (cd := tw_c254) rfl rfl rfl rfl rfl (e_X10_placeOf I1 L A6 J tw dr rt sc a1 a2 _ hx9) (by exact Or.inl rfl) ?_
    have h := Option.some.inj h
    subst h
    exact tw_retE (cd := tw_c254) rfl rfl rfl rfl
  · rw [if_neg hc5] at h
    refine tw_br (cd := tw_c254) rfl rfl rfl (by exact if_neg hc5) ?_
    refine tw_blk (cd := tw_c254) rfl 2 (c1 := (15, [some (.ref 44), some (.int a1), some (.int a2), some (.int (g_X10_why (tw_b c3) (tw_b (g_X10_isMinute a2))))], [.int (g_X10_why (tw_b c3) (tw_b (g_X10_isMinute a2))), .ref 44], (I1, L, tw_P tw dr rt sc, A, J, 57))) rfl ?_
    obtain ⟨⟨x10, I11⟩, hx12, h⟩ := tw_letE h
    dsimp only at h
    refine tw_callE (cd := tw_c254) rfl rfl rfl rfl rfl (e_X10_no I1 L A J tw dr rt sc (g_X10_why (tw_b c3) (tw_b (g_X10_isMinute a2))) _ hx12) (by exact Or.inl rfl) ?_
    have h := Option.some.inj h
    subst h
    exact tw_retE (cd := tw_c254) rfl rfl rfl rfl
theorem e_X9_isPlace (I : Nat → Int32) (L : Nat → Int64) (A : Nat → Nat → Int32) (J : Nat → Nat → Int64) (rt : Nat) (sc : Nat) (a1 : Int32) : ∀ r : Bool, g_X9_isPlace A a1 = r → tw_ME 178 (0, [some (.ref 0), some (.int a1)], [], (I, L, tw_P 2 14 rt sc, A, J, 57)) (some (.int (tw_b r)), (I, L, tw_P 2 14 rt sc, A, J, 57)) := by
  intro r h
  unfold g_X9_isPlace at h
  refine tw_blk (cd := tw_c178) rfl 1 (c1 := (1, [some (.ref 0), some (.int a1)], [.int a1], (I, L, tw_P 2 14 rt sc, A, J, 57))) rfl ?_
  by_cases hc1 : a1 < 0
  · rw [if_pos hc1] at h
    refine tw_br (cd := tw_c178) rfl rfl rfl (by exact if_pos hc1) ?_
    refine tw_blk (cd := tw_c178) rfl 1 (c1 := (11, [some (.ref 0), some (.int a1)], [.int 0], (I, L, tw_P 2 14 rt sc, A, J, 57))) rfl ?_
    subst h
    exact tw_retZ (cd := tw_c178) (b := false) rfl rfl rfl rfl
  · rw [if_neg hc1] at h
    refine tw_br (cd := tw_c178) rfl rfl rfl (by exact if_neg hc1) ?_
    refine tw_blk (cd := tw_c178) rfl 4 (c1 := (6, [some (.ref 0), some (.int a1)], [.int 1, .ref 2, .int a1], (I, L, tw_P 2 14 rt sc, A, J, 57))) rfl ?_
    refine tw_callE (cd := tw_c178) rfl rfl rfl rfl rfl (e_X8_count_2 I L A J 2 14 rt sc (1 : Int32) _ rfl) (by exact Or.inl rfl) ?_
    by_cases hc2 : (g_X8_count_2 A (1 : Int32)) ≤ a1
    · rw [if_pos hc2] at h
      refine tw_br (cd := tw_c178) rfl rfl rfl (by exact if_pos hc2) ?_
      refine tw_blk (cd := tw_c178) rfl 1 (c1 := (11, [some (.ref 0), some (.int a1)], [.int 0], (I, L, tw_P 2 14 rt sc, A, J, 57))) rfl ?_
      subst h
      exact tw_retZ (cd := tw_c178) (b := false) rfl rfl rfl rfl
    · rw [if_neg hc2] at h
      refine tw_br (cd := tw_c178) rfl rfl rfl (by exact if_neg hc2) ?_
      refine tw_blk (cd := tw_c178) rfl 2 (c1 := (11, [some (.ref 0), some (.int a1)], [.int 1], (I, L, tw_P 2 14 rt sc, A, J, 57))) rfl ?_
      subst h
      exact tw_retZ (cd := tw_c178) (b := true) rfl rfl rfl rfl
theorem g_X6_viewFrom_L1_ok (I : Nat → Int32) (L : Nat → Int64) (A : Nat → Nat → Int32) (J : Nat → Nat → Int64) (tw : Nat) (dr : Nat) (rt : Nat) (a1 : Int32) (out : Option Value × tw_S) : ∀ (n : Nat) (v1_2 : Int32) (v1_3 : Int32) (ex : Int32), g_X6_viewFrom_L1 I A a1 n v1_2 v1_3 = some ex → tw_ME 84 (38, [none, none, some (.int ex), none], [], (I, L, tw_P tw dr rt 2, A, J, 57)) out → tw_ME 84 (6, [some (.ref 36), some (.int a1), some (.int v1_2), some (.int v1_3)], [], (I, L, tw_P tw dr rt 2, A, J, 57)) out := by
  intro n
  induction n with
  | zero =>
    intro v1_2 v1_3 ex h _
    cases h
  | succ n ih =>
    intro v1_2 v1_3 ex h K
    rw [g_X6_viewFrom_L1] at h
    refine tw_blk (cd := tw_c84) rfl 1 (c1 := (7, [some (.ref 36), some (.int a1), some (.int v1_2), some (.int v1_3)], [.int v1_3], (I, L, tw_P tw dr rt 2, A, J, 57))) rfl ?_
    refine tw_blk (cd := tw_c84) rfl 3 (c1 := (10, [some (.ref 36), some (.int a1), some (.int v1_2), some (.int v1_3)], [.int 2, .ref 2, .int v1_3], (I, L, tw_P tw dr rt 2, A, J, 57))) rfl ?_
    refine tw_callE (cd := tw_c84) rfl rfl rfl rfl rfl (e_X8_count_2 I L A J tw dr rt 2 (2 : Int32) _ rfl) (by exact Or.inl rfl) ?_
    by_cases hc2 : (g_X8_count_2 A (2 : Int32)) ≤ v1_3
    · rw [if_pos hc2] at h
      refine tw_br (cd := tw_c84) rfl rfl rfl (by exact if_pos hc2) ?_
      refine tw_forget (ls2 := [none, none, some (.int v1_2), none]) ⟨rfl, trivial⟩ ?_
      have h := Option.some.inj h
      subst h
      exact K
    · rw [if_neg hc2] at h
      refine tw_br (cd := tw_c84) rfl rfl rfl (by exact if_neg hc2) ?_
      refine tw_blk (cd := tw_c84) rfl 4 (c1 := (16, [some (.ref 36), some (.int a1), some (.int v1_2), some (.int v1_3)], [.int v1_3, .ref 4], (I, L, tw_P tw dr rt 2, A, J, 57))) rfl ?_
      refine tw_callE (cd := tw_c84) rfl rfl rfl rfl rfl (tw_e_get I L (tw_P tw dr rt 2) A J (q := 4) (N := 8) rfl rfl (by decide) v1_3) (by exact Or.inl rfl) ?_
      refine tw_blk (cd := tw_c84) rfl 1 (c1 := (18, [some (.ref 36), some (.int a1), some (.int v1_2), some (.int v1_3)], [.int a1, .int (tw_get0 8 (A 4) v1_3)], (I, L, tw_P tw dr rt 2, A, J, 57))) rfl ?_
      obtain ⟨x4, hj5, h⟩ := tw_bindE h
      have K : tw_ME 84 (36, [some (.ref 36), some (.int a1), some (.int x4), some (.int v1_3)], [], (I, L, tw_P tw dr rt 2, A, J, 57)) out := by
        refine tw_blk (cd := tw_c84) rfl 2 (c1 := (6, [some (.ref 36), some (.int a1), some (.int x4), some (.int (v1_3 + (1 : Int32)))], [], (I, L, tw_P tw dr rt 2, A, J, 57))) rfl ?_
        exact ih x4 (v1_3 + (1 : Int32)) _ h K
      by_cases hc3 : (tw_get0 8 (A 4) v1_3) = a1
      · rw [if_pos hc3] at hj5
        refine tw_br (cd := tw_c84) rfl rfl rfl (by exact if_pos hc3) ?_
        refine tw_blk (cd := tw_c84) rfl 6 (c1 := (25, [some (.ref 36), some (.int a1), some (.int v1_2), some (.int v1_3)], [.int (((I 3601) >>> (v1_3 &&& 31)) &&& (1 : Int32))], (I, L, tw_P tw dr rt 2, A, J, 57))) rfl ?_
        by_cases hc6 : (((I 3601) >>> (v1_3 &&& 31)) &&& (1 : Int32)) = 0
        · rw [if_pos hc6] at hj5
          refine tw_br (cd := tw_c84) rfl rfl rfl (by exact if_pos hc6) ?_
          refine tw_blk (cd := tw_c84) rfl 6 (c1 := (32, [some (.ref 36), some (.int a1), some (.int v1_2), some (.int v1_3)], [.int v1_3, .ref 5, .int 1, .int v1_2], (I, L, tw_P tw dr rt 2, A, J, 57))) rfl ?_
          refine tw_callE (cd := tw_c84) rfl rfl rfl rfl rfl (tw_e_get I L (tw_P tw dr rt 2) A J (q := 5) (N := 8) rfl rfl (by decide) v1_3) (by exact Or.inl rfl) ?_
          refine tw_blk (cd := tw_c84) rfl 3 (c1 := (36, [some (.ref 36), some (.int a1), some (.int (v1_2 ||| ((1 : Int32) <<< ((tw_get0 8 (A 5) v1_3) &&& 31)))), some (.int v1_3)], [], (I, L, tw_P tw dr rt 2, A, J, 57))) rfl ?_
          have hj5s := Option.some.inj hj5
          subst hj5s
          exact K
        · rw [if_neg hc6] at hj5
          refine tw_br (cd := tw_c84) rfl rfl rfl (by exact if_neg hc6) ?_
          have hj5s := Option.some.inj hj5
          subst hj5s
          exact K
      · rw [if_neg hc3] at hj5
        refine tw_br (cd := tw_c84) rfl rfl rfl (by exact if_neg hc3) ?_
        have hj5s := Option.some.inj hj5
        subst hj5s
        exact K
theorem e_X6_viewFrom (I : Nat → Int32) (L : Nat → Int64) (A : Nat → Nat → Int32) (J : Nat → Nat → Int64) (tw dr : Nat) (rt : Nat) (a1 : Int32) : ∀ r : Int32, g_X6_viewFrom I A a1 = some r → tw_ME 84 (0, [some (.ref 36), some (.int a1), none, none], [], (I, L, tw_P tw dr rt 2, A, J, 57)) (some (.int r), (I, L, tw_P tw dr rt 2, A, J, 57)) := by
  intro r h
  unfold g_X6_viewFrom at h
  refine tw_blk (cd := tw_c84) rfl 6 (c1 := (6, [some (.ref 36), some (.int a1), some (.int ((1 : Int32) <<< (a1 &&& 31))), some (.int 0)], [], (I, L, tw_P tw dr rt 2, A, J, 57))) rfl ?_
  obtain ⟨x1, hx7, h⟩ := tw_bindE h
  refine g_X6_viewFrom_L1_ok I L A J tw dr rt a1 _ 4096 ((1 : Int32) <<< (a1 &&& 31)) (0 : Int32) _ hx7 ?_
  refine tw_blk (cd := tw_c84) rfl 1 (c1 := (39, [none, none, some (.int x1), none], [.int x1], (I, L, tw_P tw dr rt 2, A, J, 57))) rfl ?_
  have h := Option.some.inj h
  subst h
  exact tw_retE (cd := tw_c84) rfl rfl rfl rfl
