/-! the machine does what the functions say -/
set_option maxRecDepth 16000
theorem e_X9_mayNotHeat (I : Nat → Int32) (L : Nat → Int64) (A : Nat → Nat → Int32) (J : Nat → Nat → Int64) (rt : Nat) (sc : Nat) (a1 : Int32) : ∀ r : (Bool × (Nat → Int32)), g_X9_mayNotHeat I A a1 = r → tw_ME 157 (0, [some (.ref 0), some (.int a1)], [], (I, L, tw_P 2 14 rt sc, A, J, 57)) (some (.int (tw_b r.1)), ((r.2), L, tw_P 2 14 rt sc, A, J, 57)) := by
  intro r h
  unfold g_X9_mayNotHeat at h
  refine tw_blk (cd := tw_c157) rfl 1 (c1 := (1, [some (.ref 0), some (.int a1)], [.ref 0], (I, L, tw_P 2 14 rt sc, A, J, 57))) rfl ?_
  refine tw_callE (cd := tw_c157) rfl rfl rfl rfl rfl (e_X9_hasTown I L A J rt sc _ rfl) (by exact Or.inl rfl) ?_
  by_cases hc1 : (g_X9_hasTown A) = true
  · rw [if_pos hc1] at h
    refine tw_br (cd := tw_c157) rfl rfl rfl (by exact if_neg (tw_b_t hc1)) ?_
    refine tw_blk (cd := tw_c157) rfl 1 (c1 := (9, [some (.ref 0), some (.int a1)], [.int a1], (I, L, tw_P 2 14 rt sc, A, J, 57))) rfl ?_
    by_cases hc2 : a1 < 0
    · rw [if_pos hc2] at h
      refine tw_br (cd := tw_c157) rfl rfl rfl (by exact if_pos hc2) ?_
      refine tw_blk (cd := tw_c157) rfl 4 (c1 := (17, [some (.ref 0), some (.int a1)], [.int 1], ((upd I 12 (2 : Int32)), L, tw_P 2 14 rt sc, A, J, 57))) rfl ?_
      subst h
      exact tw_retZ (cd := tw_c157) (b := true) rfl rfl rfl rfl
    · rw [if_neg hc2] at h
      refine tw_br (cd := tw_c157) rfl rfl rfl (by exact if_neg hc2) ?_
      refine tw_blk (cd := tw_c157) rfl 2 (c1 := (12, [some (.ref 0), some (.int a1)], [.int 9, .int a1], (I, L, tw_P 2 14 rt sc, A, J, 57))) rfl ?_
      by_cases hc3 : a1 ≤ (9 : Int32)
      · rw [if_pos hc3] at h
        refine tw_br (cd := tw_c157) rfl rfl rfl (by exact if_pos hc3) ?_
        refine tw_blk (cd := tw_c157) rfl 1 (c1 := (19, [some (.ref 0), some (.int a1)], [.int 0], (I, L, tw_P 2 14 rt sc, A, J, 57))) rfl ?_
        subst h
        exact tw_retZ (cd := tw_c157) (b := false) rfl rfl rfl rfl
      · rw [if_neg hc3] at h
        refine tw_br (cd := tw_c157) rfl rfl rfl (by exact if_neg hc3) ?_
        refine tw_blk (cd := tw_c157) rfl 4 (c1 := (17, [some (.ref 0), some (.int a1)], [.int 1], ((upd I 12 (2 : Int32)), L, tw_P 2 14 rt sc, A, J, 57))) rfl ?_
        subst h
        exact tw_retZ (cd := tw_c157) (b := true) rfl rfl rfl rfl
  · rw [if_neg hc1] at h
    refine tw_br (cd := tw_c157) rfl rfl rfl (by exact if_pos (tw_b_f hc1)) ?_
    refine tw_blk (cd := tw_c157) rfl 4 (c1 := (7, [some (.ref 0), some (.int a1)], [.int 1], ((upd I 12 (1 : Int32)), L, tw_P 2 14 rt sc, A, J, 57))) rfl ?_
    subst h
    exact tw_retZ (cd := tw_c157) (b := true) rfl rfl rfl rfl
theorem e_X9_due (I : Nat → Int32) (L : Nat → Int64) (A : Nat → Nat → Int32) (J : Nat → Nat → Int64) (tw dr : Nat) (rt : Nat) (sc : Nat) (a0 : Int32) (a1 : Int32) (a2 : Int32) : ∀ r : Int32, g_X9_due a0 a1 a2 = r → tw_ME 155 (0, [some (.int a0), some (.int a1), some (.int a2)], [], (I, L, tw_P tw dr rt sc, A, J, 57)) (some (.int r), (I, L, tw_P tw dr rt sc, A, J, 57)) := by
  intro r h
  unfold g_X9_due at h
  refine tw_blk (cd := tw_c155) rfl 1 (c1 := (1, [some (.int a0), some (.int a1), some (.int a2)], [.int a1], (I, L, tw_P tw dr rt sc, A, J, 57))) rfl ?_
  by_cases hc1 : a1 = 0
  · rw [if_pos hc1] at h
    refine tw_br (cd := tw_c155) rfl rfl rfl (by exact if_pos hc1) ?_
    refine tw_blk (cd := tw_c155) rfl 1 (c1 := (11, [some (.int a0), some (.int a1), some (.int a2)], [.int a2], (I, L, tw_P tw dr rt sc, A, J, 57))) rfl ?_
    by_cases hc2 : a2 = 0
    · rw [if_pos hc2] at h
      refine tw_br (cd := tw_c155) rfl rfl rfl (by exact if_pos hc2) ?_
      refine tw_blk (cd := tw_c155) rfl 1 (c1 := (16, [some (.int a0), some (.int a1), some (.int a2)], [.int 2], (I, L, tw_P tw dr rt sc, A, J, 57))) rfl ?_
      subst h
      exact tw_retE (cd := tw_c155) rfl rfl rfl rfl
    · rw [if_neg hc2] at h
      refine tw_br (cd := tw_c155) rfl rfl rfl (by exact if_neg hc2) ?_
      refine tw_blk (cd := tw_c155) rfl 3 (c1 := (16, [some (.int a0), some (.int a1), some (.int a2)], [.int (-a0)], (I, L, tw_P tw dr rt sc, A, J, 57))) rfl ?_
      subst h
      exact tw_retE (cd := tw_c155) rfl rfl rfl rfl
  · rw [if_neg hc1] at h
    refine tw_br (cd := tw_c155) rfl rfl rfl (by exact if_neg hc1) ?_
    refine tw_blk (cd := tw_c155) rfl 1 (c1 := (3, [some (.int a0), some (.int a1), some (.int a2)], [.int a2], (I, L, tw_P tw dr rt sc, A, J, 57))) rfl ?_
    by_cases hc3 : a2 = 0
    · rw [if_pos hc3] at h
      refine tw_br (cd := tw_c155) rfl rfl rfl (by exact if_pos hc3) ?_
      refine tw_blk (cd := tw_c155) rfl 1 (c1 := (9, [some (.int a0), some (.int a1), some (.int a2)], [.int 4], (I, L, tw_P tw dr rt sc, A, J, 57))) rfl ?_
      subst h
      exact tw_retE (cd := tw_c155) rfl rfl rfl rfl
    · rw [if_neg hc3] at h
      refine tw_br (cd := tw_c155) rfl rfl rfl (by exact if_neg hc3) ?_
      refine tw_blk (cd := tw_c155) rfl 4 (c1 := (9, [some (.int a0), some (.int a1), some (.int a2)], [.int ((1 : Int32) - a0)], (I, L, tw_P tw dr rt sc, A, J, 57))) rfl ?_
      subst h
      exact tw_retE (cd := tw_c155) rfl rfl rfl rfl
theorem e_X9_says (I : Nat → Int32) (L : Nat → Int64) (A : Nat → Nat → Int32) (J : Nat → Nat → Int64) (rt : Nat) (sc : Nat) (a1 : Int32) (a2 : Int32) (a3 : Int32) (a4 : Int32) : ∀ r : (Int32 × (Nat → Int32)), g_X9_says I A a1 a2 a3 a4 = r → tw_ME 152 (0, [some (.ref 0), some (.int a1), some (.int a2), some (.int a3), some (.int a4)], [], (I, L, tw_P 2 14 rt sc, A, J, 57)) (some (.int r.1), ((r.2), L, tw_P 2 14 rt sc, A, J, 57)) := by
  intro r h
  unfold g_X9_says at h
  refine tw_blk (cd := tw_c152) rfl 2 (c1 := (2, [some (.ref 0), some (.int a1), some (.int a2), some (.int a3), some (.int a4)], [.int a1, .ref 0], (I, L, tw_P 2 14 rt sc, A, J, 57))) rfl ?_
  obtain ⟨⟨c1, I2⟩, hx3, h⟩ := tw_letE h
  dsimp only at h
  refine tw_callE (cd := tw_c152) rfl rfl rfl rfl rfl (e_X9_mayNotHeat I L A J rt sc a1 _ hx3) (by exact Or.inl rfl) ?_
  by_cases hc4 : c1 = true
  · rw [if_pos hc4] at h
    refine tw_br (cd := tw_c152) rfl rfl rfl (by exact if_neg (tw_b_t hc4)) ?_
    refine tw_blk (cd := tw_c152) rfl 1 (c1 := (5, [some (.ref 0), some (.int a1), some (.int a2), some (.int a3), some (.int a4)], [.int (-100)], (I2, L, tw_P 2 14 rt sc, A, J, 57))) rfl ?_
    subst h
    exact tw_retE (cd := tw_c152) rfl rfl rfl rfl
  · rw [if_neg hc4] at h
    refine tw_br (cd := tw_c152) rfl rfl rfl (by exact if_pos (tw_b_f hc4)) ?_
    refine tw_blk (cd := tw_c152) rfl 2 (c1 := (8, [some (.ref 0), some (.int a1), some (.int a2), some (.int a3), some (.int a4)], [.int a4, .ref 0], (I2, L, tw_P 2 14 rt sc, A, J, 57))) rfl ?_
    obtain ⟨x6, hj7, h⟩ := tw_letE h
    have K : tw_ME 152 (18, [none, none, none, none, none], [.int x6, .ref 0], (I2, L, tw_P 2 14 rt sc, A, J, 57)) (some (.int r.1), ((r.2), L, tw_P 2 14 rt sc, A, J, 57)) := by
      obtain ⟨⟨x8, I9⟩, hx10, h⟩ := tw_letE h
      dsimp only at h
      refine tw_callE (cd := tw_c152) rfl rfl rfl rfl rfl (e_X9_grant I2 L A J 2 14 rt sc x6 _ hx10) (by exact Or.inl rfl) ?_
      subst h
      exact tw_retE (cd := tw_c152) rfl rfl rfl rfl
    by_cases hc5 : a4 = 0
    · rw [if_pos hc5] at hj7
      refine tw_br (cd := tw_c152) rfl rfl rfl (by exact if_pos hc5) ?_
      refine tw_blk (cd := tw_c152) rfl 3 (c1 := (17, [some (.ref 0), some (.int a1), some (.int a2), some (.int a3), some (.int a4)], [.int a3, .int a2, .int a1, .ref 0], (I2, L, tw_P 2 14 rt sc, A, J, 57))) rfl ?_
      refine tw_callE (cd := tw_c152) rfl rfl rfl rfl rfl (e_X9_due I2 L A J 2 14 rt sc a1 a2 a3 _ rfl) (by exact Or.inl rfl) ?_
      refine tw_forget (ls2 := [none, none, none, none, none]) trivial ?_
      subst hj7
      exact K
    · rw [if_neg hc5] at hj7
      refine tw_br (cd := tw_c152) rfl rfl rfl (by exact if_neg hc5) ?_
      refine tw_blk (cd := tw_c152) rfl 3 (c1 := (12, [some (.ref 0), some (.int a1), some (.int a2), some (.int a3), some (.int a4)], [.int a2, .int a3, .int a1, .ref 0], (I2, L, tw_P 2 14 rt sc, A, J, 57))) rfl ?_
      refine tw_callE (cd := tw_c152) rfl rfl rfl rfl rfl (e_X9_due I2 L A J 2 14 rt sc a1 a3 a2 _ rfl) (by exact Or.inl rfl) ?_
      refine tw_blk (cd := tw_c152) rfl 1 (c1 := (18, [some (.ref 0), some (.int a1), some (.int a2), some (.int a3), some (.int a4)], [.int (g_X9_due a1 a3 a2), .ref 0], (I2, L, tw_P 2 14 rt sc, A, J, 57))) rfl ?_
      refine tw_forget (ls2 := [none, none, none, none, none]) trivial ?_
      subst hj7
      exact K
theorem e_X10_saysOf (I : Nat → Int32) (L : Nat → Int64) (A : Nat → Nat → Int32) (J : Nat → Nat → Int64) (tw dr : Nat) (rt : Nat) (sc : Nat) (a0 : Int32) (a1 : Int32) (a2 : Int32) : ∀ r : Int32, g_X10_saysOf a0 a1 a2 = r → tw_ME 297 (0, [some (.int a0), some (.int a1), some (.int a2)], [], (I, L, tw_P tw dr rt sc, A, J, 57)) (some (.int r), (I, L, tw_P tw dr rt sc, A, J, 57)) := by
  intro r h
  unfold g_X10_saysOf at h
  refine tw_blk (cd := tw_c297) rfl 1 (c1 := (1, [some (.int a0), some (.int a1), some (.int a2)], [.int a1], (I, L, tw_P tw dr rt sc, A, J, 57))) rfl ?_
  by_cases hc1 : a1 = 0
  · rw [if_pos hc1] at h
    refine tw_br (cd := tw_c297) rfl rfl rfl (by exact if_pos hc1) ?_
    refine tw_blk (cd := tw_c297) rfl 1 (c1 := (11, [some (.int a0), some (.int a1), some (.int a2)], [.int a2], (I, L, tw_P tw dr rt sc, A, J, 57))) rfl ?_
    by_cases hc2 : a2 = 0
    · rw [if_pos hc2] at h
      refine tw_br (cd := tw_c297) rfl rfl rfl (by exact if_pos hc2) ?_
      refine tw_blk (cd := tw_c297) rfl 1 (c1 := (16, [some (.int a0), some (.int a1), some (.int a2)], [.int 2], (I, L, tw_P tw dr rt sc, A, J, 57))) rfl ?_
      subst h
      exact tw_retE (cd := tw_c297) rfl rfl rfl rfl
    · rw [if_neg hc2] at h
      refine tw_br (cd := tw_c297) rfl rfl rfl (by exact if_neg hc2) ?_
      refine tw_blk (cd := tw_c297) rfl 3 (c1 := (16, [some (.int a0), some (.int a1), some (.int a2)], [.int (-a0)], (I, L, tw_P tw dr rt sc, A, J, 57))) rfl ?_
      subst h
      exact tw_retE (cd := tw_c297) rfl rfl rfl rfl
  · rw [if_neg hc1] at h
    refine tw_br (cd := tw_c297) rfl rfl rfl (by exact if_neg hc1) ?_
    refine tw_blk (cd := tw_c297) rfl 1 (c1 := (3, [some (.int a0), some (.int a1), some (.int a2)], [.int a2], (I, L, tw_P tw dr rt sc, A, J, 57))) rfl ?_
    by_cases hc3 : a2 = 0
    · rw [if_pos hc3] at h
      refine tw_br (cd := tw_c297) rfl rfl rfl (by exact if_pos hc3) ?_
      refine tw_blk (cd := tw_c297) rfl 2 (c1 := (16, [some (.int a0), some (.int a1), some (.int a2)], [.int 4], (I, L, tw_P tw dr rt sc, A, J, 57))) rfl ?_
      subst h
      exact tw_retE (cd := tw_c297) rfl rfl rfl rfl
    · rw [if_neg hc3] at h
      refine tw_br (cd := tw_c297) rfl rfl rfl (by exact if_neg hc3) ?_
      refine tw_blk (cd := tw_c297) rfl 4 (c1 := (16, [some (.int a0), some (.int a1), some (.int a2)], [.int ((1 : Int32) - a0)], (I, L, tw_P tw dr rt sc, A, J, 57))) rfl ?_
      subst h
      exact tw_retE (cd := tw_c297) rfl rfl rfl rfl
theorem e_X10_says (I : Nat → Int32) (L : Nat → Int64) (A : Nat → Nat → Int32) (J : Nat → Nat → Int64) (tw dr : Nat) (rt : Nat) (sc : Nat) (a1 : Int32) (a2 : Int32) (a3 : Int32) (a4 : Int32) : ∀ r : (Int32 × (Nat → Int32)), g_X10_says I a1 a2 a3 a4 = r → tw_ME 298 (0, [some (.ref 44), some (.int a1), some (.int a2), some (.int a3), some (.int a4), none], [], (I, L, tw_P tw dr rt sc, A, J, 57)) (some (.int r.1), ((r.2), L, tw_P tw dr rt sc, A, J, 57)) := by
  intro r h
  unfold g_X10_says at h
  refine tw_blk (cd := tw_c298) rfl 1 (c1 := (1, [some (.ref 44), some (.int a1), some (.int a2), some (.int a3), some (.int a4), none], [.ref 44], (I, L, tw_P tw dr rt sc, A, J, 57))) rfl ?_
  obtain ⟨I1, hx2, h⟩ := tw_letE h
  refine tw_callE (cd := tw_c298) rfl rfl rfl rfl rfl (e_X10_good I L A J tw dr rt sc _ hx2) (by exact Or.inl rfl) ?_
  refine tw_blk (cd := tw_c298) rfl 6 (c1 := (8, [some (.ref 44), some (.int a1), some (.int a2), some (.int a3), some (.int a4), none], [.int 9, .int 0, .int a1, .int (I1 4414), .ref 44], (I1, L, tw_P tw dr rt sc, A, J, 57))) rfl ?_
  refine tw_callE (cd := tw_c298) rfl rfl rfl rfl rfl (e_X10_in I1 L A J tw dr rt sc a1 (0 : Int32) (9 : Int32) _ rfl) (by exact Or.inl rfl) ?_
  refine tw_callE (cd := tw_c298) rfl rfl rfl rfl rfl (e_X10_why I1 L A J tw dr rt sc (I1 4414) (tw_b (g_X10_in a1 (0 : Int32) (9 : Int32))) _ rfl) (by exact Or.inl rfl) ?_
  refine tw_blk (cd := tw_c298) rfl 2 (c1 := (12, [some (.ref 44), some (.int a1), some (.int a2), some (.int a3), some (.int a4), some (.int (g_X10_why (I1 4414) (tw_b (g_X10_in a1 (0 : Int32) (9 : Int32)))))], [.int (g_X10_why (I1 4414) (tw_b (g_X10_in a1 (0 : Int32) (9 : Int32))))], (I1, L, tw_P tw dr rt sc, A, J, 57))) rfl ?_
  by_cases hc3 : (g_X10_why (I1 4414) (tw_b (g_X10_in a1 (0 : Int32) (9 : Int32)))) = 0
  · rw [if_pos hc3] at h
    refine tw_br (cd := tw_c298) rfl rfl rfl (by exact if_pos hc3) ?_
    refine tw_blk (cd := tw_c298) rfl 1 (c1 := (14, [some (.ref 44), some (.int a1), some (.int a2), some (.int a3), some (.int a4), some (.int (g_X10_why (I1 4414) (tw_b (g_X10_in a1 (0 : Int32) (9 : Int32)))))], [.int a4], (I1, L, tw_P tw dr rt sc, A, J, 57))) rfl ?_
    by_cases hc4 : a4 = 0
    · rw [if_pos hc4] at h
      refine tw_br (cd := tw_c298) rfl rfl rfl (by exact if_pos hc4) ?_
      refine tw_blk (cd := tw_c298) rfl 3 (c1 := (23, [some (.ref 44), some (.int a1), some (.int a2), some (.int a3), some (.int a4), some (.int (g_X10_why (I1 4414) (tw_b (g_X10_in a1 (0 : Int32) (9 : Int32)))))], [.int a3, .int a2, .int a1], (I1, L, tw_P tw dr rt sc, A, J, 57))) rfl ?_
      refine tw_callE (cd := tw_c298) rfl rfl rfl rfl rfl (e_X10_saysOf I1 L A J tw dr rt sc a1 a2 a3 _ rfl) (by exact Or.inl rfl) ?_
      subst h
      exact tw_retE (cd := tw_c298) rfl rfl rfl rfl
    · rw [if_neg hc4] at h
      refine tw_br (cd := tw_c298) rfl rfl rfl (by exact if_neg hc4) ?_
      refine tw_blk (cd := tw_c298) rfl 3 (c1 := (18, [some (.ref 44), some (.int a1), some (.int a2), some (.int a3), some (.int a4), some (.int (g_X10_why (I1 4414) (tw_b (g_X10_in a1 (0 : Int32) (9 : Int32)))))], [.int a2, .int a3, .int a1], (I1, L, tw_P tw dr rt sc, A, J, 57))) rfl ?_
      refine tw_callE (cd := tw_c298) rfl rfl rfl rfl rfl (e_X10_saysOf I1 L A J tw dr rt sc a1 a3 a2 _ rfl) (by exact Or.inl rfl) ?_
      refine tw_blk (cd := tw_c298) rfl 1 (c1 := (24, [some (.ref 44), some (.int a1), some (.int a2), some (.int a3), some (.int a4), some (.int (g_X10_why (I1 4414) (tw_b (g_X10_in a1 (0 : Int32) (9 : Int32)))))], [.int (g_X10_saysOf a1 a3 a2)], (I1, L, tw_P tw dr rt sc, A, J, 57))) rfl ?_
      subst h
      exact tw_retE (cd := tw_c298) rfl rfl rfl rfl
  · rw [if_neg hc3] at h
    refine tw_br (cd := tw_c298) rfl rfl rfl (by exact if_neg hc3) ?_
    refine tw_blk (cd := tw_c298) rfl 4 (c1 := (29, [some (.ref 44), some (.int a1), some (.int a2), some (.int a3), some (.int a4), some (.int (g_X10_why (I1 4414) (tw_b (g_X10_in a1 (0 : Int32) (9 : Int32)))))], [.int (-100)], ((upd I1 4411 (g_X10_why (I1 4414) (tw_b (g_X10_in a1 (0 : Int32) (9 : Int32))))), L, tw_P tw dr rt sc, A, J, 57))) rfl ?_
    subst h
    exact tw_retE (cd := tw_c298) rfl rfl rfl rfl
theorem e_X9_isRest (I : Nat → Int32) (L : Nat → Int64) (A : Nat → Nat → Int32) (J : Nat → Nat → Int64) (tw dr : Nat) (rt : Nat) (sc : Nat) (a0 : Int32) (a1 : Int32) (a2 : Int32) : ∀ r : Bool, g_X9_isRest a0 a1 a2 = r → tw_ME 156 (0, [some (.int a0), some (.int a1), some (.int a2)], [], (I, L, tw_P tw dr rt sc, A, J, 57)) (some (.int (tw_b r)), (I, L, tw_P tw dr rt sc, A, J, 57)) := by
  intro r h
  unfold g_X9_isRest at h
  refine tw_blk (cd := tw_c156) rfl 3 (c1 := (3, [some (.int a0), some (.int a1), some (.int a2)], [.int a2, .int a1, .int a0], (I, L, tw_P tw dr rt sc, A, J, 57))) rfl ?_
  refine tw_callE (cd := tw_c156) rfl rfl rfl rfl rfl (e_X9_due I L A J tw dr rt sc a0 a1 a2 _ rfl) (by exact Or.inl rfl) ?_
  refine tw_blk (cd := tw_c156) rfl 2 (c1 := (6, [some (.int a0), some (.int a1), some (.int a2)], [.int a1, .int a0, .int (g_X9_due a0 a1 a2)], (I, L, tw_P tw dr rt sc, A, J, 57))) rfl ?_
  obtain ⟨x2, hj3, h⟩ := tw_letE h
  have K : tw_ME 156 (10, [some (.int a0), some (.int a1), some (.int a2)], [.int x2, .int a0, .int (g_X9_due a0 a1 a2)], (I, L, tw_P tw dr rt sc, A, J, 57)) (some (.int (tw_b r)), (I, L, tw_P tw dr rt sc, A, J, 57)) := by
    refine tw_blk (cd := tw_c156) rfl 1 (c1 := (11, [some (.int a0), some (.int a1), some (.int a2)], [.int a2, .int x2, .int a0, .int (g_X9_due a0 a1 a2)], (I, L, tw_P tw dr rt sc, A, J, 57))) rfl ?_
    refine tw_callE (cd := tw_c156) rfl rfl rfl rfl rfl (e_X9_due I L A J tw dr rt sc a0 x2 a2 _ rfl) (by exact Or.inl rfl) ?_
    by_cases hc4 : (g_X9_due a0 a1 a2) < (g_X9_due a0 x2 a2)
    · rw [if_pos hc4] at h
      refine tw_br (cd := tw_c156) rfl rfl rfl (by exact if_pos hc4) ?_
      refine tw_blk (cd := tw_c156) rfl 1 (c1 := (29, [some (.int a0), some (.int a1), some (.int a2)], [.int 0], (I, L, tw_P tw dr rt sc, A, J, 57))) rfl ?_
      subst h
      exact tw_retZ (cd := tw_c156) (b := false) rfl rfl rfl rfl
    · rw [if_neg hc4] at h
      refine tw_br (cd := tw_c156) rfl rfl rfl (by exact if_neg hc4) ?_
      refine tw_blk (cd := tw_c156) rfl 3 (c1 := (16, [some (.int a0), some (.int a1), some (.int a2)], [.int a1, .int a2, .int a0], (I, L, tw_P tw dr rt sc, A, J, 57))) rfl ?_
      refine tw_callE (cd := tw_c156) rfl rfl rfl rfl rfl (e_X9_due I L A J tw dr rt sc a0 a2 a1 _ rfl) (by exact Or.inl rfl) ?_
      refine tw_blk (cd := tw_c156) rfl 2 (c1 := (19, [some (.int a0), some (.int a1), some (.int a2)], [.int a2, .int a0, .int (g_X9_due a0 a2 a1)], (I, L, tw_P tw dr rt sc, A, J, 57))) rfl ?_
      obtain ⟨x6, hj7, h⟩ := tw_letE h
      have K : tw_ME 156 (23, [none, some (.int a1), none], [.int x6, .int a0, .int (g_X9_due a0 a2 a1)], (I, L, tw_P tw dr rt sc, A, J, 57)) (some (.int (tw_b r)), (I, L, tw_P tw dr rt sc, A, J, 57)) := by
        refine tw_blk (cd := tw_c156) rfl 1 (c1 := (24, [none, some (.int a1), none], [.int a1, .int x6, .int a0, .int (g_X9_due a0 a2 a1)], (I, L, tw_P tw dr rt sc, A, J, 57))) rfl ?_
        refine tw_callE (cd := tw_c156) rfl rfl rfl rfl rfl (e_X9_due I L A J tw dr rt sc a0 x6 a1 _ rfl) (by exact Or.inl rfl) ?_
        by_cases hc8 : (g_X9_due a0 a2 a1) < (g_X9_due a0 x6 a1)
        · rw [if_pos hc8] at h
          refine tw_br (cd := tw_c156) rfl rfl rfl (by exact if_pos hc8) ?_
          refine tw_blk (cd := tw_c156) rfl 1 (c1 := (29, [none, some (.int a1), none], [.int 0], (I, L, tw_P tw dr rt sc, A, J, 57))) rfl ?_
          subst h
          exact tw_retZ (cd := tw_c156) (b := false) rfl rfl rfl rfl
        · rw [if_neg hc8] at h
          refine tw_br (cd := tw_c156) rfl rfl rfl (by exact if_neg hc8) ?_
          refine tw_blk (cd := tw_c156) rfl 2 (c1 := (29, [none, some (.int a1), none], [.int 1], (I, L, tw_P tw dr rt sc, A, J, 57))) rfl ?_
          subst h
          exact tw_retZ (cd := tw_c156) (b := true) rfl rfl rfl rfl
      by_cases hc5 : a2 = 0
      · rw [if_pos hc5] at hj7
        refine tw_br (cd := tw_c156) rfl rfl rfl (by exact if_pos hc5) ?_
        refine tw_blk (cd := tw_c156) rfl 2 (c1 := (23, [some (.int a0), some (.int a1), some (.int a2)], [.int 1, .int a0, .int (g_X9_due a0 a2 a1)], (I, L, tw_P tw dr rt sc, A, J, 57))) rfl ?_
        refine tw_forget (ls2 := [none, some (.int a1), none]) ⟨rfl, trivial⟩ ?_
        subst hj7
        exact K
      · rw [if_neg hc5] at hj7
        refine tw_br (cd := tw_c156) rfl rfl rfl (by exact if_neg hc5) ?_
        refine tw_blk (cd := tw_c156) rfl 1 (c1 := (23, [some (.int a0), some (.int a1), some (.int a2)], [.int 0, .int a0, .int (g_X9_due a0 a2 a1)], (I, L, tw_P tw dr rt sc, A, J, 57))) rfl ?_
        refine tw_forget (ls2 := [none, some (.int a1), none]) ⟨rfl, trivial⟩ ?_
        subst hj7
        exact K
  by_cases hc1 : a1 = 0
  · rw [if_pos hc1] at hj3
    refine tw_br (cd := tw_c156) rfl rfl rfl (by exact if_pos hc1) ?_
    refine tw_blk (cd := tw_c156) rfl 2 (c1 := (10, [some (.int a0), some (.int a1), some (.int a2)], [.int 1, .int a0, .int (g_X9_due a0 a1 a2)], (I, L, tw_P tw dr rt sc, A, J, 57))) rfl ?_
    subst hj3
    exact K
  · rw [if_neg hc1] at hj3
    refine tw_br (cd := tw_c156) rfl rfl rfl (by exact if_neg hc1) ?_
    refine tw_blk (cd := tw_c156) rfl 1 (c1 := (10, [some (.int a0), some (.int a1), some (.int a2)], [.int 0, .int a0, .int (g_X9_due a0 a1 a2)], (I, L, tw_P tw dr rt sc, A, J, 57))) rfl ?_
    subst hj3
    exact K
theorem g_X9_rests_L1_ok (I : Nat → Int32) (L : Nat → Int64) (A : Nat → Nat → Int32) (J : Nat → Nat → Int64) (rt : Nat) (sc : Nat) (a1 : Int32) (c1 : Bool) (I2 : Nat → Int32) (out : Option Value × tw_S) : ∀ (n : Nat) (v1_2 : Int32) (v1_3 : Int32) (ex : Int32), g_X9_rests_L1 a1 n v1_2 v1_3 = some ex → tw_ME 153 (33, [some (.ref 0), none, some (.int ex), none], [], (I2, L, tw_P 2 14 rt sc, A, J, 57)) out → tw_ME 153 (10, [some (.ref 0), some (.int a1), some (.int v1_2), some (.int v1_3)], [], (I2, L, tw_P 2 14 rt sc, A, J, 57)) out := by
  intro n
  induction n with
  | zero =>
    intro v1_2 v1_3 ex h _
    cases h
  | succ n ih =>
    intro v1_2 v1_3 ex h K
    rw [g_X9_rests_L1] at h
    refine tw_blk (cd := tw_c153) rfl 1 (c1 := (11, [some (.ref 0), some (.int a1), some (.int v1_2), some (.int v1_3)], [.int v1_3], (I2, L, tw_P 2 14 rt sc, A, J, 57))) rfl ?_
    refine tw_blk (cd := tw_c153) rfl 1 (c1 := (12, [some (.ref 0), some (.int a1), some (.int v1_2), some (.int v1_3)], [.int 4, .int v1_3], (I2, L, tw_P 2 14 rt sc, A, J, 57))) rfl ?_
    by_cases hc6 : (4 : Int32) ≤ v1_3
    · rw [if_pos hc6] at h
      refine tw_br (cd := tw_c153) rfl rfl rfl (by exact if_pos hc6) ?_
      refine tw_forget (ls2 := [some (.ref 0), none, some (.int v1_2), none]) ⟨rfl, rfl, trivial⟩ ?_
      have h := Option.some.inj h
      subst h
      exact K
    · rw [if_neg hc6] at h
      refine tw_br (cd := tw_c153) rfl rfl rfl (by exact if_neg hc6) ?_
      refine tw_blk (cd := tw_c153) rfl 3 (c1 := (16, [some (.ref 0), some (.int a1), some (.int v1_2), some (.int v1_3)], [.int 2, .int v1_3, .int a1], (I2, L, tw_P 2 14 rt sc, A, J, 57))) rfl ?_
      obtain ⟨x8, hj9, h⟩ := tw_bindE h
      have K : tw_ME 153 (20, [some (.ref 0), some (.int a1), some (.int v1_2), some (.int v1_3)], [.int x8, .int a1], (I2, L, tw_P 2 14 rt sc, A, J, 57)) out := by
        refine tw_blk (cd := tw_c153) rfl 2 (c1 := (22, [some (.ref 0), some (.int a1), some (.int v1_2), some (.int v1_3)], [.int 2, .int v1_3, .int x8, .int a1], (I2, L, tw_P 2 14 rt sc, A, J, 57))) rfl ?_
        refine tw_br (cd := tw_c153) rfl rfl rfl (by exact rfl) ?_
        refine tw_blk (cd := tw_c153) rfl 1 (c1 := (24, [some (.ref 0), some (.int a1), some (.int v1_2), some (.int v1_3)], [.int 1, .int (v1_3 - v1_3 / (2 : Int32) * (2 : Int32)), .int x8, .int a1], (I2, L, tw_P 2 14 rt sc, A, J, 57))) rfl ?_
        obtain ⟨x11, hj12, h⟩ := tw_bindE h
        have K : tw_ME 153 (28, [some (.ref 0), some (.int a1), some (.int v1_2), some (.int v1_3)], [.int x11, .int x8, .int a1], (I2, L, tw_P 2 14 rt sc, A, J, 57)) out := by
          refine tw_callE (cd := tw_c153) rfl rfl rfl rfl rfl (e_X9_isRest I2 L A J 2 14 rt sc a1 x8 x11 _ rfl) (by exact Or.inl rfl) ?_
          obtain ⟨x14, hj15, h⟩ := tw_bindE h
          have K : tw_ME 153 (31, [some (.ref 0), some (.int a1), some (.int x14), some (.int v1_3)], [], (I2, L, tw_P 2 14 rt sc, A, J, 57)) out := by
            refine tw_blk (cd := tw_c153) rfl 2 (c1 := (10, [some (.ref 0), some (.int a1), some (.int x14), some (.int (v1_3 + (1 : Int32)))], [], (I2, L, tw_P 2 14 rt sc, A, J, 57))) rfl ?_
            exact ih x14 (v1_3 + (1 : Int32)) _ h K
          by_cases hc13 : (g_X9_isRest a1 x8 x11) = true
          · rw [if_pos hc13] at hj15
            refine tw_br (cd := tw_c153) rfl rfl rfl (by exact if_neg (tw_b_t hc13)) ?_
            refine tw_blk (cd := tw_c153) rfl 1 (c1 := (31, [some (.ref 0), some (.int a1), some (.int (v1_2 + (1 : Int32))), some (.int v1_3)], [], (I2, L, tw_P 2 14 rt sc, A, J, 57))) rfl ?_
            have hj15s := Option.some.inj hj15
            subst hj15s
            exact K
          · rw [if_neg hc13] at hj15
            refine tw_br (cd := tw_c153) rfl rfl rfl (by exact if_pos (tw_b_f hc13)) ?_
            have hj15s := Option.some.inj hj15
            subst hj15s
            exact K
        by_cases hc10 : (v1_3 - v1_3 / (2 : Int32) * (2 : Int32)) = (1 : Int32)
        · rw [if_pos hc10] at hj12
          refine tw_br (cd := tw_c153) rfl rfl rfl (by exact if_pos hc10) ?_
          refine tw_blk (cd := tw_c153) rfl 2 (c1 := (28, [some (.ref 0), some (.int a1), some (.int v1_2), some (.int v1_3)], [.int 1, .int x8, .int a1], (I2, L, tw_P 2 14 rt sc, A, J, 57))) rfl ?_
          have hj12s := Option.some.inj hj12
          subst hj12s
          exact K
        · rw [if_neg hc10] at hj12
          refine tw_br (cd := tw_c153) rfl rfl rfl (by exact if_neg hc10) ?_
          refine tw_blk (cd := tw_c153) rfl 1 (c1 := (28, [some (.ref 0), some (.int a1), some (.int v1_2), some (.int v1_3)], [.int 0, .int x8, .int a1], (I2, L, tw_P 2 14 rt sc, A, J, 57))) rfl ?_
          have hj12s := Option.some.inj hj12
          subst hj12s
          exact K
      by_cases hc7 : v1_3 < (2 : Int32)
      · rw [if_pos hc7] at hj9
        refine tw_br (cd := tw_c153) rfl rfl rfl (by exact if_pos hc7) ?_
        refine tw_blk (cd := tw_c153) rfl 1 (c1 := (20, [some (.ref 0), some (.int a1), some (.int v1_2), some (.int v1_3)], [.int 0, .int a1], (I2, L, tw_P 2 14 rt sc, A, J, 57))) rfl ?_
        have hj9s := Option.some.inj hj9
        subst hj9s
        exact K
      · rw [if_neg hc7] at hj9
        refine tw_br (cd := tw_c153) rfl rfl rfl (by exact if_neg hc7) ?_
        refine tw_blk (cd := tw_c153) rfl 2 (c1 := (20, [some (.ref 0), some (.int a1), some (.int v1_2), some (.int v1_3)], [.int 1, .int a1], (I2, L, tw_P 2 14 rt sc, A, J, 57))) rfl ?_
        have hj9s := Option.some.inj hj9
        subst hj9s
        exact K
theorem e_X9_rests (I : Nat → Int32) (L : Nat → Int64) (A : Nat → Nat → Int32) (J : Nat → Nat → Int64) (rt : Nat) (sc : Nat) (a1 : Int32) : ∀ r : (Int32 × (Nat → Int32)), g_X9_rests I A a1 = some r → tw_ME 153 (0, [some (.ref 0), some (.int a1), none, none], [], (I, L, tw_P 2 14 rt sc, A, J, 57)) (some (.int r.1), ((r.2), L, tw_P 2 14 rt sc, A, J, 57)) := by
  intro r h
  unfold g_X9_rests at h
  refine tw_blk (cd := tw_c153) rfl 2 (c1 := (2, [some (.ref 0), some (.int a1), none, none], [.int a1, .ref 0], (I, L, tw_P 2 14 rt sc, A, J, 57))) rfl ?_
  obtain ⟨⟨c1, I2⟩, hx3, h⟩ := tw_letE h
  dsimp only at h
  refine tw_callE (cd := tw_c153) rfl rfl rfl rfl rfl (e_X9_mayNotHeat I L A J rt sc a1 _ hx3) (by exact Or.inl rfl) ?_
  by_cases hc4 : c1 = true
  · rw [if_pos hc4] at h
    refine tw_br (cd := tw_c153) rfl rfl rfl (by exact if_neg (tw_b_t hc4)) ?_
    refine tw_blk (cd := tw_c153) rfl 1 (c1 := (5, [some (.ref 0), some (.int a1), none, none], [.int (-1)], (I2, L, tw_P 2 14 rt sc, A, J, 57))) rfl ?_
    have h := Option.some.inj h
    subst h
    exact tw_retE (cd := tw_c153) rfl rfl rfl rfl
  · rw [if_neg hc4] at h
    refine tw_br (cd := tw_c153) rfl rfl rfl (by exact if_pos (tw_b_f hc4)) ?_
    refine tw_blk (cd := tw_c153) rfl 4 (c1 := (10, [some (.ref 0), some (.int a1), some (.int 0), some (.int 0)], [], (I2, L, tw_P 2 14 rt sc, A, J, 57))) rfl ?_
    obtain ⟨x5, hx19, h⟩ := tw_bindE h
    refine g_X9_rests_L1_ok I L A J rt sc a1 c1 I2 _ 4096 (0 : Int32) (0 : Int32) _ hx19 ?_
    refine tw_blk (cd := tw_c153) rfl 2 (c1 := (35, [some (.ref 0), none, some (.int x5), none], [.int x5, .ref 0], (I2, L, tw_P 2 14 rt sc, A, J, 57))) rfl ?_
    obtain ⟨⟨x16, I17⟩, hx18, h⟩ := tw_letE h
    dsimp only at h
    refine tw_callE (cd := tw_c153) rfl rfl rfl rfl rfl (e_X9_grant I2 L A J 2 14 rt sc x5 _ hx18) (by exact Or.inl rfl) ?_
    have h := Option.some.inj h
    subst h
    exact tw_retE (cd := tw_c153) rfl rfl rfl rfl
theorem g_X10_seekRests_L1_ok (I : Nat → Int32) (L : Nat → Int64) (A : Nat → Nat → Int32) (J : Nat → Nat → Int64) (tw : Nat) (dr : Nat) (rt : Nat) (sc : Nat) (a1 : Int32) (out : Option Value × tw_S) : ∀ (n : Nat) (v1_2 : Int32) (v1_3 : Int32) (I_1 : Nat → Int32) (ex : (Int32 × (Nat → Int32))), g_X10_seekRests_L1 a1 n v1_2 v1_3 I_1 = some ex → tw_ME 299 (69, [none, none, some (.int (ex.1)), none, none, none], [], ((ex.2), L, tw_P tw dr rt sc, A, J, 57)) out → tw_ME 299 (7, [some (.ref 44), some (.int a1), some (.int v1_2), some (.int v1_3), none, none], [], (I_1, L, tw_P tw dr rt sc, A, J, 57)) out := by
  intro n
  induction n with
  | zero =>
    intro v1_2 v1_3 I_1 ex h _
    cases h
  | succ n ih =>
    intro v1_2 v1_3 I_1 ex h K
    rw [g_X10_seekRests_L1] at h
    refine tw_blk (cd := tw_c299) rfl 1 (c1 := (8, [some (.ref 44), some (.int a1), some (.int v1_2), some (.int v1_3), none, none], [.int v1_3], (I_1, L, tw_P tw dr rt sc, A, J, 57))) rfl ?_
    refine tw_blk (cd := tw_c299) rfl 1 (c1 := (9, [some (.ref 44), some (.int a1), some (.int v1_2), some (.int v1_3), none, none], [.int 4, .int v1_3], (I_1, L, tw_P tw dr rt sc, A, J, 57))) rfl ?_
    by_cases hc3 : (4 : Int32) ≤ v1_3
    · rw [if_pos hc3] at h
      refine tw_br (cd := tw_c299) rfl rfl rfl (by exact if_pos hc3) ?_
      refine tw_forget (ls2 := [none, none, some (.int v1_2), none, none, none]) ⟨rfl, trivial⟩ ?_
      have h := Option.some.inj h
      subst h
      exact K
    · rw [if_neg hc3] at h
      refine tw_br (cd := tw_c299) rfl rfl rfl (by exact if_neg hc3) ?_
      refine tw_blk (cd := tw_c299) rfl 2 (c1 := (12, [some (.ref 44), some (.int a1), some (.int v1_2), some (.int v1_3), none, none], [.int 1, .int v1_3], (I_1, L, tw_P tw dr rt sc, A, J, 57))) rfl ?_
      obtain ⟨x5, hj6, h⟩ := tw_bindE h
      have K : tw_ME 299 (16, [some (.ref 44), some (.int a1), some (.int v1_2), some (.int v1_3), none, none], [.int x5], (I_1, L, tw_P tw dr rt sc, A, J, 57)) out := by
        refine tw_blk (cd := tw_c299) rfl 3 (c1 := (19, [some (.ref 44), some (.int a1), some (.int v1_2), some (.int v1_3), some (.int x5), none], [.int 2, .int v1_3], (I_1, L, tw_P tw dr rt sc, A, J, 57))) rfl ?_
        refine tw_br (cd := tw_c299) rfl rfl rfl (by exact rfl) ?_
        refine tw_blk (cd := tw_c299) rfl 1 (c1 := (21, [some (.ref 44), some (.int a1), some (.int v1_2), some (.int v1_3), some (.int x5), none], [.int 1, .int (v1_3 - v1_3 / (2 : Int32) * (2 : Int32))], (I_1, L, tw_P tw dr rt sc, A, J, 57))) rfl ?_
        obtain ⟨x8, hj9, h⟩ := tw_bindE h
        have K : tw_ME 299 (25, [some (.ref 44), some (.int a1), some (.int v1_2), some (.int v1_3), some (.int x5), none], [.int x8], (I_1, L, tw_P tw dr rt sc, A, J, 57)) out := by
          refine tw_blk (cd := tw_c299) rfl 3 (c1 := (28, [some (.ref 44), some (.int a1), some (.int v1_2), some (.int v1_3), some (.int x5), some (.int x8)], [.int x5, .int a1], (I_1, L, tw_P tw dr rt sc, A, J, 57))) rfl ?_
          obtain ⟨x11, hj12, h⟩ := tw_bindE h
          have K : tw_ME 299 (32, [some (.ref 44), some (.int a1), some (.int v1_2), some (.int v1_3), some (.int x5), some (.int x8)], [.int x11, .int a1], (I_1, L, tw_P tw dr rt sc, A, J, 57)) out := by
            refine tw_blk (cd := tw_c299) rfl 1 (c1 := (33, [some (.ref 44), some (.int a1), some (.int v1_2), some (.int v1_3), some (.int x5), some (.int x8)], [.int x8, .int x11, .int a1], (I_1, L, tw_P tw dr rt sc, A, J, 57))) rfl ?_
            refine tw_callE (cd := tw_c299) rfl rfl rfl rfl rfl (e_X10_saysOf I_1 L A J tw dr rt sc a1 x11 x8 _ rfl) (by exact Or.inl rfl) ?_
            refine tw_blk (cd := tw_c299) rfl 3 (c1 := (37, [some (.ref 44), some (.int a1), some (.int v1_2), some (.int v1_3), some (.int x5), some (.int x8)], [.int x8, .int x5, .int a1, .int (g_X10_saysOf a1 x11 x8)], (I_1, L, tw_P tw dr rt sc, A, J, 57))) rfl ?_
            refine tw_callE (cd := tw_c299) rfl rfl rfl rfl rfl (e_X10_saysOf I_1 L A J tw dr rt sc a1 x5 x8 _ rfl) (by exact Or.inl rfl) ?_
            obtain ⟨⟨x14, I15⟩, hj16, h⟩ := tw_bindE h
            dsimp only at h
            have K : tw_ME 299 (67, [some (.ref 44), some (.int a1), some (.int x14), some (.int v1_3), none, none], [], (I15, L, tw_P tw dr rt sc, A, J, 57)) out := by
              refine tw_blk (cd := tw_c299) rfl 2 (c1 := (7, [some (.ref 44), some (.int a1), some (.int x14), some (.int (v1_3 + (1 : Int32))), none, none], [], (I15, L, tw_P tw dr rt sc, A, J, 57))) rfl ?_
              exact ih x14 (v1_3 + (1 : Int32)) I15 _ h K
            by_cases hc13 : (g_X10_saysOf a1 x5 x8) < (g_X10_saysOf a1 x11 x8)
            · rw [if_pos hc13] at hj16
              refine tw_br (cd := tw_c299) rfl rfl rfl (by exact if_pos hc13) ?_
              refine tw_forget (ls2 := [some (.ref 44), some (.int a1), some (.int v1_2), some (.int v1_3), none, none]) ⟨rfl, rfl, rfl, rfl, trivial⟩ ?_
              have hj16s := Option.some.inj hj16
              obtain ⟨hj16_0, hj16r0⟩ := Prod.mk.inj hj16s
              subst hj16_0
              subst hj16r0
              exact K
            · rw [if_neg hc13] at hj16
              refine tw_br (cd := tw_c299) rfl rfl rfl (by exact if_neg hc13) ?_
              refine tw_blk (cd := tw_c299) rfl 2 (c1 := (41, [some (.ref 44), some (.int a1), some (.int v1_2), some (.int v1_3), some (.int x5), some (.int x8)], [.int x8, .int a1], (I_1, L, tw_P tw dr rt sc, A, J, 57))) rfl ?_
              obtain ⟨x18, hj19, hj16⟩ := tw_bindE hj16
              have K : tw_ME 299 (45, [some (.ref 44), some (.int a1), some (.int v1_2), some (.int v1_3), some (.int x5), some (.int x8)], [.int x18, .int a1], (I_1, L, tw_P tw dr rt sc, A, J, 57)) out := by
                refine tw_blk (cd := tw_c299) rfl 1 (c1 := (46, [some (.ref 44), some (.int a1), some (.int v1_2), some (.int v1_3), some (.int x5), some (.int x8)], [.int x5, .int x18, .int a1], (I_1, L, tw_P tw dr rt sc, A, J, 57))) rfl ?_
                refine tw_callE (cd := tw_c299) rfl rfl rfl rfl rfl (e_X10_saysOf I_1 L A J tw dr rt sc a1 x18 x5 _ rfl) (by exact Or.inl rfl) ?_
                refine tw_blk (cd := tw_c299) rfl 3 (c1 := (50, [some (.ref 44), some (.int a1), some (.int v1_2), some (.int v1_3), some (.int x5), some (.int x8)], [.int x5, .int x8, .int a1, .int (g_X10_saysOf a1 x18 x5)], (I_1, L, tw_P tw dr rt sc, A, J, 57))) rfl ?_
                refine tw_callE (cd := tw_c299) rfl rfl rfl rfl rfl (e_X10_saysOf I_1 L A J tw dr rt sc a1 x8 x5 _ rfl) (by exact Or.inl rfl) ?_
                by_cases hc20 : (g_X10_saysOf a1 x18 x5) ≤ (g_X10_saysOf a1 x8 x5)
                · rw [if_pos hc20] at hj16
                  refine tw_br (cd := tw_c299) rfl rfl rfl (by exact if_pos hc20) ?_
                  refine tw_blk (cd := tw_c299) rfl 1 (c1 := (54, [some (.ref 44), some (.int a1), some (.int v1_2), some (.int v1_3), some (.int x5), some (.int x8)], [.int v1_2], (I_1, L, tw_P tw dr rt sc, A, J, 57))) rfl ?_
                  obtain ⟨I22, hj23, hj16⟩ := tw_bindE hj16
                  have K : tw_ME 299 (66, [some (.ref 44), some (.int a1), some (.int v1_2), some (.int v1_3), none, none], [], (I22, L, tw_P tw dr rt sc, A, J, 57)) out := by
                    refine tw_blk (cd := tw_c299) rfl 1 (c1 := (67, [some (.ref 44), some (.int a1), some (.int (v1_2 + (1 : Int32))), some (.int v1_3), none, none], [], (I22, L, tw_P tw dr rt sc, A, J, 57))) rfl ?_
                    have hj16s := Option.some.inj hj16
                    obtain ⟨hj16_0, hj16r0⟩ := Prod.mk.inj hj16s
                    subst hj16_0
                    subst hj16r0
                    exact K
                  by_cases hc21 : v1_2 = 0
                  · rw [if_pos hc21] at hj23
                    refine tw_br (cd := tw_c299) rfl rfl rfl (by exact if_pos hc21) ?_
                    refine tw_blk (cd := tw_c299) rfl 4 (c1 := (59, [some (.ref 44), some (.int a1), some (.int v1_2), some (.int v1_3), some (.int x5), some (.int x8)], [.int 2, .int v1_3, .int 10, .ref 44], (I_1, L, tw_P tw dr rt sc, A, J, 57))) rfl ?_
                    refine tw_br (cd := tw_c299) rfl rfl rfl (by exact rfl) ?_
                    refine tw_blk (cd := tw_c299) rfl 3 (c1 := (63, [some (.ref 44), some (.int a1), some (.int v1_2), some (.int v1_3), some (.int x5), some (.int x8)], [.int 2, .int v1_3, .int ((10 : Int32) * (v1_3 / (2 : Int32))), .ref 44], (I_1, L, tw_P tw dr rt sc, A, J, 57))) rfl ?_
                    refine tw_br (cd := tw_c299) rfl rfl rfl (by exact rfl) ?_
                    refine tw_blk (cd := tw_c299) rfl 2 (c1 := (66, [some (.ref 44), some (.int a1), some (.int v1_2), some (.int v1_3), some (.int x5), some (.int x8)], [], ((upd I_1 4436 (((10 : Int32) * (v1_3 / (2 : Int32))) + (v1_3 - v1_3 / (2 : Int32) * (2 : Int32)))), L, tw_P tw dr rt sc, A, J, 57))) rfl ?_
                    refine tw_forget (ls2 := [some (.ref 44), some (.int a1), some (.int v1_2), some (.int v1_3), none, none]) ⟨rfl, rfl, rfl, rfl, trivial⟩ ?_
                    have hj23s := Option.some.inj hj23
                    subst hj23s
                    exact K
                  · rw [if_neg hc21] at hj23
                    refine tw_br (cd := tw_c299) rfl rfl rfl (by exact if_neg hc21) ?_
                    refine tw_forget (ls2 := [some (.ref 44), some (.int a1), some (.int v1_2), some (.int v1_3), none, none]) ⟨rfl, rfl, rfl, rfl, trivial⟩ ?_
                    have hj23s := Option.some.inj hj23
                    subst hj23s
                    exact K
                · rw [if_neg hc20] at hj16
                  refine tw_br (cd := tw_c299) rfl rfl rfl (by exact if_neg hc20) ?_
                  refine tw_blk (cd := tw_c299) rfl 1 (c1 := (67, [some (.ref 44), some (.int a1), some (.int v1_2), some (.int v1_3), some (.int x5), some (.int x8)], [], (I_1, L, tw_P tw dr rt sc, A, J, 57))) rfl ?_
                  refine tw_forget (ls2 := [some (.ref 44), some (.int a1), some (.int v1_2), some (.int v1_3), none, none]) ⟨rfl, rfl, rfl, rfl, trivial⟩ ?_
                  have hj16s := Option.some.inj hj16
                  obtain ⟨hj16_0, hj16r0⟩ := Prod.mk.inj hj16s
                  subst hj16_0
                  subst hj16r0
                  exact K
              by_cases hc17 : x8 = 0
              · rw [if_pos hc17] at hj19
                refine tw_br (cd := tw_c299) rfl rfl rfl (by exact if_pos hc17) ?_
                refine tw_blk (cd := tw_c299) rfl 2 (c1 := (45, [some (.ref 44), some (.int a1), some (.int v1_2), some (.int v1_3), some (.int x5), some (.int x8)], [.int 1, .int a1], (I_1, L, tw_P tw dr rt sc, A, J, 57))) rfl ?_
                have hj19s := Option.some.inj hj19
                subst hj19s
                exact K
              · rw [if_neg hc17] at hj19
                refine tw_br (cd := tw_c299) rfl rfl rfl (by exact if_neg hc17) ?_
                refine tw_blk (cd := tw_c299) rfl 1 (c1 := (45, [some (.ref 44), some (.int a1), some (.int v1_2), some (.int v1_3), some (.int x5), some (.int x8)], [.int 0, .int a1], (I_1, L, tw_P tw dr rt sc, A, J, 57))) rfl ?_
                have hj19s := Option.some.inj hj19
                subst hj19s
                exact K
          by_cases hc10 : x5 = 0
          · rw [if_pos hc10] at hj12
            refine tw_br (cd := tw_c299) rfl rfl rfl (by exact if_pos hc10) ?_
            refine tw_blk (cd := tw_c299) rfl 2 (c1 := (32, [some (.ref 44), some (.int a1), some (.int v1_2), some (.int v1_3), some (.int x5), some (.int x8)], [.int 1, .int a1], (I_1, L, tw_P tw dr rt sc, A, J, 57))) rfl ?_
            have hj12s := Option.some.inj hj12
            subst hj12s
            exact K
          · rw [if_neg hc10] at hj12
            refine tw_br (cd := tw_c299) rfl rfl rfl (by exact if_neg hc10) ?_
            refine tw_blk (cd := tw_c299) rfl 1 (c1 := (32, [some (.ref 44), some (.int a1), some (.int v1_2), some (.int v1_3), some (.int x5), some (.int x8)], [.int 0, .int a1], (I_1, L, tw_P tw dr rt sc, A, J, 57))) rfl ?_
            have hj12s := Option.some.inj hj12
            subst hj12s
            exact K
        by_cases hc7 : (v1_3 - v1_3 / (2 : Int32) * (2 : Int32)) = (1 : Int32)
        · rw [if_pos hc7] at hj9
          refine tw_br (cd := tw_c299) rfl rfl rfl (by exact if_pos hc7) ?_
          refine tw_blk (cd := tw_c299) rfl 2 (c1 := (25, [some (.ref 44), some (.int a1), some (.int v1_2), some (.int v1_3), some (.int x5), none], [.int 1], (I_1, L, tw_P tw dr rt sc, A, J, 57))) rfl ?_
          have hj9s := Option.some.inj hj9
          subst hj9s
          exact K
        · rw [if_neg hc7] at hj9
          refine tw_br (cd := tw_c299) rfl rfl rfl (by exact if_neg hc7) ?_
          refine tw_blk (cd := tw_c299) rfl 1 (c1 := (25, [some (.ref 44), some (.int a1), some (.int v1_2), some (.int v1_3), some (.int x5), none], [.int 0], (I_1, L, tw_P tw dr rt sc, A, J, 57))) rfl ?_
          have hj9s := Option.some.inj hj9
          subst hj9s
          exact K
      by_cases hc4 : v1_3 ≤ (1 : Int32)
      · rw [if_pos hc4] at hj6
        refine tw_br (cd := tw_c299) rfl rfl rfl (by exact if_pos hc4) ?_
        refine tw_blk (cd := tw_c299) rfl 1 (c1 := (16, [some (.ref 44), some (.int a1), some (.int v1_2), some (.int v1_3), none, none], [.int 0], (I_1, L, tw_P tw dr rt sc, A, J, 57))) rfl ?_
        have hj6s := Option.some.inj hj6
        subst hj6s
        exact K
      · rw [if_neg hc4] at hj6
        refine tw_br (cd := tw_c299) rfl rfl rfl (by exact if_neg hc4) ?_
        refine tw_blk (cd := tw_c299) rfl 2 (c1 := (16, [some (.ref 44), some (.int a1), some (.int v1_2), some (.int v1_3), none, none], [.int 1], (I_1, L, tw_P tw dr rt sc, A, J, 57))) rfl ?_
        have hj6s := Option.some.inj hj6
        subst hj6s
        exact K
theorem e_X10_seekRests (I : Nat → Int32) (L : Nat → Int64) (A : Nat → Nat → Int32) (J : Nat → Nat → Int64) (tw dr : Nat) (rt : Nat) (sc : Nat) (a1 : Int32) : ∀ r : (Int32 × (Nat → Int32)), g_X10_seekRests I a1 = some r → tw_ME 299 (0, [some (.ref 44), some (.int a1), none, none, none, none], [], (I, L, tw_P tw dr rt sc, A, J, 57)) (some (.int r.1), ((r.2), L, tw_P tw dr rt sc, A, J, 57)) := by
  intro r h
  unfold g_X10_seekRests at h
  refine tw_blk (cd := tw_c299) rfl 7 (c1 := (7, [some (.ref 44), some (.int a1), some (.int 0), some (.int 0), none, none], [], ((upd I 4436 (-2 : Int32)), L, tw_P tw dr rt sc, A, J, 57))) rfl ?_
  obtain ⟨⟨x1, I2⟩, hx24, h⟩ := tw_bindE h
  dsimp only at h
  refine g_X10_seekRests_L1_ok I L A J tw dr rt sc a1 _ 4096 (0 : Int32) (0 : Int32) (upd I 4436 (-2 : Int32)) _ hx24 ?_
  refine tw_blk (cd := tw_c299) rfl 1 (c1 := (70, [none, none, some (.int x1), none, none, none], [.int x1], (I2, L, tw_P tw dr rt sc, A, J, 57))) rfl ?_
  have h := Option.some.inj h
  subst h
  exact tw_retE (cd := tw_c299) rfl rfl rfl rfl
theorem e_X10_rests (I : Nat → Int32) (L : Nat → Int64) (A : Nat → Nat → Int32) (J : Nat → Nat → Int64) (tw dr : Nat) (rt : Nat) (sc : Nat) (a1 : Int32) : ∀ r : (Int32 × (Nat → Int32)), g_X10_rests I a1 = some r → tw_ME 300 (0, [some (.ref 44), some (.int a1), none], [], (I, L, tw_P tw dr rt sc, A, J, 57)) (some (.int r.1), ((r.2), L, tw_P tw dr rt sc, A, J, 57)) := by
  intro r h
  unfold g_X10_rests at h
  refine tw_blk (cd := tw_c300) rfl 1 (c1 := (1, [some (.ref 44), some (.int a1), none], [.ref 44], (I, L, tw_P tw dr rt sc, A, J, 57))) rfl ?_
  obtain ⟨I1, hx2, h⟩ := tw_letE h
  refine tw_callE (cd := tw_c300) rfl rfl rfl rfl rfl (e_X10_good I L A J tw dr rt sc _ hx2) (by exact Or.inl rfl) ?_
  refine tw_blk (cd := tw_c300) rfl 6 (c1 := (8, [some (.ref 44), some (.int a1), none], [.int 9, .int 0, .int a1, .int (I1 4414), .ref 44], (I1, L, tw_P tw dr rt sc, A, J, 57))) rfl ?_
  refine tw_callE (cd := tw_c300) rfl rfl rfl rfl rfl (e_X10_in I1 L A J tw dr rt sc a1 (0 : Int32) (9 : Int32) _ rfl) (by exact Or.inl rfl) ?_
  refine tw_callE (cd := tw_c300) rfl rfl rfl rfl rfl (e_X10_why I1 L A J tw dr rt sc (I1 4414) (tw_b (g_X10_in a1 (0 : Int32) (9 : Int32))) _ rfl) (by exact Or.inl rfl) ?_
  refine tw_blk (cd := tw_c300) rfl 2 (c1 := (12, [some (.ref 44), some (.int a1), some (.int (g_X10_why (I1 4414) (tw_b (g_X10_in a1 (0 : Int32) (9 : Int32)))))], [.int (g_X10_why (I1 4414) (tw_b (g_X10_in a1 (0 : Int32) (9 : Int32))))], (I1, L, tw_P tw dr rt sc, A, J, 57))) rfl ?_
  by_cases hc3 : (g_X10_why (I1 4414) (tw_b (g_X10_in a1 (0 : Int32) (9 : Int32)))) = 0
  · rw [if_pos hc3] at h
    refine tw_br (cd := tw_c300) rfl rfl rfl (by exact if_pos hc3) ?_
    refine tw_blk (cd := tw_c300) rfl 2 (c1 := (19, [some (.ref 44), some (.int a1), some (.int (g_X10_why (I1 4414) (tw_b (g_X10_in a1 (0 : Int32) (9 : Int32)))))], [.int a1, .ref 44], (I1, L, tw_P tw dr rt sc, A, J, 57))) rfl ?_
    obtain ⟨⟨x4, I5⟩, hx6, h⟩ := tw_bindE h
    dsimp only at h
    refine tw_callE (cd := tw_c300) rfl rfl rfl rfl rfl (e_X10_seekRests I1 L A J tw dr rt sc a1 _ hx6) (by exact Or.inl rfl) ?_
    have h := Option.some.inj h
    subst h
    exact tw_retE (cd := tw_c300) rfl rfl rfl rfl
  · rw [if_neg hc3] at h
    refine tw_br (cd := tw_c300) rfl rfl rfl (by exact if_neg hc3) ?_
    refine tw_blk (cd := tw_c300) rfl 2 (c1 := (15, [some (.ref 44), some (.int a1), some (.int (g_X10_why (I1 4414) (tw_b (g_X10_in a1 (0 : Int32) (9 : Int32)))))], [.int (g_X10_why (I1 4414) (tw_b (g_X10_in a1 (0 : Int32) (9 : Int32)))), .ref 44], (I1, L, tw_P tw dr rt sc, A, J, 57))) rfl ?_
    obtain ⟨⟨x7, I8⟩, hx9, h⟩ := tw_letE h
    dsimp only at h
    refine tw_callE (cd := tw_c300) rfl rfl rfl rfl rfl (e_X10_no I1 L A J tw dr rt sc (g_X10_why (I1 4414) (tw_b (g_X10_in a1 (0 : Int32) (9 : Int32)))) _ hx9) (by exact Or.inl rfl) ?_
    refine tw_blk (cd := tw_c300) rfl 1 (c1 := (20, [some (.ref 44), some (.int a1), some (.int (g_X10_why (I1 4414) (tw_b (g_X10_in a1 (0 : Int32) (9 : Int32)))))], [.int x7], (I8, L, tw_P tw dr rt sc, A, J, 57))) rfl ?_
    have h := Option.some.inj h
    subst h
    exact tw_retE (cd := tw_c300) rfl rfl rfl rfl
theorem g_X9_rest_L1_ok (I : Nat → Int32) (L : Nat → Int64) (A : Nat → Nat → Int32) (J : Nat → Nat → Int64) (rt : Nat) (sc : Nat) (a1 : Int32) (c1 : Bool) (I2 : Nat → Int32) (kont : Unit → Option (Int32 × (Nat → Int32))) (r : (Int32 × (Nat → Int32))) : ∀ (n : Nat) (v1_2 : Int32), g_X9_rest_L1 a1 I2 kont n v1_2 = some r → (∀ ex : Unit, kont ex = some r → tw_ME 154 (43, [some (.ref 0), none, none], [], (I2, L, tw_P 2 14 rt sc, A, J, 57)) (some (.int r.1), ((r.2), L, tw_P 2 14 rt sc, A, J, 57))) → tw_ME 154 (8, [some (.ref 0), some (.int a1), some (.int v1_2)], [], (I2, L, tw_P 2 14 rt sc, A, J, 57)) (some (.int r.1), ((r.2), L, tw_P 2 14 rt sc, A, J, 57)) := by
  intro n
  induction n with
  | zero =>
    intro v1_2 h _
    cases h
  | succ n ih =>
    intro v1_2 h K
    rw [g_X9_rest_L1] at h
    refine tw_blk (cd := tw_c154) rfl 1 (c1 := (9, [some (.ref 0), some (.int a1), some (.int v1_2)], [.int v1_2], (I2, L, tw_P 2 14 rt sc, A, J, 57))) rfl ?_
    refine tw_blk (cd := tw_c154) rfl 1 (c1 := (10, [some (.ref 0), some (.int a1), some (.int v1_2)], [.int 4, .int v1_2], (I2, L, tw_P 2 14 rt sc, A, J, 57))) rfl ?_
    by_cases hc5 : (4 : Int32) ≤ v1_2
    · rw [if_pos hc5] at h
      refine tw_br (cd := tw_c154) rfl rfl rfl (by exact if_pos hc5) ?_
      refine tw_forget (ls2 := [some (.ref 0), none, none]) ⟨rfl, trivial⟩ ?_
      exact K _ h
    · rw [if_neg hc5] at h
      refine tw_br (cd := tw_c154) rfl rfl rfl (by exact if_neg hc5) ?_
      refine tw_blk (cd := tw_c154) rfl 3 (c1 := (14, [some (.ref 0), some (.int a1), some (.int v1_2)], [.int 2, .int v1_2, .int a1], (I2, L, tw_P 2 14 rt sc, A, J, 57))) rfl ?_
      obtain ⟨x7, hj8, h⟩ := tw_bindE h
      have K : tw_ME 154 (18, [some (.ref 0), some (.int a1), some (.int v1_2)], [.int x7, .int a1], (I2, L, tw_P 2 14 rt sc, A, J, 57)) (some (.int r.1), ((r.2), L, tw_P 2 14 rt sc, A, J, 57)) := by
        refine tw_blk (cd := tw_c154) rfl 2 (c1 := (20, [some (.ref 0), some (.int a1), some (.int v1_2)], [.int 2, .int v1_2, .int x7, .int a1], (I2, L, tw_P 2 14 rt sc, A, J, 57))) rfl ?_
        refine tw_br (cd := tw_c154) rfl rfl rfl (by exact rfl) ?_
        refine tw_blk (cd := tw_c154) rfl 1 (c1 := (22, [some (.ref 0), some (.int a1), some (.int v1_2)], [.int 1, .int (v1_2 - v1_2 / (2 : Int32) * (2 : Int32)), .int x7, .int a1], (I2, L, tw_P 2 14 rt sc, A, J, 57))) rfl ?_
        obtain ⟨x10, hj11, h⟩ := tw_bindE h
        have K : tw_ME 154 (26, [some (.ref 0), some (.int a1), some (.int v1_2)], [.int x10, .int x7, .int a1], (I2, L, tw_P 2 14 rt sc, A, J, 57)) (some (.int r.1), ((r.2), L, tw_P 2 14 rt sc, A, J, 57)) := by
          refine tw_callE (cd := tw_c154) rfl rfl rfl rfl rfl (e_X9_isRest I2 L A J 2 14 rt sc a1 x7 x10 _ rfl) (by exact Or.inl rfl) ?_
          by_cases hc12 : (g_X9_isRest a1 x7 x10) = true
          · rw [if_pos hc12] at h
            refine tw_br (cd := tw_c154) rfl rfl rfl (by exact if_neg (tw_b_t hc12)) ?_
            refine tw_blk (cd := tw_c154) rfl 3 (c1 := (31, [some (.ref 0), some (.int a1), some (.int v1_2)], [.int 2, .int v1_2, .ref 0], (I2, L, tw_P 2 14 rt sc, A, J, 57))) rfl ?_
            obtain ⟨x14, hj15, h⟩ := tw_bindE h
            have K : tw_ME 154 (35, [none, none, some (.int v1_2)], [.int x14, .ref 0], (I2, L, tw_P 2 14 rt sc, A, J, 57)) (some (.int r.1), ((r.2), L, tw_P 2 14 rt sc, A, J, 57)) := by
              refine tw_blk (cd := tw_c154) rfl 2 (c1 := (37, [none, none, some (.int v1_2)], [.int 2, .int v1_2, .int x14, .ref 0], (I2, L, tw_P 2 14 rt sc, A, J, 57))) rfl ?_
              refine tw_br (cd := tw_c154) rfl rfl rfl (by exact rfl) ?_
              refine tw_blk (cd := tw_c154) rfl 1 (c1 := (39, [none, none, some (.int v1_2)], [.int (x14 + (v1_2 - v1_2 / (2 : Int32) * (2 : Int32))), .ref 0], (I2, L, tw_P 2 14 rt sc, A, J, 57))) rfl ?_
              obtain ⟨⟨x16, I17⟩, hx18, h⟩ := tw_letE h
              dsimp only at h
              refine tw_callE (cd := tw_c154) rfl rfl rfl rfl rfl (e_X9_grant I2 L A J 2 14 rt sc (x14 + (v1_2 - v1_2 / (2 : Int32) * (2 : Int32))) _ hx18) (by exact Or.inl rfl) ?_
              have h := Option.some.inj h
              subst h
              exact tw_retE (cd := tw_c154) rfl rfl rfl rfl
            by_cases hc13 : v1_2 < (2 : Int32)
            · rw [if_pos hc13] at hj15
              refine tw_br (cd := tw_c154) rfl rfl rfl (by exact if_pos hc13) ?_
              refine tw_blk (cd := tw_c154) rfl 1 (c1 := (35, [some (.ref 0), some (.int a1), some (.int v1_2)], [.int 0, .ref 0], (I2, L, tw_P 2 14 rt sc, A, J, 57))) rfl ?_
              refine tw_forget (ls2 := [none, none, some (.int v1_2)]) ⟨rfl, trivial⟩ ?_
              have hj15s := Option.some.inj hj15
              subst hj15s
              exact K
            · rw [if_neg hc13] at hj15
              refine tw_br (cd := tw_c154) rfl rfl rfl (by exact if_neg hc13) ?_
              refine tw_blk (cd := tw_c154) rfl 2 (c1 := (35, [some (.ref 0), some (.int a1), some (.int v1_2)], [.int 10, .ref 0], (I2, L, tw_P 2 14 rt sc, A, J, 57))) rfl ?_
              refine tw_forget (ls2 := [none, none, some (.int v1_2)]) ⟨rfl, trivial⟩ ?_
              have hj15s := Option.some.inj hj15
              subst hj15s
              exact K
          · rw [if_neg hc12] at h
            refine tw_br (cd := tw_c154) rfl rfl rfl (by exact if_pos (tw_b_f hc12)) ?_
            refine tw_blk (cd := tw_c154) rfl 2 (c1 := (8, [some (.ref 0), some (.int a1), some (.int (v1_2 + (1 : Int32)))], [], (I2, L, tw_P 2 14 rt sc, A, J, 57))) rfl ?_
            exact ih (v1_2 + (1 : Int32)) h K
        by_cases hc9 : (v1_2 - v1_2 / (2 : Int32) * (2 : Int32)) = (1 : Int32)
        · rw [if_pos hc9] at hj11
          refine tw_br (cd := tw_c154) rfl rfl rfl (by exact if_pos hc9) ?_
          refine tw_blk (cd := tw_c154) rfl 2 (c1 := (26, [some (.ref 0), some (.int a1), some (.int v1_2)], [.int 1, .int x7, .int a1], (I2, L, tw_P 2 14 rt sc, A, J, 57))) rfl ?_
          have hj11s := Option.some.inj hj11
          subst hj11s
          exact K
        · rw [if_neg hc9] at hj11
          refine tw_br (cd := tw_c154) rfl rfl rfl (by exact if_neg hc9) ?_
          refine tw_blk (cd := tw_c154) rfl 1 (c1 := (26, [some (.ref 0), some (.int a1), some (.int v1_2)], [.int 0, .int x7, .int a1], (I2, L, tw_P 2 14 rt sc, A, J, 57))) rfl ?_
          have hj11s := Option.some.inj hj11
          subst hj11s
          exact K
      by_cases hc6 : v1_2 < (2 : Int32)
      · rw [if_pos hc6] at hj8
        refine tw_br (cd := tw_c154) rfl rfl rfl (by exact if_pos hc6) ?_
        refine tw_blk (cd := tw_c154) rfl 1 (c1 := (18, [some (.ref 0), some (.int a1), some (.int v1_2)], [.int 0, .int a1], (I2, L, tw_P 2 14 rt sc, A, J, 57))) rfl ?_
        have hj8s := Option.some.inj hj8
        subst hj8s
        exact K
      · rw [if_neg hc6] at hj8
        refine tw_br (cd := tw_c154) rfl rfl rfl (by exact if_neg hc6) ?_
        refine tw_blk (cd := tw_c154) rfl 2 (c1 := (18, [some (.ref 0), some (.int a1), some (.int v1_2)], [.int 1, .int a1], (I2, L, tw_P 2 14 rt sc, A, J, 57))) rfl ?_
        have hj8s := Option.some.inj hj8
        subst hj8s
        exact K
theorem e_X9_rest (I : Nat → Int32) (L : Nat → Int64) (A : Nat → Nat → Int32) (J : Nat → Nat → Int64) (rt : Nat) (sc : Nat) (a1 : Int32) : ∀ r : (Int32 × (Nat → Int32)), g_X9_rest I A a1 = some r → tw_ME 154 (0, [some (.ref 0), some (.int a1), none], [], (I, L, tw_P 2 14 rt sc, A, J, 57)) (some (.int r.1), ((r.2), L, tw_P 2 14 rt sc, A, J, 57)) := by
  intro r h
  unfold g_X9_rest at h
  refine tw_blk (cd := tw_c154) rfl 2 (c1 := (2, [some (.ref 0), some (.int a1), none], [.int a1, .ref 0], (I, L, tw_P 2 14 rt sc, A, J, 57))) rfl ?_
  obtain ⟨⟨c1, I2⟩, hx3, h⟩ := tw_letE h
  dsimp only at h
  refine tw_callE (cd := tw_c154) rfl rfl rfl rfl rfl (e_X9_mayNotHeat I L A J rt sc a1 _ hx3) (by exact Or.inl rfl) ?_
  by_cases hc4 : c1 = true
  · rw [if_pos hc4] at h
    refine tw_br (cd := tw_c154) rfl rfl rfl (by exact if_neg (tw_b_t hc4)) ?_
    refine tw_blk (cd := tw_c154) rfl 1 (c1 := (5, [some (.ref 0), some (.int a1), none], [.int (-1)], (I2, L, tw_P 2 14 rt sc, A, J, 57))) rfl ?_
    have h := Option.some.inj h
    subst h
    exact tw_retE (cd := tw_c154) rfl rfl rfl rfl
  · rw [if_neg hc4] at h
    refine tw_br (cd := tw_c154) rfl rfl rfl (by exact if_pos (tw_b_f hc4)) ?_
    refine tw_blk (cd := tw_c154) rfl 2 (c1 := (8, [some (.ref 0), some (.int a1), some (.int 0)], [], (I2, L, tw_P 2 14 rt sc, A, J, 57))) rfl ?_
    refine g_X9_rest_L1_ok I L A J rt sc a1 c1 I2 _ r 4096 (0 : Int32) h (fun ex h => ?_)
    refine tw_blk (cd := tw_c154) rfl 2 (c1 := (45, [some (.ref 0), none, none], [.int (-2), .ref 0], (I2, L, tw_P 2 14 rt sc, A, J, 57))) rfl ?_
    obtain ⟨⟨x19, I20⟩, hx21, h⟩ := tw_letE h
    dsimp only at h
    refine tw_callE (cd := tw_c154) rfl rfl rfl rfl rfl (e_X9_grant I2 L A J 2 14 rt sc (-2 : Int32) _ hx21) (by exact Or.inl rfl) ?_
    have h := Option.some.inj h
    subst h
    exact tw_retE (cd := tw_c154) rfl rfl rfl rfl
theorem e_X10_rest (I : Nat → Int32) (L : Nat → Int64) (A : Nat → Nat → Int32) (J : Nat → Nat → Int64) (tw dr : Nat) (rt : Nat) (sc : Nat) (a1 : Int32) : ∀ r : (Int32 × (Nat → Int32)), g_X10_rest I a1 = some r → tw_ME 301 (0, [some (.ref 44), some (.int a1), none], [], (I, L, tw_P tw dr rt sc, A, J, 57)) (some (.int r.1), ((r.2), L, tw_P tw dr rt sc, A, J, 57)) := by
  intro r h
  unfold g_X10_rest at h
  refine tw_blk (cd := tw_c301) rfl 1 (c1 := (1, [some (.ref 44), some (.int a1), none], [.ref 44], (I, L, tw_P tw dr rt sc, A, J, 57))) rfl ?_
  obtain ⟨I1, hx2, h⟩ := tw_letE h
  refine tw_callE (cd := tw_c301) rfl rfl rfl rfl rfl (e_X10_good I L A J tw dr rt sc _ hx2) (by exact Or.inl rfl) ?_
  refine tw_blk (cd := tw_c301) rfl 6 (c1 := (8, [some (.ref 44), some (.int a1), none], [.int 9, .int 0, .int a1, .int (I1 4414), .ref 44], (I1, L, tw_P tw dr rt sc, A, J, 57))) rfl ?_
  refine tw_callE (cd := tw_c301) rfl rfl rfl rfl rfl (e_X10_in I1 L A J tw dr rt sc a1 (0 : Int32) (9 : Int32) _ rfl) (by exact Or.inl rfl) ?_
  refine tw_callE (cd := tw_c301) rfl rfl rfl rfl rfl (e_X10_why I1 L A J tw dr rt sc (I1 4414) (tw_b (g_X10_in a1 (0 : Int32) (9 : Int32))) _ rfl) (by exact Or.inl rfl) ?_
  refine tw_blk (cd := tw_c301) rfl 2 (c1 := (12, [some (.ref 44), some (.int a1), some (.int (g_X10_why (I1 4414) (tw_b (g_X10_in a1 (0 : Int32) (9 : Int32)))))], [.int (g_X10_why (I1 4414) (tw_b (g_X10_in a1 (0 : Int32) (9 : Int32))))], (I1, L, tw_P tw dr rt sc, A, J, 57))) rfl ?_
  by_cases hc3 : (g_X10_why (I1 4414) (tw_b (g_X10_in a1 (0 : Int32) (9 : Int32)))) = 0
  · rw [if_pos hc3] at h
    refine tw_br (cd := tw_c301) rfl rfl rfl (by exact if_pos hc3) ?_
    refine tw_blk (cd := tw_c301) rfl 2 (c1 := (19, [some (.ref 44), some (.int a1), some (.int (g_X10_why (I1 4414) (tw_b (g_X10_in a1 (0 : Int32) (9 : Int32)))))], [.int a1, .ref 44], (I1, L, tw_P tw dr rt sc, A, J, 57))) rfl ?_
    obtain ⟨⟨x4, I5⟩, hx6, h⟩ := tw_bindE h
    dsimp only at h
    refine tw_callE (cd := tw_c301) rfl rfl rfl rfl rfl (e_X10_seekRests I1 L A J tw dr rt sc a1 _ hx6) (by exact Or.inl rfl) ?_
    refine tw_blk (cd := tw_c301) rfl 3 (c1 := (23, [some (.ref 44), some (.int a1), some (.int (g_X10_why (I1 4414) (tw_b (g_X10_in a1 (0 : Int32) (9 : Int32)))))], [.int (I5 4436)], (I5, L, tw_P tw dr rt sc, A, J, 57))) rfl ?_
    have h := Option.some.inj h
    subst h
    exact tw_retE (cd := tw_c301) rfl rfl rfl rfl
  · rw [if_neg hc3] at h
    refine tw_br (cd := tw_c301) rfl rfl rfl (by exact if_neg hc3) ?_
    refine tw_blk (cd := tw_c301) rfl 2 (c1 := (15, [some (.ref 44), some (.int a1), some (.int (g_X10_why (I1 4414) (tw_b (g_X10_in a1 (0 : Int32) (9 : Int32)))))], [.int (g_X10_why (I1 4414) (tw_b (g_X10_in a1 (0 : Int32) (9 : Int32)))), .ref 44], (I1, L, tw_P tw dr rt sc, A, J, 57))) rfl ?_
    obtain ⟨⟨x7, I8⟩, hx9, h⟩ := tw_letE h
    dsimp only at h
    refine tw_callE (cd := tw_c301) rfl rfl rfl rfl rfl (e_X10_no I1 L A J tw dr rt sc (g_X10_why (I1 4414) (tw_b (g_X10_in a1 (0 : Int32) (9 : Int32)))) _ hx9) (by exact Or.inl rfl) ?_
    have h := Option.some.inj h
    subst h
    exact tw_retE (cd := tw_c301) rfl rfl rfl rfl
theorem e_X1_leftOf (I : Nat → Int32) (L : Nat → Int64) (A : Nat → Nat → Int32) (J : Nat → Nat → Int64) (tw dr : Nat) (rt : Nat) (a0 : Int64) (a1 : Int32) : ∀ r : Int64, g_X1_leftOf a0 a1 = r → tw_ME 21 (0, [some (.long a0), none, some (.int a1)], [], (I, L, tw_P tw dr rt 2, A, J, 57)) (some (.long r), (I, L, tw_P tw dr rt 2, A, J, 57)) := by
  intro r h
  unfold g_X1_leftOf at h
  refine tw_blk (cd := tw_c21) rfl 2 (c1 := (2, [some (.long a0), none, some (.int a1)], [.int 6, .int a1], (I, L, tw_P tw dr rt 2, A, J, 57))) rfl ?_
  by_cases hc1 : a1 < (6 : Int32)
  · rw [if_pos hc1] at h
    refine tw_br (cd := tw_c21) rfl rfl rfl (by exact if_pos hc1) ?_
    refine tw_blk (cd := tw_c21) rfl 1 (c1 := (6, [some (.long a0), none, some (.int a1)], [.long a0], (I, L, tw_P tw dr rt 2, A, J, 57))) rfl ?_
    subst h
    exact tw_retE (cd := tw_c21) rfl rfl rfl rfl
  · rw [if_neg hc1] at h
    refine tw_br (cd := tw_c21) rfl rfl rfl (by exact if_neg hc1) ?_
    refine tw_blk (cd := tw_c21) rfl 2 (c1 := (6, [some (.long a0), none, some (.int a1)], [.long 0], (I, L, tw_P tw dr rt 2, A, J, 57))) rfl ?_
    subst h
    exact tw_retE (cd := tw_c21) rfl rfl rfl rfl
theorem g_X1_weigh_L1_ok (I : Nat → Int32) (L : Nat → Int64) (A : Nat → Nat → Int32) (J : Nat → Nat → Int64) (tw : Nat) (dr : Nat) (rt : Nat) (a1 : Int32) (a2 : Int32) (A1 : Nat → Nat → Int32) (kont : (Int64 × Int64 × Int64 × (Nat → Int64)) → Option ((Nat → Int64) × (Nat → Nat → Int32))) (r : ((Nat → Int64) × (Nat → Nat → Int32))) : ∀ (n : Nat) (v1_6 : Int64) (v1_8 : Int64) (v1_10 : Int64) (v1_12 : Int32) (v1_13 : Int32) (v1_14 : Int32) (L_1 : Nat → Int64), g_X1_weigh_L1 a1 a2 A1 kont n v1_6 v1_8 v1_10 v1_12 v1_13 v1_14 L_1 = some r → (∀ ex : (Int64 × Int64 × Int64 × (Nat → Int64)), kont ex = some r → tw_ME 20 (131, [some (.ref 39), none, none, none, none, none, some (.long (ex.1)), none, some (.long (ex.2.1)), none, some (.long (ex.2.2.1)), none, none, none, none, none], [], (I, (ex.2.2.2), tw_P tw dr rt 2, A1, J, 57)) (none, (I, (r.1), tw_P tw dr rt 2, (r.2), J, 57))) → tw_ME 20 (42, [some (.ref 39), some (.int a1), some (.int a2), some (.int (g_X8_twoOf_2 A1 a1)), some (.int (g_X8_fact_2 A1 a1 (3 : Int32))), some (.int (g_X8_count_2 A1 (0 : Int32))), some (.long v1_6), none, some (.long v1_8), none, some (.long v1_10), none, some (.int v1_12), some (.int v1_13), some (.int v1_14), none], [], (I, L_1, tw_P tw dr rt 2, A1, J, 57)) (none, (I, (r.1), tw_P tw dr rt 2, (r.2), J, 57)) := by
  intro n
  induction n with
  | zero =>
    intro v1_6 v1_8 v1_10 v1_12 v1_13 v1_14 L_1 h _
    cases h
  | succ n ih =>
    intro v1_6 v1_8 v1_10 v1_12 v1_13 v1_14 L_1 h K
    rw [g_X1_weigh_L1] at h
    refine tw_blk (cd := tw_c20) rfl 1 (c1 := (43, [some (.ref 39), some (.int a1), some (.int a2), some (.int (g_X8_twoOf_2 A1 a1)), some (.int (g_X8_fact_2 A1 a1 (3 : Int32))), some (.int (g_X8_count_2 A1 (0 : Int32))), some (.long v1_6), none, some (.long v1_8), none, some (.long v1_10), none, some (.int v1_12), some (.int v1_13), some (.int v1_14), none], [.int v1_14], (I, L_1, tw_P tw dr rt 2, A1, J, 57))) rfl ?_
    refine tw_blk (cd := tw_c20) rfl 1 (c1 := (44, [some (.ref 39), some (.int a1), some (.int a2), some (.int (g_X8_twoOf_2 A1 a1)), some (.int (g_X8_fact_2 A1 a1 (3 : Int32))), some (.int (g_X8_count_2 A1 (0 : Int32))), some (.long v1_6), none, some (.long v1_8), none, some (.long v1_10), none, some (.int v1_12), some (.int v1_13), some (.int v1_14), none], [.int 60, .int v1_14], (I, L_1, tw_P tw dr rt 2, A1, J, 57))) rfl ?_
    by_cases hc7 : (60 : Int32) ≤ v1_14
    · rw [if_pos hc7] at h
      refine tw_br (cd := tw_c20) rfl rfl rfl (by exact if_pos hc7) ?_
      refine tw_forget (ls2 := [some (.ref 39), none, none, none, none, none, some (.long v1_6), none, some (.long v1_8), none, some (.long v1_10), none, none, none, none, none]) ⟨rfl, rfl, rfl, rfl, trivial⟩ ?_
      exact K _ h
    · rw [if_neg hc7] at h
      refine tw_br (cd := tw_c20) rfl rfl rfl (by exact if_neg hc7) ?_
      refine tw_blk (cd := tw_c20) rfl 4 (c1 := (49, [some (.ref 39), some (.int a1), some (.int a2), some (.int (g_X8_twoOf_2 A1 a1)), some (.int (g_X8_fact_2 A1 a1 (3 : Int32))), some (.int (g_X8_count_2 A1 (0 : Int32))), some (.long v1_6), none, some (.long v1_8), none, some (.long v1_10), none, some (.int v1_12), some (.int v1_13), some (.int v1_14), none], [.int ((g_X8_fact_2 A1 a1 (3 : Int32)) + a2), .int v1_14], (I, L_1, tw_P tw dr rt 2, A1, J, 57))) rfl ?_
      by_cases hc8 : ((g_X8_fact_2 A1 a1 (3 : Int32)) + a2) ≤ v1_14
      · rw [if_pos hc8] at h
        refine tw_br (cd := tw_c20) rfl rfl rfl (by exact if_pos hc8) ?_
        refine tw_forget (ls2 := [some (.ref 39), none, none, none, none, none, some (.long v1_6), none, some (.long v1_8), none, some (.long v1_10), none, none, none, none, none]) ⟨rfl, rfl, rfl, rfl, trivial⟩ ?_
        exact K _ h
      · rw [if_neg hc8] at h
        refine tw_br (cd := tw_c20) rfl rfl rfl (by exact if_neg hc8) ?_
        refine tw_blk (cd := tw_c20) rfl 4 (c1 := (54, [some (.ref 39), some (.int a1), some (.int a2), some (.int (g_X8_twoOf_2 A1 a1)), some (.int (g_X8_fact_2 A1 a1 (3 : Int32))), some (.int (g_X8_count_2 A1 (0 : Int32))), some (.long v1_6), none, some (.long v1_8), none, some (.long v1_10), none, some (.int v1_12), some (.int v1_13), some (.int v1_14), none], [.int v1_14, .ref 40, .int v1_12], (I, L_1, tw_P tw dr rt 2, A1, J, 57))) rfl ?_
        refine tw_callE (cd := tw_c20) rfl rfl rfl rfl rfl (tw_e_get I L_1 (tw_P tw dr rt 2) A1 J (q := 40) (N := 60) rfl rfl (by decide) v1_14) (by exact Or.inl rfl) ?_
        refine tw_blk (cd := tw_c20) rfl 5 (c1 := (60, [some (.ref 39), some (.int a1), some (.int a2), some (.int (g_X8_twoOf_2 A1 a1)), some (.int (g_X8_fact_2 A1 a1 (3 : Int32))), some (.int (g_X8_count_2 A1 (0 : Int32))), some (.long v1_6), none, some (.long v1_8), none, some (.long v1_10), none, some (.int v1_12), some (.int v1_13), some (.int v1_14), none], [.int (v1_12 ||| ((tw_get0 60 (A1 40) v1_14) &&& ((g_X8_twoOf_2 A1 a1) ^^^ (-1 : Int32))))], (I, L_1, tw_P tw dr rt 2, A1, J, 57))) rfl ?_
        refine tw_blk (cd := tw_c20) rfl 4 (c1 := (64, [some (.ref 39), some (.int a1), some (.int a2), some (.int (g_X8_twoOf_2 A1 a1)), some (.int (g_X8_fact_2 A1 a1 (3 : Int32))), some (.int (g_X8_count_2 A1 (0 : Int32))), some (.long v1_6), none, some (.long v1_8), none, some (.long v1_10), none, some (.int (v1_12 ||| ((tw_get0 60 (A1 40) v1_14) &&& ((g_X8_twoOf_2 A1 a1) ^^^ (-1 : Int32))))), some (.int v1_13), some (.int v1_14), none], [.int (v1_12 ||| ((tw_get0 60 (A1 40) v1_14) &&& ((g_X8_twoOf_2 A1 a1) ^^^ (-1 : Int32)))), .ref 36], (I, L_1, tw_P tw dr rt 2, A1, J, 57))) rfl ?_
        obtain ⟨x9, hx10, h⟩ := tw_bindE h
        refine tw_callE (cd := tw_c20) rfl rfl rfl rfl rfl (e_X6_eyesOf I L_1 A1 J tw dr rt (v1_12 ||| ((tw_get0 60 (A1 40) v1_14) &&& ((g_X8_twoOf_2 A1 a1) ^^^ (-1 : Int32)))) _ hx10) (by exact Or.inl rfl) ?_
        refine tw_blk (cd := tw_c20) rfl 5 (c1 := (70, [some (.ref 39), some (.int a1), some (.int a2), some (.int (g_X8_twoOf_2 A1 a1)), some (.int (g_X8_fact_2 A1 a1 (3 : Int32))), some (.int (g_X8_count_2 A1 (0 : Int32))), some (.long v1_6), none, some (.long v1_8), none, some (.long v1_10), none, some (.int (v1_12 ||| ((tw_get0 60 (A1 40) v1_14) &&& ((g_X8_twoOf_2 A1 a1) ^^^ (-1 : Int32))))), some (.int v1_13), some (.int v1_14), some (.int x9)], [.int ((100 : Int32) - (g_X8_count_2 A1 (0 : Int32))), .long v1_10], (I, L_1, tw_P tw dr rt 2, A1, J, 57))) rfl ?_
        refine tw_blk (cd := tw_c20) rfl 5 (c1 := (75, [some (.ref 39), some (.int a1), some (.int a2), some (.int (g_X8_twoOf_2 A1 a1)), some (.int (g_X8_fact_2 A1 a1 (3 : Int32))), some (.int (g_X8_count_2 A1 (0 : Int32))), some (.long v1_6), none, some (.long v1_8), none, some (.long v1_10), none, some (.int (v1_12 ||| ((tw_get0 60 (A1 40) v1_14) &&& ((g_X8_twoOf_2 A1 a1) ^^^ (-1 : Int32))))), some (.int v1_13), some (.int v1_14), some (.int x9)], [.long (((g_X8_count_2 A1 (0 : Int32))).toInt64), .long v1_8, .long (v1_10 * ((((100 : Int32) - (g_X8_count_2 A1 (0 : Int32)))).toInt64))], (I, L_1, tw_P tw dr rt 2, A1, J, 57))) rfl ?_
        refine tw_blk (cd := tw_c20) rfl 5 (c1 := (80, [some (.ref 39), some (.int a1), some (.int a2), some (.int (g_X8_twoOf_2 A1 a1)), some (.int (g_X8_fact_2 A1 a1 (3 : Int32))), some (.int (g_X8_count_2 A1 (0 : Int32))), some (.long v1_6), none, some (.long v1_8), none, some (.long v1_10), none, some (.int (v1_12 ||| ((tw_get0 60 (A1 40) v1_14) &&& ((g_X8_twoOf_2 A1 a1) ^^^ (-1 : Int32))))), some (.int v1_13), some (.int v1_14), some (.int x9)], [.int (x9 + (4 : Int32)), .long ((v1_10 * ((((100 : Int32) - (g_X8_count_2 A1 (0 : Int32)))).toInt64)) + (v1_8 * (((g_X8_count_2 A1 (0 : Int32))).toInt64)))], (I, L_1, tw_P tw dr rt 2, A1, J, 57))) rfl ?_
        refine tw_callE (cd := tw_c20) rfl rfl rfl rfl rfl (e_X1_leftOf I L_1 A1 J tw dr rt ((v1_10 * ((((100 : Int32) - (g_X8_count_2 A1 (0 : Int32)))).toInt64)) + (v1_8 * (((g_X8_count_2 A1 (0 : Int32))).toInt64))) (x9 + (4 : Int32)) _ rfl) (by exact Or.inl rfl) ?_
        refine tw_blk (cd := tw_c20) rfl 5 (c1 := (86, [some (.ref 39), some (.int a1), some (.int a2), some (.int (g_X8_twoOf_2 A1 a1)), some (.int (g_X8_fact_2 A1 a1 (3 : Int32))), some (.int (g_X8_count_2 A1 (0 : Int32))), some (.long v1_6), none, some (.long v1_8), none, some (.long (g_X1_leftOf ((v1_10 * ((((100 : Int32) - (g_X8_count_2 A1 (0 : Int32)))).toInt64)) + (v1_8 * (((g_X8_count_2 A1 (0 : Int32))).toInt64))) (x9 + (4 : Int32)))), none, some (.int (v1_12 ||| ((tw_get0 60 (A1 40) v1_14) &&& ((g_X8_twoOf_2 A1 a1) ^^^ (-1 : Int32))))), some (.int v1_13), some (.int v1_14), some (.int x9)], [.int ((100 : Int32) - (g_X8_count_2 A1 (0 : Int32))), .long v1_8], (I, L_1, tw_P tw dr rt 2, A1, J, 57))) rfl ?_
        refine tw_blk (cd := tw_c20) rfl 5 (c1 := (91, [some (.ref 39), some (.int a1), some (.int a2), some (.int (g_X8_twoOf_2 A1 a1)), some (.int (g_X8_fact_2 A1 a1 (3 : Int32))), some (.int (g_X8_count_2 A1 (0 : Int32))), some (.long v1_6), none, some (.long v1_8), none, some (.long (g_X1_leftOf ((v1_10 * ((((100 : Int32) - (g_X8_count_2 A1 (0 : Int32)))).toInt64)) + (v1_8 * (((g_X8_count_2 A1 (0 : Int32))).toInt64))) (x9 + (4 : Int32)))), none, some (.int (v1_12 ||| ((tw_get0 60 (A1 40) v1_14) &&& ((g_X8_twoOf_2 A1 a1) ^^^ (-1 : Int32))))), some (.int v1_13), some (.int v1_14), some (.int x9)], [.long (((g_X8_count_2 A1 (0 : Int32))).toInt64), .long v1_6, .long (v1_8 * ((((100 : Int32) - (g_X8_count_2 A1 (0 : Int32)))).toInt64))], (I, L_1, tw_P tw dr rt 2, A1, J, 57))) rfl ?_
        refine tw_blk (cd := tw_c20) rfl 5 (c1 := (96, [some (.ref 39), some (.int a1), some (.int a2), some (.int (g_X8_twoOf_2 A1 a1)), some (.int (g_X8_fact_2 A1 a1 (3 : Int32))), some (.int (g_X8_count_2 A1 (0 : Int32))), some (.long v1_6), none, some (.long v1_8), none, some (.long (g_X1_leftOf ((v1_10 * ((((100 : Int32) - (g_X8_count_2 A1 (0 : Int32)))).toInt64)) + (v1_8 * (((g_X8_count_2 A1 (0 : Int32))).toInt64))) (x9 + (4 : Int32)))), none, some (.int (v1_12 ||| ((tw_get0 60 (A1 40) v1_14) &&& ((g_X8_twoOf_2 A1 a1) ^^^ (-1 : Int32))))), some (.int v1_13), some (.int v1_14), some (.int x9)], [.int (x9 + (2 : Int32)), .long ((v1_8 * ((((100 : Int32) - (g_X8_count_2 A1 (0 : Int32)))).toInt64)) + (v1_6 * (((g_X8_count_2 A1 (0 : Int32))).toInt64)))], (I, L_1, tw_P tw dr rt 2, A1, J, 57))) rfl ?_
        refine tw_callE (cd := tw_c20) rfl rfl rfl rfl rfl (e_X1_leftOf I L_1 A1 J tw dr rt ((v1_8 * ((((100 : Int32) - (g_X8_count_2 A1 (0 : Int32)))).toInt64)) + (v1_6 * (((g_X8_count_2 A1 (0 : Int32))).toInt64))) (x9 + (2 : Int32)) _ rfl) (by exact Or.inl rfl) ?_
        refine tw_blk (cd := tw_c20) rfl 5 (c1 := (102, [some (.ref 39), some (.int a1), some (.int a2), some (.int (g_X8_twoOf_2 A1 a1)), some (.int (g_X8_fact_2 A1 a1 (3 : Int32))), some (.int (g_X8_count_2 A1 (0 : Int32))), some (.long v1_6), none, some (.long (g_X1_leftOf ((v1_8 * ((((100 : Int32) - (g_X8_count_2 A1 (0 : Int32)))).toInt64)) + (v1_6 * (((g_X8_count_2 A1 (0 : Int32))).toInt64))) (x9 + (2 : Int32)))), none, some (.long (g_X1_leftOf ((v1_10 * ((((100 : Int32) - (g_X8_count_2 A1 (0 : Int32)))).toInt64)) + (v1_8 * (((g_X8_count_2 A1 (0 : Int32))).toInt64))) (x9 + (4 : Int32)))), none, some (.int (v1_12 ||| ((tw_get0 60 (A1 40) v1_14) &&& ((g_X8_twoOf_2 A1 a1) ^^^ (-1 : Int32))))), some (.int v1_13), some (.int v1_14), some (.int x9)], [.int ((100 : Int32) - (g_X8_count_2 A1 (0 : Int32))), .long v1_6], (I, L_1, tw_P tw dr rt 2, A1, J, 57))) rfl ?_
        refine tw_blk (cd := tw_c20) rfl 3 (c1 := (105, [some (.ref 39), some (.int a1), some (.int a2), some (.int (g_X8_twoOf_2 A1 a1)), some (.int (g_X8_fact_2 A1 a1 (3 : Int32))), some (.int (g_X8_count_2 A1 (0 : Int32))), some (.long v1_6), none, some (.long (g_X1_leftOf ((v1_8 * ((((100 : Int32) - (g_X8_count_2 A1 (0 : Int32)))).toInt64)) + (v1_6 * (((g_X8_count_2 A1 (0 : Int32))).toInt64))) (x9 + (2 : Int32)))), none, some (.long (g_X1_leftOf ((v1_10 * ((((100 : Int32) - (g_X8_count_2 A1 (0 : Int32)))).toInt64)) + (v1_8 * (((g_X8_count_2 A1 (0 : Int32))).toInt64))) (x9 + (4 : Int32)))), none, some (.int (v1_12 ||| ((tw_get0 60 (A1 40) v1_14) &&& ((g_X8_twoOf_2 A1 a1) ^^^ (-1 : Int32))))), some (.int v1_13), some (.int v1_14), some (.int x9)], [.int x9, .long (v1_6 * ((((100 : Int32) - (g_X8_count_2 A1 (0 : Int32)))).toInt64))], (I, L_1, tw_P tw dr rt 2, A1, J, 57))) rfl ?_
        refine tw_callE (cd := tw_c20) rfl rfl rfl rfl rfl (e_X1_leftOf I L_1 A1 J tw dr rt (v1_6 * ((((100 : Int32) - (g_X8_count_2 A1 (0 : Int32)))).toInt64)) x9 _ rfl) (by exact Or.inl rfl) ?_
        refine tw_blk (cd := tw_c20) rfl 5 (c1 := (111, [some (.ref 39), some (.int a1), some (.int a2), some (.int (g_X8_twoOf_2 A1 a1)), some (.int (g_X8_fact_2 A1 a1 (3 : Int32))), some (.int (g_X8_count_2 A1 (0 : Int32))), some (.long (g_X1_leftOf (v1_6 * ((((100 : Int32) - (g_X8_count_2 A1 (0 : Int32)))).toInt64)) x9)), none, some (.long (g_X1_leftOf ((v1_8 * ((((100 : Int32) - (g_X8_count_2 A1 (0 : Int32)))).toInt64)) + (v1_6 * (((g_X8_count_2 A1 (0 : Int32))).toInt64))) (x9 + (2 : Int32)))), none, some (.long (g_X1_leftOf ((v1_10 * ((((100 : Int32) - (g_X8_count_2 A1 (0 : Int32)))).toInt64)) + (v1_8 * (((g_X8_count_2 A1 (0 : Int32))).toInt64))) (x9 + (4 : Int32)))), none, some (.int (v1_12 ||| ((tw_get0 60 (A1 40) v1_14) &&& ((g_X8_twoOf_2 A1 a1) ^^^ (-1 : Int32))))), some (.int v1_13), some (.int v1_14), some (.int x9)], [.long 100, .long (L_1 3909), .ref 39], (I, L_1, tw_P tw dr rt 2, A1, J, 57))) rfl ?_
        refine tw_blk (cd := tw_c20) rfl 5 (c1 := (116, [some (.ref 39), some (.int a1), some (.int a2), some (.int (g_X8_twoOf_2 A1 a1)), some (.int (g_X8_fact_2 A1 a1 (3 : Int32))), some (.int (g_X8_count_2 A1 (0 : Int32))), some (.long (g_X1_leftOf (v1_6 * ((((100 : Int32) - (g_X8_count_2 A1 (0 : Int32)))).toInt64)) x9)), none, some (.long (g_X1_leftOf ((v1_8 * ((((100 : Int32) - (g_X8_count_2 A1 (0 : Int32)))).toInt64)) + (v1_6 * (((g_X8_count_2 A1 (0 : Int32))).toInt64))) (x9 + (2 : Int32)))), none, some (.long (g_X1_leftOf ((v1_10 * ((((100 : Int32) - (g_X8_count_2 A1 (0 : Int32)))).toInt64)) + (v1_8 * (((g_X8_count_2 A1 (0 : Int32))).toInt64))) (x9 + (4 : Int32)))), none, some (.int (v1_12 ||| ((tw_get0 60 (A1 40) v1_14) &&& ((g_X8_twoOf_2 A1 a1) ^^^ (-1 : Int32))))), some (.int v1_13), some (.int v1_14), some (.int x9)], [.int a1, .ref 39, .int v1_13], (I, (vp_updL L_1 3909 ((L_1 3909) * (100 : Int64))), tw_P tw dr rt 2, A1, J, 57))) rfl ?_
        refine tw_callE (cd := tw_c20) rfl rfl rfl rfl rfl (e_X1_gainOf I (vp_updL L_1 3909 ((L_1 3909) * (100 : Int64))) A1 J tw dr rt a1 _ rfl) (by exact Or.inl rfl) ?_
        refine tw_blk (cd := tw_c20) rfl 3 (c1 := (120, [some (.ref 39), some (.int a1), some (.int a2), some (.int (g_X8_twoOf_2 A1 a1)), some (.int (g_X8_fact_2 A1 a1 (3 : Int32))), some (.int (g_X8_count_2 A1 (0 : Int32))), some (.long (g_X1_leftOf (v1_6 * ((((100 : Int32) - (g_X8_count_2 A1 (0 : Int32)))).toInt64)) x9)), none, some (.long (g_X1_leftOf ((v1_8 * ((((100 : Int32) - (g_X8_count_2 A1 (0 : Int32)))).toInt64)) + (v1_6 * (((g_X8_count_2 A1 (0 : Int32))).toInt64))) (x9 + (2 : Int32)))), none, some (.long (g_X1_leftOf ((v1_10 * ((((100 : Int32) - (g_X8_count_2 A1 (0 : Int32)))).toInt64)) + (v1_8 * (((g_X8_count_2 A1 (0 : Int32))).toInt64))) (x9 + (4 : Int32)))), none, some (.int (v1_12 ||| ((tw_get0 60 (A1 40) v1_14) &&& ((g_X8_twoOf_2 A1 a1) ^^^ (-1 : Int32))))), some (.int (v1_13 + (g_X1_gainOf A1 a1))), some (.int v1_14), some (.int x9)], [.int (v1_13 + (g_X1_gainOf A1 a1))], (I, (vp_updL L_1 3909 ((L_1 3909) * (100 : Int64))), tw_P tw dr rt 2, A1, J, 57))) rfl ?_
        refine tw_mabs (cd := tw_c20) rfl rfl rfl ?_
        refine tw_blk (cd := tw_c20) rfl 5 (c1 := (126, [some (.ref 39), some (.int a1), some (.int a2), some (.int (g_X8_twoOf_2 A1 a1)), some (.int (g_X8_fact_2 A1 a1 (3 : Int32))), some (.int (g_X8_count_2 A1 (0 : Int32))), some (.long (g_X1_leftOf (v1_6 * ((((100 : Int32) - (g_X8_count_2 A1 (0 : Int32)))).toInt64)) x9)), none, some (.long (g_X1_leftOf ((v1_8 * ((((100 : Int32) - (g_X8_count_2 A1 (0 : Int32)))).toInt64)) + (v1_6 * (((g_X8_count_2 A1 (0 : Int32))).toInt64))) (x9 + (2 : Int32)))), none, some (.long (g_X1_leftOf ((v1_10 * ((((100 : Int32) - (g_X8_count_2 A1 (0 : Int32)))).toInt64)) + (v1_8 * (((g_X8_count_2 A1 (0 : Int32))).toInt64))) (x9 + (4 : Int32)))), none, some (.int (v1_12 ||| ((tw_get0 60 (A1 40) v1_14) &&& ((g_X8_twoOf_2 A1 a1) ^^^ (-1 : Int32))))), some (.int (v1_13 + (g_X1_gainOf A1 a1))), some (.int v1_14), some (.int x9)], [.int 4, .int a1, .ref 2, .int (tw_abs (v1_13 + (g_X1_gainOf A1 a1)))], (I, (vp_updL L_1 3909 ((L_1 3909) * (100 : Int64))), tw_P tw dr rt 2, A1, J, 57))) rfl ?_
        refine tw_callE (cd := tw_c20) rfl rfl rfl rfl rfl (e_X8_fact_2 I (vp_updL L_1 3909 ((L_1 3909) * (100 : Int64))) A1 J tw dr rt 2 a1 (4 : Int32) _ rfl) (by exact Or.inl rfl) ?_
        by_cases hc11 : (tw_abs (v1_13 + (g_X1_gainOf A1 a1))) < (g_X8_fact_2 A1 a1 (4 : Int32))
        · rw [if_pos hc11] at h
          refine tw_br (cd := tw_c20) rfl rfl rfl (by exact if_pos hc11) ?_
          refine tw_blk (cd := tw_c20) rfl 2 (c1 := (42, [some (.ref 39), some (.int a1), some (.int a2), some (.int (g_X8_twoOf_2 A1 a1)), some (.int (g_X8_fact_2 A1 a1 (3 : Int32))), some (.int (g_X8_count_2 A1 (0 : Int32))), some (.long (g_X1_leftOf (v1_6 * ((((100 : Int32) - (g_X8_count_2 A1 (0 : Int32)))).toInt64)) x9)), none, some (.long (g_X1_leftOf ((v1_8 * ((((100 : Int32) - (g_X8_count_2 A1 (0 : Int32)))).toInt64)) + (v1_6 * (((g_X8_count_2 A1 (0 : Int32))).toInt64))) (x9 + (2 : Int32)))), none, some (.long (g_X1_leftOf ((v1_10 * ((((100 : Int32) - (g_X8_count_2 A1 (0 : Int32)))).toInt64)) + (v1_8 * (((g_X8_count_2 A1 (0 : Int32))).toInt64))) (x9 + (4 : Int32)))), none, some (.int (v1_12 ||| ((tw_get0 60 (A1 40) v1_14) &&& ((g_X8_twoOf_2 A1 a1) ^^^ (-1 : Int32))))), some (.int (v1_13 + (g_X1_gainOf A1 a1))), some (.int (v1_14 + (1 : Int32))), some (.int x9)], [], (I, (vp_updL L_1 3909 ((L_1 3909) * (100 : Int64))), tw_P tw dr rt 2, A1, J, 57))) rfl ?_
          refine tw_forget (ls2 := [some (.ref 39), some (.int a1), some (.int a2), some (.int (g_X8_twoOf_2 A1 a1)), some (.int (g_X8_fact_2 A1 a1 (3 : Int32))), some (.int (g_X8_count_2 A1 (0 : Int32))), some (.long (g_X1_leftOf (v1_6 * ((((100 : Int32) - (g_X8_count_2 A1 (0 : Int32)))).toInt64)) x9)), none, some (.long (g_X1_leftOf ((v1_8 * ((((100 : Int32) - (g_X8_count_2 A1 (0 : Int32)))).toInt64)) + (v1_6 * (((g_X8_count_2 A1 (0 : Int32))).toInt64))) (x9 + (2 : Int32)))), none, some (.long (g_X1_leftOf ((v1_10 * ((((100 : Int32) - (g_X8_count_2 A1 (0 : Int32)))).toInt64)) + (v1_8 * (((g_X8_count_2 A1 (0 : Int32))).toInt64))) (x9 + (4 : Int32)))), none, some (.int (v1_12 ||| ((tw_get0 60 (A1 40) v1_14) &&& ((g_X8_twoOf_2 A1 a1) ^^^ (-1 : Int32))))), some (.int (v1_13 + (g_X1_gainOf A1 a1))), some (.int (v1_14 + (1 : Int32))), none]) ⟨rfl, rfl, rfl, rfl, rfl, rfl, rfl, rfl, rfl, rfl, rfl, rfl, trivial⟩ ?_
          exact ih (g_X1_leftOf (v1_6 * ((((100 : Int32) - (g_X8_count_2 A1 (0 : Int32)))).toInt64)) x9) (g_X1_leftOf ((v1_8 * ((((100 : Int32) - (g_X8_count_2 A1 (0 : Int32)))).toInt64)) + (v1_6 * (((g_X8_count_2 A1 (0 : Int32))).toInt64))) (x9 + (2 : Int32))) (g_X1_leftOf ((v1_10 * ((((100 : Int32) - (g_X8_count_2 A1 (0 : Int32)))).toInt64)) + (v1_8 * (((g_X8_count_2 A1 (0 : Int32))).toInt64))) (x9 + (4 : Int32))) (v1_12 ||| ((tw_get0 60 (A1 40) v1_14) &&& ((g_X8_twoOf_2 A1 a1) ^^^ (-1 : Int32)))) (v1_13 + (g_X1_gainOf A1 a1)) (v1_14 + (1 : Int32)) (vp_updL L_1 3909 ((L_1 3909) * (100 : Int64))) h K
        · rw [if_neg hc11] at h
          refine tw_br (cd := tw_c20) rfl rfl rfl (by exact if_neg hc11) ?_
          refine tw_blk (cd := tw_c20) rfl 1 (c1 := (131, [some (.ref 39), some (.int a1), some (.int a2), some (.int (g_X8_twoOf_2 A1 a1)), some (.int (g_X8_fact_2 A1 a1 (3 : Int32))), some (.int (g_X8_count_2 A1 (0 : Int32))), some (.long (g_X1_leftOf (v1_6 * ((((100 : Int32) - (g_X8_count_2 A1 (0 : Int32)))).toInt64)) x9)), none, some (.long (g_X1_leftOf ((v1_8 * ((((100 : Int32) - (g_X8_count_2 A1 (0 : Int32)))).toInt64)) + (v1_6 * (((g_X8_count_2 A1 (0 : Int32))).toInt64))) (x9 + (2 : Int32)))), none, some (.long (g_X1_leftOf ((v1_10 * ((((100 : Int32) - (g_X8_count_2 A1 (0 : Int32)))).toInt64)) + (v1_8 * (((g_X8_count_2 A1 (0 : Int32))).toInt64))) (x9 + (4 : Int32)))), none, some (.int (v1_12 ||| ((tw_get0 60 (A1 40) v1_14) &&& ((g_X8_twoOf_2 A1 a1) ^^^ (-1 : Int32))))), some (.int (v1_13 + (g_X1_gainOf A1 a1))), some (.int v1_14), some (.int x9)], [], (I, (vp_updL L_1 3909 ((L_1 3909) * (100 : Int64))), tw_P tw dr rt 2, A1, J, 57))) rfl ?_
          refine tw_forget (ls2 := [some (.ref 39), none, none, none, none, none, some (.long (g_X1_leftOf (v1_6 * ((((100 : Int32) - (g_X8_count_2 A1 (0 : Int32)))).toInt64)) x9)), none, some (.long (g_X1_leftOf ((v1_8 * ((((100 : Int32) - (g_X8_count_2 A1 (0 : Int32)))).toInt64)) + (v1_6 * (((g_X8_count_2 A1 (0 : Int32))).toInt64))) (x9 + (2 : Int32)))), none, some (.long (g_X1_leftOf ((v1_10 * ((((100 : Int32) - (g_X8_count_2 A1 (0 : Int32)))).toInt64)) + (v1_8 * (((g_X8_count_2 A1 (0 : Int32))).toInt64))) (x9 + (4 : Int32)))), none, none, none, none, none]) ⟨rfl, rfl, rfl, rfl, trivial⟩ ?_
          exact K _ h
theorem e_X1_weigh (I : Nat → Int32) (L : Nat → Int64) (A : Nat → Nat → Int32) (J : Nat → Nat → Int64) (tw dr : Nat) (rt : Nat) (a1 : Int32) (a2 : Int32) : ∀ r : ((Nat → Int64) × (Nat → Nat → Int32)), g_X1_weigh I L A a1 a2 = some r → tw_ME 20 (0, [some (.ref 39), some (.int a1), some (.int a2), none, none, none, none, none, none, none, none, none, none, none, none, none], [], (I, L, tw_P tw dr rt 2, A, J, 57)) (none, (I, (r.1), tw_P tw dr rt 2, (r.2), J, 57)) := by
  intro r h
  unfold g_X1_weigh at h
  refine tw_blk (cd := tw_c20) rfl 5 (c1 := (5, [some (.ref 39), some (.int a1), some (.int a2), none, none, none, none, none, none, none, none, none, none, none, none, none], [.int a1, .ref 2, .ref 39], (I, L, tw_P tw dr rt 2, A, J, 57))) rfl ?_
  refine tw_blk (cd := tw_c20) rfl 1 (c1 := (6, [some (.ref 39), some (.int a1), some (.int a2), none, none, none, none, none, none, none, none, none, none, none, none, none], [.int 2, .int a1, .ref 2, .ref 39], (I, L, tw_P tw dr rt 2, A, J, 57))) rfl ?_
  refine tw_callE (cd := tw_c20) rfl rfl rfl rfl rfl (e_X8_fact_2 I L A J tw dr rt 2 a1 (2 : Int32) _ rfl) (by exact Or.inl rfl) ?_
  obtain ⟨A1, hx2, h⟩ := tw_bindE h
  refine tw_callE (cd := tw_c20) rfl rfl rfl rfl rfl (e_X1_watch I L A J tw dr rt (g_X8_fact_2 A a1 (2 : Int32)) _ hx2) (by exact Or.inl rfl) ?_
  refine tw_blk (cd := tw_c20) rfl 4 (c1 := (12, [some (.ref 39), some (.int a1), some (.int a2), none, none, none, none, none, none, none, none, none, none, none, none, none], [.int a1, .ref 2], (I, L, tw_P tw dr rt 2, A1, J, 57))) rfl ?_
  refine tw_callE (cd := tw_c20) rfl rfl rfl rfl rfl (e_X8_twoOf_2 I L A1 J tw dr rt 2 a1 _ rfl) (by exact Or.inl rfl) ?_
  refine tw_blk (cd := tw_c20) rfl 5 (c1 := (18, [some (.ref 39), some (.int a1), some (.int a2), some (.int (g_X8_twoOf_2 A1 a1)), none, none, none, none, none, none, none, none, none, none, none, none], [.int a1, .ref 2], (I, L, tw_P tw dr rt 2, A1, J, 57))) rfl ?_
  refine tw_blk (cd := tw_c20) rfl 1 (c1 := (19, [some (.ref 39), some (.int a1), some (.int a2), some (.int (g_X8_twoOf_2 A1 a1)), none, none, none, none, none, none, none, none, none, none, none, none], [.int 3, .int a1, .ref 2], (I, L, tw_P tw dr rt 2, A1, J, 57))) rfl ?_
  refine tw_callE (cd := tw_c20) rfl rfl rfl rfl rfl (e_X8_fact_2 I L A1 J tw dr rt 2 a1 (3 : Int32) _ rfl) (by exact Or.inl rfl) ?_
  refine tw_blk (cd := tw_c20) rfl 5 (c1 := (25, [some (.ref 39), some (.int a1), some (.int a2), some (.int (g_X8_twoOf_2 A1 a1)), some (.int (g_X8_fact_2 A1 a1 (3 : Int32))), none, none, none, none, none, none, none, none, none, none, none], [.int 0, .ref 2], (I, L, tw_P tw dr rt 2, A1, J, 57))) rfl ?_
  refine tw_callE (cd := tw_c20) rfl rfl rfl rfl rfl (e_X8_count_2 I L A1 J tw dr rt 2 (0 : Int32) _ rfl) (by exact Or.inl rfl) ?_
  refine tw_blk (cd := tw_c20) rfl 5 (c1 := (31, [some (.ref 39), some (.int a1), some (.int a2), some (.int (g_X8_twoOf_2 A1 a1)), some (.int (g_X8_fact_2 A1 a1 (3 : Int32))), some (.int (g_X8_count_2 A1 (0 : Int32))), some (.long 1), none, some (.long 0), none, none, none, none, none, none, none], [], (I, L, tw_P tw dr rt 2, A1, J, 57))) rfl ?_
  refine tw_blk (cd := tw_c20) rfl 5 (c1 := (36, [some (.ref 39), some (.int a1), some (.int a2), some (.int (g_X8_twoOf_2 A1 a1)), some (.int (g_X8_fact_2 A1 a1 (3 : Int32))), some (.int (g_X8_count_2 A1 (0 : Int32))), some (.long 1), none, some (.long 0), none, some (.long 0), none, some (.int 0), none, none, none], [.int 0], (I, L, tw_P tw dr rt 2, A1, J, 57))) rfl ?_
  refine tw_blk (cd := tw_c20) rfl 5 (c1 := (41, [some (.ref 39), some (.int a1), some (.int a2), some (.int (g_X8_twoOf_2 A1 a1)), some (.int (g_X8_fact_2 A1 a1 (3 : Int32))), some (.int (g_X8_count_2 A1 (0 : Int32))), some (.long 1), none, some (.long 0), none, some (.long 0), none, some (.int 0), some (.int 0), none, none], [.int (g_X8_fact_2 A1 a1 (3 : Int32))], (I, (vp_updL L 3909 (1 : Int64)), tw_P tw dr rt 2, A1, J, 57))) rfl ?_
  refine tw_blk (cd := tw_c20) rfl 1 (c1 := (42, [some (.ref 39), some (.int a1), some (.int a2), some (.int (g_X8_twoOf_2 A1 a1)), some (.int (g_X8_fact_2 A1 a1 (3 : Int32))), some (.int (g_X8_count_2 A1 (0 : Int32))), some (.long 1), none, some (.long 0), none, some (.long 0), none, some (.int 0), some (.int 0), some (.int (g_X8_fact_2 A1 a1 (3 : Int32))), none], [], (I, (vp_updL L 3909 (1 : Int64)), tw_P tw dr rt 2, A1, J, 57))) rfl ?_
  refine g_X1_weigh_L1_ok I L A J tw dr rt a1 a2 A1 _ r 4096 (1 : Int64) (0 : Int64) (0 : Int64) (0 : Int32) (0 : Int32) (g_X8_fact_2 A1 a1 (3 : Int32)) (vp_updL L 3909 (1 : Int64)) h (fun ex h => ?_)
  obtain ⟨y3, y4, y5, L6⟩ := ex
  dsimp only at h
  refine tw_blk (cd := tw_c20) rfl 5 (c1 := (136, [some (.ref 39), none, none, none, none, none, some (.long y3), none, some (.long y4), none, some (.long y5), none, none, none, none, none], [.long y5, .long (y3 + y4), .ref 39], (I, L6, tw_P tw dr rt 2, A1, J, 57))) rfl ?_
  refine tw_blk (cd := tw_c20) rfl 2 (c1 := (138, [some (.ref 39), none, none, none, none, none, some (.long y3), none, some (.long y4), none, some (.long y5), none, none, none, none, none], [], (I, (vp_updL L6 3908 ((y3 + y4) + y5)), tw_P tw dr rt 2, A1, J, 57))) rfl ?_
  have h := Option.some.inj h
  subst h
  exact tw_retE (cd := tw_c20) rfl rfl rfl rfl
