/-! the machine does what the functions say -/
theorem e_X1_runWithBoys (I : Nat → Int32) (L : Nat → Int64) (A : Nat → Nat → Int32) (J : Nat → Nat → Int64) (rt : Nat) (a1 : Int32) : ∀ r : ((Nat → Int32) × (Nat → Nat → Int32)), g_X1_runWithBoys I A a1 = some r → tw_ME 14 (0, [some (.ref 39), some (.int a1)], [], (I, L, tw_P 2 14 rt 2, A, J, 57)) (none, ((r.1), L, tw_P 2 14 rt 2, (r.2), J, 57)) := by
  intro r h
  unfold g_X1_runWithBoys at h
  refine tw_blk (cd := tw_c14) rfl 6 (c1 := (6, [some (.ref 39), some (.int a1)], [.int 2, .int a1, .ref 2, .ref 39], (I, L, tw_P 2 14 rt 2, A, J, 57))) rfl ?_
  refine tw_callE (cd := tw_c14) rfl rfl rfl rfl rfl (e_X8_fact_2 I L A J rt 2 a1 (2 : Int32) _ rfl) (by exact Or.inl rfl) ?_
  obtain ⟨A1, hx2, h⟩ := tw_bindE h
  refine tw_callE (cd := tw_c14) rfl rfl rfl rfl rfl (e_X1_watch I L A J rt (g_X8_fact_2 A a1 (2 : Int32)) _ hx2) (by exact Or.inl rfl) ?_
  refine tw_blk (cd := tw_c14) rfl 7 (c1 := (15, [some (.ref 39), some (.int a1)], [.int 3, .int a1, .ref 2, .int a1, .ref 39], (I, L, tw_P 2 14 rt 2, A1, J, 57))) rfl ?_
  refine tw_callE (cd := tw_c14) rfl rfl rfl rfl rfl (e_X8_fact_2 I L A1 J rt 2 a1 (3 : Int32) _ rfl) (by exact Or.inl rfl) ?_
  refine tw_blk (cd := tw_c14) rfl 4 (c1 := (20, [some (.ref 39), some (.int a1)], [.int 0, .ref 2, .int (g_X8_fact_2 A1 a1 (3 : Int32)), .int a1, .ref 39], (I, L, tw_P 2 14 rt 2, A1, J, 57))) rfl ?_
  refine tw_callE (cd := tw_c14) rfl rfl rfl rfl rfl (e_X8_count_2 I L A1 J rt 2 (0 : Int32) _ rfl) (by exact Or.inl rfl) ?_
  obtain ⟨I3, hx4, h⟩ := tw_bindE h
  refine tw_callE (cd := tw_c14) rfl rfl rfl rfl rfl (e_X1_go I L A1 J rt a1 (g_X8_fact_2 A1 a1 (3 : Int32)) (g_X8_count_2 A1 (0 : Int32)) _ hx4) (by exact Or.inl rfl) ?_
  have h := Option.some.inj h
  subst h
  exact tw_retE (cd := tw_c14) rfl rfl rfl rfl
theorem e_X9_runsBy (I : Nat → Int32) (L : Nat → Int64) (A : Nat → Nat → Int32) (J : Nat → Nat → Int64) (rt : Nat) (sc : Nat) (a1 : Int32) (a2 : Int32) : ∀ r : (Bool × (Nat → Int32) × (Nat → Nat → Int32)), g_X9_runsBy I A a1 a2 = some r → tw_ME 187 (0, [some (.ref 0), some (.int a1), some (.int a2)], [], (I, L, tw_P 2 14 rt sc, A, J, 57)) (some (.int (tw_b r.1)), ((r.2.1), L, tw_P 2 14 rt (bif r.1 then 2 else sc), (r.2.2), J, 57)) := by
  intro r h
  unfold g_X9_runsBy at h
  refine tw_blk (cd := tw_c187) rfl 2 (c1 := (2, [some (.ref 0), some (.int a1), some (.int a2)], [.int a1, .ref 0], (I, L, tw_P 2 14 rt sc, A, J, 57))) rfl ?_
  refine tw_callE (cd := tw_c187) rfl rfl rfl rfl rfl (e_X9_isQuarrel I L A J rt sc a1 _ rfl) (by exact Or.inl rfl) ?_
  by_cases hc1 : (g_X9_isQuarrel A a1) = true
  · rw [if_pos hc1] at h
    refine tw_br (cd := tw_c187) rfl rfl rfl (by exact if_neg (tw_b_t hc1)) ?_
    refine tw_blk (cd := tw_c187) rfl 1 (c1 := (9, [some (.ref 0), some (.int a1), some (.int a2)], [.int a2], (I, L, tw_P 2 14 rt sc, A, J, 57))) rfl ?_
    by_cases hc2 : a2 < 0
    · rw [if_pos hc2] at h
      refine tw_br (cd := tw_c187) rfl rfl rfl (by exact if_pos hc2) ?_
      refine tw_blk (cd := tw_c187) rfl 2 (c1 := (15, [some (.ref 0), some (.int a1), some (.int a2)], [.int 2, .ref 0], (I, L, tw_P 2 14 rt sc, A, J, 57))) rfl ?_
      obtain ⟨⟨c3, I4⟩, hx5, h⟩ := tw_letE h
      dsimp only at h
      refine tw_callE (cd := tw_c187) rfl rfl rfl rfl rfl (e_X9_deny I L A J rt sc (2 : Int32) _ hx5) (by exact Or.inl rfl) ?_
      have h := Option.some.inj h
      subst h
      exact tw_retZ (cd := tw_c187) (b := c3) rfl rfl rfl rfl
    · rw [if_neg hc2] at h
      refine tw_br (cd := tw_c187) rfl rfl rfl (by exact if_neg hc2) ?_
      refine tw_blk (cd := tw_c187) rfl 2 (c1 := (12, [some (.ref 0), some (.int a1), some (.int a2)], [.int 65537, .int a2], (I, L, tw_P 2 14 rt sc, A, J, 57))) rfl ?_
      by_cases hc6 : a2 < (65537 : Int32)
      · rw [if_pos hc6] at h
        refine tw_br (cd := tw_c187) rfl rfl rfl (by exact if_pos hc6) ?_
        refine tw_blk (cd := tw_c187) rfl 1 (c1 := (18, [some (.ref 0), some (.int a1), some (.int a2)], [.ref 0], (I, L, tw_P 2 14 rt sc, A, J, 57))) rfl ?_
        obtain ⟨⟨I7, A8⟩, hx9, h⟩ := tw_bindE h
        dsimp only at h
        refine tw_callE (cd := tw_c187) rfl rfl rfl rfl rfl (e_X9_showNow I L A J rt sc _ hx9) (by exact Or.inl rfl) ?_
        refine tw_blk (cd := tw_c187) rfl 7 (c1 := (26, [some (.ref 0), some (.int a1), some (.int a2)], [.int a1, .ref 39], ((upd I7 3907 a2), L, tw_P 2 14 rt 2, A8, J, 57))) rfl ?_
        obtain ⟨⟨I10, A11⟩, hx12, h⟩ := tw_bindE h
        dsimp only at h
        refine tw_callE (cd := tw_c187) rfl rfl rfl rfl rfl (e_X1_runWithBoys (upd I7 3907 a2) L A8 J rt a1 _ hx12) (by exact Or.inl rfl) ?_
        refine tw_blk (cd := tw_c187) rfl 1 (c1 := (28, [some (.ref 0), some (.int a1), some (.int a2)], [.int 1], (I10, L, tw_P 2 14 rt 2, A11, J, 57))) rfl ?_
        have h := Option.some.inj h
        subst h
        exact tw_retZ (cd := tw_c187) (b := true) rfl rfl rfl rfl
      · rw [if_neg hc6] at h
        refine tw_br (cd := tw_c187) rfl rfl rfl (by exact if_neg hc6) ?_
        refine tw_blk (cd := tw_c187) rfl 2 (c1 := (15, [some (.ref 0), some (.int a1), some (.int a2)], [.int 2, .ref 0], (I, L, tw_P 2 14 rt sc, A, J, 57))) rfl ?_
        obtain ⟨⟨c13, I14⟩, hx15, h⟩ := tw_letE h
        dsimp only at h
        refine tw_callE (cd := tw_c187) rfl rfl rfl rfl rfl (e_X9_deny I L A J rt sc (2 : Int32) _ hx15) (by exact Or.inl rfl) ?_
        have h := Option.some.inj h
        subst h
        exact tw_retZ (cd := tw_c187) (b := c13) rfl rfl rfl rfl
  · rw [if_neg hc1] at h
    refine tw_br (cd := tw_c187) rfl rfl rfl (by exact if_pos (tw_b_f hc1)) ?_
    refine tw_blk (cd := tw_c187) rfl 2 (c1 := (6, [some (.ref 0), some (.int a1), some (.int a2)], [.int 1, .ref 0], (I, L, tw_P 2 14 rt sc, A, J, 57))) rfl ?_
    obtain ⟨⟨c16, I17⟩, hx18, h⟩ := tw_letE h
    dsimp only at h
    refine tw_callE (cd := tw_c187) rfl rfl rfl rfl rfl (e_X9_deny I L A J rt sc (1 : Int32) _ hx18) (by exact Or.inl rfl) ?_
    have h := Option.some.inj h
    subst h
    exact tw_retZ (cd := tw_c187) (b := c16) rfl rfl rfl rfl
theorem e_X9_endsBy (I : Nat → Int32) (L : Nat → Int64) (A : Nat → Nat → Int32) (J : Nat → Nat → Int64) (rt : Nat) (sc : Nat) (a1 : Int32) (a2 : Int32) : ∀ r : (Int32 × (Nat → Int32) × (Nat → Nat → Int32) × Nat), g_X9_endsBy I A sc a1 a2 = some r → tw_ME 159 (0, [some (.ref 0), some (.int a1), some (.int a2)], [], (I, L, tw_P 2 14 rt sc, A, J, 57)) (some (.int r.1), ((r.2.1), L, tw_P 2 14 rt (r.2.2.2), (r.2.2.1), J, 57)) := by
  intro r h
  unfold g_X9_endsBy at h
  refine tw_blk (cd := tw_c159) rfl 3 (c1 := (3, [some (.ref 0), some (.int a1), some (.int a2)], [.int a2, .int a1, .ref 0], (I, L, tw_P 2 14 rt sc, A, J, 57))) rfl ?_
  obtain ⟨⟨c1, I2, A3⟩, hx4, h⟩ := tw_bindE h
  dsimp only at h
  refine tw_callE (cd := tw_c159) rfl rfl rfl rfl rfl (e_X9_runsBy I L A J rt sc a1 a2 _ hx4) (by exact Or.inl rfl) ?_
  by_cases hc5 : c1 = true
  · subst hc5
    rw [if_pos rfl] at h
    refine tw_br (cd := tw_c159) rfl rfl rfl (by exact rfl) ?_
    refine tw_blk (cd := tw_c159) rfl 4 (c1 := (9, [some (.ref 0), some (.int a1), some (.int a2)], [.int (I2 3902), .ref 0], (I2, L, tw_P 2 14 rt 2, A3, J, 57))) rfl ?_
    obtain ⟨⟨x6, I7⟩, hx8, h⟩ := tw_letE h
    dsimp only at h
    refine tw_callE (cd := tw_c159) rfl rfl rfl rfl rfl (e_X9_grant I2 L A3 J rt 2 (I2 3902) _ hx8) (by exact Or.inl rfl) ?_
    refine tw_blk (cd := tw_c159) rfl 1 (c1 := (12, [some (.ref 0), some (.int a1), some (.int a2)], [.int x6], (I7, L, tw_P 2 14 rt 2, A3, J, 57))) rfl ?_
    have h := Option.some.inj h
    subst h
    exact tw_retE (cd := tw_c159) rfl rfl rfl rfl
  · have hc5 := Bool.eq_false_iff.mpr hc5
    subst hc5
    rw [if_neg (by decide)] at h
    refine tw_br (cd := tw_c159) rfl rfl rfl (by exact rfl) ?_
    refine tw_blk (cd := tw_c159) rfl 1 (c1 := (12, [some (.ref 0), some (.int a1), some (.int a2)], [.int (-1)], (I2, L, tw_P 2 14 rt sc, A3, J, 57))) rfl ?_
    have h := Option.some.inj h
    subst h
    exact tw_retE (cd := tw_c159) rfl rfl rfl rfl
theorem e_X10_drawWhy (I : Nat → Int32) (L : Nat → Int64) (A : Nat → Nat → Int32) (J : Nat → Nat → Int64) (rt : Nat) (sc : Nat) (a1 : Int32) (a2 : Int32) (a3 : Int32) : ∀ r : (Int32 × (Nat → Int32) × (Nat → Nat → Int32)), g_X10_drawWhy I A a1 a2 a3 = some r → tw_ME 304 (0, [some (.ref 44), some (.int a1), some (.int a2), some (.int a3), none], [], (I, L, tw_P 2 14 rt sc, A, J, 57)) (some (.int r.1), ((r.2.1), L, tw_P 2 14 rt sc, (r.2.2), J, 57)) := by
  intro r h
  unfold g_X10_drawWhy at h
  refine tw_blk (cd := tw_c304) rfl 3 (c1 := (3, [some (.ref 44), some (.int a1), some (.int a2), some (.int a3), none], [.int a1, .ref 44, .ref 44], (I, L, tw_P 2 14 rt sc, A, J, 57))) rfl ?_
  obtain ⟨c1, hx2, h⟩ := tw_bindE h
  refine tw_callE (cd := tw_c304) rfl rfl rfl rfl rfl (e_X10_isQuarrel I L A J rt sc a1 _ hx2) (by exact Or.inl rfl) ?_
  refine tw_blk (cd := tw_c304) rfl 3 (c1 := (7, [some (.ref 44), some (.int a1), some (.int a2), some (.int a3), none], [.int 65536, .int 0, .int a2, .int (tw_b c1), .ref 44], (I, L, tw_P 2 14 rt sc, A, J, 57))) rfl ?_
  refine tw_callE (cd := tw_c304) rfl rfl rfl rfl rfl (e_X10_in I L A J rt sc a2 (0 : Int32) (65536 : Int32) _ rfl) (by exact Or.inl rfl) ?_
  obtain ⟨x4, hj5, h⟩ := tw_bindE h
  have K : tw_ME 304 (14, [some (.ref 44), none, some (.int a2), none, none], [.int x4, .int (tw_b c1), .ref 44], (I, L, tw_P 2 14 rt sc, A, J, 57)) (some (.int r.1), ((r.2.1), L, tw_P 2 14 rt sc, (r.2.2), J, 57)) := by
    refine tw_callE (cd := tw_c304) rfl rfl rfl rfl rfl (e_X10_why I L A J rt sc (tw_b c1) x4 _ rfl) (by exact Or.inl rfl) ?_
    refine tw_blk (cd := tw_c304) rfl 2 (c1 := (17, [some (.ref 44), none, some (.int a2), none, some (.int (g_X10_why (tw_b c1) x4))], [.int (g_X10_why (tw_b c1) x4)], (I, L, tw_P 2 14 rt sc, A, J, 57))) rfl ?_
    by_cases hc7 : (g_X10_why (tw_b c1) x4) = 0
    · rw [if_pos hc7] at h
      refine tw_br (cd := tw_c304) rfl rfl rfl (by exact if_pos hc7) ?_
      refine tw_blk (cd := tw_c304) rfl 1 (c1 := (21, [some (.ref 44), none, some (.int a2), none, some (.int (g_X10_why (tw_b c1) x4))], [.ref 44], (I, L, tw_P 2 14 rt sc, A, J, 57))) rfl ?_
      obtain ⟨A8, hx9, h⟩ := tw_bindE h
      refine tw_callE (cd := tw_c304) rfl rfl rfl rfl rfl (e_X10_asNow I L A J rt sc _ hx9) (by exact Or.inl rfl) ?_
      refine tw_blk (cd := tw_c304) rfl 7 (c1 := (29, [some (.ref 44), none, some (.int a2), none, some (.int (g_X10_why (tw_b c1) x4))], [.int 0], ((upd (upd I 4430 (-1 : Int32)) 4431 a2), L, tw_P 2 14 rt sc, A8, J, 57))) rfl ?_
      have h := Option.some.inj h
      subst h
      exact tw_retE (cd := tw_c304) rfl rfl rfl rfl
    · rw [if_neg hc7] at h
      refine tw_br (cd := tw_c304) rfl rfl rfl (by exact if_neg hc7) ?_
      refine tw_blk (cd := tw_c304) rfl 1 (c1 := (19, [some (.ref 44), none, some (.int a2), none, some (.int (g_X10_why (tw_b c1) x4))], [.int (g_X10_why (tw_b c1) x4)], (I, L, tw_P 2 14 rt sc, A, J, 57))) rfl ?_
      have h := Option.some.inj h
      subst h
      exact tw_retE (cd := tw_c304) rfl rfl rfl rfl
  by_cases hc3 : (g_X10_in a2 (0 : Int32) (65536 : Int32)) = true
  · rw [if_pos hc3] at hj5
    refine tw_br (cd := tw_c304) rfl rfl rfl (by exact if_neg (tw_b_t hc3)) ?_
    refine tw_blk (cd := tw_c304) rfl 1 (c1 := (10, [some (.ref 44), some (.int a1), some (.int a2), some (.int a3), none], [.int a3, .int (tw_b c1), .ref 44], (I, L, tw_P 2 14 rt sc, A, J, 57))) rfl ?_
    by_cases hc6 : a3 = 0
    · rw [if_pos hc6] at hj5
      refine tw_br (cd := tw_c304) rfl rfl rfl (by exact if_pos hc6) ?_
      refine tw_blk (cd := tw_c304) rfl 1 (c1 := (14, [some (.ref 44), some (.int a1), some (.int a2), some (.int a3), none], [.int 0, .int (tw_b c1), .ref 44], (I, L, tw_P 2 14 rt sc, A, J, 57))) rfl ?_
      refine tw_forget (ls2 := [some (.ref 44), none, some (.int a2), none, none]) ⟨rfl, rfl, trivial⟩ ?_
      have hj5s := Option.some.inj hj5
      subst hj5s
      exact K
    · rw [if_neg hc6] at hj5
      refine tw_br (cd := tw_c304) rfl rfl rfl (by exact if_neg hc6) ?_
      refine tw_blk (cd := tw_c304) rfl 2 (c1 := (14, [some (.ref 44), some (.int a1), some (.int a2), some (.int a3), none], [.int 1, .int (tw_b c1), .ref 44], (I, L, tw_P 2 14 rt sc, A, J, 57))) rfl ?_
      refine tw_forget (ls2 := [some (.ref 44), none, some (.int a2), none, none]) ⟨rfl, rfl, trivial⟩ ?_
      have hj5s := Option.some.inj hj5
      subst hj5s
      exact K
  · rw [if_neg hc3] at hj5
    refine tw_br (cd := tw_c304) rfl rfl rfl (by exact if_pos (tw_b_f hc3)) ?_
    refine tw_blk (cd := tw_c304) rfl 1 (c1 := (14, [some (.ref 44), some (.int a1), some (.int a2), some (.int a3), none], [.int 0, .int (tw_b c1), .ref 44], (I, L, tw_P 2 14 rt sc, A, J, 57))) rfl ?_
    refine tw_forget (ls2 := [some (.ref 44), none, some (.int a2), none, none]) ⟨rfl, rfl, trivial⟩ ?_
    have hj5s := Option.some.inj hj5
    subst hj5s
    exact K
theorem e_X10_endsBy (I : Nat → Int32) (L : Nat → Int64) (A : Nat → Nat → Int32) (J : Nat → Nat → Int64) (rt : Nat) (sc : Nat) (a1 : Int32) (a2 : Int32) : ∀ r : (Int32 × (Nat → Int32) × (Nat → Nat → Int32)), g_X10_endsBy I A a1 a2 = some r → tw_ME 305 (0, [some (.ref 44), some (.int a1), some (.int a2), none], [], (I, L, tw_P 2 14 rt sc, A, J, 57)) (some (.int r.1), ((r.2.1), L, tw_P 2 14 rt sc, (r.2.2), J, 57)) := by
  intro r h
  unfold g_X10_endsBy at h
  refine tw_blk (cd := tw_c305) rfl 1 (c1 := (1, [some (.ref 44), some (.int a1), some (.int a2), none], [.ref 44], (I, L, tw_P 2 14 rt sc, A, J, 57))) rfl ?_
  obtain ⟨I1, hx2, h⟩ := tw_letE h
  refine tw_callE (cd := tw_c305) rfl rfl rfl rfl rfl (e_X10_good I L A J rt sc _ hx2) (by exact Or.inl rfl) ?_
  refine tw_blk (cd := tw_c305) rfl 4 (c1 := (6, [some (.ref 44), some (.int a1), some (.int a2), none], [.int 1, .int a2, .int a1, .ref 44], (I1, L, tw_P 2 14 rt sc, A, J, 57))) rfl ?_
  obtain ⟨⟨x3, I4, A5⟩, hx6, h⟩ := tw_bindE h
  dsimp only at h
  refine tw_callE (cd := tw_c305) rfl rfl rfl rfl rfl (e_X10_drawWhy I1 L A J rt sc a1 a2 (1 : Int32) _ hx6) (by exact Or.inl rfl) ?_
  refine tw_blk (cd := tw_c305) rfl 2 (c1 := (9, [some (.ref 44), some (.int a1), some (.int a2), some (.int x3)], [.int x3], (I4, L, tw_P 2 14 rt sc, A5, J, 57))) rfl ?_
  by_cases hc7 : x3 = 0
  · rw [if_pos hc7] at h
    refine tw_br (cd := tw_c305) rfl rfl rfl (by exact if_pos hc7) ?_
    refine tw_blk (cd := tw_c305) rfl 2 (c1 := (16, [some (.ref 44), some (.int a1), some (.int a2), some (.int x3)], [.int a1, .ref 44], (I4, L, tw_P 2 14 rt sc, A5, J, 57))) rfl ?_
    obtain ⟨I8, hx9, h⟩ := tw_bindE h
    refine tw_callE (cd := tw_c305) rfl rfl rfl rfl rfl (e_X10_runWithBoys I4 L A5 J rt sc a1 _ hx9) (by exact Or.inl rfl) ?_
    refine tw_blk (cd := tw_c305) rfl 2 (c1 := (19, [some (.ref 44), some (.int a1), some (.int a2), some (.int x3)], [.int (I8 4425)], (I8, L, tw_P 2 14 rt sc, A5, J, 57))) rfl ?_
    have h := Option.some.inj h
    subst h
    exact tw_retE (cd := tw_c305) rfl rfl rfl rfl
  · rw [if_neg hc7] at h
    refine tw_br (cd := tw_c305) rfl rfl rfl (by exact if_neg hc7) ?_
    refine tw_blk (cd := tw_c305) rfl 2 (c1 := (12, [some (.ref 44), some (.int a1), some (.int a2), some (.int x3)], [.int x3, .ref 44], (I4, L, tw_P 2 14 rt sc, A5, J, 57))) rfl ?_
    obtain ⟨⟨x10, I11⟩, hx12, h⟩ := tw_letE h
    dsimp only at h
    refine tw_callE (cd := tw_c305) rfl rfl rfl rfl rfl (e_X10_no I4 L A5 J rt sc x3 _ hx12) (by exact Or.inl rfl) ?_
    have h := Option.some.inj h
    subst h
    exact tw_retE (cd := tw_c305) rfl rfl rfl rfl
theorem e_X9_endsByAt (I : Nat → Int32) (L : Nat → Int64) (A : Nat → Nat → Int32) (J : Nat → Nat → Int64) (rt : Nat) (sc : Nat) (a1 : Int32) (a2 : Int32) : ∀ r : (Int32 × (Nat → Int32) × (Nat → Nat → Int32) × Nat), g_X9_endsByAt I A sc a1 a2 = some r → tw_ME 160 (0, [some (.ref 0), some (.int a1), some (.int a2)], [], (I, L, tw_P 2 14 rt sc, A, J, 57)) (some (.int r.1), ((r.2.1), L, tw_P 2 14 rt (r.2.2.2), (r.2.2.1), J, 57)) := by
  intro r h
  unfold g_X9_endsByAt at h
  refine tw_blk (cd := tw_c160) rfl 3 (c1 := (3, [some (.ref 0), some (.int a1), some (.int a2)], [.int a2, .int a1, .ref 0], (I, L, tw_P 2 14 rt sc, A, J, 57))) rfl ?_
  obtain ⟨⟨c1, I2, A3⟩, hx4, h⟩ := tw_bindE h
  dsimp only at h
  refine tw_callE (cd := tw_c160) rfl rfl rfl rfl rfl (e_X9_runsBy I L A J rt sc a1 a2 _ hx4) (by exact Or.inl rfl) ?_
  by_cases hc5 : c1 = true
  · subst hc5
    rw [if_pos rfl] at h
    refine tw_br (cd := tw_c160) rfl rfl rfl (by exact rfl) ?_
    refine tw_blk (cd := tw_c160) rfl 4 (c1 := (9, [some (.ref 0), some (.int a1), some (.int a2)], [.int (I2 3903), .ref 0], (I2, L, tw_P 2 14 rt 2, A3, J, 57))) rfl ?_
    obtain ⟨⟨x6, I7⟩, hx8, h⟩ := tw_letE h
    dsimp only at h
    refine tw_callE (cd := tw_c160) rfl rfl rfl rfl rfl (e_X9_grant I2 L A3 J rt 2 (I2 3903) _ hx8) (by exact Or.inl rfl) ?_
    refine tw_blk (cd := tw_c160) rfl 1 (c1 := (12, [some (.ref 0), some (.int a1), some (.int a2)], [.int x6], (I7, L, tw_P 2 14 rt 2, A3, J, 57))) rfl ?_
    have h := Option.some.inj h
    subst h
    exact tw_retE (cd := tw_c160) rfl rfl rfl rfl
  · have hc5 := Bool.eq_false_iff.mpr hc5
    subst hc5
    rw [if_neg (by decide)] at h
    refine tw_br (cd := tw_c160) rfl rfl rfl (by exact rfl) ?_
    refine tw_blk (cd := tw_c160) rfl 1 (c1 := (12, [some (.ref 0), some (.int a1), some (.int a2)], [.int (-1)], (I2, L, tw_P 2 14 rt sc, A3, J, 57))) rfl ?_
    have h := Option.some.inj h
    subst h
    exact tw_retE (cd := tw_c160) rfl rfl rfl rfl
theorem e_X10_endsByAt (I : Nat → Int32) (L : Nat → Int64) (A : Nat → Nat → Int32) (J : Nat → Nat → Int64) (rt : Nat) (sc : Nat) (a1 : Int32) (a2 : Int32) : ∀ r : (Int32 × (Nat → Int32) × (Nat → Nat → Int32)), g_X10_endsByAt I A a1 a2 = some r → tw_ME 306 (0, [some (.ref 44), some (.int a1), some (.int a2), none], [], (I, L, tw_P 2 14 rt sc, A, J, 57)) (some (.int r.1), ((r.2.1), L, tw_P 2 14 rt sc, (r.2.2), J, 57)) := by
  intro r h
  unfold g_X10_endsByAt at h
  refine tw_blk (cd := tw_c306) rfl 1 (c1 := (1, [some (.ref 44), some (.int a1), some (.int a2), none], [.ref 44], (I, L, tw_P 2 14 rt sc, A, J, 57))) rfl ?_
  obtain ⟨I1, hx2, h⟩ := tw_letE h
  refine tw_callE (cd := tw_c306) rfl rfl rfl rfl rfl (e_X10_good I L A J rt sc _ hx2) (by exact Or.inl rfl) ?_
  refine tw_blk (cd := tw_c306) rfl 4 (c1 := (6, [some (.ref 44), some (.int a1), some (.int a2), none], [.int 1, .int a2, .int a1, .ref 44], (I1, L, tw_P 2 14 rt sc, A, J, 57))) rfl ?_
  obtain ⟨⟨x3, I4, A5⟩, hx6, h⟩ := tw_bindE h
  dsimp only at h
  refine tw_callE (cd := tw_c306) rfl rfl rfl rfl rfl (e_X10_drawWhy I1 L A J rt sc a1 a2 (1 : Int32) _ hx6) (by exact Or.inl rfl) ?_
  refine tw_blk (cd := tw_c306) rfl 2 (c1 := (9, [some (.ref 44), some (.int a1), some (.int a2), some (.int x3)], [.int x3], (I4, L, tw_P 2 14 rt sc, A5, J, 57))) rfl ?_
  by_cases hc7 : x3 = 0
  · rw [if_pos hc7] at h
    refine tw_br (cd := tw_c306) rfl rfl rfl (by exact if_pos hc7) ?_
    refine tw_blk (cd := tw_c306) rfl 2 (c1 := (16, [some (.ref 44), some (.int a1), some (.int a2), some (.int x3)], [.int a1, .ref 44], (I4, L, tw_P 2 14 rt sc, A5, J, 57))) rfl ?_
    obtain ⟨I8, hx9, h⟩ := tw_bindE h
    refine tw_callE (cd := tw_c306) rfl rfl rfl rfl rfl (e_X10_runWithBoys I4 L A5 J rt sc a1 _ hx9) (by exact Or.inl rfl) ?_
    refine tw_blk (cd := tw_c306) rfl 2 (c1 := (19, [some (.ref 44), some (.int a1), some (.int a2), some (.int x3)], [.int (I8 4426)], (I8, L, tw_P 2 14 rt sc, A5, J, 57))) rfl ?_
    have h := Option.some.inj h
    subst h
    exact tw_retE (cd := tw_c306) rfl rfl rfl rfl
  · rw [if_neg hc7] at h
    refine tw_br (cd := tw_c306) rfl rfl rfl (by exact if_neg hc7) ?_
    refine tw_blk (cd := tw_c306) rfl 2 (c1 := (12, [some (.ref 44), some (.int a1), some (.int a2), some (.int x3)], [.int x3, .ref 44], (I4, L, tw_P 2 14 rt sc, A5, J, 57))) rfl ?_
    obtain ⟨⟨x10, I11⟩, hx12, h⟩ := tw_letE h
    dsimp only at h
    refine tw_callE (cd := tw_c306) rfl rfl rfl rfl rfl (e_X10_no I4 L A5 J rt sc x3 _ hx12) (by exact Or.inl rfl) ?_
    have h := Option.some.inj h
    subst h
    exact tw_retE (cd := tw_c306) rfl rfl rfl rfl
theorem g_X9_wins_L1_ok (I : Nat → Int32) (L : Nat → Int64) (A : Nat → Nat → Int32) (J : Nat → Nat → Int64) (rt : Nat) (sc : Nat) (a1 : Int32) (a2 : Int32) (a3 : Int32) (x3 : Int32) (I4 : Nat → Int32) (x7 : Int32) (I8 : Nat → Int32) (x11 : Int32) (I12 : Nat → Int32) (I15 : Nat → Int32) (A16 : Nat → Nat → Int32) (out : Option Value × tw_S) : ∀ (n : Nat) (v1_4 : Int32) (v1_5 : Int32) (I_1 : Nat → Int32) (A_1 : Nat → Nat → Int32) (ex : (Int32 × (Nat → Int32) × (Nat → Nat → Int32))), g_X9_wins_L1 a1 a3 n v1_4 v1_5 I_1 A_1 = some ex → tw_ME 161 (46, [some (.ref 0), none, none, none, some (.int (ex.1)), none], [], ((ex.2.1), L, tw_P 2 14 rt 2, (ex.2.2), J, 57)) out → tw_ME 161 (32, [some (.ref 0), some (.int a1), none, some (.int a3), some (.int v1_4), some (.int v1_5)], [], (I_1, L, tw_P 2 14 rt 2, A_1, J, 57)) out := by
  intro n
  induction n with
  | zero =>
    intro v1_4 v1_5 I_1 A_1 ex h _
    cases h
  | succ n ih =>
    intro v1_4 v1_5 I_1 A_1 ex h K
    rw [g_X9_wins_L1] at h
    refine tw_blk (cd := tw_c161) rfl 1 (c1 := (33, [some (.ref 0), some (.int a1), none, some (.int a3), some (.int v1_4), some (.int v1_5)], [.int v1_5], (I_1, L, tw_P 2 14 rt 2, A_1, J, 57))) rfl ?_
    refine tw_blk (cd := tw_c161) rfl 1 (c1 := (34, [some (.ref 0), some (.int a1), none, some (.int a3), some (.int v1_4), some (.int v1_5)], [.int a3, .int v1_5], (I_1, L, tw_P 2 14 rt 2, A_1, J, 57))) rfl ?_
    by_cases hc21 : a3 ≤ v1_5
    · rw [if_pos hc21] at h
      refine tw_br (cd := tw_c161) rfl rfl rfl (by exact if_pos hc21) ?_
      refine tw_forget (ls2 := [some (.ref 0), none, none, none, some (.int v1_4), none]) ⟨rfl, rfl, trivial⟩ ?_
      have h := Option.some.inj h
      subst h
      exact K
    · rw [if_neg hc21] at h
      refine tw_br (cd := tw_c161) rfl rfl rfl (by exact if_neg hc21) ?_
      refine tw_blk (cd := tw_c161) rfl 3 (c1 := (38, [some (.ref 0), some (.int a1), none, some (.int a3), some (.int v1_4), some (.int v1_5)], [.int a1, .ref 39], (I_1, L, tw_P 2 14 rt 2, A_1, J, 57))) rfl ?_
      obtain ⟨⟨I22, A23⟩, hx24, h⟩ := tw_bindE h
      dsimp only at h
      refine tw_callE (cd := tw_c161) rfl rfl rfl rfl rfl (e_X1_runWithBoys I_1 L A_1 J rt a1 _ hx24) (by exact Or.inl rfl) ?_
      refine tw_blk (cd := tw_c161) rfl 2 (c1 := (41, [some (.ref 0), some (.int a1), none, some (.int a3), some (.int v1_4), some (.int v1_5)], [.ref 39], (I22, L, tw_P 2 14 rt 2, A23, J, 57))) rfl ?_
      refine tw_callE (cd := tw_c161) rfl rfl rfl rfl rfl (e_X1_isWon I22 L A23 J rt _ rfl) (by exact Or.inl rfl) ?_
      obtain ⟨x26, hj27, h⟩ := tw_bindE h
      have K : tw_ME 161 (44, [some (.ref 0), some (.int a1), none, some (.int a3), some (.int x26), some (.int v1_5)], [], (I22, L, tw_P 2 14 rt 2, A23, J, 57)) out := by
        refine tw_blk (cd := tw_c161) rfl 2 (c1 := (32, [some (.ref 0), some (.int a1), none, some (.int a3), some (.int x26), some (.int (v1_5 + (1 : Int32)))], [], (I22, L, tw_P 2 14 rt 2, A23, J, 57))) rfl ?_
        exact ih x26 (v1_5 + (1 : Int32)) I22 A23 _ h K
      by_cases hc25 : (g_X1_isWon I22) = true
      · rw [if_pos hc25] at hj27
        refine tw_br (cd := tw_c161) rfl rfl rfl (by exact if_neg (tw_b_t hc25)) ?_
        refine tw_blk (cd := tw_c161) rfl 1 (c1 := (44, [some (.ref 0), some (.int a1), none, some (.int a3), some (.int (v1_4 + (1 : Int32))), some (.int v1_5)], [], (I22, L, tw_P 2 14 rt 2, A23, J, 57))) rfl ?_
        have hj27s := Option.some.inj hj27
        subst hj27s
        exact K
      · rw [if_neg hc25] at hj27
        refine tw_br (cd := tw_c161) rfl rfl rfl (by exact if_pos (tw_b_f hc25)) ?_
        have hj27s := Option.some.inj hj27
        subst hj27s
        exact K
theorem e_X9_wins (I : Nat → Int32) (L : Nat → Int64) (A : Nat → Nat → Int32) (J : Nat → Nat → Int64) (rt : Nat) (sc : Nat) (a1 : Int32) (a2 : Int32) (a3 : Int32) : ∀ r : (Int32 × (Nat → Int32) × (Nat → Nat → Int32) × Nat), g_X9_wins I A sc a1 a2 a3 = some r → tw_ME 161 (0, [some (.ref 0), some (.int a1), some (.int a2), some (.int a3), none, none], [], (I, L, tw_P 2 14 rt sc, A, J, 57)) (some (.int r.1), ((r.2.1), L, tw_P 2 14 rt (r.2.2.2), (r.2.2.1), J, 57)) := by
  intro r h
  unfold g_X9_wins at h
  refine tw_blk (cd := tw_c161) rfl 2 (c1 := (2, [some (.ref 0), some (.int a1), some (.int a2), some (.int a3), none, none], [.int a1, .ref 0], (I, L, tw_P 2 14 rt sc, A, J, 57))) rfl ?_
  refine tw_callE (cd := tw_c161) rfl rfl rfl rfl rfl (e_X9_isQuarrel I L A J rt sc a1 _ rfl) (by exact Or.inl rfl) ?_
  by_cases hc1 : (g_X9_isQuarrel A a1) = true
  · rw [if_pos hc1] at h
    refine tw_br (cd := tw_c161) rfl rfl rfl (by exact if_neg (tw_b_t hc1)) ?_
    refine tw_blk (cd := tw_c161) rfl 1 (c1 := (9, [some (.ref 0), some (.int a1), some (.int a2), some (.int a3), none, none], [.int a2], (I, L, tw_P 2 14 rt sc, A, J, 57))) rfl ?_
    by_cases hc2 : a2 < 0
    · rw [if_pos hc2] at h
      refine tw_br (cd := tw_c161) rfl rfl rfl (by exact if_pos hc2) ?_
      refine tw_blk (cd := tw_c161) rfl 2 (c1 := (20, [some (.ref 0), some (.int a1), some (.int a2), some (.int a3), none, none], [.int 2, .ref 0], (I, L, tw_P 2 14 rt sc, A, J, 57))) rfl ?_
      obtain ⟨⟨x3, I4⟩, hx5, h⟩ := tw_letE h
      dsimp only at h
      refine tw_callE (cd := tw_c161) rfl rfl rfl rfl rfl (e_X9_refuse I L A J rt sc (2 : Int32) _ hx5) (by exact Or.inl rfl) ?_
      have h := Option.some.inj h
      subst h
      exact tw_retE (cd := tw_c161) rfl rfl rfl rfl
    · rw [if_neg hc2] at h
      refine tw_br (cd := tw_c161) rfl rfl rfl (by exact if_neg hc2) ?_
      refine tw_blk (cd := tw_c161) rfl 2 (c1 := (12, [some (.ref 0), some (.int a1), some (.int a2), some (.int a3), none, none], [.int 65537, .int a2], (I, L, tw_P 2 14 rt sc, A, J, 57))) rfl ?_
      by_cases hc6 : (65537 : Int32) ≤ a2
      · rw [if_pos hc6] at h
        refine tw_br (cd := tw_c161) rfl rfl rfl (by exact if_pos hc6) ?_
        refine tw_blk (cd := tw_c161) rfl 2 (c1 := (20, [some (.ref 0), some (.int a1), some (.int a2), some (.int a3), none, none], [.int 2, .ref 0], (I, L, tw_P 2 14 rt sc, A, J, 57))) rfl ?_
        obtain ⟨⟨x7, I8⟩, hx9, h⟩ := tw_letE h
        dsimp only at h
        refine tw_callE (cd := tw_c161) rfl rfl rfl rfl rfl (e_X9_refuse I L A J rt sc (2 : Int32) _ hx9) (by exact Or.inl rfl) ?_
        have h := Option.some.inj h
        subst h
        exact tw_retE (cd := tw_c161) rfl rfl rfl rfl
      · rw [if_neg hc6] at h
        refine tw_br (cd := tw_c161) rfl rfl rfl (by exact if_neg hc6) ?_
        refine tw_blk (cd := tw_c161) rfl 1 (c1 := (14, [some (.ref 0), some (.int a1), some (.int a2), some (.int a3), none, none], [.int a3], (I, L, tw_P 2 14 rt sc, A, J, 57))) rfl ?_
        by_cases hc10 : a3 < 0
        · rw [if_pos hc10] at h
          refine tw_br (cd := tw_c161) rfl rfl rfl (by exact if_pos hc10) ?_
          refine tw_blk (cd := tw_c161) rfl 2 (c1 := (20, [some (.ref 0), some (.int a1), some (.int a2), some (.int a3), none, none], [.int 2, .ref 0], (I, L, tw_P 2 14 rt sc, A, J, 57))) rfl ?_
          obtain ⟨⟨x11, I12⟩, hx13, h⟩ := tw_letE h
          dsimp only at h
          refine tw_callE (cd := tw_c161) rfl rfl rfl rfl rfl (e_X9_refuse I L A J rt sc (2 : Int32) _ hx13) (by exact Or.inl rfl) ?_
          have h := Option.some.inj h
          subst h
          exact tw_retE (cd := tw_c161) rfl rfl rfl rfl
        · rw [if_neg hc10] at h
          refine tw_br (cd := tw_c161) rfl rfl rfl (by exact if_neg hc10) ?_
          refine tw_blk (cd := tw_c161) rfl 2 (c1 := (17, [some (.ref 0), some (.int a1), some (.int a2), some (.int a3), none, none], [.int 30, .int a3], (I, L, tw_P 2 14 rt sc, A, J, 57))) rfl ?_
          by_cases hc14 : a3 ≤ (30 : Int32)
          · rw [if_pos hc14] at h
            refine tw_br (cd := tw_c161) rfl rfl rfl (by exact if_pos hc14) ?_
            refine tw_blk (cd := tw_c161) rfl 1 (c1 := (23, [some (.ref 0), some (.int a1), some (.int a2), some (.int a3), none, none], [.ref 0], (I, L, tw_P 2 14 rt sc, A, J, 57))) rfl ?_
            obtain ⟨⟨I15, A16⟩, hx17, h⟩ := tw_bindE h
            dsimp only at h
            refine tw_callE (cd := tw_c161) rfl rfl rfl rfl rfl (e_X9_showNow I L A J rt sc _ hx17) (by exact Or.inl rfl) ?_
            refine tw_blk (cd := tw_c161) rfl 8 (c1 := (32, [some (.ref 0), some (.int a1), some (.int a2), some (.int a3), some (.int 0), some (.int 0)], [], ((upd I15 3907 a2), L, tw_P 2 14 rt 2, A16, J, 57))) rfl ?_
            obtain ⟨⟨x18, I19, A20⟩, hx31, h⟩ := tw_bindE h
            dsimp only at h
            refine tw_forget (ls2 := [some (.ref 0), some (.int a1), none, some (.int a3), some (.int 0), some (.int 0)]) ⟨rfl, rfl, rfl, rfl, rfl, trivial⟩ ?_
            refine g_X9_wins_L1_ok I L A J rt sc a1 a2 a3 x3 I4 x7 I8 x11 I12 I15 A16 _ 4096 (0 : Int32) (0 : Int32) (upd I15 3907 a2) A16 _ hx31 ?_
            refine tw_blk (cd := tw_c161) rfl 2 (c1 := (48, [some (.ref 0), none, none, none, some (.int x18), none], [.int x18, .ref 0], (I19, L, tw_P 2 14 rt 2, A20, J, 57))) rfl ?_
            obtain ⟨⟨x28, I29⟩, hx30, h⟩ := tw_letE h
            dsimp only at h
            refine tw_callE (cd := tw_c161) rfl rfl rfl rfl rfl (e_X9_grant I19 L A20 J rt 2 x18 _ hx30) (by exact Or.inl rfl) ?_
            have h := Option.some.inj h
            subst h
            exact tw_retE (cd := tw_c161) rfl rfl rfl rfl
          · rw [if_neg hc14] at h
            refine tw_br (cd := tw_c161) rfl rfl rfl (by exact if_neg hc14) ?_
            refine tw_blk (cd := tw_c161) rfl 2 (c1 := (20, [some (.ref 0), some (.int a1), some (.int a2), some (.int a3), none, none], [.int 2, .ref 0], (I, L, tw_P 2 14 rt sc, A, J, 57))) rfl ?_
            obtain ⟨⟨x32, I33⟩, hx34, h⟩ := tw_letE h
            dsimp only at h
            refine tw_callE (cd := tw_c161) rfl rfl rfl rfl rfl (e_X9_refuse I L A J rt sc (2 : Int32) _ hx34) (by exact Or.inl rfl) ?_
            have h := Option.some.inj h
            subst h
            exact tw_retE (cd := tw_c161) rfl rfl rfl rfl
  · rw [if_neg hc1] at h
    refine tw_br (cd := tw_c161) rfl rfl rfl (by exact if_pos (tw_b_f hc1)) ?_
    refine tw_blk (cd := tw_c161) rfl 2 (c1 := (6, [some (.ref 0), some (.int a1), some (.int a2), some (.int a3), none, none], [.int 1, .ref 0], (I, L, tw_P 2 14 rt sc, A, J, 57))) rfl ?_
    obtain ⟨⟨x35, I36⟩, hx37, h⟩ := tw_letE h
    dsimp only at h
    refine tw_callE (cd := tw_c161) rfl rfl rfl rfl rfl (e_X9_refuse I L A J rt sc (1 : Int32) _ hx37) (by exact Or.inl rfl) ?_
    have h := Option.some.inj h
    subst h
    exact tw_retE (cd := tw_c161) rfl rfl rfl rfl
theorem g_X10_wins_L1_ok (I : Nat → Int32) (L : Nat → Int64) (A : Nat → Nat → Int32) (J : Nat → Nat → Int64) (rt : Nat) (sc : Nat) (a1 : Int32) (a2 : Int32) (a3 : Int32) (I1 : Nat → Int32) (x3 : Int32) (I4 : Nat → Int32) (A5 : Nat → Nat → Int32) (out : Option Value × tw_S) : ∀ (n : Nat) (v1_5 : Int32) (v1_6 : Int32) (I_1 : Nat → Int32) (ex : (Int32 × (Nat → Int32))), g_X10_wins_L1 a1 a3 A5 n v1_5 v1_6 I_1 = some ex → tw_ME 307 (38, [none, none, none, none, none, some (.int (ex.1)), none], [], ((ex.2), L, tw_P 2 14 rt sc, A5, J, 57)) out → tw_ME 307 (21, [some (.ref 44), some (.int a1), none, some (.int a3), none, some (.int v1_5), some (.int v1_6)], [], (I_1, L, tw_P 2 14 rt sc, A5, J, 57)) out := by
  intro n
  induction n with
  | zero =>
    intro v1_5 v1_6 I_1 ex h _
    cases h
  | succ n ih =>
    intro v1_5 v1_6 I_1 ex h K
    rw [g_X10_wins_L1] at h
    refine tw_blk (cd := tw_c307) rfl 1 (c1 := (22, [some (.ref 44), some (.int a1), none, some (.int a3), none, some (.int v1_5), some (.int v1_6)], [.int v1_6], (I_1, L, tw_P 2 14 rt sc, A5, J, 57))) rfl ?_
    refine tw_blk (cd := tw_c307) rfl 1 (c1 := (23, [some (.ref 44), some (.int a1), none, some (.int a3), none, some (.int v1_5), some (.int v1_6)], [.int a3, .int v1_6], (I_1, L, tw_P 2 14 rt sc, A5, J, 57))) rfl ?_
    by_cases hc10 : a3 ≤ v1_6
    · rw [if_pos hc10] at h
      refine tw_br (cd := tw_c307) rfl rfl rfl (by exact if_pos hc10) ?_
      refine tw_forget (ls2 := [none, none, none, none, none, some (.int v1_5), none]) ⟨rfl, trivial⟩ ?_
      have h := Option.some.inj h
      subst h
      exact K
    · rw [if_neg hc10] at h
      refine tw_br (cd := tw_c307) rfl rfl rfl (by exact if_neg hc10) ?_
      refine tw_blk (cd := tw_c307) rfl 2 (c1 := (26, [some (.ref 44), some (.int a1), none, some (.int a3), none, some (.int v1_5), some (.int v1_6)], [.int a1, .ref 44], (I_1, L, tw_P 2 14 rt sc, A5, J, 57))) rfl ?_
      obtain ⟨I11, hx12, h⟩ := tw_bindE h
      refine tw_callE (cd := tw_c307) rfl rfl rfl rfl rfl (e_X10_runWithBoys I_1 L A5 J rt sc a1 _ hx12) (by exact Or.inl rfl) ?_
      refine tw_blk (cd := tw_c307) rfl 3 (c1 := (30, [some (.ref 44), some (.int a1), none, some (.int a3), none, some (.int v1_5), some (.int v1_6)], [.int (I11 4425), .int v1_5], (I11, L, tw_P 2 14 rt sc, A5, J, 57))) rfl ?_
      obtain ⟨x14, hj15, h⟩ := tw_bindE h
      have K : tw_ME 307 (34, [some (.ref 44), some (.int a1), none, some (.int a3), none, none, some (.int v1_6)], [.int x14, .int v1_5], (I11, L, tw_P 2 14 rt sc, A5, J, 57)) out := by
        refine tw_blk (cd := tw_c307) rfl 4 (c1 := (21, [some (.ref 44), some (.int a1), none, some (.int a3), none, some (.int (v1_5 + x14)), some (.int (v1_6 + (1 : Int32)))], [], (I11, L, tw_P 2 14 rt sc, A5, J, 57))) rfl ?_
        exact ih (v1_5 + x14) (v1_6 + (1 : Int32)) I11 _ h K
      by_cases hc13 : (I11 4425) ≤ 0
      · rw [if_pos hc13] at hj15
        refine tw_br (cd := tw_c307) rfl rfl rfl (by exact if_pos hc13) ?_
        refine tw_blk (cd := tw_c307) rfl 1 (c1 := (34, [some (.ref 44), some (.int a1), none, some (.int a3), none, some (.int v1_5), some (.int v1_6)], [.int 0, .int v1_5], (I11, L, tw_P 2 14 rt sc, A5, J, 57))) rfl ?_
        refine tw_forget (ls2 := [some (.ref 44), some (.int a1), none, some (.int a3), none, none, some (.int v1_6)]) ⟨rfl, rfl, rfl, rfl, trivial⟩ ?_
        have hj15s := Option.some.inj hj15
        subst hj15s
        exact K
      · rw [if_neg hc13] at hj15
        refine tw_br (cd := tw_c307) rfl rfl rfl (by exact if_neg hc13) ?_
        refine tw_blk (cd := tw_c307) rfl 2 (c1 := (34, [some (.ref 44), some (.int a1), none, some (.int a3), none, some (.int v1_5), some (.int v1_6)], [.int 1, .int v1_5], (I11, L, tw_P 2 14 rt sc, A5, J, 57))) rfl ?_
        refine tw_forget (ls2 := [some (.ref 44), some (.int a1), none, some (.int a3), none, none, some (.int v1_6)]) ⟨rfl, rfl, rfl, rfl, trivial⟩ ?_
        have hj15s := Option.some.inj hj15
        subst hj15s
        exact K
theorem e_X10_wins (I : Nat → Int32) (L : Nat → Int64) (A : Nat → Nat → Int32) (J : Nat → Nat → Int64) (rt : Nat) (sc : Nat) (a1 : Int32) (a2 : Int32) (a3 : Int32) : ∀ r : (Int32 × (Nat → Int32) × (Nat → Nat → Int32)), g_X10_wins I A a1 a2 a3 = some r → tw_ME 307 (0, [some (.ref 44), some (.int a1), some (.int a2), some (.int a3), none, none, none], [], (I, L, tw_P 2 14 rt sc, A, J, 57)) (some (.int r.1), ((r.2.1), L, tw_P 2 14 rt sc, (r.2.2), J, 57)) := by
  intro r h
  unfold g_X10_wins at h
  refine tw_blk (cd := tw_c307) rfl 1 (c1 := (1, [some (.ref 44), some (.int a1), some (.int a2), some (.int a3), none, none, none], [.ref 44], (I, L, tw_P 2 14 rt sc, A, J, 57))) rfl ?_
  obtain ⟨I1, hx2, h⟩ := tw_letE h
  refine tw_callE (cd := tw_c307) rfl rfl rfl rfl rfl (e_X10_good I L A J rt sc _ hx2) (by exact Or.inl rfl) ?_
  refine tw_blk (cd := tw_c307) rfl 6 (c1 := (8, [some (.ref 44), some (.int a1), some (.int a2), some (.int a3), none, none, none], [.int 30, .int 0, .int a3, .int a2, .int a1, .ref 44], (I1, L, tw_P 2 14 rt sc, A, J, 57))) rfl ?_
  refine tw_callE (cd := tw_c307) rfl rfl rfl rfl rfl (e_X10_in I1 L A J rt sc a3 (0 : Int32) (30 : Int32) _ rfl) (by exact Or.inl rfl) ?_
  obtain ⟨⟨x3, I4, A5⟩, hx6, h⟩ := tw_bindE h
  dsimp only at h
  refine tw_callE (cd := tw_c307) rfl rfl rfl rfl rfl (e_X10_drawWhy I1 L A J rt sc a1 a2 (tw_b (g_X10_in a3 (0 : Int32) (30 : Int32))) _ hx6) (by exact Or.inl rfl) ?_
  refine tw_blk (cd := tw_c307) rfl 2 (c1 := (12, [some (.ref 44), some (.int a1), some (.int a2), some (.int a3), some (.int x3), none, none], [.int x3], (I4, L, tw_P 2 14 rt sc, A5, J, 57))) rfl ?_
  by_cases hc7 : x3 = 0
  · rw [if_pos hc7] at h
    refine tw_br (cd := tw_c307) rfl rfl rfl (by exact if_pos hc7) ?_
    refine tw_blk (cd := tw_c307) rfl 4 (c1 := (21, [some (.ref 44), some (.int a1), some (.int a2), some (.int a3), some (.int x3), some (.int 0), some (.int 0)], [], (I4, L, tw_P 2 14 rt sc, A5, J, 57))) rfl ?_
    obtain ⟨⟨x8, I9⟩, hx16, h⟩ := tw_bindE h
    dsimp only at h
    refine tw_forget (ls2 := [some (.ref 44), some (.int a1), none, some (.int a3), none, some (.int 0), some (.int 0)]) ⟨rfl, rfl, rfl, rfl, rfl, trivial⟩ ?_
    refine g_X10_wins_L1_ok I L A J rt sc a1 a2 a3 I1 x3 I4 A5 _ 4096 (0 : Int32) (0 : Int32) I4 _ hx16 ?_
    refine tw_blk (cd := tw_c307) rfl 1 (c1 := (39, [none, none, none, none, none, some (.int x8), none], [.int x8], (I9, L, tw_P 2 14 rt sc, A5, J, 57))) rfl ?_
    have h := Option.some.inj h
    subst h
    exact tw_retE (cd := tw_c307) rfl rfl rfl rfl
  · rw [if_neg hc7] at h
    refine tw_br (cd := tw_c307) rfl rfl rfl (by exact if_neg hc7) ?_
    refine tw_blk (cd := tw_c307) rfl 2 (c1 := (15, [some (.ref 44), some (.int a1), some (.int a2), some (.int a3), some (.int x3), none, none], [.int x3, .ref 44], (I4, L, tw_P 2 14 rt sc, A5, J, 57))) rfl ?_
    obtain ⟨⟨x17, I18⟩, hx19, h⟩ := tw_letE h
    dsimp only at h
    refine tw_callE (cd := tw_c307) rfl rfl rfl rfl rfl (e_X10_no I4 L A5 J rt sc x3 _ hx19) (by exact Or.inl rfl) ?_
    have h := Option.some.inj h
    subst h
    exact tw_retE (cd := tw_c307) rfl rfl rfl rfl
theorem e_X0_write_33_34 (I : Nat → Int32) (L : Nat → Int64) (A : Nat → Nat → Int32) (J : Nat → Nat → Int64) (rt : Nat) (sc : Nat) (a2 : Int32) : ∀ r : Nat → Nat → Int32, g_X0_write_33_34 I A a2 = r → tw_ME 9 (0, [some (.ref 33), some (.ref 34), some (.int a2)], [], (I, L, tw_P 2 14 rt sc, A, J, 57)) (none, (I, L, tw_P 2 14 rt sc, r, J, 57)) := by
  intro r h
  unfold g_X0_write_33_34 at h
  refine tw_blk (cd := tw_c9) rfl 6 (c1 := (6, [some (.ref 33), some (.ref 34), some (.int a2)], [.int (I 3300), .int (a2 * (3 : Int32)), .ref 34], (I, L, tw_P 2 14 rt sc, A, J, 57))) rfl ?_
  obtain ⟨w1, hw2, h⟩ := tw_letE h
  refine tw_callE (cd := tw_c9) rfl rfl rfl rfl rfl (tw_e_put I L (tw_P 2 14 rt sc) A J (q := 34) (N := 48) rfl rfl (by decide) (a2 * (3 : Int32)) (I 3300) w1 hw2) (by exact Or.inl rfl) ?_
  refine tw_blk (cd := tw_c9) rfl 8 (c1 := (15, [some (.ref 33), some (.ref 34), some (.int a2)], [.int (I 3301), .int ((a2 * (3 : Int32)) + (1 : Int32)), .ref 34], (I, L, tw_P 2 14 rt sc, (va_up A 34 w1), J, 57))) rfl ?_
  obtain ⟨w3, hw4, h⟩ := tw_letE h
  refine tw_callE (cd := tw_c9) rfl rfl rfl rfl rfl (tw_e_put I L (tw_P 2 14 rt sc) (va_up A 34 w1) J (q := 34) (N := 48) rfl rfl (by decide) ((a2 * (3 : Int32)) + (1 : Int32)) (I 3301) w3 hw4) (by exact Or.inl rfl) ?_
  refine tw_blk (cd := tw_c9) rfl 8 (c1 := (24, [some (.ref 33), some (.ref 34), some (.int a2)], [.int (I 3302), .int ((a2 * (3 : Int32)) + (2 : Int32)), .ref 34], (I, L, tw_P 2 14 rt sc, (va_up (va_up A 34 w1) 34 w3), J, 57))) rfl ?_
  obtain ⟨w5, hw6, h⟩ := tw_letE h
  refine tw_callE (cd := tw_c9) rfl rfl rfl rfl rfl (tw_e_put I L (tw_P 2 14 rt sc) (va_up (va_up A 34 w1) 34 w3) J (q := 34) (N := 48) rfl rfl (by decide) ((a2 * (3 : Int32)) + (2 : Int32)) (I 3302) w5 hw6) (by exact Or.inl rfl) ?_
  subst h
  exact tw_retE (cd := tw_c9) rfl rfl rfl rfl
theorem e_X0_keep (I : Nat → Int32) (L : Nat → Int64) (A : Nat → Nat → Int32) (J : Nat → Nat → Int64) (rt : Nat) (sc : Nat) : ∀ r : ((Nat → Int32) × (Nat → Nat → Int32)), g_X0_keep I A = r → tw_ME 5 (0, [some (.ref 33)], [], (I, L, tw_P 2 14 rt sc, A, J, 57)) (none, ((r.1), L, tw_P 2 14 rt sc, (r.2), J, 57)) := by
  intro r h
  unfold g_X0_keep at h
  refine tw_blk (cd := tw_c5) rfl 3 (c1 := (3, [some (.ref 33)], [.int 16, .int (I 3304)], (I, L, tw_P 2 14 rt sc, A, J, 57))) rfl ?_
  obtain ⟨⟨I2, A3⟩, hj4, h⟩ := tw_letE h
  dsimp only at h
  have K : tw_ME 5 (19, [some (.ref 33)], [], (I2, L, tw_P 2 14 rt sc, A3, J, 57)) (none, ((r.1), L, tw_P 2 14 rt sc, (r.2), J, 57)) := by
    refine tw_blk (cd := tw_c5) rfl 5 (c1 := (24, [some (.ref 33)], [.int (I2 3304), .ref 34, .ref 33], (I2, L, tw_P 2 14 rt sc, A3, J, 57))) rfl ?_
    obtain ⟨A7, hx8, h⟩ := tw_letE h
    refine tw_callE (cd := tw_c5) rfl rfl rfl rfl rfl (e_X0_write_33_34 I2 L A3 J rt sc (I2 3304) _ hx8) (by exact Or.inl rfl) ?_
    refine tw_blk (cd := tw_c5) rfl 6 (c1 := (31, [some (.ref 33)], [], ((upd I2 3304 ((I2 3304) + (1 : Int32))), L, tw_P 2 14 rt sc, A7, J, 57))) rfl ?_
    subst h
    exact tw_retE (cd := tw_c5) rfl rfl rfl rfl
  by_cases hc1 : (I 3304) < (16 : Int32)
  · rw [if_pos hc1] at hj4
    refine tw_br (cd := tw_c5) rfl rfl rfl (by exact if_pos hc1) ?_
    obtain ⟨hj4_0, hj4r0⟩ := Prod.mk.inj hj4
    subst hj4_0
    subst hj4r0
    exact K
  · rw [if_neg hc1] at hj4
    refine tw_br (cd := tw_c5) rfl rfl rfl (by exact if_neg hc1) ?_
    refine tw_blk (cd := tw_c5) rfl 11 (c1 := (15, [some (.ref 33)], [.int 45, .int 0, .ref 34, .int 3, .ref 34], (I, L, tw_P 2 14 rt sc, A, J, 57))) rfl ?_
    obtain ⟨w5, hw6, hj4⟩ := tw_letE hj4
    refine tw_acp (cd := tw_c5) (N1 := 48) (N2 := 48) rfl rfl rfl ⟨rfl, by decide⟩ ⟨rfl, by decide⟩ ⟨by decide, by decide, by decide⟩ ⟨by decide, by decide⟩ hw6 ?_
    refine tw_blk (cd := tw_c5) rfl 3 (c1 := (19, [some (.ref 33)], [], ((upd I 3304 (15 : Int32)), L, tw_P 2 14 rt sc, (va_up A 34 w5), J, 57))) rfl ?_
    obtain ⟨hj4_0, hj4r0⟩ := Prod.mk.inj hj4
    subst hj4_0
    subst hj4r0
    exact K
theorem e_X9_allow (I : Nat → Int32) (L : Nat → Int64) (A : Nat → Nat → Int32) (J : Nat → Nat → Int64) (rt : Nat) (sc : Nat) : ∀ r : (Bool × (Nat → Int32)), g_X9_allow I = r → tw_ME 176 (0, [some (.ref 0)], [], (I, L, tw_P 2 14 rt sc, A, J, 57)) (some (.int (tw_b r.1)), ((r.2), L, tw_P 2 14 rt sc, A, J, 57)) := by
  intro r h
  unfold g_X9_allow at h
  refine tw_blk (cd := tw_c176) rfl 4 (c1 := (4, [some (.ref 0)], [.int 1], ((upd I 12 (0 : Int32)), L, tw_P 2 14 rt sc, A, J, 57))) rfl ?_
  subst h
  exact tw_retZ (cd := tw_c176) (b := true) rfl rfl rfl rfl
theorem e_X9_brick (I : Nat → Int32) (L : Nat → Int64) (A : Nat → Nat → Int32) (J : Nat → Nat → Int64) (rt : Nat) (sc : Nat) (a1 : Int32) : ∀ r : (Bool × (Nat → Int32) × (Nat → Nat → Int32)), g_X9_brick I A a1 = r → tw_ME 162 (0, [some (.ref 0), some (.int a1)], [], (I, L, tw_P 2 14 rt sc, A, J, 57)) (some (.int (tw_b r.1)), ((r.2.1), L, tw_P 2 14 rt sc, (r.2.2), J, 57)) := by
  intro r h
  unfold g_X9_brick at h
  refine tw_blk (cd := tw_c162) rfl 2 (c1 := (2, [some (.ref 0), some (.int a1)], [.int a1, .ref 0], (I, L, tw_P 2 14 rt sc, A, J, 57))) rfl ?_
  refine tw_callE (cd := tw_c162) rfl rfl rfl rfl rfl (e_X9_isSight I L A J rt sc a1 _ rfl) (by exact Or.inl rfl) ?_
  by_cases hc1 : (g_X9_isSight A a1) = true
  · rw [if_pos hc1] at h
    refine tw_br (cd := tw_c162) rfl rfl rfl (by exact if_neg (tw_b_t hc1)) ?_
    refine tw_blk (cd := tw_c162) rfl 7 (c1 := (15, [some (.ref 0), some (.int a1)], [.int (((I 3300) >>> (a1 &&& 31)) &&& (1 : Int32))], (I, L, tw_P 2 14 rt sc, A, J, 57))) rfl ?_
    by_cases hc2 : (((I 3300) >>> (a1 &&& 31)) &&& (1 : Int32)) = 0
    · rw [if_pos hc2] at h
      refine tw_br (cd := tw_c162) rfl rfl rfl (by exact if_pos hc2) ?_
      refine tw_blk (cd := tw_c162) rfl 2 (c1 := (22, [some (.ref 0), some (.int a1)], [.ref 33], (I, L, tw_P 2 14 rt sc, A, J, 57))) rfl ?_
      obtain ⟨⟨I3, A4⟩, hx5, h⟩ := tw_letE h
      dsimp only at h
      refine tw_callE (cd := tw_c162) rfl rfl rfl rfl rfl (e_X0_keep I L A J rt sc _ hx5) (by exact Or.inl rfl) ?_
      refine tw_blk (cd := tw_c162) rfl 10 (c1 := (33, [some (.ref 0), some (.int a1)], [.ref 0], ((upd I3 3300 ((I3 3300) ||| ((1 : Int32) <<< (a1 &&& 31)))), L, tw_P 2 14 rt sc, A4, J, 57))) rfl ?_
      obtain ⟨⟨c6, I7⟩, hx8, h⟩ := tw_letE h
      dsimp only at h
      refine tw_callE (cd := tw_c162) rfl rfl rfl rfl rfl (e_X9_allow (upd I3 3300 ((I3 3300) ||| ((1 : Int32) <<< (a1 &&& 31)))) L A4 J rt sc _ hx8) (by exact Or.inl rfl) ?_
      subst h
      exact tw_retZ (cd := tw_c162) (b := c6) rfl rfl rfl rfl
    · rw [if_neg hc2] at h
      refine tw_br (cd := tw_c162) rfl rfl rfl (by exact if_neg hc2) ?_
      refine tw_blk (cd := tw_c162) rfl 2 (c1 := (18, [some (.ref 0), some (.int a1)], [.int 5, .ref 0], (I, L, tw_P 2 14 rt sc, A, J, 57))) rfl ?_
      obtain ⟨⟨c9, I10⟩, hx11, h⟩ := tw_letE h
      dsimp only at h
      refine tw_callE (cd := tw_c162) rfl rfl rfl rfl rfl (e_X9_deny I L A J rt sc (5 : Int32) _ hx11) (by exact Or.inl rfl) ?_
      subst h
      exact tw_retZ (cd := tw_c162) (b := c9) rfl rfl rfl rfl
  · rw [if_neg hc1] at h
    refine tw_br (cd := tw_c162) rfl rfl rfl (by exact if_pos (tw_b_f hc1)) ?_
    refine tw_blk (cd := tw_c162) rfl 2 (c1 := (6, [some (.ref 0), some (.int a1)], [.int 1, .ref 0], (I, L, tw_P 2 14 rt sc, A, J, 57))) rfl ?_
    obtain ⟨⟨c12, I13⟩, hx14, h⟩ := tw_letE h
    dsimp only at h
    refine tw_callE (cd := tw_c162) rfl rfl rfl rfl rfl (e_X9_deny I L A J rt sc (1 : Int32) _ hx14) (by exact Or.inl rfl) ?_
    subst h
    exact tw_retZ (cd := tw_c162) (b := c12) rfl rfl rfl rfl
theorem e_X10_isNot (I : Nat → Int32) (L : Nat → Int64) (A : Nat → Nat → Int32) (J : Nat → Nat → Int64) (rt : Nat) (sc : Nat) (a1 : Int32) : ∀ r : (Bool × (Nat → Int32)), g_X10_isNot I a1 = r → tw_ME 195 (0, [some (.ref 44), some (.int a1)], [], (I, L, tw_P 2 14 rt sc, A, J, 57)) (some (.int (tw_b r.1)), ((r.2), L, tw_P 2 14 rt sc, A, J, 57)) := by
  intro r h
  unfold g_X10_isNot at h
  refine tw_blk (cd := tw_c195) rfl 4 (c1 := (4, [some (.ref 44), some (.int a1)], [.int 0], ((upd I 4411 a1), L, tw_P 2 14 rt sc, A, J, 57))) rfl ?_
  subst h
  exact tw_retZ (cd := tw_c195) (b := false) rfl rfl rfl rfl
theorem g_X10_note_L1_ok (I : Nat → Int32) (L : Nat → Int64) (A : Nat → Nat → Int32) (J : Nat → Nat → Int64) (rt : Nat) (sc : Nat) (out : Option Value × tw_S) : ∀ (n : Nat) (v1_1 : Int32) (A_1 : Nat → Nat → Int32) (ex : Nat → Nat → Int32), g_X10_note_L1 n v1_1 A_1 = some ex → tw_ME 308 (21, [some (.ref 44), none], [], (I, L, tw_P 2 14 rt sc, ex, J, 57)) out → tw_ME 308 (6, [some (.ref 44), some (.int v1_1)], [], (I, L, tw_P 2 14 rt sc, A_1, J, 57)) out := by
  intro n
  induction n with
  | zero =>
    intro v1_1 A_1 ex h _
    cases h
  | succ n ih =>
    intro v1_1 A_1 ex h K
    rw [g_X10_note_L1] at h
    refine tw_blk (cd := tw_c308) rfl 1 (c1 := (7, [some (.ref 44), some (.int v1_1)], [.int v1_1], (I, L, tw_P 2 14 rt sc, A_1, J, 57))) rfl ?_
    refine tw_blk (cd := tw_c308) rfl 1 (c1 := (8, [some (.ref 44), some (.int v1_1)], [.int 120, .int v1_1], (I, L, tw_P 2 14 rt sc, A_1, J, 57))) rfl ?_
    by_cases hc6 : (120 : Int32) ≤ v1_1
    · rw [if_pos hc6] at h
      refine tw_br (cd := tw_c308) rfl rfl rfl (by exact if_pos hc6) ?_
      refine tw_forget (ls2 := [some (.ref 44), none]) ⟨rfl, trivial⟩ ?_
      have h := Option.some.inj h
      subst h
      exact K
    · rw [if_neg hc6] at h
      refine tw_br (cd := tw_c308) rfl rfl rfl (by exact if_neg hc6) ?_
      refine tw_blk (cd := tw_c308) rfl 8 (c1 := (17, [some (.ref 44), some (.int v1_1)], [.int (v1_1 + (8 : Int32)), .ref 50, .int v1_1, .ref 50], (I, L, tw_P 2 14 rt sc, A_1, J, 57))) rfl ?_
      obtain ⟨x8, hx7, h⟩ := tw_bindE h
      refine tw_iald (cd := tw_c308) (N := 128) rfl rfl rfl rfl hx7 ?_
      obtain ⟨w10, hx9, h⟩ := tw_bindE h
      refine tw_iast (cd := tw_c308) (N := 128) rfl rfl rfl rfl hx9 ?_
      refine tw_blk (cd := tw_c308) rfl 2 (c1 := (6, [some (.ref 44), some (.int (v1_1 + (1 : Int32)))], [], (I, L, tw_P 2 14 rt sc, (va_up A_1 50 w10), J, 57))) rfl ?_
      exact ih (v1_1 + (1 : Int32)) (va_up A_1 50 w10) _ h K
theorem e_X10_note (I : Nat → Int32) (L : Nat → Int64) (A : Nat → Nat → Int32) (J : Nat → Nat → Int64) (rt : Nat) (sc : Nat) : ∀ r : ((Nat → Int32) × (Nat → Nat → Int32)), g_X10_note I A = some r → tw_ME 308 (0, [some (.ref 44), none], [], (I, L, tw_P 2 14 rt sc, A, J, 57)) (none, ((r.1), L, tw_P 2 14 rt sc, (r.2), J, 57)) := by
  intro r h
  unfold g_X10_note at h
  refine tw_blk (cd := tw_c308) rfl 3 (c1 := (3, [some (.ref 44), none], [.int 16, .int (I 4420)], (I, L, tw_P 2 14 rt sc, A, J, 57))) rfl ?_
  obtain ⟨⟨I2, A3⟩, hj4, h⟩ := tw_bindE h
  dsimp only at h
  have K : tw_ME 308 (27, [some (.ref 44), none], [], (I2, L, tw_P 2 14 rt sc, A3, J, 57)) (none, ((r.1), L, tw_P 2 14 rt sc, (r.2), J, 57)) := by
    refine tw_blk (cd := tw_c308) rfl 10 (c1 := (37, [some (.ref 44), none], [.int 8, .int ((8 : Int32) * (I2 4420)), .ref 50, .int 0, .ref 49], (I2, L, tw_P 2 14 rt sc, A3, J, 57))) rfl ?_
    obtain ⟨w12, hw13, h⟩ := tw_bindE h
    refine tw_callE (cd := tw_c308) rfl rfl rfl rfl rfl (tw_e_copy I2 L (tw_P 2 14 rt sc) A3 J (q1 := 49) (q2 := 50) (N1 := 8) (N2 := 128) rfl rfl rfl rfl (by decide) (0 : Int32) ((8 : Int32) * (I2 4420)) (8 : Int32) w12 hw13) (by exact Or.inl rfl) ?_
    refine tw_blk (cd := tw_c308) rfl 6 (c1 := (44, [some (.ref 44), none], [], ((upd I2 4420 ((I2 4420) + (1 : Int32))), L, tw_P 2 14 rt sc, (va_up A3 50 w12), J, 57))) rfl ?_
    have h := Option.some.inj h
    subst h
    exact tw_retE (cd := tw_c308) rfl rfl rfl rfl
  by_cases hc1 : (I 4420) = (16 : Int32)
  · rw [if_pos hc1] at hj4
    refine tw_br (cd := tw_c308) rfl rfl rfl (by exact if_pos hc1) ?_
    refine tw_blk (cd := tw_c308) rfl 2 (c1 := (6, [some (.ref 44), some (.int 0)], [], (I, L, tw_P 2 14 rt sc, A, J, 57))) rfl ?_
    obtain ⟨A5, hx11, hj4⟩ := tw_bindE hj4
    refine g_X10_note_L1_ok I L A J rt sc _ 4096 (0 : Int32) A _ hx11 ?_
    refine tw_blk (cd := tw_c308) rfl 6 (c1 := (27, [some (.ref 44), none], [], ((upd I 4420 ((I 4420) - (1 : Int32))), L, tw_P 2 14 rt sc, A5, J, 57))) rfl ?_
    have hj4s := Option.some.inj hj4
    obtain ⟨hj4_0, hj4r0⟩ := Prod.mk.inj hj4s
    subst hj4_0
    subst hj4r0
    exact K
  · rw [if_neg hc1] at hj4
    refine tw_br (cd := tw_c308) rfl rfl rfl (by exact if_neg hc1) ?_
    have hj4s := Option.some.inj hj4
    obtain ⟨hj4_0, hj4r0⟩ := Prod.mk.inj hj4s
    subst hj4_0
    subst hj4r0
    exact K
theorem e_X10_becomes (I : Nat → Int32) (L : Nat → Int64) (A : Nat → Nat → Int32) (J : Nat → Nat → Int64) (rt : Nat) (sc : Nat) (a1 : Int32) (a2 : Int32) : ∀ r : (Bool × (Nat → Int32) × (Nat → Nat → Int32)), g_X10_becomes I A a1 a2 = some r → tw_ME 309 (0, [some (.ref 44), some (.int a1), some (.int a2)], [], (I, L, tw_P 2 14 rt sc, A, J, 57)) (some (.int (tw_b r.1)), ((r.2.1), L, tw_P 2 14 rt sc, (r.2.2), J, 57)) := by
  intro r h
  unfold g_X10_becomes at h
  refine tw_blk (cd := tw_c309) rfl 2 (c1 := (2, [some (.ref 44), some (.int a1), some (.int a2)], [.int a1, .ref 44], (I, L, tw_P 2 14 rt sc, A, J, 57))) rfl ?_
  obtain ⟨c1, hx2, h⟩ := tw_bindE h
  refine tw_callE (cd := tw_c309) rfl rfl rfl rfl rfl (e_X10_isSight I L A J rt sc a1 _ hx2) (by exact Or.inl rfl) ?_
  by_cases hc3 : c1 = true
  · rw [if_pos hc3] at h
    refine tw_br (cd := tw_c309) rfl rfl rfl (by exact if_neg (tw_b_t hc3)) ?_
    refine tw_blk (cd := tw_c309) rfl 3 (c1 := (11, [some (.ref 44), some (.int a1), some (.int a2)], [.int 6, .ref 49], (I, L, tw_P 2 14 rt sc, A, J, 57))) rfl ?_
    obtain ⟨x5, hx4, h⟩ := tw_bindE h
    refine tw_iald (cd := tw_c309) (N := 8) rfl rfl rfl rfl hx4 ?_
    refine tw_blk (cd := tw_c309) rfl 1 (c1 := (13, [some (.ref 44), some (.int a1), some (.int a2)], [.int a1, .int x5], (I, L, tw_P 2 14 rt sc, A, J, 57))) rfl ?_
    refine tw_callE (cd := tw_c309) rfl rfl rfl rfl rfl (e_X10_hasBit I L A J rt sc x5 a1 _ rfl) (by exact Or.inl rfl) ?_
    refine tw_blk (cd := tw_c309) rfl 1 (c1 := (15, [some (.ref 44), some (.int a1), some (.int a2)], [.int a2, .int (tw_b (g_X10_hasBit x5 a1))], (I, L, tw_P 2 14 rt sc, A, J, 57))) rfl ?_
    by_cases hc6 : (tw_b (g_X10_hasBit x5 a1)) = a2
    · rw [if_pos hc6] at h
      refine tw_br (cd := tw_c309) rfl rfl rfl (by exact if_pos hc6) ?_
      refine tw_blk (cd := tw_c309) rfl 2 (c1 := (18, [some (.ref 44), some (.int a1), some (.int a2)], [.int 5, .ref 44], (I, L, tw_P 2 14 rt sc, A, J, 57))) rfl ?_
      obtain ⟨⟨c7, I8⟩, hx9, h⟩ := tw_letE h
      dsimp only at h
      refine tw_callE (cd := tw_c309) rfl rfl rfl rfl rfl (e_X10_isNot I L A J rt sc (5 : Int32) _ hx9) (by exact Or.inl rfl) ?_
      have h := Option.some.inj h
      subst h
      exact tw_retZ (cd := tw_c309) (b := c7) rfl rfl rfl rfl
    · rw [if_neg hc6] at h
      refine tw_br (cd := tw_c309) rfl rfl rfl (by exact if_neg hc6) ?_
      refine tw_blk (cd := tw_c309) rfl 1 (c1 := (21, [some (.ref 44), some (.int a1), some (.int a2)], [.ref 44], (I, L, tw_P 2 14 rt sc, A, J, 57))) rfl ?_
      obtain ⟨⟨I10, A11⟩, hx12, h⟩ := tw_bindE h
      dsimp only at h
      refine tw_callE (cd := tw_c309) rfl rfl rfl rfl rfl (e_X10_note I L A J rt sc _ hx12) (by exact Or.inl rfl) ?_
      refine tw_blk (cd := tw_c309) rfl 4 (c1 := (26, [some (.ref 44), some (.int a1), some (.int a2)], [.int 6, .ref 49, .int 6, .ref 49], (I10, L, tw_P 2 14 rt sc, A11, J, 57))) rfl ?_
      obtain ⟨x14, hx13, h⟩ := tw_bindE h
      refine tw_iald (cd := tw_c309) (N := 8) rfl rfl rfl rfl hx13 ?_
      refine tw_blk (cd := tw_c309) rfl 4 (c1 := (31, [some (.ref 44), some (.int a1), some (.int a2)], [.int (x14 ^^^ ((1 : Int32) <<< (a1 &&& 31))), .int 6, .ref 49], (I10, L, tw_P 2 14 rt sc, A11, J, 57))) rfl ?_
      obtain ⟨w16, hx15, h⟩ := tw_bindE h
      refine tw_iast (cd := tw_c309) (N := 8) rfl rfl rfl rfl hx15 ?_
      refine tw_blk (cd := tw_c309) rfl 1 (c1 := (33, [some (.ref 44), some (.int a1), some (.int a2)], [.int 1], (I10, L, tw_P 2 14 rt sc, (va_up A11 49 w16), J, 57))) rfl ?_
      have h := Option.some.inj h
      subst h
      exact tw_retZ (cd := tw_c309) (b := true) rfl rfl rfl rfl
  · rw [if_neg hc3] at h
    refine tw_br (cd := tw_c309) rfl rfl rfl (by exact if_pos (tw_b_f hc3)) ?_
    refine tw_blk (cd := tw_c309) rfl 2 (c1 := (6, [some (.ref 44), some (.int a1), some (.int a2)], [.int 1, .ref 44], (I, L, tw_P 2 14 rt sc, A, J, 57))) rfl ?_
    obtain ⟨⟨c17, I18⟩, hx19, h⟩ := tw_letE h
    dsimp only at h
    refine tw_callE (cd := tw_c309) rfl rfl rfl rfl rfl (e_X10_isNot I L A J rt sc (1 : Int32) _ hx19) (by exact Or.inl rfl) ?_
    have h := Option.some.inj h
    subst h
    exact tw_retZ (cd := tw_c309) (b := c17) rfl rfl rfl rfl
theorem e_X10_brick (I : Nat → Int32) (L : Nat → Int64) (A : Nat → Nat → Int32) (J : Nat → Nat → Int64) (rt : Nat) (sc : Nat) (a1 : Int32) : ∀ r : (Bool × (Nat → Int32) × (Nat → Nat → Int32)), g_X10_brick I A a1 = some r → tw_ME 310 (0, [some (.ref 44), some (.int a1)], [], (I, L, tw_P 2 14 rt sc, A, J, 57)) (some (.int (tw_b r.1)), ((r.2.1), L, tw_P 2 14 rt sc, (r.2.2), J, 57)) := by
  intro r h
  unfold g_X10_brick at h
  refine tw_blk (cd := tw_c310) rfl 1 (c1 := (1, [some (.ref 44), some (.int a1)], [.ref 44], (I, L, tw_P 2 14 rt sc, A, J, 57))) rfl ?_
  obtain ⟨I1, hx2, h⟩ := tw_letE h
  refine tw_callE (cd := tw_c310) rfl rfl rfl rfl rfl (e_X10_good I L A J rt sc _ hx2) (by exact Or.inl rfl) ?_
  refine tw_blk (cd := tw_c310) rfl 3 (c1 := (5, [some (.ref 44), some (.int a1)], [.int 1, .int a1, .ref 44], (I1, L, tw_P 2 14 rt sc, A, J, 57))) rfl ?_
  obtain ⟨⟨c3, I4, A5⟩, hx6, h⟩ := tw_bindE h
  dsimp only at h
  refine tw_callE (cd := tw_c310) rfl rfl rfl rfl rfl (e_X10_becomes I1 L A J rt sc a1 (1 : Int32) _ hx6) (by exact Or.inl rfl) ?_
  have h := Option.some.inj h
  subst h
  exact tw_retZ (cd := tw_c310) (b := c3) rfl rfl rfl rfl
theorem e_X9_open (I : Nat → Int32) (L : Nat → Int64) (A : Nat → Nat → Int32) (J : Nat → Nat → Int64) (rt : Nat) (sc : Nat) (a1 : Int32) : ∀ r : (Bool × (Nat → Int32) × (Nat → Nat → Int32)), g_X9_open I A a1 = r → tw_ME 163 (0, [some (.ref 0), some (.int a1)], [], (I, L, tw_P 2 14 rt sc, A, J, 57)) (some (.int (tw_b r.1)), ((r.2.1), L, tw_P 2 14 rt sc, (r.2.2), J, 57)) := by
  intro r h
  unfold g_X9_open at h
  refine tw_blk (cd := tw_c163) rfl 2 (c1 := (2, [some (.ref 0), some (.int a1)], [.int a1, .ref 0], (I, L, tw_P 2 14 rt sc, A, J, 57))) rfl ?_
  refine tw_callE (cd := tw_c163) rfl rfl rfl rfl rfl (e_X9_isSight I L A J rt sc a1 _ rfl) (by exact Or.inl rfl) ?_
  by_cases hc1 : (g_X9_isSight A a1) = true
  · rw [if_pos hc1] at h
    refine tw_br (cd := tw_c163) rfl rfl rfl (by exact if_neg (tw_b_t hc1)) ?_
    refine tw_blk (cd := tw_c163) rfl 7 (c1 := (15, [some (.ref 0), some (.int a1)], [.int (((I 3300) >>> (a1 &&& 31)) &&& (1 : Int32))], (I, L, tw_P 2 14 rt sc, A, J, 57))) rfl ?_
    by_cases hc2 : (((I 3300) >>> (a1 &&& 31)) &&& (1 : Int32)) = 0
    · rw [if_pos hc2] at h
      refine tw_br (cd := tw_c163) rfl rfl rfl (by exact if_pos hc2) ?_
      refine tw_blk (cd := tw_c163) rfl 2 (c1 := (18, [some (.ref 0), some (.int a1)], [.int 5, .ref 0], (I, L, tw_P 2 14 rt sc, A, J, 57))) rfl ?_
      obtain ⟨⟨c3, I4⟩, hx5, h⟩ := tw_letE h
      dsimp only at h
      refine tw_callE (cd := tw_c163) rfl rfl rfl rfl rfl (e_X9_deny I L A J rt sc (5 : Int32) _ hx5) (by exact Or.inl rfl) ?_
      subst h
      exact tw_retZ (cd := tw_c163) (b := c3) rfl rfl rfl rfl
    · rw [if_neg hc2] at h
      refine tw_br (cd := tw_c163) rfl rfl rfl (by exact if_neg hc2) ?_
      refine tw_blk (cd := tw_c163) rfl 2 (c1 := (22, [some (.ref 0), some (.int a1)], [.ref 33], (I, L, tw_P 2 14 rt sc, A, J, 57))) rfl ?_
      obtain ⟨⟨I6, A7⟩, hx8, h⟩ := tw_letE h
      dsimp only at h
      refine tw_callE (cd := tw_c163) rfl rfl rfl rfl rfl (e_X0_keep I L A J rt sc _ hx8) (by exact Or.inl rfl) ?_
      refine tw_blk (cd := tw_c163) rfl 12 (c1 := (35, [some (.ref 0), some (.int a1)], [.ref 0], ((upd I6 3300 ((I6 3300) &&& (((1 : Int32) <<< (a1 &&& 31)) ^^^ (-1 : Int32)))), L, tw_P 2 14 rt sc, A7, J, 57))) rfl ?_
      obtain ⟨⟨c9, I10⟩, hx11, h⟩ := tw_letE h
      dsimp only at h
      refine tw_callE (cd := tw_c163) rfl rfl rfl rfl rfl (e_X9_allow (upd I6 3300 ((I6 3300) &&& (((1 : Int32) <<< (a1 &&& 31)) ^^^ (-1 : Int32)))) L A7 J rt sc _ hx11) (by exact Or.inl rfl) ?_
      subst h
      exact tw_retZ (cd := tw_c163) (b := c9) rfl rfl rfl rfl
  · rw [if_neg hc1] at h
    refine tw_br (cd := tw_c163) rfl rfl rfl (by exact if_pos (tw_b_f hc1)) ?_
    refine tw_blk (cd := tw_c163) rfl 2 (c1 := (6, [some (.ref 0), some (.int a1)], [.int 1, .ref 0], (I, L, tw_P 2 14 rt sc, A, J, 57))) rfl ?_
    obtain ⟨⟨c12, I13⟩, hx14, h⟩ := tw_letE h
    dsimp only at h
    refine tw_callE (cd := tw_c163) rfl rfl rfl rfl rfl (e_X9_deny I L A J rt sc (1 : Int32) _ hx14) (by exact Or.inl rfl) ?_
    subst h
    exact tw_retZ (cd := tw_c163) (b := c12) rfl rfl rfl rfl
theorem e_X10_open (I : Nat → Int32) (L : Nat → Int64) (A : Nat → Nat → Int32) (J : Nat → Nat → Int64) (rt : Nat) (sc : Nat) (a1 : Int32) : ∀ r : (Bool × (Nat → Int32) × (Nat → Nat → Int32)), g_X10_open I A a1 = some r → tw_ME 311 (0, [some (.ref 44), some (.int a1)], [], (I, L, tw_P 2 14 rt sc, A, J, 57)) (some (.int (tw_b r.1)), ((r.2.1), L, tw_P 2 14 rt sc, (r.2.2), J, 57)) := by
  intro r h
  unfold g_X10_open at h
  refine tw_blk (cd := tw_c311) rfl 1 (c1 := (1, [some (.ref 44), some (.int a1)], [.ref 44], (I, L, tw_P 2 14 rt sc, A, J, 57))) rfl ?_
  obtain ⟨I1, hx2, h⟩ := tw_letE h
  refine tw_callE (cd := tw_c311) rfl rfl rfl rfl rfl (e_X10_good I L A J rt sc _ hx2) (by exact Or.inl rfl) ?_
  refine tw_blk (cd := tw_c311) rfl 3 (c1 := (5, [some (.ref 44), some (.int a1)], [.int 0, .int a1, .ref 44], (I1, L, tw_P 2 14 rt sc, A, J, 57))) rfl ?_
  obtain ⟨⟨c3, I4, A5⟩, hx6, h⟩ := tw_bindE h
  dsimp only at h
  refine tw_callE (cd := tw_c311) rfl rfl rfl rfl rfl (e_X10_becomes I1 L A J rt sc a1 (0 : Int32) _ hx6) (by exact Or.inl rfl) ?_
  have h := Option.some.inj h
  subst h
  exact tw_retZ (cd := tw_c311) (b := c3) rfl rfl rfl rfl
theorem e_X9_hire (I : Nat → Int32) (L : Nat → Int64) (A : Nat → Nat → Int32) (J : Nat → Nat → Int64) (rt : Nat) (sc : Nat) (a1 : Int32) (a2 : Int32) : ∀ r : (Int32 × (Nat → Int32) × (Nat → Nat → Int32)), g_X9_hire I A a1 a2 = r → tw_ME 164 (0, [some (.ref 0), some (.int a1), some (.int a2)], [], (I, L, tw_P 2 14 rt sc, A, J, 57)) (some (.int r.1), ((r.2.1), L, tw_P 2 14 rt sc, (r.2.2), J, 57)) := by
  intro r h
  unfold g_X9_hire at h
  refine tw_blk (cd := tw_c164) rfl 2 (c1 := (2, [some (.ref 0), some (.int a1), some (.int a2)], [.int a1, .ref 0], (I, L, tw_P 2 14 rt sc, A, J, 57))) rfl ?_
  refine tw_callE (cd := tw_c164) rfl rfl rfl rfl rfl (e_X9_isPerson I L A J rt sc a1 _ rfl) (by exact Or.inl rfl) ?_
  by_cases hc1 : (g_X9_isPerson A a1) = true
  · rw [if_pos hc1] at h
    refine tw_br (cd := tw_c164) rfl rfl rfl (by exact if_neg (tw_b_t hc1)) ?_
    refine tw_blk (cd := tw_c164) rfl 2 (c1 := (6, [some (.ref 0), some (.int a1), some (.int a2)], [.int a2, .ref 0], (I, L, tw_P 2 14 rt sc, A, J, 57))) rfl ?_
    refine tw_callE (cd := tw_c164) rfl rfl rfl rfl rfl (e_X9_isPlace I L A J rt sc a2 _ rfl) (by exact Or.inl rfl) ?_
    by_cases hc2 : (g_X9_isPlace A a2) = true
    · rw [if_pos hc2] at h
      refine tw_br (cd := tw_c164) rfl rfl rfl (by exact if_neg (tw_b_t hc2)) ?_
      refine tw_blk (cd := tw_c164) rfl 3 (c1 := (15, [some (.ref 0), some (.int a1), some (.int a2)], [.int a1, .ref 2], (I, L, tw_P 2 14 rt sc, A, J, 57))) rfl ?_
      refine tw_callE (cd := tw_c164) rfl rfl rfl rfl rfl (e_X8_canBeHired_2 I L A J rt sc a1 _ rfl) (by exact Or.inl rfl) ?_
      by_cases hc3 : (g_X8_canBeHired_2 A a1) = true
      · rw [if_pos hc3] at h
        refine tw_br (cd := tw_c164) rfl rfl rfl (by exact if_neg (tw_b_t hc3)) ?_
        refine tw_blk (cd := tw_c164) rfl 4 (c1 := (21, [some (.ref 0), some (.int a1), some (.int a2)], [.int a1, .int (I 3301)], (I, L, tw_P 2 14 rt sc, A, J, 57))) rfl ?_
        refine tw_callE (cd := tw_c164) rfl rfl rfl rfl rfl (e_X0_sentTo I L A J rt sc (I 3301) a1 _ rfl) (by exact Or.inl rfl) ?_
        refine tw_blk (cd := tw_c164) rfl 1 (c1 := (23, [some (.ref 0), some (.int a1), some (.int a2)], [.int a2, .int (g_X0_sentTo (I 3301) a1)], (I, L, tw_P 2 14 rt sc, A, J, 57))) rfl ?_
        by_cases hc4 : (g_X0_sentTo (I 3301) a1) = a2
        · rw [if_pos hc4] at h
          refine tw_br (cd := tw_c164) rfl rfl rfl (by exact if_pos hc4) ?_
          refine tw_blk (cd := tw_c164) rfl 2 (c1 := (26, [some (.ref 0), some (.int a1), some (.int a2)], [.int 5, .ref 0], (I, L, tw_P 2 14 rt sc, A, J, 57))) rfl ?_
          obtain ⟨⟨x5, I6⟩, hx7, h⟩ := tw_letE h
          dsimp only at h
          refine tw_callE (cd := tw_c164) rfl rfl rfl rfl rfl (e_X9_refuse I L A J rt sc (5 : Int32) _ hx7) (by exact Or.inl rfl) ?_
          subst h
          exact tw_retE (cd := tw_c164) rfl rfl rfl rfl
        · rw [if_neg hc4] at h
          refine tw_br (cd := tw_c164) rfl rfl rfl (by exact if_neg hc4) ?_
          refine tw_blk (cd := tw_c164) rfl 2 (c1 := (30, [some (.ref 0), some (.int a1), some (.int a2)], [.ref 33], (I, L, tw_P 2 14 rt sc, A, J, 57))) rfl ?_
          obtain ⟨⟨I8, A9⟩, hx10, h⟩ := tw_letE h
          dsimp only at h
          refine tw_callE (cd := tw_c164) rfl rfl rfl rfl rfl (e_X0_keep I L A J rt sc _ hx10) (by exact Or.inl rfl) ?_
          refine tw_blk (cd := tw_c164) rfl 7 (c1 := (38, [some (.ref 0), some (.int a1), some (.int a2)], [.int a2, .int a1, .int (I8 3301), .ref 33], (I8, L, tw_P 2 14 rt sc, A9, J, 57))) rfl ?_
          refine tw_callE (cd := tw_c164) rfl rfl rfl rfl rfl (e_X0_sending I8 L A9 J rt sc (I8 3301) a1 a2 _ rfl) (by exact Or.inl rfl) ?_
          refine tw_blk (cd := tw_c164) rfl 9 (c1 := (48, [some (.ref 0), some (.int a1), some (.int a2)], [.int a1, .ref 8, .int (I8 3302), .ref 33], ((upd I8 3301 (g_X0_sending (I8 3301) a1 a2)), L, tw_P 2 14 rt sc, A9, J, 57))) rfl ?_
          refine tw_callE (cd := tw_c164) rfl rfl rfl rfl rfl (tw_e_get (upd I8 3301 (g_X0_sending (I8 3301) a1 a2)) L (tw_P 2 14 rt sc) A9 J (q := 8) (N := 6) rfl rfl (by decide) a1) (by exact Or.inl rfl) ?_
          refine tw_blk (cd := tw_c164) rfl 7 (c1 := (56, [some (.ref 0), some (.int a1), some (.int a2)], [.int a1, .ref 8, .ref 0], ((upd (upd I8 3301 (g_X0_sending (I8 3301) a1 a2)) 3302 ((I8 3302) + (tw_get0 6 (A9 8) a1))), L, tw_P 2 14 rt sc, A9, J, 57))) rfl ?_
          refine tw_callE (cd := tw_c164) rfl rfl rfl rfl rfl (tw_e_get (upd (upd I8 3301 (g_X0_sending (I8 3301) a1 a2)) 3302 ((I8 3302) + (tw_get0 6 (A9 8) a1))) L (tw_P 2 14 rt sc) A9 J (q := 8) (N := 6) rfl rfl (by decide) a1) (by exact Or.inl rfl) ?_
          obtain ⟨⟨x11, I12⟩, hx13, h⟩ := tw_letE h
          dsimp only at h
          refine tw_callE (cd := tw_c164) rfl rfl rfl rfl rfl (e_X9_grant (upd (upd I8 3301 (g_X0_sending (I8 3301) a1 a2)) 3302 ((I8 3302) + (tw_get0 6 (A9 8) a1))) L A9 J rt sc (tw_get0 6 (A9 8) a1) _ hx13) (by exact Or.inl rfl) ?_
          subst h
          exact tw_retE (cd := tw_c164) rfl rfl rfl rfl
      · rw [if_neg hc3] at h
        refine tw_br (cd := tw_c164) rfl rfl rfl (by exact if_pos (tw_b_f hc3)) ?_
        refine tw_blk (cd := tw_c164) rfl 2 (c1 := (26, [some (.ref 0), some (.int a1), some (.int a2)], [.int 5, .ref 0], (I, L, tw_P 2 14 rt sc, A, J, 57))) rfl ?_
        obtain ⟨⟨x14, I15⟩, hx16, h⟩ := tw_letE h
        dsimp only at h
        refine tw_callE (cd := tw_c164) rfl rfl rfl rfl rfl (e_X9_refuse I L A J rt sc (5 : Int32) _ hx16) (by exact Or.inl rfl) ?_
        subst h
        exact tw_retE (cd := tw_c164) rfl rfl rfl rfl
    · rw [if_neg hc2] at h
      refine tw_br (cd := tw_c164) rfl rfl rfl (by exact if_pos (tw_b_f hc2)) ?_
      refine tw_blk (cd := tw_c164) rfl 2 (c1 := (10, [some (.ref 0), some (.int a1), some (.int a2)], [.int 1, .ref 0], (I, L, tw_P 2 14 rt sc, A, J, 57))) rfl ?_
      obtain ⟨⟨x17, I18⟩, hx19, h⟩ := tw_letE h
      dsimp only at h
      refine tw_callE (cd := tw_c164) rfl rfl rfl rfl rfl (e_X9_refuse I L A J rt sc (1 : Int32) _ hx19) (by exact Or.inl rfl) ?_
      subst h
      exact tw_retE (cd := tw_c164) rfl rfl rfl rfl
  · rw [if_neg hc1] at h
    refine tw_br (cd := tw_c164) rfl rfl rfl (by exact if_pos (tw_b_f hc1)) ?_
    refine tw_blk (cd := tw_c164) rfl 2 (c1 := (10, [some (.ref 0), some (.int a1), some (.int a2)], [.int 1, .ref 0], (I, L, tw_P 2 14 rt sc, A, J, 57))) rfl ?_
    obtain ⟨⟨x20, I21⟩, hx22, h⟩ := tw_letE h
    dsimp only at h
    refine tw_callE (cd := tw_c164) rfl rfl rfl rfl rfl (e_X9_refuse I L A J rt sc (1 : Int32) _ hx22) (by exact Or.inl rfl) ?_
    subst h
    exact tw_retE (cd := tw_c164) rfl rfl rfl rfl
