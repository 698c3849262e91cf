/-! the machine does what the functions say -/
set_option maxRecDepth 16000
theorem e_X4_wrongOfLine (I : Nat → Int32) (L : Nat → Int64) (A : Nat → Nat → Int32) (J : Nat → Nat → Int64) (tw dr : Nat) (sc : Nat) (a1 : Int32) : ∀ r : Int32, g_X4_wrongOfLine I A a1 = r → tw_ME 49 (0, [some (.ref 26), some (.int a1)], [], (I, L, tw_P tw dr 14 sc, A, J, 57)) (some (.int r), (I, L, tw_P tw dr 14 sc, A, J, 57)) := by
  intro r h
  unfold g_X4_wrongOfLine at h
  refine tw_blk (cd := tw_c49) rfl 2 (c1 := (2, [some (.ref 26), some (.int a1)], [.int (-1), .int a1], (I, L, tw_P tw dr 14 sc, A, J, 57))) rfl ?_
  by_cases hc1 : a1 = (-1 : Int32)
  · rw [if_pos hc1] at h
    refine tw_br (cd := tw_c49) rfl rfl rfl (by exact if_pos hc1) ?_
    refine tw_blk (cd := tw_c49) rfl 1 (c1 := (4, [some (.ref 26), some (.int a1)], [.int 1], (I, L, tw_P tw dr 14 sc, A, J, 57))) rfl ?_
    subst h
    exact tw_retE (cd := tw_c49) rfl rfl rfl rfl
  · rw [if_neg hc1] at h
    refine tw_br (cd := tw_c49) rfl rfl rfl (by exact if_neg hc1) ?_
    refine tw_blk (cd := tw_c49) rfl 1 (c1 := (6, [some (.ref 26), some (.int a1)], [.int a1], (I, L, tw_P tw dr 14 sc, A, J, 57))) rfl ?_
    by_cases hc2 : a1 = 0
    · rw [if_pos hc2] at h
      refine tw_br (cd := tw_c49) rfl rfl rfl (by exact if_pos hc2) ?_
      refine tw_blk (cd := tw_c49) rfl 2 (c1 := (9, [some (.ref 26), some (.int a1)], [.int (I 2602)], (I, L, tw_P tw dr 14 sc, A, J, 57))) rfl ?_
      by_cases hc3 : (I 2602) = 0
      · rw [if_pos hc3] at h
        refine tw_br (cd := tw_c49) rfl rfl rfl (by exact if_pos hc3) ?_
        refine tw_blk (cd := tw_c49) rfl 1 (c1 := (13, [some (.ref 26), some (.int a1)], [.int 0], (I, L, tw_P tw dr 14 sc, A, J, 57))) rfl ?_
        subst h
        exact tw_retE (cd := tw_c49) rfl rfl rfl rfl
      · rw [if_neg hc3] at h
        refine tw_br (cd := tw_c49) rfl rfl rfl (by exact if_neg hc3) ?_
        refine tw_blk (cd := tw_c49) rfl 2 (c1 := (13, [some (.ref 26), some (.int a1)], [.int 3], (I, L, tw_P tw dr 14 sc, A, J, 57))) rfl ?_
        subst h
        exact tw_retE (cd := tw_c49) rfl rfl rfl rfl
    · rw [if_neg hc2] at h
      refine tw_br (cd := tw_c49) rfl rfl rfl (by exact if_neg hc2) ?_
      refine tw_blk (cd := tw_c49) rfl 2 (c1 := (16, [some (.ref 26), some (.int a1)], [.int (I 2602)], (I, L, tw_P tw dr 14 sc, A, J, 57))) rfl ?_
      by_cases hc4 : (I 2602) = 0
      · rw [if_pos hc4] at h
        refine tw_br (cd := tw_c49) rfl rfl rfl (by exact if_pos hc4) ?_
        refine tw_blk (cd := tw_c49) rfl 1 (c1 := (18, [some (.ref 26), some (.int a1)], [.int 6], (I, L, tw_P tw dr 14 sc, A, J, 57))) rfl ?_
        subst h
        exact tw_retE (cd := tw_c49) rfl rfl rfl rfl
      · rw [if_neg hc4] at h
        refine tw_br (cd := tw_c49) rfl rfl rfl (by exact if_neg hc4) ?_
        refine tw_blk (cd := tw_c49) rfl 3 (c1 := (22, [some (.ref 26), some (.int a1)], [.int a1, .ref 14], (I, L, tw_P tw dr 14 sc, A, J, 57))) rfl ?_
        refine tw_callE (cd := tw_c49) rfl rfl rfl rfl rfl (e_X8_count_14 I L A J tw dr 14 sc a1 _ rfl) (by exact Or.inl rfl) ?_
        refine tw_blk (cd := tw_c49) rfl 1 (c1 := (24, [some (.ref 26), some (.int a1)], [.int a1, .int (g_X8_count_14 A a1)], (I, L, tw_P tw dr 14 sc, A, J, 57))) rfl ?_
        refine tw_callE (cd := tw_c49) rfl rfl rfl rfl rfl (e_X4_roomFor I L A J tw dr sc a1 _ rfl) (by exact Or.inl rfl) ?_
        by_cases hc5 : (g_X8_count_14 A a1) < (g_X4_roomFor a1)
        · rw [if_pos hc5] at h
          refine tw_br (cd := tw_c49) rfl rfl rfl (by exact if_pos hc5) ?_
          refine tw_blk (cd := tw_c49) rfl 1 (c1 := (29, [some (.ref 26), some (.int a1)], [.int 0], (I, L, tw_P tw dr 14 sc, A, J, 57))) rfl ?_
          subst h
          exact tw_retE (cd := tw_c49) rfl rfl rfl rfl
        · rw [if_neg hc5] at h
          refine tw_br (cd := tw_c49) rfl rfl rfl (by exact if_neg hc5) ?_
          refine tw_blk (cd := tw_c49) rfl 2 (c1 := (29, [some (.ref 26), some (.int a1)], [.int 5], (I, L, tw_P tw dr 14 sc, A, J, 57))) rfl ?_
          subst h
          exact tw_retE (cd := tw_c49) rfl rfl rfl rfl
theorem e_X4_failAt (I : Nat → Int32) (L : Nat → Int64) (A : Nat → Nat → Int32) (J : Nat → Nat → Int64) (tw dr : Nat) (sc : Nat) (a1 : Int32) (a2 : Int32) : ∀ r : (Bool × (Nat → Int32)), g_X4_failAt I a1 a2 = r → tw_ME 52 (0, [some (.ref 26), some (.int a1), some (.int a2)], [], (I, L, tw_P tw dr 14 sc, A, J, 57)) (some (.int (tw_b r.1)), ((r.2), L, tw_P tw dr 14 sc, A, J, 57)) := by
  intro r h
  unfold g_X4_failAt at h
  refine tw_blk (cd := tw_c52) rfl 7 (c1 := (7, [some (.ref 26), some (.int a1), some (.int a2)], [.int 0], ((upd (upd I 2610 a1) 2611 a2), L, tw_P tw dr 14 sc, A, J, 57))) rfl ?_
  subst h
  exact tw_retZ (cd := tw_c52) (b := false) rfl rfl rfl rfl
theorem e_X4_fail (I : Nat → Int32) (L : Nat → Int64) (A : Nat → Nat → Int32) (J : Nat → Nat → Int64) (tw dr : Nat) (sc : Nat) (a1 : Int32) : ∀ r : (Bool × (Nat → Int32)), g_X4_fail I a1 = r → tw_ME 51 (0, [some (.ref 26), some (.int a1)], [], (I, L, tw_P tw dr 14 sc, A, J, 57)) (some (.int (tw_b r.1)), ((r.2), L, tw_P tw dr 14 sc, A, J, 57)) := by
  intro r h
  unfold g_X4_fail at h
  refine tw_blk (cd := tw_c51) rfl 5 (c1 := (5, [some (.ref 26), some (.int a1)], [.int (I 3203), .int a1, .ref 26], (I, L, tw_P tw dr 14 sc, A, J, 57))) rfl ?_
  obtain ⟨⟨c1, I2⟩, hx3, h⟩ := tw_letE h
  dsimp only at h
  refine tw_callE (cd := tw_c51) rfl rfl rfl rfl rfl (e_X4_failAt I L A J tw dr sc a1 (I 3203) _ hx3) (by exact Or.inl rfl) ?_
  subst h
  exact tw_retZ (cd := tw_c51) (b := c1) rfl rfl rfl rfl
theorem e_X4_word (I : Nat → Int32) (L : Nat → Int64) (A : Nat → Nat → Int32) (J : Nat → Nat → Int64) (tw dr : Nat) (sc : Nat) (q1 : Nat) (hq1 : 1000 ≤ q1 ∧ q1 < 1019) : ∀ r : (Bool × (Nat → Int32) × (Nat → Int64)), g_X4_word I L A q1 = some r → tw_ME 55 (0, [some (.ref 26), some (.ref q1)], [], (I, L, tw_P tw dr 14 sc, A, J, 57)) (some (.int (tw_b r.1)), ((r.2.1), (r.2.2), tw_P tw dr 14 sc, A, J, 57)) := by
  intro r h
  unfold g_X4_word at h
  refine tw_blk (cd := tw_c55) rfl 3 (c1 := (3, [some (.ref 26), some (.ref q1)], [.ref q1, .ref 32], (I, L, tw_P tw dr 14 sc, A, J, 57))) rfl ?_
  obtain ⟨c1, hx2, h⟩ := tw_bindE h
  refine tw_callE (cd := tw_c55) rfl rfl rfl rfl rfl (e_X7_isWord I L A J tw dr 14 sc q1 hq1 _ hx2) (by exact Or.inl rfl) ?_
  by_cases hc3 : c1 = true
  · rw [if_pos hc3] at h
    refine tw_br (cd := tw_c55) rfl rfl rfl (by exact if_neg (tw_b_t hc3)) ?_
    refine tw_blk (cd := tw_c55) rfl 2 (c1 := (11, [some (.ref 26), some (.ref q1)], [.ref 32], (I, L, tw_P tw dr 14 sc, A, J, 57))) rfl ?_
    obtain ⟨⟨I4, L5⟩, hx6, h⟩ := tw_bindE h
    dsimp only at h
    refine tw_callE (cd := tw_c55) rfl rfl rfl rfl rfl (e_X7_next I L A J tw dr 14 sc _ hx6) (by exact Or.inl rfl) ?_
    refine tw_blk (cd := tw_c55) rfl 1 (c1 := (13, [some (.ref 26), some (.ref q1)], [.int 1], (I4, L5, tw_P tw dr 14 sc, A, J, 57))) rfl ?_
    have h := Option.some.inj h
    subst h
    exact tw_retZ (cd := tw_c55) (b := true) rfl rfl rfl rfl
  · rw [if_neg hc3] at h
    refine tw_br (cd := tw_c55) rfl rfl rfl (by exact if_pos (tw_b_f hc3)) ?_
    refine tw_blk (cd := tw_c55) rfl 2 (c1 := (7, [some (.ref 26), some (.ref q1)], [.int 1, .ref 26], (I, L, tw_P tw dr 14 sc, A, J, 57))) rfl ?_
    obtain ⟨⟨c7, I8⟩, hx9, h⟩ := tw_letE h
    dsimp only at h
    refine tw_callE (cd := tw_c55) rfl rfl rfl rfl rfl (e_X4_fail I L A J tw dr sc (1 : Int32) _ hx9) (by exact Or.inl rfl) ?_
    have h := Option.some.inj h
    subst h
    exact tw_retZ (cd := tw_c55) (b := c7) rfl rfl rfl rfl
theorem e_X4_note (I : Nat → Int32) (L : Nat → Int64) (A : Nat → Nat → Int32) (J : Nat → Nat → Int64) (tw dr : Nat) (sc : Nat) (a1 : Int32) : ∀ r : (Bool × (Nat → Int32) × (Nat → Int64) × (Nat → Nat → Int32)), g_X4_note I L A a1 = some r → tw_ME 53 (0, [some (.ref 26), some (.int a1)], [], (I, L, tw_P tw dr 14 sc, A, J, 57)) (some (.int (tw_b r.1)), ((r.2.1), (r.2.2.1), tw_P tw dr 14 sc, (r.2.2.2), J, 57)) := by
  intro r h
  unfold g_X4_note at h
  refine tw_blk (cd := tw_c53) rfl 5 (c1 := (5, [some (.ref 26), some (.int a1)], [.int a1, .int (I 2609), .ref 31], (I, L, tw_P tw dr 14 sc, A, J, 57))) rfl ?_
  obtain ⟨w1, hw2, h⟩ := tw_letE h
  refine tw_callE (cd := tw_c53) rfl rfl rfl rfl rfl (tw_e_put I L (tw_P tw dr 14 sc) A J (q := 31) (N := 8) rfl rfl (by decide) (I 2609) a1 w1 hw2) (by exact Or.inl rfl) ?_
  refine tw_blk (cd := tw_c53) rfl 8 (c1 := (14, [some (.ref 26), some (.int a1)], [.ref 32], ((upd I 2609 ((I 2609) + (1 : Int32))), L, tw_P tw dr 14 sc, (va_up A 31 w1), J, 57))) rfl ?_
  obtain ⟨⟨I3, L4⟩, hx5, h⟩ := tw_bindE h
  dsimp only at h
  refine tw_callE (cd := tw_c53) rfl rfl rfl rfl rfl (e_X7_next (upd I 2609 ((I 2609) + (1 : Int32))) L (va_up A 31 w1) J tw dr 14 sc _ hx5) (by exact Or.inl rfl) ?_
  refine tw_blk (cd := tw_c53) rfl 1 (c1 := (16, [some (.ref 26), some (.int a1)], [.int 1], (I3, L4, tw_P tw dr 14 sc, (va_up A 31 w1), J, 57))) rfl ?_
  have h := Option.some.inj h
  subst h
  exact tw_retZ (cd := tw_c53) (b := true) rfl rfl rfl rfl
theorem e_X4_whole (I : Nat → Int32) (L : Nat → Int64) (A : Nat → Nat → Int32) (J : Nat → Nat → Int64) (tw dr : Nat) (sc : Nat) (a1 : Int32) (a2 : Int32) : ∀ r : (Bool × (Nat → Int32) × (Nat → Int64) × (Nat → Nat → Int32)), g_X4_whole I L A a1 a2 = some r → tw_ME 56 (0, [some (.ref 26), some (.int a1), some (.int a2)], [], (I, L, tw_P tw dr 14 sc, A, J, 57)) (some (.int (tw_b r.1)), ((r.2.1), (r.2.2.1), tw_P tw dr 14 sc, (r.2.2.2), J, 57)) := by
  intro r h
  unfold g_X4_whole at h
  refine tw_blk (cd := tw_c56) rfl 4 (c1 := (4, [some (.ref 26), some (.int a1), some (.int a2)], [.int 2, .int (I 3205)], (I, L, tw_P tw dr 14 sc, A, J, 57))) rfl ?_
  by_cases hc1 : (I 3205) = (2 : Int32)
  · rw [if_pos hc1] at h
    refine tw_br (cd := tw_c56) rfl rfl rfl (by exact if_pos hc1) ?_
    refine tw_blk (cd := tw_c56) rfl 6 (c1 := (15, [some (.ref 26), some (.int a1), some (.int a2)], [.int (lg_cmp (L 3206) ((a1).toInt64))], (I, L, tw_P tw dr 14 sc, A, J, 57))) rfl ?_
    by_cases hc2 : (lg_cmp (L 3206) ((a1).toInt64)) < 0
    · rw [if_pos hc2] at h
      refine tw_br (cd := tw_c56) rfl rfl rfl (by exact if_pos hc2) ?_
      refine tw_blk (cd := tw_c56) rfl 2 (c1 := (25, [some (.ref 26), some (.int a1), some (.int a2)], [.int 4, .ref 26], (I, L, tw_P tw dr 14 sc, A, J, 57))) rfl ?_
      obtain ⟨⟨c3, I4⟩, hx5, h⟩ := tw_letE h
      dsimp only at h
      refine tw_callE (cd := tw_c56) rfl rfl rfl rfl rfl (e_X4_fail I L A J tw dr sc (4 : Int32) _ hx5) (by exact Or.inl rfl) ?_
      have h := Option.some.inj h
      subst h
      exact tw_retZ (cd := tw_c56) (b := c3) rfl rfl rfl rfl
    · rw [if_neg hc2] at h
      refine tw_br (cd := tw_c56) rfl rfl rfl (by exact if_neg hc2) ?_
      refine tw_blk (cd := tw_c56) rfl 6 (c1 := (22, [some (.ref 26), some (.int a1), some (.int a2)], [.int (lg_cmp (L 3206) ((a2).toInt64))], (I, L, tw_P tw dr 14 sc, A, J, 57))) rfl ?_
      by_cases hc6 : (lg_cmp (L 3206) ((a2).toInt64)) ≤ 0
      · rw [if_pos hc6] at h
        refine tw_br (cd := tw_c56) rfl rfl rfl (by exact if_pos hc6) ?_
        refine tw_blk (cd := tw_c56) rfl 5 (c1 := (32, [some (.ref 26), some (.int a1), some (.int a2)], [.int ((L 3206).toInt32), .ref 26], (I, L, tw_P tw dr 14 sc, A, J, 57))) rfl ?_
        obtain ⟨⟨c7, I8, L9, A10⟩, hx11, h⟩ := tw_bindE h
        dsimp only at h
        refine tw_callE (cd := tw_c56) rfl rfl rfl rfl rfl (e_X4_note I L A J tw dr sc ((L 3206).toInt32) _ hx11) (by exact Or.inl rfl) ?_
        have h := Option.some.inj h
        subst h
        exact tw_retZ (cd := tw_c56) (b := c7) rfl rfl rfl rfl
      · rw [if_neg hc6] at h
        refine tw_br (cd := tw_c56) rfl rfl rfl (by exact if_neg hc6) ?_
        refine tw_blk (cd := tw_c56) rfl 2 (c1 := (25, [some (.ref 26), some (.int a1), some (.int a2)], [.int 4, .ref 26], (I, L, tw_P tw dr 14 sc, A, J, 57))) rfl ?_
        obtain ⟨⟨c12, I13⟩, hx14, h⟩ := tw_letE h
        dsimp only at h
        refine tw_callE (cd := tw_c56) rfl rfl rfl rfl rfl (e_X4_fail I L A J tw dr sc (4 : Int32) _ hx14) (by exact Or.inl rfl) ?_
        have h := Option.some.inj h
        subst h
        exact tw_retZ (cd := tw_c56) (b := c12) rfl rfl rfl rfl
  · rw [if_neg hc1] at h
    refine tw_br (cd := tw_c56) rfl rfl rfl (by exact if_neg hc1) ?_
    refine tw_blk (cd := tw_c56) rfl 2 (c1 := (7, [some (.ref 26), some (.int a1), some (.int a2)], [.int 1, .ref 26], (I, L, tw_P tw dr 14 sc, A, J, 57))) rfl ?_
    obtain ⟨⟨c15, I16⟩, hx17, h⟩ := tw_letE h
    dsimp only at h
    refine tw_callE (cd := tw_c56) rfl rfl rfl rfl rfl (e_X4_fail I L A J tw dr sc (1 : Int32) _ hx17) (by exact Or.inl rfl) ?_
    have h := Option.some.inj h
    subst h
    exact tw_retZ (cd := tw_c56) (b := c15) rfl rfl rfl rfl
theorem e_X4_readAt (I : Nat → Int32) (L : Nat → Int64) (A : Nat → Nat → Int32) (J : Nat → Nat → Int64) (tw dr : Nat) (sc : Nat) (a1 : Int32) : ∀ r : Int32, g_X4_readAt A a1 = r → tw_ME 54 (0, [some (.ref 26), some (.int a1)], [], (I, L, tw_P tw dr 14 sc, A, J, 57)) (some (.int r), (I, L, tw_P tw dr 14 sc, A, J, 57)) := by
  intro r h
  unfold g_X4_readAt at h
  refine tw_blk (cd := tw_c54) rfl 3 (c1 := (3, [some (.ref 26), some (.int a1)], [.int a1, .ref 31], (I, L, tw_P tw dr 14 sc, A, J, 57))) rfl ?_
  refine tw_callE (cd := tw_c54) rfl rfl rfl rfl rfl (tw_e_get I L (tw_P tw dr 14 sc) A J (q := 31) (N := 8) rfl rfl (by decide) a1) (by exact Or.inl rfl) ?_
  subst h
  exact tw_retE (cd := tw_c54) rfl rfl rfl rfl
theorem e_X4_addBoys (I : Nat → Int32) (L : Nat → Int64) (A : Nat → Nat → Int32) (J : Nat → Nat → Int64) (tw dr : Nat) (sc : Nat) : ∀ r : (Bool × (Nat → Int32) × (Nat → Nat → Int32)), g_X4_addBoys I A = r → tw_ME 65 (0, [some (.ref 26)], [], (I, L, tw_P tw dr 14 sc, A, J, 57)) (some (.int (tw_b r.1)), ((r.2.1), L, tw_P tw dr 14 sc, (r.2.2), J, 57)) := by
  intro r h
  unfold g_X4_addBoys at h
  refine tw_blk (cd := tw_c65) rfl 9 (c1 := (9, [some (.ref 26)], [.int 0, .ref 26, .int 0, .ref 15], ((upd I 2602 (1 : Int32)), L, tw_P tw dr 14 sc, A, J, 57))) rfl ?_
  refine tw_callE (cd := tw_c65) rfl rfl rfl rfl rfl (e_X4_readAt (upd I 2602 (1 : Int32)) L A J tw dr sc (0 : Int32) _ rfl) (by exact Or.inl rfl) ?_
  obtain ⟨w1, hw2, h⟩ := tw_letE h
  refine tw_callE (cd := tw_c65) rfl rfl rfl rfl rfl (tw_e_put (upd I 2602 (1 : Int32)) L (tw_P tw dr 14 sc) A J (q := 15) (N := 9) rfl rfl (by decide) (0 : Int32) (g_X4_readAt A (0 : Int32)) w1 hw2) (by exact Or.inl rfl) ?_
  refine tw_blk (cd := tw_c65) rfl 1 (c1 := (12, [some (.ref 26)], [.int 1], ((upd I 2602 (1 : Int32)), L, tw_P tw dr 14 sc, (va_up A 15 w1), J, 57))) rfl ?_
  subst h
  exact tw_retZ (cd := tw_c65) (b := true) rfl rfl rfl rfl
theorem g_X4_nameIndex_L1_ok (I : Nat → Int32) (L : Nat → Int64) (A : Nat → Nat → Int32) (J : Nat → Nat → Int64) (tw : Nat) (dr : Nat) (sc : Nat) (kont : Unit → Option Int32) (r : Int32) : ∀ (n : Nat) (v1_1 : Int32), g_X4_nameIndex_L1 I L J kont n v1_1 = some r → (∀ ex : Unit, kont ex = some r → tw_ME 58 (24, [none, none], [], (I, L, tw_P tw dr 14 sc, A, J, 57)) (some (.int r), (I, L, tw_P tw dr 14 sc, A, J, 57))) → tw_ME 58 (2, [some (.ref 26), some (.int v1_1)], [], (I, L, tw_P tw dr 14 sc, A, J, 57)) (some (.int r), (I, L, tw_P tw dr 14 sc, A, J, 57)) := by
  intro n
  induction n with
  | zero =>
    intro v1_1 h _
    cases h
  | succ n ih =>
    intro v1_1 h K
    rw [g_X4_nameIndex_L1] at h
    refine tw_blk (cd := tw_c58) rfl 1 (c1 := (3, [some (.ref 26), some (.int v1_1)], [.int v1_1], (I, L, tw_P tw dr 14 sc, A, J, 57))) rfl ?_
    refine tw_blk (cd := tw_c58) rfl 2 (c1 := (5, [some (.ref 26), some (.int v1_1)], [.int (I 2606), .int v1_1], (I, L, tw_P tw dr 14 sc, A, J, 57))) rfl ?_
    by_cases hc1 : (I 2606) ≤ v1_1
    · rw [if_pos hc1] at h
      refine tw_br (cd := tw_c58) rfl rfl rfl (by exact if_pos hc1) ?_
      refine tw_forget (ls2 := [none, none]) trivial ?_
      exact K _ h
    · rw [if_neg hc1] at h
      refine tw_br (cd := tw_c58) rfl rfl rfl (by exact if_neg hc1) ?_
      refine tw_blk (cd := tw_c58) rfl 4 (c1 := (10, [some (.ref 26), some (.int v1_1)], [.int 15, .int v1_1], (I, L, tw_P tw dr 14 sc, A, J, 57))) rfl ?_
      by_cases hc2 : (15 : Int32) ≤ v1_1
      · rw [if_pos hc2] at h
        refine tw_br (cd := tw_c58) rfl rfl rfl (by exact if_pos hc2) ?_
        refine tw_forget (ls2 := [none, none]) trivial ?_
        exact K _ h
      · rw [if_neg hc2] at h
        refine tw_br (cd := tw_c58) rfl rfl rfl (by exact if_neg hc2) ?_
        refine tw_blk (cd := tw_c58) rfl 3 (c1 := (14, [some (.ref 26), some (.int v1_1)], [.int v1_1, .ref 27], (I, L, tw_P tw dr 14 sc, A, J, 57))) rfl ?_
        obtain ⟨x4, hx3, h⟩ := tw_bindE h
        refine tw_lald (cd := tw_c58) (N := 15) rfl rfl rfl rfl hx3 ?_
        refine tw_blk (cd := tw_c58) rfl 4 (c1 := (19, [some (.ref 26), some (.int v1_1)], [.int (lg_cmp x4 (L 3206))], (I, L, tw_P tw dr 14 sc, A, J, 57))) rfl ?_
        by_cases hc5 : (lg_cmp x4 (L 3206)) = 0
        · rw [if_pos hc5] at h
          refine tw_br (cd := tw_c58) rfl rfl rfl (by exact if_pos hc5) ?_
          refine tw_blk (cd := tw_c58) rfl 1 (c1 := (21, [some (.ref 26), some (.int v1_1)], [.int v1_1], (I, L, tw_P tw dr 14 sc, A, J, 57))) rfl ?_
          have h := Option.some.inj h
          subst h
          exact tw_retE (cd := tw_c58) rfl rfl rfl rfl
        · rw [if_neg hc5] at h
          refine tw_br (cd := tw_c58) rfl rfl rfl (by exact if_neg hc5) ?_
          refine tw_blk (cd := tw_c58) rfl 2 (c1 := (2, [some (.ref 26), some (.int (v1_1 + (1 : Int32)))], [], (I, L, tw_P tw dr 14 sc, A, J, 57))) rfl ?_
          exact ih (v1_1 + (1 : Int32)) h K
theorem e_X4_nameIndex (I : Nat → Int32) (L : Nat → Int64) (A : Nat → Nat → Int32) (J : Nat → Nat → Int64) (tw dr : Nat) (sc : Nat) : ∀ r : Int32, g_X4_nameIndex I L J = some r → tw_ME 58 (0, [some (.ref 26), none], [], (I, L, tw_P tw dr 14 sc, A, J, 57)) (some (.int r), (I, L, tw_P tw dr 14 sc, A, J, 57)) := by
  intro r h
  unfold g_X4_nameIndex at h
  refine tw_blk (cd := tw_c58) rfl 2 (c1 := (2, [some (.ref 26), some (.int 0)], [], (I, L, tw_P tw dr 14 sc, A, J, 57))) rfl ?_
  refine g_X4_nameIndex_L1_ok I L A J tw dr sc _ r 4096 (0 : Int32) h (fun ex h => ?_)
  refine tw_blk (cd := tw_c58) rfl 1 (c1 := (25, [none, none], [.int (-1)], (I, L, tw_P tw dr 14 sc, A, J, 57))) rfl ?_
  have h := Option.some.inj h
  subst h
  exact tw_retE (cd := tw_c58) rfl rfl rfl rfl
theorem e_X4_name (I : Nat → Int32) (L : Nat → Int64) (A : Nat → Nat → Int32) (J : Nat → Nat → Int64) (tw dr : Nat) (sc : Nat) (a1 : Int32) : ∀ r : (Bool × (Nat → Int32) × (Nat → Int64) × (Nat → Nat → Int32) × (Nat → Nat → Int64)), g_X4_name I L A J a1 = some r → tw_ME 59 (0, [some (.ref 26), some (.int a1)], [], (I, L, tw_P tw dr 14 sc, A, J, 57)) (some (.int (tw_b r.1)), ((r.2.1), (r.2.2.1), tw_P tw dr 14 sc, (r.2.2.2.1), (r.2.2.2.2), 57)) := by
  intro r h
  unfold g_X4_name at h
  refine tw_blk (cd := tw_c59) rfl 4 (c1 := (4, [some (.ref 26), some (.int a1)], [.int 1, .int (I 3205)], (I, L, tw_P tw dr 14 sc, A, J, 57))) rfl ?_
  by_cases hc1 : (I 3205) = (1 : Int32)
  · rw [if_pos hc1] at h
    refine tw_br (cd := tw_c59) rfl rfl rfl (by exact if_pos hc1) ?_
    refine tw_blk (cd := tw_c59) rfl 1 (c1 := (6, [some (.ref 26), some (.int a1)], [.ref 26], (I, L, tw_P tw dr 14 sc, A, J, 57))) rfl ?_
    obtain ⟨x2, hx3, h⟩ := tw_bindE h
    refine tw_callE (cd := tw_c59) rfl rfl rfl rfl rfl (e_X4_lineSort I L A J tw dr sc _ hx3) (by exact Or.inl rfl) ?_
    refine tw_blk (cd := tw_c59) rfl 1 (c1 := (8, [some (.ref 26), some (.int a1)], [.int (-1), .int x2], (I, L, tw_P tw dr 14 sc, A, J, 57))) rfl ?_
    by_cases hc4 : x2 = (-1 : Int32)
    · rw [if_pos hc4] at h
      refine tw_br (cd := tw_c59) rfl rfl rfl (by exact if_pos hc4) ?_
      refine tw_blk (cd := tw_c59) rfl 1 (c1 := (14, [some (.ref 26), some (.int a1)], [.ref 26], (I, L, tw_P tw dr 14 sc, A, J, 57))) rfl ?_
      obtain ⟨x5, hx6, h⟩ := tw_bindE h
      refine tw_callE (cd := tw_c59) rfl rfl rfl rfl rfl (e_X4_nameIndex I L A J tw dr sc _ hx6) (by exact Or.inl rfl) ?_
      refine tw_blk (cd := tw_c59) rfl 1 (c1 := (16, [some (.ref 26), some (.int a1)], [.int (-1), .int x5], (I, L, tw_P tw dr 14 sc, A, J, 57))) rfl ?_
      by_cases hc7 : x5 = (-1 : Int32)
      · rw [if_pos hc7] at h
        refine tw_br (cd := tw_c59) rfl rfl rfl (by exact if_pos hc7) ?_
        refine tw_blk (cd := tw_c59) rfl 2 (c1 := (23, [some (.ref 26), some (.int a1)], [.int (I 2606)], (I, L, tw_P tw dr 14 sc, A, J, 57))) rfl ?_
        obtain ⟨⟨I9, A10, J11⟩, hj12, h⟩ := tw_bindE h
        dsimp only at h
        have K : tw_ME 59 (59, [some (.ref 26), none], [], (I9, L, tw_P tw dr 14 sc, A10, J11, 57)) (some (.int (tw_b r.1)), ((r.2.1), (r.2.2.1), tw_P tw dr 14 sc, (r.2.2.2.1), (r.2.2.2.2), 57)) := by
          refine tw_blk (cd := tw_c59) rfl 2 (c1 := (61, [some (.ref 26), none], [.ref 32], (I9, L, tw_P tw dr 14 sc, A10, J11, 57))) rfl ?_
          obtain ⟨⟨I20, L21⟩, hx22, h⟩ := tw_bindE h
          dsimp only at h
          refine tw_callE (cd := tw_c59) rfl rfl rfl rfl rfl (e_X7_next I9 L A10 J11 tw dr 14 sc _ hx22) (by exact Or.inl rfl) ?_
          refine tw_blk (cd := tw_c59) rfl 1 (c1 := (63, [some (.ref 26), none], [.int 1], (I20, L21, tw_P tw dr 14 sc, A10, J11, 57))) rfl ?_
          have h := Option.some.inj h
          subst h
          exact tw_retZ (cd := tw_c59) (b := true) rfl rfl rfl rfl
        by_cases hc8 : (I 2606) < 0
        · rw [if_pos hc8] at hj12
          refine tw_br (cd := tw_c59) rfl rfl rfl (by exact if_pos hc8) ?_
          refine tw_forget (ls2 := [some (.ref 26), none]) ⟨rfl, trivial⟩ ?_
          have hj12s := Option.some.inj hj12
          obtain ⟨hj12_0, hj12r0⟩ := Prod.mk.inj hj12s
          obtain ⟨hj12_1, hj12r1⟩ := Prod.mk.inj hj12r0
          subst hj12_0
          subst hj12_1
          subst hj12r1
          exact K
        · rw [if_neg hc8] at hj12
          refine tw_br (cd := tw_c59) rfl rfl rfl (by exact if_neg hc8) ?_
          refine tw_blk (cd := tw_c59) rfl 5 (c1 := (29, [some (.ref 26), some (.int a1)], [.int 15, .int (I 2606)], (I, L, tw_P tw dr 14 sc, A, J, 57))) rfl ?_
          by_cases hc13 : (15 : Int32) ≤ (I 2606)
          · rw [if_pos hc13] at hj12
            refine tw_br (cd := tw_c59) rfl rfl rfl (by exact if_pos hc13) ?_
            refine tw_forget (ls2 := [some (.ref 26), none]) ⟨rfl, trivial⟩ ?_
            have hj12s := Option.some.inj hj12
            obtain ⟨hj12_0, hj12r0⟩ := Prod.mk.inj hj12s
            obtain ⟨hj12_1, hj12r1⟩ := Prod.mk.inj hj12r0
            subst hj12_0
            subst hj12_1
            subst hj12r1
            exact K
          · rw [if_neg hc13] at hj12
            refine tw_br (cd := tw_c59) rfl rfl rfl (by exact if_neg hc13) ?_
            refine tw_blk (cd := tw_c59) rfl 7 (c1 := (37, [some (.ref 26), some (.int a1)], [.long (L 3206), .int (I 2606), .ref 27], (I, L, tw_P tw dr 14 sc, A, J, 57))) rfl ?_
            obtain ⟨w15, hx14, hj12⟩ := tw_bindE hj12
            refine tw_last (cd := tw_c59) (N := 15) rfl rfl rfl rfl hx14 ?_
            refine tw_blk (cd := tw_c59) rfl 5 (c1 := (43, [some (.ref 26), some (.int a1)], [.int a1, .int (I 2606), .ref 28], (I, L, tw_P tw dr 14 sc, A, (va_up J 27 w15), 57))) rfl ?_
            obtain ⟨w16, hw17, hj12⟩ := tw_letE hj12
            refine tw_callE (cd := tw_c59) rfl rfl rfl rfl rfl (tw_e_put I L (tw_P tw dr 14 sc) A (va_up J 27 w15) (q := 28) (N := 15) rfl rfl (by decide) (I 2606) a1 w16 hw17) (by exact Or.inl rfl) ?_
            refine tw_blk (cd := tw_c59) rfl 7 (c1 := (51, [some (.ref 26), some (.int a1)], [.int a1, .ref 14, .int (I 2606), .ref 29], (I, L, tw_P tw dr 14 sc, (va_up A 28 w16), (va_up J 27 w15), 57))) rfl ?_
            refine tw_callE (cd := tw_c59) rfl rfl rfl rfl rfl (e_X8_count_14 I L (va_up A 28 w16) (va_up J 27 w15) tw dr 14 sc a1 _ rfl) (by exact Or.inl rfl) ?_
            obtain ⟨w18, hw19, hj12⟩ := tw_letE hj12
            refine tw_callE (cd := tw_c59) rfl rfl rfl rfl rfl (tw_e_put I L (tw_P tw dr 14 sc) (va_up A 28 w16) (va_up J 27 w15) (q := 29) (N := 15) rfl rfl (by decide) (I 2606) (g_X8_count_14 (va_up A 28 w16) a1) w18 hw19) (by exact Or.inl rfl) ?_
            refine tw_blk (cd := tw_c59) rfl 6 (c1 := (59, [some (.ref 26), some (.int a1)], [], ((upd I 2606 ((I 2606) + (1 : Int32))), L, tw_P tw dr 14 sc, (va_up (va_up A 28 w16) 29 w18), (va_up J 27 w15), 57))) rfl ?_
            refine tw_forget (ls2 := [some (.ref 26), none]) ⟨rfl, trivial⟩ ?_
            have hj12s := Option.some.inj hj12
            obtain ⟨hj12_0, hj12r0⟩ := Prod.mk.inj hj12s
            obtain ⟨hj12_1, hj12r1⟩ := Prod.mk.inj hj12r0
            subst hj12_0
            subst hj12_1
            subst hj12r1
            exact K
      · rw [if_neg hc7] at h
        refine tw_br (cd := tw_c59) rfl rfl rfl (by exact if_neg hc7) ?_
        refine tw_blk (cd := tw_c59) rfl 2 (c1 := (19, [some (.ref 26), some (.int a1)], [.int 3, .ref 26], (I, L, tw_P tw dr 14 sc, A, J, 57))) rfl ?_
        obtain ⟨⟨c23, I24⟩, hx25, h⟩ := tw_letE h
        dsimp only at h
        refine tw_callE (cd := tw_c59) rfl rfl rfl rfl rfl (e_X4_fail I L A J tw dr sc (3 : Int32) _ hx25) (by exact Or.inl rfl) ?_
        have h := Option.some.inj h
        subst h
        exact tw_retZ (cd := tw_c59) (b := c23) rfl rfl rfl rfl
    · rw [if_neg hc4] at h
      refine tw_br (cd := tw_c59) rfl rfl rfl (by exact if_neg hc4) ?_
      refine tw_blk (cd := tw_c59) rfl 2 (c1 := (11, [some (.ref 26), some (.int a1)], [.int 1, .ref 26], (I, L, tw_P tw dr 14 sc, A, J, 57))) rfl ?_
      obtain ⟨⟨c26, I27⟩, hx28, h⟩ := tw_letE h
      dsimp only at h
      refine tw_callE (cd := tw_c59) rfl rfl rfl rfl rfl (e_X4_fail I L A J tw dr sc (1 : Int32) _ hx28) (by exact Or.inl rfl) ?_
      have h := Option.some.inj h
      subst h
      exact tw_retZ (cd := tw_c59) (b := c26) rfl rfl rfl rfl
  · rw [if_neg hc1] at h
    refine tw_br (cd := tw_c59) rfl rfl rfl (by exact if_neg hc1) ?_
    refine tw_blk (cd := tw_c59) rfl 2 (c1 := (11, [some (.ref 26), some (.int a1)], [.int 1, .ref 26], (I, L, tw_P tw dr 14 sc, A, J, 57))) rfl ?_
    obtain ⟨⟨c29, I30⟩, hx31, h⟩ := tw_letE h
    dsimp only at h
    refine tw_callE (cd := tw_c59) rfl rfl rfl rfl rfl (e_X4_fail I L A J tw dr sc (1 : Int32) _ hx31) (by exact Or.inl rfl) ?_
    have h := Option.some.inj h
    subst h
    exact tw_retZ (cd := tw_c59) (b := c29) rfl rfl rfl rfl
theorem e_X8_addOne_14 (I : Nat → Int32) (L : Nat → Int64) (A : Nat → Nat → Int32) (J : Nat → Nat → Int64) (tw dr : Nat) (rt : Nat) (sc : Nat) (a1 : Int32) : ∀ r : (Int32 × (Nat → Nat → Int32)), g_X8_addOne_14 A a1 = r → tw_ME 101 (0, [some (.ref 14), some (.int a1), none], [], (I, L, tw_P tw dr rt sc, A, J, 57)) (some (.int r.1), (I, L, tw_P tw dr rt sc, (r.2), J, 57)) := by
  intro r h
  unfold g_X8_addOne_14 at h
  refine tw_blk (cd := tw_c101) rfl 2 (c1 := (2, [some (.ref 14), some (.int a1), none], [.int a1, .ref 14], (I, L, tw_P tw dr rt sc, A, J, 57))) rfl ?_
  refine tw_callE (cd := tw_c101) rfl rfl rfl rfl rfl (e_X8_count_14 I L A J tw dr rt sc a1 _ rfl) (by exact Or.inl rfl) ?_
  refine tw_blk (cd := tw_c101) rfl 7 (c1 := (10, [some (.ref 14), some (.int a1), some (.int (g_X8_count_14 A a1))], [.int ((g_X8_count_14 A a1) + (1 : Int32)), .int a1, .ref 15], (I, L, tw_P tw dr rt sc, A, J, 57))) rfl ?_
  obtain ⟨w1, hw2, h⟩ := tw_letE h
  refine tw_callE (cd := tw_c101) rfl rfl rfl rfl rfl (tw_e_put I L (tw_P tw dr rt sc) A J (q := 15) (N := 9) rfl rfl (by decide) a1 ((g_X8_count_14 A a1) + (1 : Int32)) w1 hw2) (by exact Or.inl rfl) ?_
  refine tw_blk (cd := tw_c101) rfl 1 (c1 := (12, [some (.ref 14), some (.int a1), some (.int (g_X8_count_14 A a1))], [.int (g_X8_count_14 A a1)], (I, L, tw_P tw dr rt sc, (va_up A 15 w1), J, 57))) rfl ?_
  subst h
  exact tw_retE (cd := tw_c101) rfl rfl rfl rfl
theorem e_X4_addPlace (I : Nat → Int32) (L : Nat → Int64) (A : Nat → Nat → Int32) (J : Nat → Nat → Int64) (tw dr : Nat) (sc : Nat) : ∀ r : (Bool × (Nat → Nat → Int32)), g_X4_addPlace A = r → tw_ME 66 (0, [some (.ref 26)], [], (I, L, tw_P tw dr 14 sc, A, J, 57)) (some (.int (tw_b r.1)), (I, L, tw_P tw dr 14 sc, (r.2), J, 57)) := by
  intro r h
  unfold g_X4_addPlace at h
  refine tw_blk (cd := tw_c66) rfl 3 (c1 := (3, [some (.ref 26)], [.int 1, .ref 14], (I, L, tw_P tw dr 14 sc, A, J, 57))) rfl ?_
  obtain ⟨⟨x1, A2⟩, hx3, h⟩ := tw_letE h
  dsimp only at h
  refine tw_callE (cd := tw_c66) rfl rfl rfl rfl rfl (e_X8_addOne_14 I L A J tw dr 14 sc (1 : Int32) _ hx3) (by exact Or.inl rfl) ?_
  refine tw_blk (cd := tw_c66) rfl 2 (c1 := (6, [some (.ref 26)], [.int 1], (I, L, tw_P tw dr 14 sc, A2, J, 57))) rfl ?_
  subst h
  exact tw_retZ (cd := tw_c66) (b := true) rfl rfl rfl rfl
theorem e_X4_told (I : Nat → Int32) (L : Nat → Int64) (A : Nat → Nat → Int32) (J : Nat → Nat → Int64) (tw dr : Nat) (sc : Nat) (a1 : Int32) : ∀ r : (Bool × (Nat → Int32) × (Nat → Int64) × (Nat → Nat → Int32)), g_X4_told I L A J a1 = some r → tw_ME 60 (0, [some (.ref 26), some (.int a1), none], [], (I, L, tw_P tw dr 14 sc, A, J, 57)) (some (.int (tw_b r.1)), ((r.2.1), (r.2.2.1), tw_P tw dr 14 sc, (r.2.2.2), J, 57)) := by
  intro r h
  unfold g_X4_told at h
  refine tw_blk (cd := tw_c60) rfl 4 (c1 := (4, [some (.ref 26), some (.int a1), none], [.int 1, .int (I 3205)], (I, L, tw_P tw dr 14 sc, A, J, 57))) rfl ?_
  by_cases hc1 : (I 3205) = (1 : Int32)
  · rw [if_pos hc1] at h
    refine tw_br (cd := tw_c60) rfl rfl rfl (by exact if_pos hc1) ?_
    refine tw_blk (cd := tw_c60) rfl 1 (c1 := (6, [some (.ref 26), some (.int a1), none], [.ref 26], (I, L, tw_P tw dr 14 sc, A, J, 57))) rfl ?_
    obtain ⟨x2, hx3, h⟩ := tw_bindE h
    refine tw_callE (cd := tw_c60) rfl rfl rfl rfl rfl (e_X4_lineSort I L A J tw dr sc _ hx3) (by exact Or.inl rfl) ?_
    refine tw_blk (cd := tw_c60) rfl 1 (c1 := (8, [some (.ref 26), some (.int a1), none], [.int (-1), .int x2], (I, L, tw_P tw dr 14 sc, A, J, 57))) rfl ?_
    by_cases hc4 : x2 = (-1 : Int32)
    · rw [if_pos hc4] at h
      refine tw_br (cd := tw_c60) rfl rfl rfl (by exact if_pos hc4) ?_
      refine tw_blk (cd := tw_c60) rfl 1 (c1 := (14, [some (.ref 26), some (.int a1), none], [.ref 26], (I, L, tw_P tw dr 14 sc, A, J, 57))) rfl ?_
      obtain ⟨x5, hx6, h⟩ := tw_bindE h
      refine tw_callE (cd := tw_c60) rfl rfl rfl rfl rfl (e_X4_nameIndex I L A J tw dr sc _ hx6) (by exact Or.inl rfl) ?_
      refine tw_blk (cd := tw_c60) rfl 3 (c1 := (18, [some (.ref 26), some (.int a1), some (.int x5)], [.int (-1), .int x5], (I, L, tw_P tw dr 14 sc, A, J, 57))) rfl ?_
      by_cases hc7 : x5 = (-1 : Int32)
      · rw [if_pos hc7] at h
        refine tw_br (cd := tw_c60) rfl rfl rfl (by exact if_pos hc7) ?_
        refine tw_blk (cd := tw_c60) rfl 2 (c1 := (27, [some (.ref 26), some (.int a1), some (.int x5)], [.int 2, .ref 26], (I, L, tw_P tw dr 14 sc, A, J, 57))) rfl ?_
        obtain ⟨⟨c8, I9⟩, hx10, h⟩ := tw_letE h
        dsimp only at h
        refine tw_callE (cd := tw_c60) rfl rfl rfl rfl rfl (e_X4_fail I L A J tw dr sc (2 : Int32) _ hx10) (by exact Or.inl rfl) ?_
        have h := Option.some.inj h
        subst h
        exact tw_retZ (cd := tw_c60) (b := c8) rfl rfl rfl rfl
      · rw [if_neg hc7] at h
        refine tw_br (cd := tw_c60) rfl rfl rfl (by exact if_neg hc7) ?_
        refine tw_blk (cd := tw_c60) rfl 3 (c1 := (22, [some (.ref 26), some (.int a1), some (.int x5)], [.int x5, .ref 28], (I, L, tw_P tw dr 14 sc, A, J, 57))) rfl ?_
        refine tw_callE (cd := tw_c60) rfl rfl rfl rfl rfl (tw_e_get I L (tw_P tw dr 14 sc) A J (q := 28) (N := 15) rfl rfl (by decide) x5) (by exact Or.inl rfl) ?_
        refine tw_blk (cd := tw_c60) rfl 1 (c1 := (24, [some (.ref 26), some (.int a1), some (.int x5)], [.int a1, .int (tw_get0 15 (A 28) x5)], (I, L, tw_P tw dr 14 sc, A, J, 57))) rfl ?_
        by_cases hc11 : (tw_get0 15 (A 28) x5) = a1
        · rw [if_pos hc11] at h
          refine tw_br (cd := tw_c60) rfl rfl rfl (by exact if_pos hc11) ?_
          refine tw_blk (cd := tw_c60) rfl 4 (c1 := (33, [some (.ref 26), some (.int a1), some (.int x5)], [.int x5, .ref 29, .ref 26], (I, L, tw_P tw dr 14 sc, A, J, 57))) rfl ?_
          refine tw_callE (cd := tw_c60) rfl rfl rfl rfl rfl (tw_e_get I L (tw_P tw dr 14 sc) A J (q := 29) (N := 15) rfl rfl (by decide) x5) (by exact Or.inl rfl) ?_
          obtain ⟨⟨c12, I13, L14, A15⟩, hx16, h⟩ := tw_bindE h
          dsimp only at h
          refine tw_callE (cd := tw_c60) rfl rfl rfl rfl rfl (e_X4_note I L A J tw dr sc (tw_get0 15 (A 29) x5) _ hx16) (by exact Or.inl rfl) ?_
          have h := Option.some.inj h
          subst h
          exact tw_retZ (cd := tw_c60) (b := c12) rfl rfl rfl rfl
        · rw [if_neg hc11] at h
          refine tw_br (cd := tw_c60) rfl rfl rfl (by exact if_neg hc11) ?_
          refine tw_blk (cd := tw_c60) rfl 2 (c1 := (27, [some (.ref 26), some (.int a1), some (.int x5)], [.int 2, .ref 26], (I, L, tw_P tw dr 14 sc, A, J, 57))) rfl ?_
          obtain ⟨⟨c17, I18⟩, hx19, h⟩ := tw_letE h
          dsimp only at h
          refine tw_callE (cd := tw_c60) rfl rfl rfl rfl rfl (e_X4_fail I L A J tw dr sc (2 : Int32) _ hx19) (by exact Or.inl rfl) ?_
          have h := Option.some.inj h
          subst h
          exact tw_retZ (cd := tw_c60) (b := c17) rfl rfl rfl rfl
    · rw [if_neg hc4] at h
      refine tw_br (cd := tw_c60) rfl rfl rfl (by exact if_neg hc4) ?_
      refine tw_blk (cd := tw_c60) rfl 2 (c1 := (11, [some (.ref 26), some (.int a1), none], [.int 1, .ref 26], (I, L, tw_P tw dr 14 sc, A, J, 57))) rfl ?_
      obtain ⟨⟨c20, I21⟩, hx22, h⟩ := tw_letE h
      dsimp only at h
      refine tw_callE (cd := tw_c60) rfl rfl rfl rfl rfl (e_X4_fail I L A J tw dr sc (1 : Int32) _ hx22) (by exact Or.inl rfl) ?_
      have h := Option.some.inj h
      subst h
      exact tw_retZ (cd := tw_c60) (b := c20) rfl rfl rfl rfl
  · rw [if_neg hc1] at h
    refine tw_br (cd := tw_c60) rfl rfl rfl (by exact if_neg hc1) ?_
    refine tw_blk (cd := tw_c60) rfl 2 (c1 := (11, [some (.ref 26), some (.int a1), none], [.int 1, .ref 26], (I, L, tw_P tw dr 14 sc, A, J, 57))) rfl ?_
    obtain ⟨⟨c23, I24⟩, hx25, h⟩ := tw_letE h
    dsimp only at h
    refine tw_callE (cd := tw_c60) rfl rfl rfl rfl rfl (e_X4_fail I L A J tw dr sc (1 : Int32) _ hx25) (by exact Or.inl rfl) ?_
    have h := Option.some.inj h
    subst h
    exact tw_retZ (cd := tw_c60) (b := c23) rfl rfl rfl rfl
theorem g_X8_hasSight_14_L1_ok (I : Nat → Int32) (L : Nat → Int64) (A : Nat → Nat → Int32) (J : Nat → Nat → Int64) (tw : Nat) (dr : Nat) (rt : Nat) (sc : Nat) (a1 : Int32) (a2 : Int32) (kont : Unit → Option Bool) (r : Bool) : ∀ (n : Nat) (v1_3 : Int32), g_X8_hasSight_14_L1 A a1 a2 kont n v1_3 = some r → (∀ ex : Unit, kont ex = some r → tw_ME 103 (23, [none, none, none, none], [], (I, L, tw_P tw dr rt sc, A, J, 57)) (some (.int (tw_b r)), (I, L, tw_P tw dr rt sc, A, J, 57))) → tw_ME 103 (2, [some (.ref 14), some (.int a1), some (.int a2), some (.int v1_3)], [], (I, L, tw_P tw dr rt sc, A, J, 57)) (some (.int (tw_b r)), (I, L, tw_P tw dr rt sc, A, J, 57)) := by
  intro n
  induction n with
  | zero =>
    intro v1_3 h _
    cases h
  | succ n ih =>
    intro v1_3 h K
    rw [g_X8_hasSight_14_L1] at h
    refine tw_blk (cd := tw_c103) rfl 1 (c1 := (3, [some (.ref 14), some (.int a1), some (.int a2), some (.int v1_3)], [.int v1_3], (I, L, tw_P tw dr rt sc, A, J, 57))) rfl ?_
    refine tw_blk (cd := tw_c103) rfl 2 (c1 := (5, [some (.ref 14), some (.int a1), some (.int a2), some (.int v1_3)], [.int 2, .ref 14, .int v1_3], (I, L, tw_P tw dr rt sc, A, J, 57))) rfl ?_
    refine tw_callE (cd := tw_c103) rfl rfl rfl rfl rfl (e_X8_count_14 I L A J tw dr rt sc (2 : Int32) _ rfl) (by exact Or.inl rfl) ?_
    by_cases hc1 : (g_X8_count_14 A (2 : Int32)) ≤ v1_3
    · rw [if_pos hc1] at h
      refine tw_br (cd := tw_c103) rfl rfl rfl (by exact if_pos hc1) ?_
      refine tw_forget (ls2 := [none, none, none, none]) trivial ?_
      exact K _ h
    · rw [if_neg hc1] at h
      refine tw_br (cd := tw_c103) rfl rfl rfl (by exact if_neg hc1) ?_
      refine tw_blk (cd := tw_c103) rfl 3 (c1 := (10, [some (.ref 14), some (.int a1), some (.int a2), some (.int v1_3)], [.int v1_3, .ref 16], (I, L, tw_P tw dr rt sc, A, J, 57))) rfl ?_
      refine tw_callE (cd := tw_c103) rfl rfl rfl rfl rfl (tw_e_get I L (tw_P tw dr rt sc) A J (q := 16) (N := 8) rfl rfl (by decide) v1_3) (by exact Or.inl rfl) ?_
      refine tw_blk (cd := tw_c103) rfl 1 (c1 := (12, [some (.ref 14), some (.int a1), some (.int a2), some (.int v1_3)], [.int a1, .int (tw_get0 8 (A 16) v1_3)], (I, L, tw_P tw dr rt sc, A, J, 57))) rfl ?_
      by_cases hc2 : (tw_get0 8 (A 16) v1_3) = a1
      · rw [if_pos hc2] at h
        refine tw_br (cd := tw_c103) rfl rfl rfl (by exact if_pos hc2) ?_
        refine tw_blk (cd := tw_c103) rfl 3 (c1 := (16, [some (.ref 14), some (.int a1), some (.int a2), some (.int v1_3)], [.int v1_3, .ref 17], (I, L, tw_P tw dr rt sc, A, J, 57))) rfl ?_
        refine tw_callE (cd := tw_c103) rfl rfl rfl rfl rfl (tw_e_get I L (tw_P tw dr rt sc) A J (q := 17) (N := 8) rfl rfl (by decide) v1_3) (by exact Or.inl rfl) ?_
        refine tw_blk (cd := tw_c103) rfl 1 (c1 := (18, [some (.ref 14), some (.int a1), some (.int a2), some (.int v1_3)], [.int a2, .int (tw_get0 8 (A 17) v1_3)], (I, L, tw_P tw dr rt sc, A, J, 57))) rfl ?_
        by_cases hc3 : (tw_get0 8 (A 17) v1_3) = a2
        · rw [if_pos hc3] at h
          refine tw_br (cd := tw_c103) rfl rfl rfl (by exact if_pos hc3) ?_
          refine tw_blk (cd := tw_c103) rfl 1 (c1 := (20, [some (.ref 14), some (.int a1), some (.int a2), some (.int v1_3)], [.int 1], (I, L, tw_P tw dr rt sc, A, J, 57))) rfl ?_
          have h := Option.some.inj h
          subst h
          exact tw_retZ (cd := tw_c103) (b := true) rfl rfl rfl rfl
        · rw [if_neg hc3] at h
          refine tw_br (cd := tw_c103) rfl rfl rfl (by exact if_neg hc3) ?_
          refine tw_blk (cd := tw_c103) rfl 2 (c1 := (2, [some (.ref 14), some (.int a1), some (.int a2), some (.int (v1_3 + (1 : Int32)))], [], (I, L, tw_P tw dr rt sc, A, J, 57))) rfl ?_
          exact ih (v1_3 + (1 : Int32)) h K
      · rw [if_neg hc2] at h
        refine tw_br (cd := tw_c103) rfl rfl rfl (by exact if_neg hc2) ?_
        refine tw_blk (cd := tw_c103) rfl 2 (c1 := (2, [some (.ref 14), some (.int a1), some (.int a2), some (.int (v1_3 + (1 : Int32)))], [], (I, L, tw_P tw dr rt sc, A, J, 57))) rfl ?_
        exact ih (v1_3 + (1 : Int32)) h K
theorem e_X8_hasSight_14 (I : Nat → Int32) (L : Nat → Int64) (A : Nat → Nat → Int32) (J : Nat → Nat → Int64) (tw dr : Nat) (rt : Nat) (sc : Nat) (a1 : Int32) (a2 : Int32) : ∀ r : Bool, g_X8_hasSight_14 A a1 a2 = some r → tw_ME 103 (0, [some (.ref 14), some (.int a1), some (.int a2), none], [], (I, L, tw_P tw dr rt sc, A, J, 57)) (some (.int (tw_b r)), (I, L, tw_P tw dr rt sc, A, J, 57)) := by
  intro r h
  unfold g_X8_hasSight_14 at h
  refine tw_blk (cd := tw_c103) rfl 2 (c1 := (2, [some (.ref 14), some (.int a1), some (.int a2), some (.int 0)], [], (I, L, tw_P tw dr rt sc, A, J, 57))) rfl ?_
  refine g_X8_hasSight_14_L1_ok I L A J tw dr rt sc a1 a2 _ r 4096 (0 : Int32) h (fun ex h => ?_)
  refine tw_blk (cd := tw_c103) rfl 1 (c1 := (24, [none, none, none, none], [.int 0], (I, L, tw_P tw dr rt sc, A, J, 57))) rfl ?_
  have h := Option.some.inj h
  subst h
  exact tw_retZ (cd := tw_c103) (b := false) rfl rfl rfl rfl
theorem e_X4_isNew (I : Nat → Int32) (L : Nat → Int64) (A : Nat → Nat → Int32) (J : Nat → Nat → Int64) (tw dr : Nat) (sc : Nat) (a1 : Int32) : ∀ r : (Bool × (Nat → Int32)), g_X4_isNew I a1 = r → tw_ME 61 (0, [some (.ref 26), some (.int a1)], [], (I, L, tw_P tw dr 14 sc, A, J, 57)) (some (.int (tw_b r.1)), ((r.2), L, tw_P tw dr 14 sc, A, J, 57)) := by
  intro r h
  unfold g_X4_isNew at h
  refine tw_blk (cd := tw_c61) rfl 1 (c1 := (1, [some (.ref 26), some (.int a1)], [.int a1], (I, L, tw_P tw dr 14 sc, A, J, 57))) rfl ?_
  by_cases hc1 : a1 = 0
  · rw [if_pos hc1] at h
    refine tw_br (cd := tw_c61) rfl rfl rfl (by exact if_pos hc1) ?_
    refine tw_blk (cd := tw_c61) rfl 5 (c1 := (7, [some (.ref 26), some (.int a1)], [.int (I 3202), .int 3, .ref 26], (I, L, tw_P tw dr 14 sc, A, J, 57))) rfl ?_
    obtain ⟨⟨c2, I3⟩, hx4, h⟩ := tw_letE h
    dsimp only at h
    refine tw_callE (cd := tw_c61) rfl rfl rfl rfl rfl (e_X4_failAt I L A J tw dr sc (3 : Int32) (I 3202) _ hx4) (by exact Or.inl rfl) ?_
    by_cases hc5 : c2 = true
    · rw [if_pos hc5] at h
      refine tw_br (cd := tw_c61) rfl rfl rfl (by exact if_neg (tw_b_t hc5)) ?_
      refine tw_blk (cd := tw_c61) rfl 2 (c1 := (12, [some (.ref 26), some (.int a1)], [.int 1], (I3, L, tw_P tw dr 14 sc, A, J, 57))) rfl ?_
      subst h
      exact tw_retZ (cd := tw_c61) (b := true) rfl rfl rfl rfl
    · rw [if_neg hc5] at h
      refine tw_br (cd := tw_c61) rfl rfl rfl (by exact if_pos (tw_b_f hc5)) ?_
      refine tw_blk (cd := tw_c61) rfl 1 (c1 := (12, [some (.ref 26), some (.int a1)], [.int 0], (I3, L, tw_P tw dr 14 sc, A, J, 57))) rfl ?_
      subst h
      exact tw_retZ (cd := tw_c61) (b := false) rfl rfl rfl rfl
  · rw [if_neg hc1] at h
    refine tw_br (cd := tw_c61) rfl rfl rfl (by exact if_neg hc1) ?_
    refine tw_blk (cd := tw_c61) rfl 2 (c1 := (12, [some (.ref 26), some (.int a1)], [.int 1], (I, L, tw_P tw dr 14 sc, A, J, 57))) rfl ?_
    subst h
    exact tw_retZ (cd := tw_c61) (b := true) rfl rfl rfl rfl
theorem e_X4_isNewSight (I : Nat → Int32) (L : Nat → Int64) (A : Nat → Nat → Int32) (J : Nat → Nat → Int64) (tw dr : Nat) (sc : Nat) : ∀ r : (Bool × (Nat → Int32)), g_X4_isNewSight I A = some r → tw_ME 62 (0, [some (.ref 26)], [], (I, L, tw_P tw dr 14 sc, A, J, 57)) (some (.int (tw_b r.1)), ((r.2), L, tw_P tw dr 14 sc, A, J, 57)) := by
  intro r h
  unfold g_X4_isNewSight at h
  refine tw_blk (cd := tw_c62) rfl 3 (c1 := (3, [some (.ref 26)], [.int 0, .ref 26, .ref 26], (I, L, tw_P tw dr 14 sc, A, J, 57))) rfl ?_
  refine tw_callE (cd := tw_c62) rfl rfl rfl rfl rfl (e_X4_readAt I L A J tw dr sc (0 : Int32) _ rfl) (by exact Or.inl rfl) ?_
  refine tw_blk (cd := tw_c62) rfl 2 (c1 := (6, [some (.ref 26)], [.int 1, .ref 26, .int (g_X4_readAt A (0 : Int32)), .ref 26], (I, L, tw_P tw dr 14 sc, A, J, 57))) rfl ?_
  refine tw_callE (cd := tw_c62) rfl rfl rfl rfl rfl (e_X4_readAt I L A J tw dr sc (1 : Int32) _ rfl) (by exact Or.inl rfl) ?_
  obtain ⟨x2, hj3, h⟩ := tw_bindE h
  have K : tw_ME 62 (21, [none], [.int x2, .ref 26], (I, L, tw_P tw dr 14 sc, A, J, 57)) (some (.int (tw_b r.1)), ((r.2), L, tw_P tw dr 14 sc, A, J, 57)) := by
    obtain ⟨⟨c7, I8⟩, hx9, h⟩ := tw_letE h
    dsimp only at h
    refine tw_callE (cd := tw_c62) rfl rfl rfl rfl rfl (e_X4_isNew I L A J tw dr sc x2 _ hx9) (by exact Or.inl rfl) ?_
    have h := Option.some.inj h
    subst h
    exact tw_retZ (cd := tw_c62) (b := c7) rfl rfl rfl rfl
  by_cases hc1 : (g_X4_readAt A (0 : Int32)) = (g_X4_readAt A (1 : Int32))
  · rw [if_pos hc1] at hj3
    refine tw_br (cd := tw_c62) rfl rfl rfl (by exact if_pos hc1) ?_
    refine tw_blk (cd := tw_c62) rfl 1 (c1 := (21, [some (.ref 26)], [.int 0, .ref 26], (I, L, tw_P tw dr 14 sc, A, J, 57))) rfl ?_
    refine tw_forget (ls2 := [none]) trivial ?_
    have hj3s := Option.some.inj hj3
    subst hj3s
    exact K
  · rw [if_neg hc1] at hj3
    refine tw_br (cd := tw_c62) rfl rfl rfl (by exact if_neg hc1) ?_
    refine tw_blk (cd := tw_c62) rfl 4 (c1 := (12, [some (.ref 26)], [.int 0, .ref 26, .ref 14, .ref 26], (I, L, tw_P tw dr 14 sc, A, J, 57))) rfl ?_
    refine tw_callE (cd := tw_c62) rfl rfl rfl rfl rfl (e_X4_readAt I L A J tw dr sc (0 : Int32) _ rfl) (by exact Or.inl rfl) ?_
    refine tw_blk (cd := tw_c62) rfl 2 (c1 := (15, [some (.ref 26)], [.int 1, .ref 26, .int (g_X4_readAt A (0 : Int32)), .ref 14, .ref 26], (I, L, tw_P tw dr 14 sc, A, J, 57))) rfl ?_
    refine tw_callE (cd := tw_c62) rfl rfl rfl rfl rfl (e_X4_readAt I L A J tw dr sc (1 : Int32) _ rfl) (by exact Or.inl rfl) ?_
    obtain ⟨c4, hx5, hj3⟩ := tw_bindE hj3
    refine tw_callE (cd := tw_c62) rfl rfl rfl rfl rfl (e_X8_hasSight_14 I L A J tw dr 14 sc (g_X4_readAt A (0 : Int32)) (g_X4_readAt A (1 : Int32)) _ hx5) (by exact Or.inl rfl) ?_
    by_cases hc6 : c4 = true
    · rw [if_pos hc6] at hj3
      refine tw_br (cd := tw_c62) rfl rfl rfl (by exact if_neg (tw_b_t hc6)) ?_
      refine tw_blk (cd := tw_c62) rfl 1 (c1 := (21, [some (.ref 26)], [.int 0, .ref 26], (I, L, tw_P tw dr 14 sc, A, J, 57))) rfl ?_
      refine tw_forget (ls2 := [none]) trivial ?_
      have hj3s := Option.some.inj hj3
      subst hj3s
      exact K
    · rw [if_neg hc6] at hj3
      refine tw_br (cd := tw_c62) rfl rfl rfl (by exact if_pos (tw_b_f hc6)) ?_
      refine tw_blk (cd := tw_c62) rfl 2 (c1 := (21, [some (.ref 26)], [.int 1, .ref 26], (I, L, tw_P tw dr 14 sc, A, J, 57))) rfl ?_
      refine tw_forget (ls2 := [none]) trivial ?_
      have hj3s := Option.some.inj hj3
      subst hj3s
      exact K
theorem e_X4_addSight (I : Nat → Int32) (L : Nat → Int64) (A : Nat → Nat → Int32) (J : Nat → Nat → Int64) (tw dr : Nat) (sc : Nat) : ∀ r : (Bool × (Nat → Nat → Int32)), g_X4_addSight A = r → tw_ME 67 (0, [some (.ref 26), none], [], (I, L, tw_P tw dr 14 sc, A, J, 57)) (some (.int (tw_b r.1)), (I, L, tw_P tw dr 14 sc, (r.2), J, 57)) := by
  intro r h
  unfold g_X4_addSight at h
  refine tw_blk (cd := tw_c67) rfl 3 (c1 := (3, [some (.ref 26), none], [.int 2, .ref 14], (I, L, tw_P tw dr 14 sc, A, J, 57))) rfl ?_
  obtain ⟨⟨x1, A2⟩, hx3, h⟩ := tw_letE h
  dsimp only at h
  refine tw_callE (cd := tw_c67) rfl rfl rfl rfl rfl (e_X8_addOne_14 I L A J tw dr 14 sc (2 : Int32) _ hx3) (by exact Or.inl rfl) ?_
  refine tw_blk (cd := tw_c67) rfl 7 (c1 := (11, [some (.ref 26), some (.int x1)], [.int 0, .ref 26, .int x1, .ref 16], (I, L, tw_P tw dr 14 sc, A2, J, 57))) rfl ?_
  refine tw_callE (cd := tw_c67) rfl rfl rfl rfl rfl (e_X4_readAt I L A2 J tw dr sc (0 : Int32) _ rfl) (by exact Or.inl rfl) ?_
  obtain ⟨w4, hw5, h⟩ := tw_letE h
  refine tw_callE (cd := tw_c67) rfl rfl rfl rfl rfl (tw_e_put I L (tw_P tw dr 14 sc) A2 J (q := 16) (N := 8) rfl rfl (by decide) x1 (g_X4_readAt A2 (0 : Int32)) w4 hw5) (by exact Or.inl rfl) ?_
  refine tw_blk (cd := tw_c67) rfl 6 (c1 := (19, [some (.ref 26), some (.int x1)], [.int 1, .ref 26, .int x1, .ref 17], (I, L, tw_P tw dr 14 sc, (va_up A2 16 w4), J, 57))) rfl ?_
  refine tw_callE (cd := tw_c67) rfl rfl rfl rfl rfl (e_X4_readAt I L (va_up A2 16 w4) J tw dr sc (1 : Int32) _ rfl) (by exact Or.inl rfl) ?_
  obtain ⟨w6, hw7, h⟩ := tw_letE h
  refine tw_callE (cd := tw_c67) rfl rfl rfl rfl rfl (tw_e_put I L (tw_P tw dr 14 sc) (va_up A2 16 w4) J (q := 17) (N := 8) rfl rfl (by decide) x1 (g_X4_readAt (va_up A2 16 w4) (1 : Int32)) w6 hw7) (by exact Or.inl rfl) ?_
  refine tw_blk (cd := tw_c67) rfl 1 (c1 := (22, [some (.ref 26), some (.int x1)], [.int 1], (I, L, tw_P tw dr 14 sc, (va_up (va_up A2 16 w4) 17 w6), J, 57))) rfl ?_
  subst h
  exact tw_retZ (cd := tw_c67) (b := true) rfl rfl rfl rfl
theorem e_X4_kind (I : Nat → Int32) (L : Nat → Int64) (A : Nat → Nat → Int32) (J : Nat → Nat → Int64) (tw dr : Nat) (sc : Nat) : ∀ r : (Bool × (Nat → Int32) × (Nat → Int64) × (Nat → Nat → Int32)), g_X4_kind I L A = some r → tw_ME 57 (0, [some (.ref 26)], [], (I, L, tw_P tw dr 14 sc, A, J, 57)) (some (.int (tw_b r.1)), ((r.2.1), (r.2.2.1), tw_P tw dr 14 sc, (r.2.2.2), J, 57)) := by
  intro r h
  unfold g_X4_kind at h
  refine tw_blk (cd := tw_c57) rfl 3 (c1 := (3, [some (.ref 26)], [.ref 1013, .ref 32], (I, L, tw_P tw dr 14 sc, A, J, 57))) rfl ?_
  obtain ⟨c1, hx2, h⟩ := tw_bindE h
  refine tw_callE (cd := tw_c57) rfl rfl rfl rfl rfl (e_X7_isWord I L A J tw dr 14 sc 1013 (by decide) _ hx2) (by exact Or.inl rfl) ?_
  by_cases hc3 : c1 = true
  · rw [if_pos hc3] at h
    refine tw_br (cd := tw_c57) rfl rfl rfl (by exact if_neg (tw_b_t hc3)) ?_
    refine tw_blk (cd := tw_c57) rfl 2 (c1 := (7, [some (.ref 26)], [.int 0, .ref 26], (I, L, tw_P tw dr 14 sc, A, J, 57))) rfl ?_
    obtain ⟨⟨c4, I5, L6, A7⟩, hx8, h⟩ := tw_bindE h
    dsimp only at h
    refine tw_callE (cd := tw_c57) rfl rfl rfl rfl rfl (e_X4_note I L A J tw dr sc (0 : Int32) _ hx8) (by exact Or.inl rfl) ?_
    have h := Option.some.inj h
    subst h
    exact tw_retZ (cd := tw_c57) (b := c4) rfl rfl rfl rfl
  · rw [if_neg hc3] at h
    refine tw_br (cd := tw_c57) rfl rfl rfl (by exact if_pos (tw_b_f hc3)) ?_
    refine tw_blk (cd := tw_c57) rfl 3 (c1 := (12, [some (.ref 26)], [.ref 1004, .ref 32], (I, L, tw_P tw dr 14 sc, A, J, 57))) rfl ?_
    obtain ⟨c9, hx10, h⟩ := tw_bindE h
    refine tw_callE (cd := tw_c57) rfl rfl rfl rfl rfl (e_X7_isWord I L A J tw dr 14 sc 1004 (by decide) _ hx10) (by exact Or.inl rfl) ?_
    by_cases hc11 : c9 = true
    · rw [if_pos hc11] at h
      refine tw_br (cd := tw_c57) rfl rfl rfl (by exact if_neg (tw_b_t hc11)) ?_
      refine tw_blk (cd := tw_c57) rfl 2 (c1 := (16, [some (.ref 26)], [.int 1, .ref 26], (I, L, tw_P tw dr 14 sc, A, J, 57))) rfl ?_
      obtain ⟨⟨c12, I13, L14, A15⟩, hx16, h⟩ := tw_bindE h
      dsimp only at h
      refine tw_callE (cd := tw_c57) rfl rfl rfl rfl rfl (e_X4_note I L A J tw dr sc (1 : Int32) _ hx16) (by exact Or.inl rfl) ?_
      have h := Option.some.inj h
      subst h
      exact tw_retZ (cd := tw_c57) (b := c12) rfl rfl rfl rfl
    · rw [if_neg hc11] at h
      refine tw_br (cd := tw_c57) rfl rfl rfl (by exact if_pos (tw_b_f hc11)) ?_
      refine tw_blk (cd := tw_c57) rfl 3 (c1 := (21, [some (.ref 26)], [.ref 1002, .ref 32], (I, L, tw_P tw dr 14 sc, A, J, 57))) rfl ?_
      obtain ⟨c17, hx18, h⟩ := tw_bindE h
      refine tw_callE (cd := tw_c57) rfl rfl rfl rfl rfl (e_X7_isWord I L A J tw dr 14 sc 1002 (by decide) _ hx18) (by exact Or.inl rfl) ?_
      by_cases hc19 : c17 = true
      · rw [if_pos hc19] at h
        refine tw_br (cd := tw_c57) rfl rfl rfl (by exact if_neg (tw_b_t hc19)) ?_
        refine tw_blk (cd := tw_c57) rfl 2 (c1 := (25, [some (.ref 26)], [.int 2, .ref 26], (I, L, tw_P tw dr 14 sc, A, J, 57))) rfl ?_
        obtain ⟨⟨c20, I21, L22, A23⟩, hx24, h⟩ := tw_bindE h
        dsimp only at h
        refine tw_callE (cd := tw_c57) rfl rfl rfl rfl rfl (e_X4_note I L A J tw dr sc (2 : Int32) _ hx24) (by exact Or.inl rfl) ?_
        have h := Option.some.inj h
        subst h
        exact tw_retZ (cd := tw_c57) (b := c20) rfl rfl rfl rfl
      · rw [if_neg hc19] at h
        refine tw_br (cd := tw_c57) rfl rfl rfl (by exact if_pos (tw_b_f hc19)) ?_
        refine tw_blk (cd := tw_c57) rfl 3 (c1 := (30, [some (.ref 26)], [.ref 1001, .ref 32], (I, L, tw_P tw dr 14 sc, A, J, 57))) rfl ?_
        obtain ⟨c25, hx26, h⟩ := tw_bindE h
        refine tw_callE (cd := tw_c57) rfl rfl rfl rfl rfl (e_X7_isWord I L A J tw dr 14 sc 1001 (by decide) _ hx26) (by exact Or.inl rfl) ?_
        by_cases hc27 : c25 = true
        · rw [if_pos hc27] at h
          refine tw_br (cd := tw_c57) rfl rfl rfl (by exact if_neg (tw_b_t hc27)) ?_
          refine tw_blk (cd := tw_c57) rfl 2 (c1 := (34, [some (.ref 26)], [.int 3, .ref 26], (I, L, tw_P tw dr 14 sc, A, J, 57))) rfl ?_
          obtain ⟨⟨c28, I29, L30, A31⟩, hx32, h⟩ := tw_bindE h
          dsimp only at h
          refine tw_callE (cd := tw_c57) rfl rfl rfl rfl rfl (e_X4_note I L A J tw dr sc (3 : Int32) _ hx32) (by exact Or.inl rfl) ?_
          refine tw_blk (cd := tw_c57) rfl 1 (c1 := (39, [some (.ref 26)], [.int (tw_b c28)], (I29, L30, tw_P tw dr 14 sc, A31, J, 57))) rfl ?_
          have h := Option.some.inj h
          subst h
          exact tw_retZ (cd := tw_c57) (b := c28) rfl rfl rfl rfl
        · rw [if_neg hc27] at h
          refine tw_br (cd := tw_c57) rfl rfl rfl (by exact if_pos (tw_b_f hc27)) ?_
          refine tw_blk (cd := tw_c57) rfl 2 (c1 := (38, [some (.ref 26)], [.int 1, .ref 26], (I, L, tw_P tw dr 14 sc, A, J, 57))) rfl ?_
          obtain ⟨⟨c33, I34⟩, hx35, h⟩ := tw_letE h
          dsimp only at h
          refine tw_callE (cd := tw_c57) rfl rfl rfl rfl rfl (e_X4_fail I L A J tw dr sc (1 : Int32) _ hx35) (by exact Or.inl rfl) ?_
          have h := Option.some.inj h
          subst h
          exact tw_retZ (cd := tw_c57) (b := c33) rfl rfl rfl rfl
theorem g_X8_placeFrom_14_L1_ok (I : Nat → Int32) (L : Nat → Int64) (A : Nat → Nat → Int32) (J : Nat → Nat → Int64) (tw : Nat) (dr : Nat) (rt : Nat) (sc : Nat) (a1 : Int32) (a2 : Int32) (a3 : Int32) (out : Option Value × tw_S) : ∀ (n : Nat) (v1_4 : Int32) (A_1 : Nat → Nat → Int32) (ex : Nat → Nat → Int32), g_X8_placeFrom_14_L1 a1 a2 n v1_4 A_1 = some ex → tw_ME 102 (16, [none, none, none, none, none], [], (I, L, tw_P tw dr rt sc, ex, J, 57)) out → tw_ME 102 (2, [some (.ref 14), some (.int a1), some (.int a2), none, some (.int v1_4)], [], (I, L, tw_P tw dr rt sc, A_1, J, 57)) out := by
  intro n
  induction n with
  | zero =>
    intro v1_4 A_1 ex h _
    cases h
  | succ n ih =>
    intro v1_4 A_1 ex h K
    rw [g_X8_placeFrom_14_L1] at h
    refine tw_blk (cd := tw_c102) rfl 1 (c1 := (3, [some (.ref 14), some (.int a1), some (.int a2), none, some (.int v1_4)], [.int v1_4], (I, L, tw_P tw dr rt sc, A_1, J, 57))) rfl ?_
    refine tw_blk (cd := tw_c102) rfl 1 (c1 := (4, [some (.ref 14), some (.int a1), some (.int a2), none, some (.int v1_4)], [.int 60, .int v1_4], (I, L, tw_P tw dr rt sc, A_1, J, 57))) rfl ?_
    by_cases hc2 : (60 : Int32) ≤ v1_4
    · rw [if_pos hc2] at h
      refine tw_br (cd := tw_c102) rfl rfl rfl (by exact if_pos hc2) ?_
      refine tw_forget (ls2 := [none, none, none, none, none]) trivial ?_
      have h := Option.some.inj h
      subst h
      exact K
    · rw [if_neg hc2] at h
      refine tw_br (cd := tw_c102) rfl rfl rfl (by exact if_neg hc2) ?_
      refine tw_blk (cd := tw_c102) rfl 8 (c1 := (13, [some (.ref 14), some (.int a1), some (.int a2), none, some (.int v1_4)], [.int a2, .int ((a1 * (60 : Int32)) + v1_4), .ref 21], (I, L, tw_P tw dr rt sc, A_1, J, 57))) rfl ?_
      obtain ⟨w3, hw4, h⟩ := tw_letE h
      refine tw_callE (cd := tw_c102) rfl rfl rfl rfl rfl (tw_e_put I L (tw_P tw dr rt sc) A_1 J (q := 21) (N := 360) rfl rfl (by decide) ((a1 * (60 : Int32)) + v1_4) a2 w3 hw4) (by exact Or.inl rfl) ?_
      refine tw_blk (cd := tw_c102) rfl 2 (c1 := (2, [some (.ref 14), some (.int a1), some (.int a2), none, some (.int (v1_4 + (1 : Int32)))], [], (I, L, tw_P tw dr rt sc, (va_up A_1 21 w3), J, 57))) rfl ?_
      exact ih (v1_4 + (1 : Int32)) (va_up A_1 21 w3) _ h K
theorem e_X8_placeFrom_14 (I : Nat → Int32) (L : Nat → Int64) (A : Nat → Nat → Int32) (J : Nat → Nat → Int64) (tw dr : Nat) (rt : Nat) (sc : Nat) (a1 : Int32) (a2 : Int32) (a3 : Int32) : ∀ r : Nat → Nat → Int32, g_X8_placeFrom_14 A a1 a2 a3 = some r → tw_ME 102 (0, [some (.ref 14), some (.int a1), some (.int a2), some (.int a3), none], [], (I, L, tw_P tw dr rt sc, A, J, 57)) (none, (I, L, tw_P tw dr rt sc, r, J, 57)) := by
  intro r h
  unfold g_X8_placeFrom_14 at h
  refine tw_blk (cd := tw_c102) rfl 2 (c1 := (2, [some (.ref 14), some (.int a1), some (.int a2), some (.int a3), some (.int a3)], [], (I, L, tw_P tw dr rt sc, A, J, 57))) rfl ?_
  obtain ⟨A1, hx5, h⟩ := tw_bindE h
  refine tw_forget (ls2 := [some (.ref 14), some (.int a1), some (.int a2), none, some (.int a3)]) ⟨rfl, rfl, rfl, rfl, trivial⟩ ?_
  refine g_X8_placeFrom_14_L1_ok I L A J tw dr rt sc a1 a2 a3 _ 4096 a3 A _ hx5 ?_
  have h := Option.some.inj h
  subst h
  exact tw_retE (cd := tw_c102) rfl rfl rfl rfl
theorem e_X4_addPerson (I : Nat → Int32) (L : Nat → Int64) (A : Nat → Nat → Int32) (J : Nat → Nat → Int64) (tw dr : Nat) (sc : Nat) : ∀ r : (Bool × (Nat → Nat → Int32)), g_X4_addPerson A = some r → tw_ME 68 (0, [some (.ref 26), none], [], (I, L, tw_P tw dr 14 sc, A, J, 57)) (some (.int (tw_b r.1)), (I, L, tw_P tw dr 14 sc, (r.2), J, 57)) := by
  intro r h
  unfold g_X4_addPerson at h
  refine tw_blk (cd := tw_c68) rfl 3 (c1 := (3, [some (.ref 26), none], [.int 3, .ref 14], (I, L, tw_P tw dr 14 sc, A, J, 57))) rfl ?_
  obtain ⟨⟨x1, A2⟩, hx3, h⟩ := tw_letE h
  dsimp only at h
  refine tw_callE (cd := tw_c68) rfl rfl rfl rfl rfl (e_X8_addOne_14 I L A J tw dr 14 sc (3 : Int32) _ hx3) (by exact Or.inl rfl) ?_
  refine tw_blk (cd := tw_c68) rfl 7 (c1 := (11, [some (.ref 26), some (.int x1)], [.int 0, .ref 26, .int x1, .ref 18], (I, L, tw_P tw dr 14 sc, A2, J, 57))) rfl ?_
  refine tw_callE (cd := tw_c68) rfl rfl rfl rfl rfl (e_X4_readAt I L A2 J tw dr sc (0 : Int32) _ rfl) (by exact Or.inl rfl) ?_
  obtain ⟨w4, hw5, h⟩ := tw_letE h
  refine tw_callE (cd := tw_c68) rfl rfl rfl rfl rfl (tw_e_put I L (tw_P tw dr 14 sc) A2 J (q := 18) (N := 6) rfl rfl (by decide) x1 (g_X4_readAt A2 (0 : Int32)) w4 hw5) (by exact Or.inl rfl) ?_
  refine tw_blk (cd := tw_c68) rfl 6 (c1 := (19, [some (.ref 26), some (.int x1)], [.int 2, .ref 26, .int x1, .ref 19], (I, L, tw_P tw dr 14 sc, (va_up A2 18 w4), J, 57))) rfl ?_
  refine tw_callE (cd := tw_c68) rfl rfl rfl rfl rfl (e_X4_readAt I L (va_up A2 18 w4) J tw dr sc (2 : Int32) _ rfl) (by exact Or.inl rfl) ?_
  obtain ⟨w6, hw7, h⟩ := tw_letE h
  refine tw_callE (cd := tw_c68) rfl rfl rfl rfl rfl (tw_e_put I L (tw_P tw dr 14 sc) (va_up A2 18 w4) J (q := 19) (N := 6) rfl rfl (by decide) x1 (g_X4_readAt (va_up A2 18 w4) (2 : Int32)) w6 hw7) (by exact Or.inl rfl) ?_
  refine tw_blk (cd := tw_c68) rfl 5 (c1 := (26, [some (.ref 26), some (.int x1)], [.int 1, .ref 26, .int x1, .ref 14], (I, L, tw_P tw dr 14 sc, (va_up (va_up A2 18 w4) 19 w6), J, 57))) rfl ?_
  refine tw_callE (cd := tw_c68) rfl rfl rfl rfl rfl (e_X4_readAt I L (va_up (va_up A2 18 w4) 19 w6) J tw dr sc (1 : Int32) _ rfl) (by exact Or.inl rfl) ?_
  refine tw_blk (cd := tw_c68) rfl 1 (c1 := (28, [some (.ref 26), some (.int x1)], [.int 0, .int (g_X4_readAt (va_up (va_up A2 18 w4) 19 w6) (1 : Int32)), .int x1, .ref 14], (I, L, tw_P tw dr 14 sc, (va_up (va_up A2 18 w4) 19 w6), J, 57))) rfl ?_
  obtain ⟨A8, hx9, h⟩ := tw_bindE h
  refine tw_callE (cd := tw_c68) rfl rfl rfl rfl rfl (e_X8_placeFrom_14 I L (va_up (va_up A2 18 w4) 19 w6) J tw dr 14 sc x1 (g_X4_readAt (va_up (va_up A2 18 w4) 19 w6) (1 : Int32)) (0 : Int32) _ hx9) (by exact Or.inl rfl) ?_
  refine tw_blk (cd := tw_c68) rfl 1 (c1 := (30, [some (.ref 26), some (.int x1)], [.int 1], (I, L, tw_P tw dr 14 sc, A8, J, 57))) rfl ?_
  have h := Option.some.inj h
  subst h
  exact tw_retZ (cd := tw_c68) (b := true) rfl rfl rfl rfl
theorem e_X4_isLater (I : Nat → Int32) (L : Nat → Int64) (A : Nat → Nat → Int32) (J : Nat → Nat → Int64) (tw dr : Nat) (sc : Nat) : ∀ r : (Bool × (Nat → Int32)), g_X4_isLater I A = r → tw_ME 64 (0, [some (.ref 26)], [], (I, L, tw_P tw dr 14 sc, A, J, 57)) (some (.int (tw_b r.1)), ((r.2), L, tw_P tw dr 14 sc, A, J, 57)) := by
  intro r h
  unfold g_X4_isLater at h
  refine tw_blk (cd := tw_c64) rfl 2 (c1 := (2, [some (.ref 26)], [.int 2, .ref 26], (I, L, tw_P tw dr 14 sc, A, J, 57))) rfl ?_
  refine tw_callE (cd := tw_c64) rfl rfl rfl rfl rfl (e_X4_readAt I L A J tw dr sc (2 : Int32) _ rfl) (by exact Or.inl rfl) ?_
  refine tw_blk (cd := tw_c64) rfl 4 (c1 := (7, [some (.ref 26)], [.int 0, .ref 26, .ref 30, .int (g_X4_readAt A (2 : Int32))], (I, L, tw_P tw dr 14 sc, A, J, 57))) rfl ?_
  refine tw_callE (cd := tw_c64) rfl rfl rfl rfl rfl (e_X4_readAt I L A J tw dr sc (0 : Int32) _ rfl) (by exact Or.inl rfl) ?_
  refine tw_callE (cd := tw_c64) rfl rfl rfl rfl rfl (tw_e_get I L (tw_P tw dr 14 sc) A J (q := 30) (N := 6) rfl rfl (by decide) (g_X4_readAt A (0 : Int32))) (by exact Or.inl rfl) ?_
  by_cases hc1 : (tw_get0 6 (A 30) (g_X4_readAt A (0 : Int32))) < (g_X4_readAt A (2 : Int32))
  · rw [if_pos hc1] at h
    refine tw_br (cd := tw_c64) rfl rfl rfl (by exact if_pos hc1) ?_
    refine tw_blk (cd := tw_c64) rfl 2 (c1 := (20, [some (.ref 26)], [.int 1], (I, L, tw_P tw dr 14 sc, A, J, 57))) rfl ?_
    subst h
    exact tw_retZ (cd := tw_c64) (b := true) rfl rfl rfl rfl
  · rw [if_neg hc1] at h
    refine tw_br (cd := tw_c64) rfl rfl rfl (by exact if_neg hc1) ?_
    refine tw_blk (cd := tw_c64) rfl 5 (c1 := (15, [some (.ref 26)], [.int (I 3202), .int 7, .ref 26], (I, L, tw_P tw dr 14 sc, A, J, 57))) rfl ?_
    obtain ⟨⟨c2, I3⟩, hx4, h⟩ := tw_letE h
    dsimp only at h
    refine tw_callE (cd := tw_c64) rfl rfl rfl rfl rfl (e_X4_failAt I L A J tw dr sc (7 : Int32) (I 3202) _ hx4) (by exact Or.inl rfl) ?_
    by_cases hc5 : c2 = true
    · rw [if_pos hc5] at h
      refine tw_br (cd := tw_c64) rfl rfl rfl (by exact if_neg (tw_b_t hc5)) ?_
      refine tw_blk (cd := tw_c64) rfl 2 (c1 := (20, [some (.ref 26)], [.int 1], (I3, L, tw_P tw dr 14 sc, A, J, 57))) rfl ?_
      subst h
      exact tw_retZ (cd := tw_c64) (b := true) rfl rfl rfl rfl
    · rw [if_neg hc5] at h
      refine tw_br (cd := tw_c64) rfl rfl rfl (by exact if_pos (tw_b_f hc5)) ?_
      refine tw_blk (cd := tw_c64) rfl 1 (c1 := (20, [some (.ref 26)], [.int 0], (I3, L, tw_P tw dr 14 sc, A, J, 57))) rfl ?_
      subst h
      exact tw_retZ (cd := tw_c64) (b := false) rfl rfl rfl rfl
