/-! the machine does what the functions say -/
set_option maxRecDepth 16000
theorem e_X4_addGoing (I : Nat → Int32) (L : Nat → Int64) (A : Nat → Nat → Int32) (J : Nat → Nat → Int64) (tw dr : Nat) (sc : Nat) : ∀ r : (Bool × (Nat → Nat → Int32)), g_X4_addGoing A = some r → tw_ME 69 (0, [some (.ref 26)], [], (I, L, tw_P tw dr 14 sc, A, J, 57)) (some (.int (tw_b r.1)), (I, L, tw_P tw dr 14 sc, (r.2), J, 57)) := by
  intro r h
  unfold g_X4_addGoing at h
  refine tw_blk (cd := tw_c69) rfl 3 (c1 := (3, [some (.ref 26)], [.int 4, .ref 14], (I, L, tw_P tw dr 14 sc, A, J, 57))) rfl ?_
  obtain ⟨⟨x1, A2⟩, hx3, h⟩ := tw_letE h
  dsimp only at h
  refine tw_callE (cd := tw_c69) rfl rfl rfl rfl rfl (e_X8_addOne_14 I L A J tw dr 14 sc (4 : Int32) _ hx3) (by exact Or.inl rfl) ?_
  refine tw_blk (cd := tw_c69) rfl 5 (c1 := (9, [some (.ref 26)], [.int 0, .ref 26, .ref 14], (I, L, tw_P tw dr 14 sc, A2, J, 57))) rfl ?_
  refine tw_callE (cd := tw_c69) rfl rfl rfl rfl rfl (e_X4_readAt I L A2 J tw dr sc (0 : Int32) _ rfl) (by exact Or.inl rfl) ?_
  refine tw_blk (cd := tw_c69) rfl 2 (c1 := (12, [some (.ref 26)], [.int 1, .ref 26, .int (g_X4_readAt A2 (0 : Int32)), .ref 14], (I, L, tw_P tw dr 14 sc, A2, J, 57))) rfl ?_
  refine tw_callE (cd := tw_c69) rfl rfl rfl rfl rfl (e_X4_readAt I L A2 J tw dr sc (1 : Int32) _ rfl) (by exact Or.inl rfl) ?_
  refine tw_blk (cd := tw_c69) rfl 2 (c1 := (15, [some (.ref 26)], [.int 2, .ref 26, .int (g_X4_readAt A2 (1 : Int32)), .int (g_X4_readAt A2 (0 : Int32)), .ref 14], (I, L, tw_P tw dr 14 sc, A2, J, 57))) rfl ?_
  refine tw_callE (cd := tw_c69) rfl rfl rfl rfl rfl (e_X4_readAt I L A2 J tw dr sc (2 : Int32) _ rfl) (by exact Or.inl rfl) ?_
  obtain ⟨A4, hx5, h⟩ := tw_bindE h
  refine tw_callE (cd := tw_c69) rfl rfl rfl rfl rfl (e_X8_placeFrom_14 I L A2 J tw dr 14 sc (g_X4_readAt A2 (0 : Int32)) (g_X4_readAt A2 (1 : Int32)) (g_X4_readAt A2 (2 : Int32)) _ hx5) (by exact Or.inl rfl) ?_
  refine tw_blk (cd := tw_c69) rfl 4 (c1 := (21, [some (.ref 26)], [.int 0, .ref 26, .ref 30], (I, L, tw_P tw dr 14 sc, A4, J, 57))) rfl ?_
  refine tw_callE (cd := tw_c69) rfl rfl rfl rfl rfl (e_X4_readAt I L A4 J tw dr sc (0 : Int32) _ rfl) (by exact Or.inl rfl) ?_
  refine tw_blk (cd := tw_c69) rfl 2 (c1 := (24, [some (.ref 26)], [.int 2, .ref 26, .int (g_X4_readAt A4 (0 : Int32)), .ref 30], (I, L, tw_P tw dr 14 sc, A4, J, 57))) rfl ?_
  refine tw_callE (cd := tw_c69) rfl rfl rfl rfl rfl (e_X4_readAt I L A4 J tw dr sc (2 : Int32) _ rfl) (by exact Or.inl rfl) ?_
  obtain ⟨w6, hw7, h⟩ := tw_letE h
  refine tw_callE (cd := tw_c69) rfl rfl rfl rfl rfl (tw_e_put I L (tw_P tw dr 14 sc) A4 J (q := 30) (N := 6) rfl rfl (by decide) (g_X4_readAt A4 (0 : Int32)) (g_X4_readAt A4 (2 : Int32)) w6 hw7) (by exact Or.inl rfl) ?_
  refine tw_blk (cd := tw_c69) rfl 1 (c1 := (27, [some (.ref 26)], [.int 1], (I, L, tw_P tw dr 14 sc, (va_up A4 30 w6), J, 57))) rfl ?_
  have h := Option.some.inj h
  subst h
  exact tw_retZ (cd := tw_c69) (b := true) rfl rfl rfl rfl
theorem e_X4_isAnotherOne (I : Nat → Int32) (L : Nat → Int64) (A : Nat → Nat → Int32) (J : Nat → Nat → Int64) (tw dr : Nat) (sc : Nat) : ∀ r : (Bool × (Nat → Int32)), g_X4_isAnotherOne I A = r → tw_ME 63 (0, [some (.ref 26)], [], (I, L, tw_P tw dr 14 sc, A, J, 57)) (some (.int (tw_b r.1)), ((r.2), L, tw_P tw dr 14 sc, A, J, 57)) := by
  intro r h
  unfold g_X4_isAnotherOne at h
  refine tw_blk (cd := tw_c63) rfl 3 (c1 := (3, [some (.ref 26)], [.int 0, .ref 26, .ref 26], (I, L, tw_P tw dr 14 sc, A, J, 57))) rfl ?_
  refine tw_callE (cd := tw_c63) rfl rfl rfl rfl rfl (e_X4_readAt I L A J tw dr sc (0 : Int32) _ rfl) (by exact Or.inl rfl) ?_
  refine tw_blk (cd := tw_c63) rfl 2 (c1 := (6, [some (.ref 26)], [.int 1, .ref 26, .int (g_X4_readAt A (0 : Int32)), .ref 26], (I, L, tw_P tw dr 14 sc, A, J, 57))) rfl ?_
  refine tw_callE (cd := tw_c63) rfl rfl rfl rfl rfl (e_X4_readAt I L A J tw dr sc (1 : Int32) _ rfl) (by exact Or.inl rfl) ?_
  obtain ⟨x2, hj3, h⟩ := tw_letE h
  have K : tw_ME 63 (11, [none], [.int x2, .ref 26], (I, L, tw_P tw dr 14 sc, A, J, 57)) (some (.int (tw_b r.1)), ((r.2), L, tw_P tw dr 14 sc, A, J, 57)) := by
    obtain ⟨⟨c4, I5⟩, hx6, h⟩ := tw_letE h
    dsimp only at h
    refine tw_callE (cd := tw_c63) rfl rfl rfl rfl rfl (e_X4_isNew I L A J tw dr sc x2 _ hx6) (by exact Or.inl rfl) ?_
    subst h
    exact tw_retZ (cd := tw_c63) (b := c4) rfl rfl rfl rfl
  by_cases hc1 : (g_X4_readAt A (0 : Int32)) = (g_X4_readAt A (1 : Int32))
  · rw [if_pos hc1] at hj3
    refine tw_br (cd := tw_c63) rfl rfl rfl (by exact if_pos hc1) ?_
    refine tw_blk (cd := tw_c63) rfl 1 (c1 := (11, [some (.ref 26)], [.int 0, .ref 26], (I, L, tw_P tw dr 14 sc, A, J, 57))) rfl ?_
    refine tw_forget (ls2 := [none]) trivial ?_
    subst hj3
    exact K
  · rw [if_neg hc1] at hj3
    refine tw_br (cd := tw_c63) rfl rfl rfl (by exact if_neg hc1) ?_
    refine tw_blk (cd := tw_c63) rfl 2 (c1 := (11, [some (.ref 26)], [.int 1, .ref 26], (I, L, tw_P tw dr 14 sc, A, J, 57))) rfl ?_
    refine tw_forget (ls2 := [none]) trivial ?_
    subst hj3
    exact K
theorem g_X4_addQuarrel_L1_ok (I : Nat → Int32) (L : Nat → Int64) (A : Nat → Nat → Int32) (J : Nat → Nat → Int64) (tw : Nat) (dr : Nat) (sc : Nat) (x1 : Int32) (A2 : Nat → Nat → Int32) (out : Option Value × tw_S) : ∀ (n : Nat) (v1_2 : Int32) (A_1 : Nat → Nat → Int32) (ex : Nat → Nat → Int32), g_X4_addQuarrel_L1 x1 n v1_2 A_1 = some ex → tw_ME 70 (24, [none, none, none], [], (I, L, tw_P tw dr 14 sc, ex, J, 57)) out → tw_ME 70 (7, [some (.ref 26), some (.int x1), some (.int v1_2)], [], (I, L, tw_P tw dr 14 sc, A_1, J, 57)) out := by
  intro n
  induction n with
  | zero =>
    intro v1_2 A_1 ex h _
    cases h
  | succ n ih =>
    intro v1_2 A_1 ex h K
    rw [g_X4_addQuarrel_L1] at h
    refine tw_blk (cd := tw_c70) rfl 1 (c1 := (8, [some (.ref 26), some (.int x1), some (.int v1_2)], [.int v1_2], (I, L, tw_P tw dr 14 sc, A_1, J, 57))) rfl ?_
    refine tw_blk (cd := tw_c70) rfl 1 (c1 := (9, [some (.ref 26), some (.int x1), some (.int v1_2)], [.int 5, .int v1_2], (I, L, tw_P tw dr 14 sc, A_1, J, 57))) rfl ?_
    by_cases hc5 : (5 : Int32) ≤ v1_2
    · rw [if_pos hc5] at h
      refine tw_br (cd := tw_c70) rfl rfl rfl (by exact if_pos hc5) ?_
      refine tw_forget (ls2 := [none, none, none]) trivial ?_
      have h := Option.some.inj h
      subst h
      exact K
    · rw [if_neg hc5] at h
      refine tw_br (cd := tw_c70) rfl rfl rfl (by exact if_neg hc5) ?_
      refine tw_blk (cd := tw_c70) rfl 10 (c1 := (20, [some (.ref 26), some (.int x1), some (.int v1_2)], [.int v1_2, .ref 26, .int ((x1 * (5 : Int32)) + v1_2), .ref 22], (I, L, tw_P tw dr 14 sc, A_1, J, 57))) rfl ?_
      refine tw_callE (cd := tw_c70) rfl rfl rfl rfl rfl (e_X4_readAt I L A_1 J tw dr sc v1_2 _ rfl) (by exact Or.inl rfl) ?_
      obtain ⟨w6, hw7, h⟩ := tw_letE h
      refine tw_callE (cd := tw_c70) rfl rfl rfl rfl rfl (tw_e_put I L (tw_P tw dr 14 sc) A_1 J (q := 22) (N := 15) rfl rfl (by decide) ((x1 * (5 : Int32)) + v1_2) (g_X4_readAt A_1 v1_2) w6 hw7) (by exact Or.inl rfl) ?_
      refine tw_blk (cd := tw_c70) rfl 2 (c1 := (7, [some (.ref 26), some (.int x1), some (.int (v1_2 + (1 : Int32)))], [], (I, L, tw_P tw dr 14 sc, (va_up A_1 22 w6), J, 57))) rfl ?_
      exact ih (v1_2 + (1 : Int32)) (va_up A_1 22 w6) _ h K
theorem e_X4_addQuarrel (I : Nat → Int32) (L : Nat → Int64) (A : Nat → Nat → Int32) (J : Nat → Nat → Int64) (tw dr : Nat) (sc : Nat) : ∀ r : (Bool × (Nat → Nat → Int32)), g_X4_addQuarrel A = some r → tw_ME 70 (0, [some (.ref 26), none, none], [], (I, L, tw_P tw dr 14 sc, A, J, 57)) (some (.int (tw_b r.1)), (I, L, tw_P tw dr 14 sc, (r.2), J, 57)) := by
  intro r h
  unfold g_X4_addQuarrel at h
  refine tw_blk (cd := tw_c70) rfl 3 (c1 := (3, [some (.ref 26), none, none], [.int 5, .ref 14], (I, L, tw_P tw dr 14 sc, A, J, 57))) rfl ?_
  obtain ⟨⟨x1, A2⟩, hx3, h⟩ := tw_letE h
  dsimp only at h
  refine tw_callE (cd := tw_c70) rfl rfl rfl rfl rfl (e_X8_addOne_14 I L A J tw dr 14 sc (5 : Int32) _ hx3) (by exact Or.inl rfl) ?_
  refine tw_blk (cd := tw_c70) rfl 3 (c1 := (7, [some (.ref 26), some (.int x1), some (.int 0)], [], (I, L, tw_P tw dr 14 sc, A2, J, 57))) rfl ?_
  obtain ⟨A4, hx8, h⟩ := tw_bindE h
  refine g_X4_addQuarrel_L1_ok I L A J tw dr sc x1 A2 _ 4096 (0 : Int32) A2 _ hx8 ?_
  refine tw_blk (cd := tw_c70) rfl 1 (c1 := (25, [none, none, none], [.int 1], (I, L, tw_P tw dr 14 sc, A4, J, 57))) rfl ?_
  have h := Option.some.inj h
  subst h
  exact tw_retZ (cd := tw_c70) (b := true) rfl rfl rfl rfl
theorem e_X8_canBeHired_14 (I : Nat → Int32) (L : Nat → Int64) (A : Nat → Nat → Int32) (J : Nat → Nat → Int64) (tw dr : Nat) (rt : Nat) (sc : Nat) (a1 : Int32) : ∀ r : Bool, g_X8_canBeHired_14 A a1 = r → tw_ME 105 (0, [some (.ref 14), some (.int a1)], [], (I, L, tw_P tw dr rt sc, A, J, 57)) (some (.int (tw_b r)), (I, L, tw_P tw dr rt sc, A, J, 57)) := by
  intro r h
  unfold g_X8_canBeHired_14 at h
  refine tw_blk (cd := tw_c105) rfl 3 (c1 := (3, [some (.ref 14), some (.int a1)], [.int a1, .ref 20], (I, L, tw_P tw dr rt sc, A, J, 57))) rfl ?_
  refine tw_callE (cd := tw_c105) rfl rfl rfl rfl rfl (tw_e_get I L (tw_P tw dr rt sc) A J (q := 20) (N := 6) rfl rfl (by decide) a1) (by exact Or.inl rfl) ?_
  refine tw_blk (cd := tw_c105) rfl 1 (c1 := (5, [some (.ref 14), some (.int a1)], [.int (-2), .int (tw_get0 6 (A 20) a1)], (I, L, tw_P tw dr rt sc, A, J, 57))) rfl ?_
  by_cases hc1 : (tw_get0 6 (A 20) a1) = (-2 : Int32)
  · rw [if_pos hc1] at h
    refine tw_br (cd := tw_c105) rfl rfl rfl (by exact if_pos hc1) ?_
    refine tw_blk (cd := tw_c105) rfl 1 (c1 := (9, [some (.ref 14), some (.int a1)], [.int 0], (I, L, tw_P tw dr rt sc, A, J, 57))) rfl ?_
    subst h
    exact tw_retZ (cd := tw_c105) (b := false) rfl rfl rfl rfl
  · rw [if_neg hc1] at h
    refine tw_br (cd := tw_c105) rfl rfl rfl (by exact if_neg hc1) ?_
    refine tw_blk (cd := tw_c105) rfl 2 (c1 := (9, [some (.ref 14), some (.int a1)], [.int 1], (I, L, tw_P tw dr rt sc, A, J, 57))) rfl ?_
    subst h
    exact tw_retZ (cd := tw_c105) (b := true) rfl rfl rfl rfl
theorem e_X4_addHirable (I : Nat → Int32) (L : Nat → Int64) (A : Nat → Nat → Int32) (J : Nat → Nat → Int64) (tw dr : Nat) (sc : Nat) : ∀ r : (Bool × (Nat → Nat → Int32)), g_X4_addHirable A = r → tw_ME 71 (0, [some (.ref 26)], [], (I, L, tw_P tw dr 14 sc, A, J, 57)) (some (.int (tw_b r.1)), (I, L, tw_P tw dr 14 sc, (r.2), J, 57)) := by
  intro r h
  unfold g_X4_addHirable at h
  refine tw_blk (cd := tw_c71) rfl 3 (c1 := (3, [some (.ref 26)], [.int 6, .ref 14], (I, L, tw_P tw dr 14 sc, A, J, 57))) rfl ?_
  obtain ⟨⟨x1, A2⟩, hx3, h⟩ := tw_letE h
  dsimp only at h
  refine tw_callE (cd := tw_c71) rfl rfl rfl rfl rfl (e_X8_addOne_14 I L A J tw dr 14 sc (6 : Int32) _ hx3) (by exact Or.inl rfl) ?_
  refine tw_blk (cd := tw_c71) rfl 6 (c1 := (10, [some (.ref 26)], [.int 0, .ref 26, .ref 20], (I, L, tw_P tw dr 14 sc, A2, J, 57))) rfl ?_
  refine tw_callE (cd := tw_c71) rfl rfl rfl rfl rfl (e_X4_readAt I L A2 J tw dr sc (0 : Int32) _ rfl) (by exact Or.inl rfl) ?_
  refine tw_blk (cd := tw_c71) rfl 2 (c1 := (13, [some (.ref 26)], [.int 1, .ref 26, .int (g_X4_readAt A2 (0 : Int32)), .ref 20], (I, L, tw_P tw dr 14 sc, A2, J, 57))) rfl ?_
  refine tw_callE (cd := tw_c71) rfl rfl rfl rfl rfl (e_X4_readAt I L A2 J tw dr sc (1 : Int32) _ rfl) (by exact Or.inl rfl) ?_
  obtain ⟨w4, hw5, h⟩ := tw_letE h
  refine tw_callE (cd := tw_c71) rfl rfl rfl rfl rfl (tw_e_put I L (tw_P tw dr 14 sc) A2 J (q := 20) (N := 6) rfl rfl (by decide) (g_X4_readAt A2 (0 : Int32)) (g_X4_readAt A2 (1 : Int32)) w4 hw5) (by exact Or.inl rfl) ?_
  refine tw_blk (cd := tw_c71) rfl 1 (c1 := (16, [some (.ref 26)], [.int 1], (I, L, tw_P tw dr 14 sc, (va_up A2 20 w4), J, 57))) rfl ?_
  subst h
  exact tw_retZ (cd := tw_c71) (b := true) rfl rfl rfl rfl
theorem g_X8_isUnsure_14_L1_ok (I : Nat → Int32) (L : Nat → Int64) (A : Nat → Nat → Int32) (J : Nat → Nat → Int64) (tw : Nat) (dr : Nat) (rt : Nat) (sc : Nat) (a1 : Int32) (kont : Unit → Option Bool) (r : Bool) : ∀ (n : Nat) (v1_2 : Int32), g_X8_isUnsure_14_L1 A a1 kont n v1_2 = some r → (∀ ex : Unit, kont ex = some r → tw_ME 104 (17, [none, none, none], [], (I, L, tw_P tw dr rt sc, A, J, 57)) (some (.int (tw_b r)), (I, L, tw_P tw dr rt sc, A, J, 57))) → tw_ME 104 (2, [some (.ref 14), some (.int a1), some (.int v1_2)], [], (I, L, tw_P tw dr rt sc, A, J, 57)) (some (.int (tw_b r)), (I, L, tw_P tw dr rt sc, A, J, 57)) := by
  intro n
  induction n with
  | zero =>
    intro v1_2 h _
    cases h
  | succ n ih =>
    intro v1_2 h K
    rw [g_X8_isUnsure_14_L1] at h
    refine tw_blk (cd := tw_c104) rfl 1 (c1 := (3, [some (.ref 14), some (.int a1), some (.int v1_2)], [.int v1_2], (I, L, tw_P tw dr rt sc, A, J, 57))) rfl ?_
    refine tw_blk (cd := tw_c104) rfl 2 (c1 := (5, [some (.ref 14), some (.int a1), some (.int v1_2)], [.int 7, .ref 14, .int v1_2], (I, L, tw_P tw dr rt sc, A, J, 57))) rfl ?_
    refine tw_callE (cd := tw_c104) rfl rfl rfl rfl rfl (e_X8_count_14 I L A J tw dr rt sc (7 : Int32) _ rfl) (by exact Or.inl rfl) ?_
    by_cases hc1 : (g_X8_count_14 A (7 : Int32)) ≤ v1_2
    · rw [if_pos hc1] at h
      refine tw_br (cd := tw_c104) rfl rfl rfl (by exact if_pos hc1) ?_
      refine tw_forget (ls2 := [none, none, none]) trivial ?_
      exact K _ h
    · rw [if_neg hc1] at h
      refine tw_br (cd := tw_c104) rfl rfl rfl (by exact if_neg hc1) ?_
      refine tw_blk (cd := tw_c104) rfl 3 (c1 := (10, [some (.ref 14), some (.int a1), some (.int v1_2)], [.int v1_2, .ref 24], (I, L, tw_P tw dr rt sc, A, J, 57))) rfl ?_
      refine tw_callE (cd := tw_c104) rfl rfl rfl rfl rfl (tw_e_get I L (tw_P tw dr rt sc) A J (q := 24) (N := 4) rfl rfl (by decide) v1_2) (by exact Or.inl rfl) ?_
      refine tw_blk (cd := tw_c104) rfl 1 (c1 := (12, [some (.ref 14), some (.int a1), some (.int v1_2)], [.int a1, .int (tw_get0 4 (A 24) v1_2)], (I, L, tw_P tw dr rt sc, A, J, 57))) rfl ?_
      by_cases hc2 : (tw_get0 4 (A 24) v1_2) = a1
      · rw [if_pos hc2] at h
        refine tw_br (cd := tw_c104) rfl rfl rfl (by exact if_pos hc2) ?_
        refine tw_blk (cd := tw_c104) rfl 1 (c1 := (14, [some (.ref 14), some (.int a1), some (.int v1_2)], [.int 1], (I, L, tw_P tw dr rt sc, A, J, 57))) rfl ?_
        have h := Option.some.inj h
        subst h
        exact tw_retZ (cd := tw_c104) (b := true) rfl rfl rfl rfl
      · rw [if_neg hc2] at h
        refine tw_br (cd := tw_c104) rfl rfl rfl (by exact if_neg hc2) ?_
        refine tw_blk (cd := tw_c104) rfl 2 (c1 := (2, [some (.ref 14), some (.int a1), some (.int (v1_2 + (1 : Int32)))], [], (I, L, tw_P tw dr rt sc, A, J, 57))) rfl ?_
        exact ih (v1_2 + (1 : Int32)) h K
theorem e_X8_isUnsure_14 (I : Nat → Int32) (L : Nat → Int64) (A : Nat → Nat → Int32) (J : Nat → Nat → Int64) (tw dr : Nat) (rt : Nat) (sc : Nat) (a1 : Int32) : ∀ r : Bool, g_X8_isUnsure_14 A a1 = some r → tw_ME 104 (0, [some (.ref 14), some (.int a1), none], [], (I, L, tw_P tw dr rt sc, A, J, 57)) (some (.int (tw_b r)), (I, L, tw_P tw dr rt sc, A, J, 57)) := by
  intro r h
  unfold g_X8_isUnsure_14 at h
  refine tw_blk (cd := tw_c104) rfl 2 (c1 := (2, [some (.ref 14), some (.int a1), some (.int 0)], [], (I, L, tw_P tw dr rt sc, A, J, 57))) rfl ?_
  refine g_X8_isUnsure_14_L1_ok I L A J tw dr rt sc a1 _ r 4096 (0 : Int32) h (fun ex h => ?_)
  refine tw_blk (cd := tw_c104) rfl 1 (c1 := (18, [none, none, none], [.int 0], (I, L, tw_P tw dr rt sc, A, J, 57))) rfl ?_
  have h := Option.some.inj h
  subst h
  exact tw_retZ (cd := tw_c104) (b := false) rfl rfl rfl rfl
theorem e_X4_addUnsure (I : Nat → Int32) (L : Nat → Int64) (A : Nat → Nat → Int32) (J : Nat → Nat → Int64) (tw dr : Nat) (sc : Nat) : ∀ r : (Bool × (Nat → Nat → Int32)), g_X4_addUnsure A = r → tw_ME 72 (0, [some (.ref 26), none], [], (I, L, tw_P tw dr 14 sc, A, J, 57)) (some (.int (tw_b r.1)), (I, L, tw_P tw dr 14 sc, (r.2), J, 57)) := by
  intro r h
  unfold g_X4_addUnsure at h
  refine tw_blk (cd := tw_c72) rfl 3 (c1 := (3, [some (.ref 26), none], [.int 7, .ref 14], (I, L, tw_P tw dr 14 sc, A, J, 57))) rfl ?_
  obtain ⟨⟨x1, A2⟩, hx3, h⟩ := tw_letE h
  dsimp only at h
  refine tw_callE (cd := tw_c72) rfl rfl rfl rfl rfl (e_X8_addOne_14 I L A J tw dr 14 sc (7 : Int32) _ hx3) (by exact Or.inl rfl) ?_
  refine tw_blk (cd := tw_c72) rfl 7 (c1 := (11, [some (.ref 26), some (.int x1)], [.int 0, .ref 26, .int x1, .ref 24], (I, L, tw_P tw dr 14 sc, A2, J, 57))) rfl ?_
  refine tw_callE (cd := tw_c72) rfl rfl rfl rfl rfl (e_X4_readAt I L A2 J tw dr sc (0 : Int32) _ rfl) (by exact Or.inl rfl) ?_
  obtain ⟨w4, hw5, h⟩ := tw_letE h
  refine tw_callE (cd := tw_c72) rfl rfl rfl rfl rfl (tw_e_put I L (tw_P tw dr 14 sc) A2 J (q := 24) (N := 4) rfl rfl (by decide) x1 (g_X4_readAt A2 (0 : Int32)) w4 hw5) (by exact Or.inl rfl) ?_
  refine tw_blk (cd := tw_c72) rfl 6 (c1 := (19, [some (.ref 26), some (.int x1)], [.int 1, .ref 26, .int x1, .ref 25], (I, L, tw_P tw dr 14 sc, (va_up A2 24 w4), J, 57))) rfl ?_
  refine tw_callE (cd := tw_c72) rfl rfl rfl rfl rfl (e_X4_readAt I L (va_up A2 24 w4) J tw dr sc (1 : Int32) _ rfl) (by exact Or.inl rfl) ?_
  obtain ⟨w6, hw7, h⟩ := tw_letE h
  refine tw_callE (cd := tw_c72) rfl rfl rfl rfl rfl (tw_e_put I L (tw_P tw dr 14 sc) (va_up A2 24 w4) J (q := 25) (N := 4) rfl rfl (by decide) x1 (g_X4_readAt (va_up A2 24 w4) (1 : Int32)) w6 hw7) (by exact Or.inl rfl) ?_
  refine tw_blk (cd := tw_c72) rfl 1 (c1 := (22, [some (.ref 26), some (.int x1)], [.int 1], (I, L, tw_P tw dr 14 sc, (va_up (va_up A2 24 w4) 25 w6), J, 57))) rfl ?_
  subst h
  exact tw_retZ (cd := tw_c72) (b := true) rfl rfl rfl rfl
theorem e_X4_addEnded (I : Nat → Int32) (L : Nat → Int64) (A : Nat → Nat → Int32) (J : Nat → Nat → Int64) (tw dr : Nat) (sc : Nat) : ∀ r : (Bool × (Nat → Nat → Int32)), g_X4_addEnded A = r → tw_ME 73 (0, [some (.ref 26)], [], (I, L, tw_P tw dr 14 sc, A, J, 57)) (some (.int (tw_b r.1)), (I, L, tw_P tw dr 14 sc, (r.2), J, 57)) := by
  intro r h
  unfold g_X4_addEnded at h
  refine tw_blk (cd := tw_c73) rfl 3 (c1 := (3, [some (.ref 26)], [.int 8, .ref 14], (I, L, tw_P tw dr 14 sc, A, J, 57))) rfl ?_
  obtain ⟨⟨x1, A2⟩, hx3, h⟩ := tw_letE h
  dsimp only at h
  refine tw_callE (cd := tw_c73) rfl rfl rfl rfl rfl (e_X8_addOne_14 I L A J tw dr 14 sc (8 : Int32) _ hx3) (by exact Or.inl rfl) ?_
  refine tw_blk (cd := tw_c73) rfl 6 (c1 := (10, [some (.ref 26)], [.int 0, .ref 26, .ref 23], (I, L, tw_P tw dr 14 sc, A2, J, 57))) rfl ?_
  refine tw_callE (cd := tw_c73) rfl rfl rfl rfl rfl (e_X4_readAt I L A2 J tw dr sc (0 : Int32) _ rfl) (by exact Or.inl rfl) ?_
  refine tw_blk (cd := tw_c73) rfl 2 (c1 := (13, [some (.ref 26)], [.int 1, .ref 26, .int (g_X4_readAt A2 (0 : Int32)), .ref 23], (I, L, tw_P tw dr 14 sc, A2, J, 57))) rfl ?_
  refine tw_callE (cd := tw_c73) rfl rfl rfl rfl rfl (e_X4_readAt I L A2 J tw dr sc (1 : Int32) _ rfl) (by exact Or.inl rfl) ?_
  obtain ⟨w4, hw5, h⟩ := tw_letE h
  refine tw_callE (cd := tw_c73) rfl rfl rfl rfl rfl (tw_e_put I L (tw_P tw dr 14 sc) A2 J (q := 23) (N := 3) rfl rfl (by decide) (g_X4_readAt A2 (0 : Int32)) (g_X4_readAt A2 (1 : Int32)) w4 hw5) (by exact Or.inl rfl) ?_
  refine tw_blk (cd := tw_c73) rfl 1 (c1 := (16, [some (.ref 26)], [.int 1], (I, L, tw_P tw dr 14 sc, (va_up A2 23 w4), J, 57))) rfl ?_
  subst h
  exact tw_retZ (cd := tw_c73) (b := true) rfl rfl rfl rfl
theorem e_X4_readLine (I : Nat → Int32) (L : Nat → Int64) (A : Nat → Nat → Int32) (J : Nat → Nat → Int64) (tw dr : Nat) (sc : Nat) : ∀ r : (Bool × (Nat → Int32) × (Nat → Int64) × (Nat → Nat → Int32) × (Nat → Nat → Int64)), g_X4_readLine I L A J = some r → tw_ME 47 (0, [some (.ref 26), none, none], [], (I, L, tw_P tw dr 14 sc, A, J, 57)) (some (.int (tw_b r.1)), ((r.2.1), (r.2.2.1), tw_P tw dr 14 sc, (r.2.2.2.1), (r.2.2.2.2), 57)) := by
  intro r h
  unfold g_X4_readLine at h
  refine tw_blk (cd := tw_c47) rfl 1 (c1 := (1, [some (.ref 26), none, none], [.ref 26], (I, L, tw_P tw dr 14 sc, A, J, 57))) rfl ?_
  obtain ⟨x1, hx2, h⟩ := tw_bindE h
  refine tw_callE (cd := tw_c47) rfl rfl rfl rfl rfl (e_X4_lineSort I L A J tw dr sc _ hx2) (by exact Or.inl rfl) ?_
  refine tw_blk (cd := tw_c47) rfl 3 (c1 := (5, [some (.ref 26), some (.int x1), none], [.int x1, .ref 26], (I, L, tw_P tw dr 14 sc, A, J, 57))) rfl ?_
  refine tw_callE (cd := tw_c47) rfl rfl rfl rfl rfl (e_X4_wrongOfLine I L A J tw dr sc x1 _ rfl) (by exact Or.inl rfl) ?_
  refine tw_blk (cd := tw_c47) rfl 2 (c1 := (8, [some (.ref 26), some (.int x1), some (.int (g_X4_wrongOfLine I A x1))], [.int (g_X4_wrongOfLine I A x1)], (I, L, tw_P tw dr 14 sc, A, J, 57))) rfl ?_
  by_cases hc3 : (g_X4_wrongOfLine I A x1) = 0
  · rw [if_pos hc3] at h
    refine tw_br (cd := tw_c47) rfl rfl rfl (by exact if_pos hc3) ?_
    refine tw_blk (cd := tw_c47) rfl 5 (c1 := (18, [some (.ref 26), some (.int x1), some (.int (g_X4_wrongOfLine I A x1))], [.ref 32], ((upd I 2609 (0 : Int32)), L, tw_P tw dr 14 sc, A, J, 57))) rfl ?_
    obtain ⟨⟨I4, L5⟩, hx6, h⟩ := tw_bindE h
    dsimp only at h
    refine tw_callE (cd := tw_c47) rfl rfl rfl rfl rfl (e_X7_next (upd I 2609 (0 : Int32)) L A J tw dr 14 sc _ hx6) (by exact Or.inl rfl) ?_
    refine tw_blk (cd := tw_c47) rfl 1 (c1 := (20, [some (.ref 26), some (.int x1), some (.int (g_X4_wrongOfLine I A x1))], [.int x1], (I4, L5, tw_P tw dr 14 sc, A, J, 57))) rfl ?_
    by_cases hs7 : x1 = 0
    · rw [if_pos hs7] at h
      refine tw_swE (cd := tw_c47) rfl rfl rfl hs7 (by exact rfl) ?_
      refine tw_blk (cd := tw_c47) rfl 2 (c1 := (23, [some (.ref 26), some (.int x1), some (.int (g_X4_wrongOfLine I A x1))], [.ref 1003, .ref 26], (I4, L5, tw_P tw dr 14 sc, A, J, 57))) rfl ?_
      obtain ⟨⟨c8, I9, L10⟩, hx11, h⟩ := tw_bindE h
      dsimp only at h
      refine tw_callE (cd := tw_c47) rfl rfl rfl rfl rfl (e_X4_word I4 L5 A J tw dr sc 1003 (by decide) _ hx11) (by exact Or.inl rfl) ?_
      by_cases hc12 : c8 = true
      · rw [if_pos hc12] at h
        refine tw_br (cd := tw_c47) rfl rfl rfl (by exact if_neg (tw_b_t hc12)) ?_
        refine tw_blk (cd := tw_c47) rfl 3 (c1 := (28, [some (.ref 26), some (.int x1), some (.int (g_X4_wrongOfLine I A x1))], [.int 100, .int 0, .ref 26], (I9, L10, tw_P tw dr 14 sc, A, J, 57))) rfl ?_
        obtain ⟨⟨c13, I14, L15, A16⟩, hx17, h⟩ := tw_bindE h
        dsimp only at h
        refine tw_callE (cd := tw_c47) rfl rfl rfl rfl rfl (e_X4_whole I9 L10 A J tw dr sc (0 : Int32) (100 : Int32) _ hx17) (by exact Or.inl rfl) ?_
        by_cases hc18 : c13 = true
        · rw [if_pos hc18] at h
          refine tw_br (cd := tw_c47) rfl rfl rfl (by exact if_neg (tw_b_t hc18)) ?_
          refine tw_blk (cd := tw_c47) rfl 1 (c1 := (31, [some (.ref 26), some (.int x1), some (.int (g_X4_wrongOfLine I A x1))], [.ref 26], (I14, L15, tw_P tw dr 14 sc, A16, J, 57))) rfl ?_
          obtain ⟨⟨c19, I20, A21⟩, hx22, h⟩ := tw_letE h
          dsimp only at h
          refine tw_callE (cd := tw_c47) rfl rfl rfl rfl rfl (e_X4_addBoys I14 L15 A16 J tw dr sc _ hx22) (by exact Or.inl rfl) ?_
          by_cases hc23 : c19 = true
          · rw [if_pos hc23] at h
            refine tw_br (cd := tw_c47) rfl rfl rfl (by exact if_neg (tw_b_t hc23)) ?_
            refine tw_blk (cd := tw_c47) rfl 2 (c1 := (36, [some (.ref 26), some (.int x1), some (.int (g_X4_wrongOfLine I A x1))], [.int 1], (I20, L15, tw_P tw dr 14 sc, A21, J, 57))) rfl ?_
            have h := Option.some.inj h
            subst h
            exact tw_retZ (cd := tw_c47) (b := true) rfl rfl rfl rfl
          · rw [if_neg hc23] at h
            refine tw_br (cd := tw_c47) rfl rfl rfl (by exact if_pos (tw_b_f hc23)) ?_
            refine tw_blk (cd := tw_c47) rfl 1 (c1 := (36, [some (.ref 26), some (.int x1), some (.int (g_X4_wrongOfLine I A x1))], [.int 0], (I20, L15, tw_P tw dr 14 sc, A21, J, 57))) rfl ?_
            have h := Option.some.inj h
            subst h
            exact tw_retZ (cd := tw_c47) (b := false) rfl rfl rfl rfl
        · rw [if_neg hc18] at h
          refine tw_br (cd := tw_c47) rfl rfl rfl (by exact if_pos (tw_b_f hc18)) ?_
          refine tw_blk (cd := tw_c47) rfl 1 (c1 := (36, [some (.ref 26), some (.int x1), some (.int (g_X4_wrongOfLine I A x1))], [.int 0], (I14, L15, tw_P tw dr 14 sc, A16, J, 57))) rfl ?_
          have h := Option.some.inj h
          subst h
          exact tw_retZ (cd := tw_c47) (b := false) rfl rfl rfl rfl
      · rw [if_neg hc12] at h
        refine tw_br (cd := tw_c47) rfl rfl rfl (by exact if_pos (tw_b_f hc12)) ?_
        refine tw_blk (cd := tw_c47) rfl 1 (c1 := (36, [some (.ref 26), some (.int x1), some (.int (g_X4_wrongOfLine I A x1))], [.int 0], (I9, L10, tw_P tw dr 14 sc, A, J, 57))) rfl ?_
        have h := Option.some.inj h
        subst h
        exact tw_retZ (cd := tw_c47) (b := false) rfl rfl rfl rfl
    · rw [if_neg hs7] at h
      by_cases hs24 : x1 = 1
      · rw [if_pos hs24] at h
        refine tw_swE (cd := tw_c47) rfl rfl rfl hs24 (by exact rfl) ?_
        refine tw_blk (cd := tw_c47) rfl 2 (c1 := (39, [some (.ref 26), some (.int x1), some (.int (g_X4_wrongOfLine I A x1))], [.int 1, .ref 26], (I4, L5, tw_P tw dr 14 sc, A, J, 57))) rfl ?_
        obtain ⟨⟨c25, I26, L27, A28, J29⟩, hx30, h⟩ := tw_bindE h
        dsimp only at h
        refine tw_callE (cd := tw_c47) rfl rfl rfl rfl rfl (e_X4_name I4 L5 A J tw dr sc (1 : Int32) _ hx30) (by exact Or.inl rfl) ?_
        by_cases hc31 : c25 = true
        · rw [if_pos hc31] at h
          refine tw_br (cd := tw_c47) rfl rfl rfl (by exact if_neg (tw_b_t hc31)) ?_
          refine tw_blk (cd := tw_c47) rfl 1 (c1 := (42, [some (.ref 26), some (.int x1), some (.int (g_X4_wrongOfLine I A x1))], [.ref 26], (I26, L27, tw_P tw dr 14 sc, A28, J29, 57))) rfl ?_
          obtain ⟨⟨c32, A33⟩, hx34, h⟩ := tw_letE h
          dsimp only at h
          refine tw_callE (cd := tw_c47) rfl rfl rfl rfl rfl (e_X4_addPlace I26 L27 A28 J29 tw dr sc _ hx34) (by exact Or.inl rfl) ?_
          by_cases hc35 : c32 = true
          · rw [if_pos hc35] at h
            refine tw_br (cd := tw_c47) rfl rfl rfl (by exact if_neg (tw_b_t hc35)) ?_
            refine tw_blk (cd := tw_c47) rfl 2 (c1 := (47, [some (.ref 26), some (.int x1), some (.int (g_X4_wrongOfLine I A x1))], [.int 1], (I26, L27, tw_P tw dr 14 sc, A33, J29, 57))) rfl ?_
            have h := Option.some.inj h
            subst h
            exact tw_retZ (cd := tw_c47) (b := true) rfl rfl rfl rfl
          · rw [if_neg hc35] at h
            refine tw_br (cd := tw_c47) rfl rfl rfl (by exact if_pos (tw_b_f hc35)) ?_
            refine tw_blk (cd := tw_c47) rfl 1 (c1 := (47, [some (.ref 26), some (.int x1), some (.int (g_X4_wrongOfLine I A x1))], [.int 0], (I26, L27, tw_P tw dr 14 sc, A33, J29, 57))) rfl ?_
            have h := Option.some.inj h
            subst h
            exact tw_retZ (cd := tw_c47) (b := false) rfl rfl rfl rfl
        · rw [if_neg hc31] at h
          refine tw_br (cd := tw_c47) rfl rfl rfl (by exact if_pos (tw_b_f hc31)) ?_
          refine tw_blk (cd := tw_c47) rfl 1 (c1 := (47, [some (.ref 26), some (.int x1), some (.int (g_X4_wrongOfLine I A x1))], [.int 0], (I26, L27, tw_P tw dr 14 sc, A28, J29, 57))) rfl ?_
          have h := Option.some.inj h
          subst h
          exact tw_retZ (cd := tw_c47) (b := false) rfl rfl rfl rfl
      · rw [if_neg hs24] at h
        by_cases hs36 : x1 = 2
        · rw [if_pos hs36] at h
          refine tw_swE (cd := tw_c47) rfl rfl rfl hs36 (by exact rfl) ?_
          refine tw_blk (cd := tw_c47) rfl 2 (c1 := (50, [some (.ref 26), some (.int x1), some (.int (g_X4_wrongOfLine I A x1))], [.int 1, .ref 26], (I4, L5, tw_P tw dr 14 sc, A, J, 57))) rfl ?_
          obtain ⟨⟨c37, I38, L39, A40⟩, hx41, h⟩ := tw_bindE h
          dsimp only at h
          refine tw_callE (cd := tw_c47) rfl rfl rfl rfl rfl (e_X4_told I4 L5 A J tw dr sc (1 : Int32) _ hx41) (by exact Or.inl rfl) ?_
          by_cases hc42 : c37 = true
          · rw [if_pos hc42] at h
            refine tw_br (cd := tw_c47) rfl rfl rfl (by exact if_neg (tw_b_t hc42)) ?_
            refine tw_blk (cd := tw_c47) rfl 2 (c1 := (54, [some (.ref 26), some (.int x1), some (.int (g_X4_wrongOfLine I A x1))], [.int 1, .ref 26], (I38, L39, tw_P tw dr 14 sc, A40, J, 57))) rfl ?_
            obtain ⟨⟨c43, I44, L45, A46⟩, hx47, h⟩ := tw_bindE h
            dsimp only at h
            refine tw_callE (cd := tw_c47) rfl rfl rfl rfl rfl (e_X4_told I38 L39 A40 J tw dr sc (1 : Int32) _ hx47) (by exact Or.inl rfl) ?_
            by_cases hc48 : c43 = true
            · rw [if_pos hc48] at h
              refine tw_br (cd := tw_c47) rfl rfl rfl (by exact if_neg (tw_b_t hc48)) ?_
              refine tw_blk (cd := tw_c47) rfl 1 (c1 := (57, [some (.ref 26), some (.int x1), some (.int (g_X4_wrongOfLine I A x1))], [.ref 26], (I44, L45, tw_P tw dr 14 sc, A46, J, 57))) rfl ?_
              obtain ⟨⟨c49, I50⟩, hx51, h⟩ := tw_bindE h
              dsimp only at h
              refine tw_callE (cd := tw_c47) rfl rfl rfl rfl rfl (e_X4_isNewSight I44 L45 A46 J tw dr sc _ hx51) (by exact Or.inl rfl) ?_
              by_cases hc52 : c49 = true
              · rw [if_pos hc52] at h
                refine tw_br (cd := tw_c47) rfl rfl rfl (by exact if_neg (tw_b_t hc52)) ?_
                refine tw_blk (cd := tw_c47) rfl 1 (c1 := (60, [some (.ref 26), some (.int x1), some (.int (g_X4_wrongOfLine I A x1))], [.ref 26], (I50, L45, tw_P tw dr 14 sc, A46, J, 57))) rfl ?_
                obtain ⟨⟨c53, A54⟩, hx55, h⟩ := tw_letE h
                dsimp only at h
                refine tw_callE (cd := tw_c47) rfl rfl rfl rfl rfl (e_X4_addSight I50 L45 A46 J tw dr sc _ hx55) (by exact Or.inl rfl) ?_
                by_cases hc56 : c53 = true
                · rw [if_pos hc56] at h
                  refine tw_br (cd := tw_c47) rfl rfl rfl (by exact if_neg (tw_b_t hc56)) ?_
                  refine tw_blk (cd := tw_c47) rfl 2 (c1 := (65, [some (.ref 26), some (.int x1), some (.int (g_X4_wrongOfLine I A x1))], [.int 1], (I50, L45, tw_P tw dr 14 sc, A54, J, 57))) rfl ?_
                  have h := Option.some.inj h
                  subst h
                  exact tw_retZ (cd := tw_c47) (b := true) rfl rfl rfl rfl
                · rw [if_neg hc56] at h
                  refine tw_br (cd := tw_c47) rfl rfl rfl (by exact if_pos (tw_b_f hc56)) ?_
                  refine tw_blk (cd := tw_c47) rfl 1 (c1 := (65, [some (.ref 26), some (.int x1), some (.int (g_X4_wrongOfLine I A x1))], [.int 0], (I50, L45, tw_P tw dr 14 sc, A54, J, 57))) rfl ?_
                  have h := Option.some.inj h
                  subst h
                  exact tw_retZ (cd := tw_c47) (b := false) rfl rfl rfl rfl
              · rw [if_neg hc52] at h
                refine tw_br (cd := tw_c47) rfl rfl rfl (by exact if_pos (tw_b_f hc52)) ?_
                refine tw_blk (cd := tw_c47) rfl 1 (c1 := (65, [some (.ref 26), some (.int x1), some (.int (g_X4_wrongOfLine I A x1))], [.int 0], (I50, L45, tw_P tw dr 14 sc, A46, J, 57))) rfl ?_
                have h := Option.some.inj h
                subst h
                exact tw_retZ (cd := tw_c47) (b := false) rfl rfl rfl rfl
            · rw [if_neg hc48] at h
              refine tw_br (cd := tw_c47) rfl rfl rfl (by exact if_pos (tw_b_f hc48)) ?_
              refine tw_blk (cd := tw_c47) rfl 1 (c1 := (65, [some (.ref 26), some (.int x1), some (.int (g_X4_wrongOfLine I A x1))], [.int 0], (I44, L45, tw_P tw dr 14 sc, A46, J, 57))) rfl ?_
              have h := Option.some.inj h
              subst h
              exact tw_retZ (cd := tw_c47) (b := false) rfl rfl rfl rfl
          · rw [if_neg hc42] at h
            refine tw_br (cd := tw_c47) rfl rfl rfl (by exact if_pos (tw_b_f hc42)) ?_
            refine tw_blk (cd := tw_c47) rfl 1 (c1 := (65, [some (.ref 26), some (.int x1), some (.int (g_X4_wrongOfLine I A x1))], [.int 0], (I38, L39, tw_P tw dr 14 sc, A40, J, 57))) rfl ?_
            have h := Option.some.inj h
            subst h
            exact tw_retZ (cd := tw_c47) (b := false) rfl rfl rfl rfl
        · rw [if_neg hs36] at h
          by_cases hs57 : x1 = 3
          · rw [if_pos hs57] at h
            refine tw_swE (cd := tw_c47) rfl rfl rfl hs57 (by exact rfl) ?_
            refine tw_blk (cd := tw_c47) rfl 2 (c1 := (68, [some (.ref 26), some (.int x1), some (.int (g_X4_wrongOfLine I A x1))], [.int 3, .ref 26], (I4, L5, tw_P tw dr 14 sc, A, J, 57))) rfl ?_
            obtain ⟨⟨c58, I59, L60, A61, J62⟩, hx63, h⟩ := tw_bindE h
            dsimp only at h
            refine tw_callE (cd := tw_c47) rfl rfl rfl rfl rfl (e_X4_name I4 L5 A J tw dr sc (3 : Int32) _ hx63) (by exact Or.inl rfl) ?_
            by_cases hc64 : c58 = true
            · rw [if_pos hc64] at h
              refine tw_br (cd := tw_c47) rfl rfl rfl (by exact if_neg (tw_b_t hc64)) ?_
              refine tw_blk (cd := tw_c47) rfl 1 (c1 := (71, [some (.ref 26), some (.int x1), some (.int (g_X4_wrongOfLine I A x1))], [.ref 26], (I59, L60, tw_P tw dr 14 sc, A61, J62, 57))) rfl ?_
              obtain ⟨⟨c65, I66, L67, A68⟩, hx69, h⟩ := tw_bindE h
              dsimp only at h
              refine tw_callE (cd := tw_c47) rfl rfl rfl rfl rfl (e_X4_kind I59 L60 A61 J62 tw dr sc _ hx69) (by exact Or.inl rfl) ?_
              by_cases hc70 : c65 = true
              · rw [if_pos hc70] at h
                refine tw_br (cd := tw_c47) rfl rfl rfl (by exact if_neg (tw_b_t hc70)) ?_
                refine tw_blk (cd := tw_c47) rfl 2 (c1 := (75, [some (.ref 26), some (.int x1), some (.int (g_X4_wrongOfLine I A x1))], [.ref 1000, .ref 26], (I66, L67, tw_P tw dr 14 sc, A68, J62, 57))) rfl ?_
                obtain ⟨⟨c71, I72, L73⟩, hx74, h⟩ := tw_bindE h
                dsimp only at h
                refine tw_callE (cd := tw_c47) rfl rfl rfl rfl rfl (e_X4_word I66 L67 A68 J62 tw dr sc 1000 (by decide) _ hx74) (by exact Or.inl rfl) ?_
                by_cases hc75 : c71 = true
                · rw [if_pos hc75] at h
                  refine tw_br (cd := tw_c47) rfl rfl rfl (by exact if_neg (tw_b_t hc75)) ?_
                  refine tw_blk (cd := tw_c47) rfl 2 (c1 := (79, [some (.ref 26), some (.int x1), some (.int (g_X4_wrongOfLine I A x1))], [.int 1, .ref 26], (I72, L73, tw_P tw dr 14 sc, A68, J62, 57))) rfl ?_
                  obtain ⟨⟨c76, I77, L78, A79⟩, hx80, h⟩ := tw_bindE h
                  dsimp only at h
                  refine tw_callE (cd := tw_c47) rfl rfl rfl rfl rfl (e_X4_told I72 L73 A68 J62 tw dr sc (1 : Int32) _ hx80) (by exact Or.inl rfl) ?_
                  by_cases hc81 : c76 = true
                  · rw [if_pos hc81] at h
                    refine tw_br (cd := tw_c47) rfl rfl rfl (by exact if_neg (tw_b_t hc81)) ?_
                    refine tw_blk (cd := tw_c47) rfl 2 (c1 := (83, [some (.ref 26), some (.int x1), some (.int (g_X4_wrongOfLine I A x1))], [.ref 1018, .ref 26], (I77, L78, tw_P tw dr 14 sc, A79, J62, 57))) rfl ?_
                    obtain ⟨⟨c82, I83, L84⟩, hx85, h⟩ := tw_bindE h
                    dsimp only at h
                    refine tw_callE (cd := tw_c47) rfl rfl rfl rfl rfl (e_X4_word I77 L78 A79 J62 tw dr sc 1018 (by decide) _ hx85) (by exact Or.inl rfl) ?_
                    by_cases hc86 : c82 = true
                    · rw [if_pos hc86] at h
                      refine tw_br (cd := tw_c47) rfl rfl rfl (by exact if_neg (tw_b_t hc86)) ?_
                      refine tw_blk (cd := tw_c47) rfl 3 (c1 := (88, [some (.ref 26), some (.int x1), some (.int (g_X4_wrongOfLine I A x1))], [.int 9, .int 0, .ref 26], (I83, L84, tw_P tw dr 14 sc, A79, J62, 57))) rfl ?_
                      obtain ⟨⟨c87, I88, L89, A90⟩, hx91, h⟩ := tw_bindE h
                      dsimp only at h
                      refine tw_callE (cd := tw_c47) rfl rfl rfl rfl rfl (e_X4_whole I83 L84 A79 J62 tw dr sc (0 : Int32) (9 : Int32) _ hx91) (by exact Or.inl rfl) ?_
                      by_cases hc92 : c87 = true
                      · rw [if_pos hc92] at h
                        refine tw_br (cd := tw_c47) rfl rfl rfl (by exact if_neg (tw_b_t hc92)) ?_
                        refine tw_blk (cd := tw_c47) rfl 1 (c1 := (91, [some (.ref 26), some (.int x1), some (.int (g_X4_wrongOfLine I A x1))], [.ref 26], (I88, L89, tw_P tw dr 14 sc, A90, J62, 57))) rfl ?_
                        obtain ⟨⟨c93, A94⟩, hx95, h⟩ := tw_bindE h
                        dsimp only at h
                        refine tw_callE (cd := tw_c47) rfl rfl rfl rfl rfl (e_X4_addPerson I88 L89 A90 J62 tw dr sc _ hx95) (by exact Or.inl rfl) ?_
                        by_cases hc96 : c93 = true
                        · rw [if_pos hc96] at h
                          refine tw_br (cd := tw_c47) rfl rfl rfl (by exact if_neg (tw_b_t hc96)) ?_
                          refine tw_blk (cd := tw_c47) rfl 2 (c1 := (96, [some (.ref 26), some (.int x1), some (.int (g_X4_wrongOfLine I A x1))], [.int 1], (I88, L89, tw_P tw dr 14 sc, A94, J62, 57))) rfl ?_
                          have h := Option.some.inj h
                          subst h
                          exact tw_retZ (cd := tw_c47) (b := true) rfl rfl rfl rfl
                        · rw [if_neg hc96] at h
                          refine tw_br (cd := tw_c47) rfl rfl rfl (by exact if_pos (tw_b_f hc96)) ?_
                          refine tw_blk (cd := tw_c47) rfl 1 (c1 := (96, [some (.ref 26), some (.int x1), some (.int (g_X4_wrongOfLine I A x1))], [.int 0], (I88, L89, tw_P tw dr 14 sc, A94, J62, 57))) rfl ?_
                          have h := Option.some.inj h
                          subst h
                          exact tw_retZ (cd := tw_c47) (b := false) rfl rfl rfl rfl
                      · rw [if_neg hc92] at h
                        refine tw_br (cd := tw_c47) rfl rfl rfl (by exact if_pos (tw_b_f hc92)) ?_
                        refine tw_blk (cd := tw_c47) rfl 1 (c1 := (96, [some (.ref 26), some (.int x1), some (.int (g_X4_wrongOfLine I A x1))], [.int 0], (I88, L89, tw_P tw dr 14 sc, A90, J62, 57))) rfl ?_
                        have h := Option.some.inj h
                        subst h
                        exact tw_retZ (cd := tw_c47) (b := false) rfl rfl rfl rfl
                    · rw [if_neg hc86] at h
                      refine tw_br (cd := tw_c47) rfl rfl rfl (by exact if_pos (tw_b_f hc86)) ?_
                      refine tw_blk (cd := tw_c47) rfl 1 (c1 := (96, [some (.ref 26), some (.int x1), some (.int (g_X4_wrongOfLine I A x1))], [.int 0], (I83, L84, tw_P tw dr 14 sc, A79, J62, 57))) rfl ?_
                      have h := Option.some.inj h
                      subst h
                      exact tw_retZ (cd := tw_c47) (b := false) rfl rfl rfl rfl
                  · rw [if_neg hc81] at h
                    refine tw_br (cd := tw_c47) rfl rfl rfl (by exact if_pos (tw_b_f hc81)) ?_
                    refine tw_blk (cd := tw_c47) rfl 1 (c1 := (96, [some (.ref 26), some (.int x1), some (.int (g_X4_wrongOfLine I A x1))], [.int 0], (I77, L78, tw_P tw dr 14 sc, A79, J62, 57))) rfl ?_
                    have h := Option.some.inj h
                    subst h
                    exact tw_retZ (cd := tw_c47) (b := false) rfl rfl rfl rfl
                · rw [if_neg hc75] at h
                  refine tw_br (cd := tw_c47) rfl rfl rfl (by exact if_pos (tw_b_f hc75)) ?_
                  refine tw_blk (cd := tw_c47) rfl 1 (c1 := (96, [some (.ref 26), some (.int x1), some (.int (g_X4_wrongOfLine I A x1))], [.int 0], (I72, L73, tw_P tw dr 14 sc, A68, J62, 57))) rfl ?_
                  have h := Option.some.inj h
                  subst h
                  exact tw_retZ (cd := tw_c47) (b := false) rfl rfl rfl rfl
              · rw [if_neg hc70] at h
                refine tw_br (cd := tw_c47) rfl rfl rfl (by exact if_pos (tw_b_f hc70)) ?_
                refine tw_blk (cd := tw_c47) rfl 1 (c1 := (96, [some (.ref 26), some (.int x1), some (.int (g_X4_wrongOfLine I A x1))], [.int 0], (I66, L67, tw_P tw dr 14 sc, A68, J62, 57))) rfl ?_
                have h := Option.some.inj h
                subst h
                exact tw_retZ (cd := tw_c47) (b := false) rfl rfl rfl rfl
            · rw [if_neg hc64] at h
              refine tw_br (cd := tw_c47) rfl rfl rfl (by exact if_pos (tw_b_f hc64)) ?_
              refine tw_blk (cd := tw_c47) rfl 1 (c1 := (96, [some (.ref 26), some (.int x1), some (.int (g_X4_wrongOfLine I A x1))], [.int 0], (I59, L60, tw_P tw dr 14 sc, A61, J62, 57))) rfl ?_
              have h := Option.some.inj h
              subst h
              exact tw_retZ (cd := tw_c47) (b := false) rfl rfl rfl rfl
          · rw [if_neg hs57] at h
            by_cases hs97 : x1 = 4
            · rw [if_pos hs97] at h
              refine tw_swE (cd := tw_c47) rfl rfl rfl hs97 (by exact rfl) ?_
              refine tw_blk (cd := tw_c47) rfl 2 (c1 := (99, [some (.ref 26), some (.int x1), some (.int (g_X4_wrongOfLine I A x1))], [.int 3, .ref 26], (I4, L5, tw_P tw dr 14 sc, A, J, 57))) rfl ?_
              obtain ⟨⟨c98, I99, L100, A101⟩, hx102, h⟩ := tw_bindE h
              dsimp only at h
              refine tw_callE (cd := tw_c47) rfl rfl rfl rfl rfl (e_X4_told I4 L5 A J tw dr sc (3 : Int32) _ hx102) (by exact Or.inl rfl) ?_
              by_cases hc103 : c98 = true
              · rw [if_pos hc103] at h
                refine tw_br (cd := tw_c47) rfl rfl rfl (by exact if_neg (tw_b_t hc103)) ?_
                refine tw_blk (cd := tw_c47) rfl 2 (c1 := (103, [some (.ref 26), some (.int x1), some (.int (g_X4_wrongOfLine I A x1))], [.int 1, .ref 26], (I99, L100, tw_P tw dr 14 sc, A101, J, 57))) rfl ?_
                obtain ⟨⟨c104, I105, L106, A107⟩, hx108, h⟩ := tw_bindE h
                dsimp only at h
                refine tw_callE (cd := tw_c47) rfl rfl rfl rfl rfl (e_X4_told I99 L100 A101 J tw dr sc (1 : Int32) _ hx108) (by exact Or.inl rfl) ?_
                by_cases hc109 : c104 = true
                · rw [if_pos hc109] at h
                  refine tw_br (cd := tw_c47) rfl rfl rfl (by exact if_neg (tw_b_t hc109)) ?_
                  refine tw_blk (cd := tw_c47) rfl 2 (c1 := (107, [some (.ref 26), some (.int x1), some (.int (g_X4_wrongOfLine I A x1))], [.ref 1000, .ref 26], (I105, L106, tw_P tw dr 14 sc, A107, J, 57))) rfl ?_
                  obtain ⟨⟨c110, I111, L112⟩, hx113, h⟩ := tw_bindE h
                  dsimp only at h
                  refine tw_callE (cd := tw_c47) rfl rfl rfl rfl rfl (e_X4_word I105 L106 A107 J tw dr sc 1000 (by decide) _ hx113) (by exact Or.inl rfl) ?_
                  by_cases hc114 : c110 = true
                  · rw [if_pos hc114] at h
                    refine tw_br (cd := tw_c47) rfl rfl rfl (by exact if_neg (tw_b_t hc114)) ?_
                    refine tw_blk (cd := tw_c47) rfl 3 (c1 := (112, [some (.ref 26), some (.int x1), some (.int (g_X4_wrongOfLine I A x1))], [.int 59, .int 1, .ref 26], (I111, L112, tw_P tw dr 14 sc, A107, J, 57))) rfl ?_
                    obtain ⟨⟨c115, I116, L117, A118⟩, hx119, h⟩ := tw_bindE h
                    dsimp only at h
                    refine tw_callE (cd := tw_c47) rfl rfl rfl rfl rfl (e_X4_whole I111 L112 A107 J tw dr sc (1 : Int32) (59 : Int32) _ hx119) (by exact Or.inl rfl) ?_
                    by_cases hc120 : c115 = true
                    · rw [if_pos hc120] at h
                      refine tw_br (cd := tw_c47) rfl rfl rfl (by exact if_neg (tw_b_t hc120)) ?_
                      refine tw_blk (cd := tw_c47) rfl 1 (c1 := (115, [some (.ref 26), some (.int x1), some (.int (g_X4_wrongOfLine I A x1))], [.ref 26], (I116, L117, tw_P tw dr 14 sc, A118, J, 57))) rfl ?_
                      obtain ⟨⟨c121, I122⟩, hx123, h⟩ := tw_letE h
                      dsimp only at h
                      refine tw_callE (cd := tw_c47) rfl rfl rfl rfl rfl (e_X4_isLater I116 L117 A118 J tw dr sc _ hx123) (by exact Or.inl rfl) ?_
                      by_cases hc124 : c121 = true
                      · rw [if_pos hc124] at h
                        refine tw_br (cd := tw_c47) rfl rfl rfl (by exact if_neg (tw_b_t hc124)) ?_
                        refine tw_blk (cd := tw_c47) rfl 1 (c1 := (118, [some (.ref 26), some (.int x1), some (.int (g_X4_wrongOfLine I A x1))], [.ref 26], (I122, L117, tw_P tw dr 14 sc, A118, J, 57))) rfl ?_
                        obtain ⟨⟨c125, A126⟩, hx127, h⟩ := tw_bindE h
                        dsimp only at h
                        refine tw_callE (cd := tw_c47) rfl rfl rfl rfl rfl (e_X4_addGoing I122 L117 A118 J tw dr sc _ hx127) (by exact Or.inl rfl) ?_
                        by_cases hc128 : c125 = true
                        · rw [if_pos hc128] at h
                          refine tw_br (cd := tw_c47) rfl rfl rfl (by exact if_neg (tw_b_t hc128)) ?_
                          refine tw_blk (cd := tw_c47) rfl 2 (c1 := (123, [some (.ref 26), some (.int x1), some (.int (g_X4_wrongOfLine I A x1))], [.int 1], (I122, L117, tw_P tw dr 14 sc, A126, J, 57))) rfl ?_
                          have h := Option.some.inj h
                          subst h
                          exact tw_retZ (cd := tw_c47) (b := true) rfl rfl rfl rfl
                        · rw [if_neg hc128] at h
                          refine tw_br (cd := tw_c47) rfl rfl rfl (by exact if_pos (tw_b_f hc128)) ?_
                          refine tw_blk (cd := tw_c47) rfl 1 (c1 := (123, [some (.ref 26), some (.int x1), some (.int (g_X4_wrongOfLine I A x1))], [.int 0], (I122, L117, tw_P tw dr 14 sc, A126, J, 57))) rfl ?_
                          have h := Option.some.inj h
                          subst h
                          exact tw_retZ (cd := tw_c47) (b := false) rfl rfl rfl rfl
                      · rw [if_neg hc124] at h
                        refine tw_br (cd := tw_c47) rfl rfl rfl (by exact if_pos (tw_b_f hc124)) ?_
                        refine tw_blk (cd := tw_c47) rfl 1 (c1 := (123, [some (.ref 26), some (.int x1), some (.int (g_X4_wrongOfLine I A x1))], [.int 0], (I122, L117, tw_P tw dr 14 sc, A118, J, 57))) rfl ?_
                        have h := Option.some.inj h
                        subst h
                        exact tw_retZ (cd := tw_c47) (b := false) rfl rfl rfl rfl
                    · rw [if_neg hc120] at h
                      refine tw_br (cd := tw_c47) rfl rfl rfl (by exact if_pos (tw_b_f hc120)) ?_
                      refine tw_blk (cd := tw_c47) rfl 1 (c1 := (123, [some (.ref 26), some (.int x1), some (.int (g_X4_wrongOfLine I A x1))], [.int 0], (I116, L117, tw_P tw dr 14 sc, A118, J, 57))) rfl ?_
                      have h := Option.some.inj h
                      subst h
                      exact tw_retZ (cd := tw_c47) (b := false) rfl rfl rfl rfl
                  · rw [if_neg hc114] at h
                    refine tw_br (cd := tw_c47) rfl rfl rfl (by exact if_pos (tw_b_f hc114)) ?_
                    refine tw_blk (cd := tw_c47) rfl 1 (c1 := (123, [some (.ref 26), some (.int x1), some (.int (g_X4_wrongOfLine I A x1))], [.int 0], (I111, L112, tw_P tw dr 14 sc, A107, J, 57))) rfl ?_
                    have h := Option.some.inj h
                    subst h
                    exact tw_retZ (cd := tw_c47) (b := false) rfl rfl rfl rfl
                · rw [if_neg hc109] at h
                  refine tw_br (cd := tw_c47) rfl rfl rfl (by exact if_pos (tw_b_f hc109)) ?_
                  refine tw_blk (cd := tw_c47) rfl 1 (c1 := (123, [some (.ref 26), some (.int x1), some (.int (g_X4_wrongOfLine I A x1))], [.int 0], (I105, L106, tw_P tw dr 14 sc, A107, J, 57))) rfl ?_
                  have h := Option.some.inj h
                  subst h
                  exact tw_retZ (cd := tw_c47) (b := false) rfl rfl rfl rfl
              · rw [if_neg hc103] at h
                refine tw_br (cd := tw_c47) rfl rfl rfl (by exact if_pos (tw_b_f hc103)) ?_
                refine tw_blk (cd := tw_c47) rfl 1 (c1 := (123, [some (.ref 26), some (.int x1), some (.int (g_X4_wrongOfLine I A x1))], [.int 0], (I99, L100, tw_P tw dr 14 sc, A101, J, 57))) rfl ?_
                have h := Option.some.inj h
                subst h
                exact tw_retZ (cd := tw_c47) (b := false) rfl rfl rfl rfl
            · rw [if_neg hs97] at h
              by_cases hs129 : x1 = 5
              · rw [if_pos hs129] at h
                refine tw_swE (cd := tw_c47) rfl rfl rfl hs129 (by exact rfl) ?_
                refine tw_blk (cd := tw_c47) rfl 2 (c1 := (126, [some (.ref 26), some (.int x1), some (.int (g_X4_wrongOfLine I A x1))], [.int 5, .ref 26], (I4, L5, tw_P tw dr 14 sc, A, J, 57))) rfl ?_
                obtain ⟨⟨c130, I131, L132, A133, J134⟩, hx135, h⟩ := tw_bindE h
                dsimp only at h
                refine tw_callE (cd := tw_c47) rfl rfl rfl rfl rfl (e_X4_name I4 L5 A J tw dr sc (5 : Int32) _ hx135) (by exact Or.inl rfl) ?_
                by_cases hc136 : c130 = true
                · rw [if_pos hc136] at h
                  refine tw_br (cd := tw_c47) rfl rfl rfl (by exact if_neg (tw_b_t hc136)) ?_
                  refine tw_blk (cd := tw_c47) rfl 2 (c1 := (130, [some (.ref 26), some (.int x1), some (.int (g_X4_wrongOfLine I A x1))], [.int 3, .ref 26], (I131, L132, tw_P tw dr 14 sc, A133, J134, 57))) rfl ?_
                  obtain ⟨⟨c137, I138, L139, A140⟩, hx141, h⟩ := tw_bindE h
                  dsimp only at h
                  refine tw_callE (cd := tw_c47) rfl rfl rfl rfl rfl (e_X4_told I131 L132 A133 J134 tw dr sc (3 : Int32) _ hx141) (by exact Or.inl rfl) ?_
                  by_cases hc142 : c137 = true
                  · rw [if_pos hc142] at h
                    refine tw_br (cd := tw_c47) rfl rfl rfl (by exact if_neg (tw_b_t hc142)) ?_
                    refine tw_blk (cd := tw_c47) rfl 2 (c1 := (134, [some (.ref 26), some (.int x1), some (.int (g_X4_wrongOfLine I A x1))], [.int 3, .ref 26], (I138, L139, tw_P tw dr 14 sc, A140, J134, 57))) rfl ?_
                    obtain ⟨⟨c143, I144, L145, A146⟩, hx147, h⟩ := tw_bindE h
                    dsimp only at h
                    refine tw_callE (cd := tw_c47) rfl rfl rfl rfl rfl (e_X4_told I138 L139 A140 J134 tw dr sc (3 : Int32) _ hx147) (by exact Or.inl rfl) ?_
                    by_cases hc148 : c143 = true
                    · rw [if_pos hc148] at h
                      refine tw_br (cd := tw_c47) rfl rfl rfl (by exact if_neg (tw_b_t hc148)) ?_
                      refine tw_blk (cd := tw_c47) rfl 1 (c1 := (137, [some (.ref 26), some (.int x1), some (.int (g_X4_wrongOfLine I A x1))], [.ref 26], (I144, L145, tw_P tw dr 14 sc, A146, J134, 57))) rfl ?_
                      obtain ⟨⟨c149, I150⟩, hx151, h⟩ := tw_letE h
                      dsimp only at h
                      refine tw_callE (cd := tw_c47) rfl rfl rfl rfl rfl (e_X4_isAnotherOne I144 L145 A146 J134 tw dr sc _ hx151) (by exact Or.inl rfl) ?_
                      by_cases hc152 : c149 = true
                      · rw [if_pos hc152] at h
                        refine tw_br (cd := tw_c47) rfl rfl rfl (by exact if_neg (tw_b_t hc152)) ?_
                        refine tw_blk (cd := tw_c47) rfl 2 (c1 := (141, [some (.ref 26), some (.int x1), some (.int (g_X4_wrongOfLine I A x1))], [.ref 1000, .ref 26], (I150, L145, tw_P tw dr 14 sc, A146, J134, 57))) rfl ?_
                        obtain ⟨⟨c153, I154, L155⟩, hx156, h⟩ := tw_bindE h
                        dsimp only at h
                        refine tw_callE (cd := tw_c47) rfl rfl rfl rfl rfl (e_X4_word I150 L145 A146 J134 tw dr sc 1000 (by decide) _ hx156) (by exact Or.inl rfl) ?_
                        by_cases hc157 : c153 = true
                        · rw [if_pos hc157] at h
                          refine tw_br (cd := tw_c47) rfl rfl rfl (by exact if_neg (tw_b_t hc157)) ?_
                          refine tw_blk (cd := tw_c47) rfl 2 (c1 := (145, [some (.ref 26), some (.int x1), some (.int (g_X4_wrongOfLine I A x1))], [.int 1, .ref 26], (I154, L155, tw_P tw dr 14 sc, A146, J134, 57))) rfl ?_
                          obtain ⟨⟨c158, I159, L160, A161⟩, hx162, h⟩ := tw_bindE h
                          dsimp only at h
                          refine tw_callE (cd := tw_c47) rfl rfl rfl rfl rfl (e_X4_told I154 L155 A146 J134 tw dr sc (1 : Int32) _ hx162) (by exact Or.inl rfl) ?_
                          by_cases hc163 : c158 = true
                          · rw [if_pos hc163] at h
                            refine tw_br (cd := tw_c47) rfl rfl rfl (by exact if_neg (tw_b_t hc163)) ?_
                            refine tw_blk (cd := tw_c47) rfl 2 (c1 := (149, [some (.ref 26), some (.int x1), some (.int (g_X4_wrongOfLine I A x1))], [.ref 1007, .ref 26], (I159, L160, tw_P tw dr 14 sc, A161, J134, 57))) rfl ?_
                            obtain ⟨⟨c164, I165, L166⟩, hx167, h⟩ := tw_bindE h
                            dsimp only at h
                            refine tw_callE (cd := tw_c47) rfl rfl rfl rfl rfl (e_X4_word I159 L160 A161 J134 tw dr sc 1007 (by decide) _ hx167) (by exact Or.inl rfl) ?_
                            by_cases hc168 : c164 = true
                            · rw [if_pos hc168] at h
                              refine tw_br (cd := tw_c47) rfl rfl rfl (by exact if_neg (tw_b_t hc168)) ?_
                              refine tw_blk (cd := tw_c47) rfl 3 (c1 := (154, [some (.ref 26), some (.int x1), some (.int (g_X4_wrongOfLine I A x1))], [.int 59, .int 0, .ref 26], (I165, L166, tw_P tw dr 14 sc, A161, J134, 57))) rfl ?_
                              obtain ⟨⟨c169, I170, L171, A172⟩, hx173, h⟩ := tw_bindE h
                              dsimp only at h
                              refine tw_callE (cd := tw_c47) rfl rfl rfl rfl rfl (e_X4_whole I165 L166 A161 J134 tw dr sc (0 : Int32) (59 : Int32) _ hx173) (by exact Or.inl rfl) ?_
                              by_cases hc174 : c169 = true
                              · rw [if_pos hc174] at h
                                refine tw_br (cd := tw_c47) rfl rfl rfl (by exact if_neg (tw_b_t hc174)) ?_
                                refine tw_blk (cd := tw_c47) rfl 2 (c1 := (158, [some (.ref 26), some (.int x1), some (.int (g_X4_wrongOfLine I A x1))], [.ref 1010, .ref 26], (I170, L171, tw_P tw dr 14 sc, A172, J134, 57))) rfl ?_
                                obtain ⟨⟨c175, I176, L177⟩, hx178, h⟩ := tw_bindE h
                                dsimp only at h
                                refine tw_callE (cd := tw_c47) rfl rfl rfl rfl rfl (e_X4_word I170 L171 A172 J134 tw dr sc 1010 (by decide) _ hx178) (by exact Or.inl rfl) ?_
                                by_cases hc179 : c175 = true
                                · rw [if_pos hc179] at h
                                  refine tw_br (cd := tw_c47) rfl rfl rfl (by exact if_neg (tw_b_t hc179)) ?_
                                  refine tw_blk (cd := tw_c47) rfl 3 (c1 := (163, [some (.ref 26), some (.int x1), some (.int (g_X4_wrongOfLine I A x1))], [.int 99, .int 1, .ref 26], (I176, L177, tw_P tw dr 14 sc, A172, J134, 57))) rfl ?_
                                  obtain ⟨⟨c180, I181, L182, A183⟩, hx184, h⟩ := tw_bindE h
                                  dsimp only at h
                                  refine tw_callE (cd := tw_c47) rfl rfl rfl rfl rfl (e_X4_whole I176 L177 A172 J134 tw dr sc (1 : Int32) (99 : Int32) _ hx184) (by exact Or.inl rfl) ?_
                                  by_cases hc185 : c180 = true
                                  · rw [if_pos hc185] at h
                                    refine tw_br (cd := tw_c47) rfl rfl rfl (by exact if_neg (tw_b_t hc185)) ?_
                                    refine tw_blk (cd := tw_c47) rfl 1 (c1 := (166, [some (.ref 26), some (.int x1), some (.int (g_X4_wrongOfLine I A x1))], [.ref 26], (I181, L182, tw_P tw dr 14 sc, A183, J134, 57))) rfl ?_
                                    obtain ⟨⟨c186, A187⟩, hx188, h⟩ := tw_bindE h
                                    dsimp only at h
                                    refine tw_callE (cd := tw_c47) rfl rfl rfl rfl rfl (e_X4_addQuarrel I181 L182 A183 J134 tw dr sc _ hx188) (by exact Or.inl rfl) ?_
                                    by_cases hc189 : c186 = true
                                    · rw [if_pos hc189] at h
                                      refine tw_br (cd := tw_c47) rfl rfl rfl (by exact if_neg (tw_b_t hc189)) ?_
                                      refine tw_blk (cd := tw_c47) rfl 2 (c1 := (171, [some (.ref 26), some (.int x1), some (.int (g_X4_wrongOfLine I A x1))], [.int 1], (I181, L182, tw_P tw dr 14 sc, A187, J134, 57))) rfl ?_
                                      have h := Option.some.inj h
                                      subst h
                                      exact tw_retZ (cd := tw_c47) (b := true) rfl rfl rfl rfl
                                    · rw [if_neg hc189] at h
                                      refine tw_br (cd := tw_c47) rfl rfl rfl (by exact if_pos (tw_b_f hc189)) ?_
                                      refine tw_blk (cd := tw_c47) rfl 1 (c1 := (171, [some (.ref 26), some (.int x1), some (.int (g_X4_wrongOfLine I A x1))], [.int 0], (I181, L182, tw_P tw dr 14 sc, A187, J134, 57))) rfl ?_
                                      have h := Option.some.inj h
                                      subst h
                                      exact tw_retZ (cd := tw_c47) (b := false) rfl rfl rfl rfl
                                  · rw [if_neg hc185] at h
                                    refine tw_br (cd := tw_c47) rfl rfl rfl (by exact if_pos (tw_b_f hc185)) ?_
                                    refine tw_blk (cd := tw_c47) rfl 1 (c1 := (171, [some (.ref 26), some (.int x1), some (.int (g_X4_wrongOfLine I A x1))], [.int 0], (I181, L182, tw_P tw dr 14 sc, A183, J134, 57))) rfl ?_
                                    have h := Option.some.inj h
                                    subst h
                                    exact tw_retZ (cd := tw_c47) (b := false) rfl rfl rfl rfl
                                · rw [if_neg hc179] at h
                                  refine tw_br (cd := tw_c47) rfl rfl rfl (by exact if_pos (tw_b_f hc179)) ?_
                                  refine tw_blk (cd := tw_c47) rfl 1 (c1 := (171, [some (.ref 26), some (.int x1), some (.int (g_X4_wrongOfLine I A x1))], [.int 0], (I176, L177, tw_P tw dr 14 sc, A172, J134, 57))) rfl ?_
                                  have h := Option.some.inj h
                                  subst h
                                  exact tw_retZ (cd := tw_c47) (b := false) rfl rfl rfl rfl
                              · rw [if_neg hc174] at h
                                refine tw_br (cd := tw_c47) rfl rfl rfl (by exact if_pos (tw_b_f hc174)) ?_
                                refine tw_blk (cd := tw_c47) rfl 1 (c1 := (171, [some (.ref 26), some (.int x1), some (.int (g_X4_wrongOfLine I A x1))], [.int 0], (I170, L171, tw_P tw dr 14 sc, A172, J134, 57))) rfl ?_
                                have h := Option.some.inj h
                                subst h
                                exact tw_retZ (cd := tw_c47) (b := false) rfl rfl rfl rfl
                            · rw [if_neg hc168] at h
                              refine tw_br (cd := tw_c47) rfl rfl rfl (by exact if_pos (tw_b_f hc168)) ?_
                              refine tw_blk (cd := tw_c47) rfl 1 (c1 := (171, [some (.ref 26), some (.int x1), some (.int (g_X4_wrongOfLine I A x1))], [.int 0], (I165, L166, tw_P tw dr 14 sc, A161, J134, 57))) rfl ?_
                              have h := Option.some.inj h
                              subst h
                              exact tw_retZ (cd := tw_c47) (b := false) rfl rfl rfl rfl
                          · rw [if_neg hc163] at h
                            refine tw_br (cd := tw_c47) rfl rfl rfl (by exact if_pos (tw_b_f hc163)) ?_
                            refine tw_blk (cd := tw_c47) rfl 1 (c1 := (171, [some (.ref 26), some (.int x1), some (.int (g_X4_wrongOfLine I A x1))], [.int 0], (I159, L160, tw_P tw dr 14 sc, A161, J134, 57))) rfl ?_
                            have h := Option.some.inj h
                            subst h
                            exact tw_retZ (cd := tw_c47) (b := false) rfl rfl rfl rfl
                        · rw [if_neg hc157] at h
                          refine tw_br (cd := tw_c47) rfl rfl rfl (by exact if_pos (tw_b_f hc157)) ?_
                          refine tw_blk (cd := tw_c47) rfl 1 (c1 := (171, [some (.ref 26), some (.int x1), some (.int (g_X4_wrongOfLine I A x1))], [.int 0], (I154, L155, tw_P tw dr 14 sc, A146, J134, 57))) rfl ?_
                          have h := Option.some.inj h
                          subst h
                          exact tw_retZ (cd := tw_c47) (b := false) rfl rfl rfl rfl
                      · rw [if_neg hc152] at h
                        refine tw_br (cd := tw_c47) rfl rfl rfl (by exact if_pos (tw_b_f hc152)) ?_
                        refine tw_blk (cd := tw_c47) rfl 1 (c1 := (171, [some (.ref 26), some (.int x1), some (.int (g_X4_wrongOfLine I A x1))], [.int 0], (I150, L145, tw_P tw dr 14 sc, A146, J134, 57))) rfl ?_
                        have h := Option.some.inj h
                        subst h
                        exact tw_retZ (cd := tw_c47) (b := false) rfl rfl rfl rfl
                    · rw [if_neg hc148] at h
                      refine tw_br (cd := tw_c47) rfl rfl rfl (by exact if_pos (tw_b_f hc148)) ?_
                      refine tw_blk (cd := tw_c47) rfl 1 (c1 := (171, [some (.ref 26), some (.int x1), some (.int (g_X4_wrongOfLine I A x1))], [.int 0], (I144, L145, tw_P tw dr 14 sc, A146, J134, 57))) rfl ?_
                      have h := Option.some.inj h
                      subst h
                      exact tw_retZ (cd := tw_c47) (b := false) rfl rfl rfl rfl
                  · rw [if_neg hc142] at h
                    refine tw_br (cd := tw_c47) rfl rfl rfl (by exact if_pos (tw_b_f hc142)) ?_
                    refine tw_blk (cd := tw_c47) rfl 1 (c1 := (171, [some (.ref 26), some (.int x1), some (.int (g_X4_wrongOfLine I A x1))], [.int 0], (I138, L139, tw_P tw dr 14 sc, A140, J134, 57))) rfl ?_
                    have h := Option.some.inj h
                    subst h
                    exact tw_retZ (cd := tw_c47) (b := false) rfl rfl rfl rfl
                · rw [if_neg hc136] at h
                  refine tw_br (cd := tw_c47) rfl rfl rfl (by exact if_pos (tw_b_f hc136)) ?_
                  refine tw_blk (cd := tw_c47) rfl 1 (c1 := (171, [some (.ref 26), some (.int x1), some (.int (g_X4_wrongOfLine I A x1))], [.int 0], (I131, L132, tw_P tw dr 14 sc, A133, J134, 57))) rfl ?_
                  have h := Option.some.inj h
                  subst h
                  exact tw_retZ (cd := tw_c47) (b := false) rfl rfl rfl rfl
              · rw [if_neg hs129] at h
                by_cases hs190 : x1 = 6
                · rw [if_pos hs190] at h
                  refine tw_swE (cd := tw_c47) rfl rfl rfl hs190 (by exact rfl) ?_
                  refine tw_blk (cd := tw_c47) rfl 2 (c1 := (174, [some (.ref 26), some (.int x1), some (.int (g_X4_wrongOfLine I A x1))], [.int 3, .ref 26], (I4, L5, tw_P tw dr 14 sc, A, J, 57))) rfl ?_
                  obtain ⟨⟨c191, I192, L193, A194⟩, hx195, h⟩ := tw_bindE h
                  dsimp only at h
                  refine tw_callE (cd := tw_c47) rfl rfl rfl rfl rfl (e_X4_told I4 L5 A J tw dr sc (3 : Int32) _ hx195) (by exact Or.inl rfl) ?_
                  by_cases hc196 : c191 = true
                  · rw [if_pos hc196] at h
                    refine tw_br (cd := tw_c47) rfl rfl rfl (by exact if_neg (tw_b_t hc196)) ?_
                    refine tw_blk (cd := tw_c47) rfl 5 (c1 := (181, [some (.ref 26), some (.int x1), some (.int (g_X4_wrongOfLine I A x1))], [.int 0, .ref 26, .ref 14, .ref 26], (I192, L193, tw_P tw dr 14 sc, A194, J, 57))) rfl ?_
                    refine tw_callE (cd := tw_c47) rfl rfl rfl rfl rfl (e_X4_readAt I192 L193 A194 J tw dr sc (0 : Int32) _ rfl) (by exact Or.inl rfl) ?_
                    refine tw_callE (cd := tw_c47) rfl rfl rfl rfl rfl (e_X8_canBeHired_14 I192 L193 A194 J tw dr 14 sc (g_X4_readAt A194 (0 : Int32)) _ rfl) (by exact Or.inl rfl) ?_
                    obtain ⟨x198, hj199, h⟩ := tw_bindE h
                    have K : tw_ME 47 (187, [some (.ref 26), none, none], [.int x198, .ref 26], (I192, L193, tw_P tw dr 14 sc, A194, J, 57)) (some (.int (tw_b r.1)), ((r.2.1), (r.2.2.1), tw_P tw dr 14 sc, (r.2.2.2.1), (r.2.2.2.2), 57)) := by
                      obtain ⟨⟨c200, I201⟩, hx202, h⟩ := tw_letE h
                      dsimp only at h
                      refine tw_callE (cd := tw_c47) rfl rfl rfl rfl rfl (e_X4_isNew I192 L193 A194 J tw dr sc x198 _ hx202) (by exact Or.inl rfl) ?_
                      by_cases hc203 : c200 = true
                      · rw [if_pos hc203] at h
                        refine tw_br (cd := tw_c47) rfl rfl rfl (by exact if_neg (tw_b_t hc203)) ?_
                        refine tw_blk (cd := tw_c47) rfl 2 (c1 := (191, [some (.ref 26), none, none], [.ref 1006, .ref 26], (I201, L193, tw_P tw dr 14 sc, A194, J, 57))) rfl ?_
                        obtain ⟨⟨c204, I205, L206⟩, hx207, h⟩ := tw_bindE h
                        dsimp only at h
                        refine tw_callE (cd := tw_c47) rfl rfl rfl rfl rfl (e_X4_word I201 L193 A194 J tw dr sc 1006 (by decide) _ hx207) (by exact Or.inl rfl) ?_
                        by_cases hc208 : c204 = true
                        · rw [if_pos hc208] at h
                          refine tw_br (cd := tw_c47) rfl rfl rfl (by exact if_neg (tw_b_t hc208)) ?_
                          refine tw_blk (cd := tw_c47) rfl 3 (c1 := (196, [some (.ref 26), none, none], [.int 20, .int 0, .ref 26], (I205, L206, tw_P tw dr 14 sc, A194, J, 57))) rfl ?_
                          obtain ⟨⟨c209, I210, L211, A212⟩, hx213, h⟩ := tw_bindE h
                          dsimp only at h
                          refine tw_callE (cd := tw_c47) rfl rfl rfl rfl rfl (e_X4_whole I205 L206 A194 J tw dr sc (0 : Int32) (20 : Int32) _ hx213) (by exact Or.inl rfl) ?_
                          by_cases hc214 : c209 = true
                          · rw [if_pos hc214] at h
                            refine tw_br (cd := tw_c47) rfl rfl rfl (by exact if_neg (tw_b_t hc214)) ?_
                            refine tw_blk (cd := tw_c47) rfl 1 (c1 := (199, [some (.ref 26), none, none], [.ref 26], (I210, L211, tw_P tw dr 14 sc, A212, J, 57))) rfl ?_
                            obtain ⟨⟨c215, A216⟩, hx217, h⟩ := tw_letE h
                            dsimp only at h
                            refine tw_callE (cd := tw_c47) rfl rfl rfl rfl rfl (e_X4_addHirable I210 L211 A212 J tw dr sc _ hx217) (by exact Or.inl rfl) ?_
                            by_cases hc218 : c215 = true
                            · rw [if_pos hc218] at h
                              refine tw_br (cd := tw_c47) rfl rfl rfl (by exact if_neg (tw_b_t hc218)) ?_
                              refine tw_blk (cd := tw_c47) rfl 2 (c1 := (204, [some (.ref 26), none, none], [.int 1], (I210, L211, tw_P tw dr 14 sc, A216, J, 57))) rfl ?_
                              have h := Option.some.inj h
                              subst h
                              exact tw_retZ (cd := tw_c47) (b := true) rfl rfl rfl rfl
                            · rw [if_neg hc218] at h
                              refine tw_br (cd := tw_c47) rfl rfl rfl (by exact if_pos (tw_b_f hc218)) ?_
                              refine tw_blk (cd := tw_c47) rfl 1 (c1 := (204, [some (.ref 26), none, none], [.int 0], (I210, L211, tw_P tw dr 14 sc, A216, J, 57))) rfl ?_
                              have h := Option.some.inj h
                              subst h
                              exact tw_retZ (cd := tw_c47) (b := false) rfl rfl rfl rfl
                          · rw [if_neg hc214] at h
                            refine tw_br (cd := tw_c47) rfl rfl rfl (by exact if_pos (tw_b_f hc214)) ?_
                            refine tw_blk (cd := tw_c47) rfl 1 (c1 := (204, [some (.ref 26), none, none], [.int 0], (I210, L211, tw_P tw dr 14 sc, A212, J, 57))) rfl ?_
                            have h := Option.some.inj h
                            subst h
                            exact tw_retZ (cd := tw_c47) (b := false) rfl rfl rfl rfl
                        · rw [if_neg hc208] at h
                          refine tw_br (cd := tw_c47) rfl rfl rfl (by exact if_pos (tw_b_f hc208)) ?_
                          refine tw_blk (cd := tw_c47) rfl 1 (c1 := (204, [some (.ref 26), none, none], [.int 0], (I205, L206, tw_P tw dr 14 sc, A194, J, 57))) rfl ?_
                          have h := Option.some.inj h
                          subst h
                          exact tw_retZ (cd := tw_c47) (b := false) rfl rfl rfl rfl
                      · rw [if_neg hc203] at h
                        refine tw_br (cd := tw_c47) rfl rfl rfl (by exact if_pos (tw_b_f hc203)) ?_
                        refine tw_blk (cd := tw_c47) rfl 1 (c1 := (204, [some (.ref 26), none, none], [.int 0], (I201, L193, tw_P tw dr 14 sc, A194, J, 57))) rfl ?_
                        have h := Option.some.inj h
                        subst h
                        exact tw_retZ (cd := tw_c47) (b := false) rfl rfl rfl rfl
                    by_cases hc197 : (g_X8_canBeHired_14 A194 (g_X4_readAt A194 (0 : Int32))) = true
                    · rw [if_pos hc197] at hj199
                      refine tw_br (cd := tw_c47) rfl rfl rfl (by exact if_neg (tw_b_t hc197)) ?_
                      refine tw_blk (cd := tw_c47) rfl 1 (c1 := (187, [some (.ref 26), some (.int x1), some (.int (g_X4_wrongOfLine I A x1))], [.int 0, .ref 26], (I192, L193, tw_P tw dr 14 sc, A194, J, 57))) rfl ?_
                      refine tw_forget (ls2 := [some (.ref 26), none, none]) ⟨rfl, trivial⟩ ?_
                      have hj199s := Option.some.inj hj199
                      subst hj199s
                      exact K
                    · rw [if_neg hc197] at hj199
                      refine tw_br (cd := tw_c47) rfl rfl rfl (by exact if_pos (tw_b_f hc197)) ?_
                      refine tw_blk (cd := tw_c47) rfl 2 (c1 := (187, [some (.ref 26), some (.int x1), some (.int (g_X4_wrongOfLine I A x1))], [.int 1, .ref 26], (I192, L193, tw_P tw dr 14 sc, A194, J, 57))) rfl ?_
                      refine tw_forget (ls2 := [some (.ref 26), none, none]) ⟨rfl, trivial⟩ ?_
                      have hj199s := Option.some.inj hj199
                      subst hj199s
                      exact K
                  · rw [if_neg hc196] at h
                    refine tw_br (cd := tw_c47) rfl rfl rfl (by exact if_pos (tw_b_f hc196)) ?_
                    refine tw_blk (cd := tw_c47) rfl 1 (c1 := (204, [some (.ref 26), some (.int x1), some (.int (g_X4_wrongOfLine I A x1))], [.int 0], (I192, L193, tw_P tw dr 14 sc, A194, J, 57))) rfl ?_
                    have h := Option.some.inj h
                    subst h
                    exact tw_retZ (cd := tw_c47) (b := false) rfl rfl rfl rfl
                · rw [if_neg hs190] at h
                  by_cases hs219 : x1 = 7
                  · rw [if_pos hs219] at h
                    refine tw_swE (cd := tw_c47) rfl rfl rfl hs219 (by exact rfl) ?_
                    refine tw_blk (cd := tw_c47) rfl 2 (c1 := (207, [some (.ref 26), some (.int x1), some (.int (g_X4_wrongOfLine I A x1))], [.int 3, .ref 26], (I4, L5, tw_P tw dr 14 sc, A, J, 57))) rfl ?_
                    obtain ⟨⟨c220, I221, L222, A223⟩, hx224, h⟩ := tw_bindE h
                    dsimp only at h
                    refine tw_callE (cd := tw_c47) rfl rfl rfl rfl rfl (e_X4_told I4 L5 A J tw dr sc (3 : Int32) _ hx224) (by exact Or.inl rfl) ?_
                    by_cases hc225 : c220 = true
                    · rw [if_pos hc225] at h
                      refine tw_br (cd := tw_c47) rfl rfl rfl (by exact if_neg (tw_b_t hc225)) ?_
                      refine tw_blk (cd := tw_c47) rfl 5 (c1 := (214, [some (.ref 26), some (.int x1), some (.int (g_X4_wrongOfLine I A x1))], [.int 0, .ref 26, .ref 14, .ref 26], (I221, L222, tw_P tw dr 14 sc, A223, J, 57))) rfl ?_
                      refine tw_callE (cd := tw_c47) rfl rfl rfl rfl rfl (e_X4_readAt I221 L222 A223 J tw dr sc (0 : Int32) _ rfl) (by exact Or.inl rfl) ?_
                      obtain ⟨c226, hx227, h⟩ := tw_bindE h
                      refine tw_callE (cd := tw_c47) rfl rfl rfl rfl rfl (e_X8_isUnsure_14 I221 L222 A223 J tw dr 14 sc (g_X4_readAt A223 (0 : Int32)) _ hx227) (by exact Or.inl rfl) ?_
                      obtain ⟨x229, hj230, h⟩ := tw_bindE h
                      have K : tw_ME 47 (220, [some (.ref 26), none, none], [.int x229, .ref 26], (I221, L222, tw_P tw dr 14 sc, A223, J, 57)) (some (.int (tw_b r.1)), ((r.2.1), (r.2.2.1), tw_P tw dr 14 sc, (r.2.2.2.1), (r.2.2.2.2), 57)) := by
                        obtain ⟨⟨c231, I232⟩, hx233, h⟩ := tw_letE h
                        dsimp only at h
                        refine tw_callE (cd := tw_c47) rfl rfl rfl rfl rfl (e_X4_isNew I221 L222 A223 J tw dr sc x229 _ hx233) (by exact Or.inl rfl) ?_
                        by_cases hc234 : c231 = true
                        · rw [if_pos hc234] at h
                          refine tw_br (cd := tw_c47) rfl rfl rfl (by exact if_neg (tw_b_t hc234)) ?_
                          refine tw_blk (cd := tw_c47) rfl 3 (c1 := (225, [some (.ref 26), none, none], [.int 9, .int 0, .ref 26], (I232, L222, tw_P tw dr 14 sc, A223, J, 57))) rfl ?_
                          obtain ⟨⟨c235, I236, L237, A238⟩, hx239, h⟩ := tw_bindE h
                          dsimp only at h
                          refine tw_callE (cd := tw_c47) rfl rfl rfl rfl rfl (e_X4_whole I232 L222 A223 J tw dr sc (0 : Int32) (9 : Int32) _ hx239) (by exact Or.inl rfl) ?_
                          by_cases hc240 : c235 = true
                          · rw [if_pos hc240] at h
                            refine tw_br (cd := tw_c47) rfl rfl rfl (by exact if_neg (tw_b_t hc240)) ?_
                            refine tw_blk (cd := tw_c47) rfl 1 (c1 := (228, [some (.ref 26), none, none], [.ref 26], (I236, L237, tw_P tw dr 14 sc, A238, J, 57))) rfl ?_
                            obtain ⟨⟨c241, A242⟩, hx243, h⟩ := tw_letE h
                            dsimp only at h
                            refine tw_callE (cd := tw_c47) rfl rfl rfl rfl rfl (e_X4_addUnsure I236 L237 A238 J tw dr sc _ hx243) (by exact Or.inl rfl) ?_
                            by_cases hc244 : c241 = true
                            · rw [if_pos hc244] at h
                              refine tw_br (cd := tw_c47) rfl rfl rfl (by exact if_neg (tw_b_t hc244)) ?_
                              refine tw_blk (cd := tw_c47) rfl 2 (c1 := (233, [some (.ref 26), none, none], [.int 1], (I236, L237, tw_P tw dr 14 sc, A242, J, 57))) rfl ?_
                              have h := Option.some.inj h
                              subst h
                              exact tw_retZ (cd := tw_c47) (b := true) rfl rfl rfl rfl
                            · rw [if_neg hc244] at h
                              refine tw_br (cd := tw_c47) rfl rfl rfl (by exact if_pos (tw_b_f hc244)) ?_
                              refine tw_blk (cd := tw_c47) rfl 1 (c1 := (233, [some (.ref 26), none, none], [.int 0], (I236, L237, tw_P tw dr 14 sc, A242, J, 57))) rfl ?_
                              have h := Option.some.inj h
                              subst h
                              exact tw_retZ (cd := tw_c47) (b := false) rfl rfl rfl rfl
                          · rw [if_neg hc240] at h
                            refine tw_br (cd := tw_c47) rfl rfl rfl (by exact if_pos (tw_b_f hc240)) ?_
                            refine tw_blk (cd := tw_c47) rfl 1 (c1 := (233, [some (.ref 26), none, none], [.int 0], (I236, L237, tw_P tw dr 14 sc, A238, J, 57))) rfl ?_
                            have h := Option.some.inj h
                            subst h
                            exact tw_retZ (cd := tw_c47) (b := false) rfl rfl rfl rfl
                        · rw [if_neg hc234] at h
                          refine tw_br (cd := tw_c47) rfl rfl rfl (by exact if_pos (tw_b_f hc234)) ?_
                          refine tw_blk (cd := tw_c47) rfl 1 (c1 := (233, [some (.ref 26), none, none], [.int 0], (I232, L222, tw_P tw dr 14 sc, A223, J, 57))) rfl ?_
                          have h := Option.some.inj h
                          subst h
                          exact tw_retZ (cd := tw_c47) (b := false) rfl rfl rfl rfl
                      by_cases hc228 : c226 = true
                      · rw [if_pos hc228] at hj230
                        refine tw_br (cd := tw_c47) rfl rfl rfl (by exact if_neg (tw_b_t hc228)) ?_
                        refine tw_blk (cd := tw_c47) rfl 1 (c1 := (220, [some (.ref 26), some (.int x1), some (.int (g_X4_wrongOfLine I A x1))], [.int 0, .ref 26], (I221, L222, tw_P tw dr 14 sc, A223, J, 57))) rfl ?_
                        refine tw_forget (ls2 := [some (.ref 26), none, none]) ⟨rfl, trivial⟩ ?_
                        have hj230s := Option.some.inj hj230
                        subst hj230s
                        exact K
                      · rw [if_neg hc228] at hj230
                        refine tw_br (cd := tw_c47) rfl rfl rfl (by exact if_pos (tw_b_f hc228)) ?_
                        refine tw_blk (cd := tw_c47) rfl 2 (c1 := (220, [some (.ref 26), some (.int x1), some (.int (g_X4_wrongOfLine I A x1))], [.int 1, .ref 26], (I221, L222, tw_P tw dr 14 sc, A223, J, 57))) rfl ?_
                        refine tw_forget (ls2 := [some (.ref 26), none, none]) ⟨rfl, trivial⟩ ?_
                        have hj230s := Option.some.inj hj230
                        subst hj230s
                        exact K
                    · rw [if_neg hc225] at h
                      refine tw_br (cd := tw_c47) rfl rfl rfl (by exact if_pos (tw_b_f hc225)) ?_
                      refine tw_blk (cd := tw_c47) rfl 1 (c1 := (233, [some (.ref 26), some (.int x1), some (.int (g_X4_wrongOfLine I A x1))], [.int 0], (I221, L222, tw_P tw dr 14 sc, A223, J, 57))) rfl ?_
                      have h := Option.some.inj h
                      subst h
                      exact tw_retZ (cd := tw_c47) (b := false) rfl rfl rfl rfl
                  · rw [if_neg hs219] at h
                    refine tw_tsD (cd := tw_c47) rfl rfl ?_ rfl ?_
                    · by_cases h8 : (x1).toInt < 0
                      · exact Or.inl h8
                      · by_cases h9 : 7 < (x1).toInt
                        · exact Or.inr h9
                        · exfalso
                          have h7 : (x1).toInt = 0 ∨ (x1).toInt = 1 ∨ (x1).toInt = 2 ∨ (x1).toInt = 3 ∨ (x1).toInt = 4 ∨ (x1).toInt = 5 ∨ (x1).toInt = 6 ∨ (x1).toInt = 7 := by omega
                          rcases h7 with h7 | h7 | h7 | h7 | h7 | h7 | h7 | h7
                          · exact (fun e9 => hs7 (Int32.toInt_inj.mp (e9.trans (by decide)))) h7
                          · exact (fun e9 => hs24 (Int32.toInt_inj.mp (e9.trans (by decide)))) h7
                          · exact (fun e9 => hs36 (Int32.toInt_inj.mp (e9.trans (by decide)))) h7
                          · exact (fun e9 => hs57 (Int32.toInt_inj.mp (e9.trans (by decide)))) h7
                          · exact (fun e9 => hs97 (Int32.toInt_inj.mp (e9.trans (by decide)))) h7
                          · exact (fun e9 => hs129 (Int32.toInt_inj.mp (e9.trans (by decide)))) h7
                          · exact (fun e9 => hs190 (Int32.toInt_inj.mp (e9.trans (by decide)))) h7
                          · exact (fun e9 => hs219 (Int32.toInt_inj.mp (e9.trans (by decide)))) h7
                    refine tw_blk (cd := tw_c47) rfl 2 (c1 := (236, [some (.ref 26), some (.int x1), some (.int (g_X4_wrongOfLine I A x1))], [.int 5, .ref 26], (I4, L5, tw_P tw dr 14 sc, A, J, 57))) rfl ?_
                    obtain ⟨⟨c245, I246, L247, A248⟩, hx249, h⟩ := tw_bindE h
                    dsimp only at h
                    refine tw_callE (cd := tw_c47) rfl rfl rfl rfl rfl (e_X4_told I4 L5 A J tw dr sc (5 : Int32) _ hx249) (by exact Or.inl rfl) ?_
                    by_cases hc250 : c245 = true
                    · rw [if_pos hc250] at h
                      refine tw_br (cd := tw_c47) rfl rfl rfl (by exact if_neg (tw_b_t hc250)) ?_
                      refine tw_blk (cd := tw_c47) rfl 6 (c1 := (244, [some (.ref 26), some (.int x1), some (.int (g_X4_wrongOfLine I A x1))], [.int 0, .ref 26, .ref 23, .ref 26], (I246, L247, tw_P tw dr 14 sc, A248, J, 57))) rfl ?_
                      refine tw_callE (cd := tw_c47) rfl rfl rfl rfl rfl (e_X4_readAt I246 L247 A248 J tw dr sc (0 : Int32) _ rfl) (by exact Or.inl rfl) ?_
                      refine tw_callE (cd := tw_c47) rfl rfl rfl rfl rfl (tw_e_get I246 L247 (tw_P tw dr 14 sc) A248 J (q := 23) (N := 3) rfl rfl (by decide) (g_X4_readAt A248 (0 : Int32))) (by exact Or.inl rfl) ?_
                      refine tw_blk (cd := tw_c47) rfl 1 (c1 := (247, [some (.ref 26), some (.int x1), some (.int (g_X4_wrongOfLine I A x1))], [.int (-2), .int (tw_get0 3 (A248 23) (g_X4_readAt A248 (0 : Int32))), .ref 26], (I246, L247, tw_P tw dr 14 sc, A248, J, 57))) rfl ?_
                      obtain ⟨x252, hj253, h⟩ := tw_bindE h
                      have K : tw_ME 47 (251, [some (.ref 26), none, none], [.int x252, .ref 26], (I246, L247, tw_P tw dr 14 sc, A248, J, 57)) (some (.int (tw_b r.1)), ((r.2.1), (r.2.2.1), tw_P tw dr 14 sc, (r.2.2.2.1), (r.2.2.2.2), 57)) := by
                        obtain ⟨⟨c254, I255⟩, hx256, h⟩ := tw_letE h
                        dsimp only at h
                        refine tw_callE (cd := tw_c47) rfl rfl rfl rfl rfl (e_X4_isNew I246 L247 A248 J tw dr sc x252 _ hx256) (by exact Or.inl rfl) ?_
                        by_cases hc257 : c254 = true
                        · rw [if_pos hc257] at h
                          refine tw_br (cd := tw_c47) rfl rfl rfl (by exact if_neg (tw_b_t hc257)) ?_
                          refine tw_blk (cd := tw_c47) rfl 2 (c1 := (255, [some (.ref 26), none, none], [.ref 1000, .ref 26], (I255, L247, tw_P tw dr 14 sc, A248, J, 57))) rfl ?_
                          obtain ⟨⟨c258, I259, L260⟩, hx261, h⟩ := tw_bindE h
                          dsimp only at h
                          refine tw_callE (cd := tw_c47) rfl rfl rfl rfl rfl (e_X4_word I255 L247 A248 J tw dr sc 1000 (by decide) _ hx261) (by exact Or.inl rfl) ?_
                          by_cases hc262 : c258 = true
                          · rw [if_pos hc262] at h
                            refine tw_br (cd := tw_c47) rfl rfl rfl (by exact if_neg (tw_b_t hc262)) ?_
                            refine tw_blk (cd := tw_c47) rfl 3 (c1 := (260, [some (.ref 26), none, none], [.int 59, .int 0, .ref 26], (I259, L260, tw_P tw dr 14 sc, A248, J, 57))) rfl ?_
                            obtain ⟨⟨c263, I264, L265, A266⟩, hx267, h⟩ := tw_bindE h
                            dsimp only at h
                            refine tw_callE (cd := tw_c47) rfl rfl rfl rfl rfl (e_X4_whole I259 L260 A248 J tw dr sc (0 : Int32) (59 : Int32) _ hx267) (by exact Or.inl rfl) ?_
                            by_cases hc268 : c263 = true
                            · rw [if_pos hc268] at h
                              refine tw_br (cd := tw_c47) rfl rfl rfl (by exact if_neg (tw_b_t hc268)) ?_
                              refine tw_blk (cd := tw_c47) rfl 1 (c1 := (263, [some (.ref 26), none, none], [.ref 26], (I264, L265, tw_P tw dr 14 sc, A266, J, 57))) rfl ?_
                              obtain ⟨⟨c269, A270⟩, hx271, h⟩ := tw_letE h
                              dsimp only at h
                              refine tw_callE (cd := tw_c47) rfl rfl rfl rfl rfl (e_X4_addEnded I264 L265 A266 J tw dr sc _ hx271) (by exact Or.inl rfl) ?_
                              by_cases hc272 : c269 = true
                              · rw [if_pos hc272] at h
                                refine tw_br (cd := tw_c47) rfl rfl rfl (by exact if_neg (tw_b_t hc272)) ?_
                                refine tw_blk (cd := tw_c47) rfl 2 (c1 := (268, [some (.ref 26), none, none], [.int 1], (I264, L265, tw_P tw dr 14 sc, A270, J, 57))) rfl ?_
                                have h := Option.some.inj h
                                subst h
                                exact tw_retZ (cd := tw_c47) (b := true) rfl rfl rfl rfl
                              · rw [if_neg hc272] at h
                                refine tw_br (cd := tw_c47) rfl rfl rfl (by exact if_pos (tw_b_f hc272)) ?_
                                refine tw_blk (cd := tw_c47) rfl 1 (c1 := (268, [some (.ref 26), none, none], [.int 0], (I264, L265, tw_P tw dr 14 sc, A270, J, 57))) rfl ?_
                                have h := Option.some.inj h
                                subst h
                                exact tw_retZ (cd := tw_c47) (b := false) rfl rfl rfl rfl
                            · rw [if_neg hc268] at h
                              refine tw_br (cd := tw_c47) rfl rfl rfl (by exact if_pos (tw_b_f hc268)) ?_
                              refine tw_blk (cd := tw_c47) rfl 1 (c1 := (268, [some (.ref 26), none, none], [.int 0], (I264, L265, tw_P tw dr 14 sc, A266, J, 57))) rfl ?_
                              have h := Option.some.inj h
                              subst h
                              exact tw_retZ (cd := tw_c47) (b := false) rfl rfl rfl rfl
                          · rw [if_neg hc262] at h
                            refine tw_br (cd := tw_c47) rfl rfl rfl (by exact if_pos (tw_b_f hc262)) ?_
                            refine tw_blk (cd := tw_c47) rfl 1 (c1 := (268, [some (.ref 26), none, none], [.int 0], (I259, L260, tw_P tw dr 14 sc, A248, J, 57))) rfl ?_
                            have h := Option.some.inj h
                            subst h
                            exact tw_retZ (cd := tw_c47) (b := false) rfl rfl rfl rfl
                        · rw [if_neg hc257] at h
                          refine tw_br (cd := tw_c47) rfl rfl rfl (by exact if_pos (tw_b_f hc257)) ?_
                          refine tw_blk (cd := tw_c47) rfl 1 (c1 := (268, [some (.ref 26), none, none], [.int 0], (I255, L247, tw_P tw dr 14 sc, A248, J, 57))) rfl ?_
                          have h := Option.some.inj h
                          subst h
                          exact tw_retZ (cd := tw_c47) (b := false) rfl rfl rfl rfl
                      by_cases hc251 : (tw_get0 3 (A248 23) (g_X4_readAt A248 (0 : Int32))) = (-2 : Int32)
                      · rw [if_pos hc251] at hj253
                        refine tw_br (cd := tw_c47) rfl rfl rfl (by exact if_pos hc251) ?_
                        refine tw_blk (cd := tw_c47) rfl 2 (c1 := (251, [some (.ref 26), some (.int x1), some (.int (g_X4_wrongOfLine I A x1))], [.int 1, .ref 26], (I246, L247, tw_P tw dr 14 sc, A248, J, 57))) rfl ?_
                        refine tw_forget (ls2 := [some (.ref 26), none, none]) ⟨rfl, trivial⟩ ?_
                        have hj253s := Option.some.inj hj253
                        subst hj253s
                        exact K
                      · rw [if_neg hc251] at hj253
                        refine tw_br (cd := tw_c47) rfl rfl rfl (by exact if_neg hc251) ?_
                        refine tw_blk (cd := tw_c47) rfl 1 (c1 := (251, [some (.ref 26), some (.int x1), some (.int (g_X4_wrongOfLine I A x1))], [.int 0, .ref 26], (I246, L247, tw_P tw dr 14 sc, A248, J, 57))) rfl ?_
                        refine tw_forget (ls2 := [some (.ref 26), none, none]) ⟨rfl, trivial⟩ ?_
                        have hj253s := Option.some.inj hj253
                        subst hj253s
                        exact K
                    · rw [if_neg hc250] at h
                      refine tw_br (cd := tw_c47) rfl rfl rfl (by exact if_pos (tw_b_f hc250)) ?_
                      refine tw_blk (cd := tw_c47) rfl 1 (c1 := (268, [some (.ref 26), some (.int x1), some (.int (g_X4_wrongOfLine I A x1))], [.int 0], (I246, L247, tw_P tw dr 14 sc, A248, J, 57))) rfl ?_
                      have h := Option.some.inj h
                      subst h
                      exact tw_retZ (cd := tw_c47) (b := false) rfl rfl rfl rfl
  · rw [if_neg hc3] at h
    refine tw_br (cd := tw_c47) rfl rfl rfl (by exact if_neg hc3) ?_
    refine tw_blk (cd := tw_c47) rfl 2 (c1 := (11, [some (.ref 26), some (.int x1), some (.int (g_X4_wrongOfLine I A x1))], [.int (g_X4_wrongOfLine I A x1), .ref 26], (I, L, tw_P tw dr 14 sc, A, J, 57))) rfl ?_
    obtain ⟨⟨c273, I274⟩, hx275, h⟩ := tw_letE h
    dsimp only at h
    refine tw_callE (cd := tw_c47) rfl rfl rfl rfl rfl (e_X4_fail I L A J tw dr sc (g_X4_wrongOfLine I A x1) _ hx275) (by exact Or.inl rfl) ?_
    have h := Option.some.inj h
    subst h
    exact tw_retZ (cd := tw_c47) (b := c273) rfl rfl rfl rfl
