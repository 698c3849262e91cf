/-! the machine does what the functions say -/
set_option maxRecDepth 16000
theorem g_X10_hidden_L1_ok (I : Nat → Int32) (L : Nat → Int64) (A : Nat → Nat → Int32) (J : Nat → Nat → Int64) (tw : Nat) (dr : Nat) (rt : Nat) (sc : Nat) (a1 : Int32) (I1 : Nat → Int32) (A4 : Nat → Nat → Int32) (out : Option Value × tw_S) : ∀ (n : Nat) (v1_3 : Int32) (v1_4 : Int32) (ex : Int32), g_X10_hidden_L1 a1 A4 n v1_3 v1_4 = some ex → tw_ME 258 (45, [none, none, none, some (.int ex), none], [], (I1, L, tw_P tw dr rt sc, A4, J, 57)) out → tw_ME 258 (22, [some (.ref 44), some (.int a1), none, some (.int v1_3), some (.int v1_4)], [], (I1, L, tw_P tw dr rt sc, A4, J, 57)) out := by
  intro n
  induction n with
  | zero =>
    intro v1_3 v1_4 ex h _
    cases h
  | succ n ih =>
    intro v1_3 v1_4 ex h K
    rw [g_X10_hidden_L1] at h
    refine tw_blk (cd := tw_c258) rfl 1 (c1 := (23, [some (.ref 44), some (.int a1), none, some (.int v1_3), some (.int v1_4)], [.int v1_4], (I1, L, tw_P tw dr rt sc, A4, J, 57))) rfl ?_
    refine tw_blk (cd := tw_c258) rfl 3 (c1 := (26, [some (.ref 44), some (.int a1), none, some (.int v1_3), some (.int v1_4)], [.int 1, .ref 47, .int v1_4], (I1, L, tw_P tw dr rt sc, A4, J, 57))) rfl ?_
    obtain ⟨x8, hx7, h⟩ := tw_bindE h
    refine tw_iald (cd := tw_c258) (N := 241) rfl rfl rfl rfl hx7 ?_
    by_cases hc9 : x8 ≤ v1_4
    · rw [if_pos hc9] at h
      refine tw_br (cd := tw_c258) rfl rfl rfl (by exact if_pos hc9) ?_
      refine tw_forget (ls2 := [none, none, none, some (.int v1_3), none]) ⟨rfl, trivial⟩ ?_
      have h := Option.some.inj h
      subst h
      exact K
    · rw [if_neg hc9] at h
      refine tw_br (cd := tw_c258) rfl rfl rfl (by exact if_neg hc9) ?_
      refine tw_blk (cd := tw_c258) rfl 5 (c1 := (33, [some (.ref 44), some (.int a1), none, some (.int v1_3), some (.int v1_4)], [.int a1, .int v1_4, .ref 44, .ref 44, .int v1_3], (I1, L, tw_P tw dr rt sc, A4, J, 57))) rfl ?_
      obtain ⟨x10, hx11, h⟩ := tw_bindE h
      refine tw_callE (cd := tw_c258) rfl rfl rfl rfl rfl (e_X10_watchersOf I1 L A4 J tw dr rt sc v1_4 a1 _ hx11) (by exact Or.inl rfl) ?_
      obtain ⟨x12, hx13, h⟩ := tw_bindE h
      refine tw_callE (cd := tw_c258) rfl rfl rfl rfl rfl (e_X10_eyesOf I1 L A4 J tw dr rt sc x10 _ hx13) (by exact Or.inl rfl) ?_
      obtain ⟨x15, hj16, h⟩ := tw_bindE h
      have K : tw_ME 258 (41, [some (.ref 44), some (.int a1), none, none, some (.int v1_4)], [.int x15, .int v1_3], (I1, L, tw_P tw dr rt sc, A4, J, 57)) out := by
        refine tw_blk (cd := tw_c258) rfl 4 (c1 := (22, [some (.ref 44), some (.int a1), none, some (.int (v1_3 ||| x15)), some (.int (v1_4 + (1 : Int32)))], [], (I1, L, tw_P tw dr rt sc, A4, J, 57))) rfl ?_
        exact ih (v1_3 ||| x15) (v1_4 + (1 : Int32)) _ h K
      by_cases hc14 : x12 = 0
      · rw [if_pos hc14] at hj16
        refine tw_br (cd := tw_c258) rfl rfl rfl (by exact if_pos hc14) ?_
        refine tw_blk (cd := tw_c258) rfl 4 (c1 := (41, [some (.ref 44), some (.int a1), none, some (.int v1_3), some (.int v1_4)], [.int ((1 : Int32) <<< (v1_4 &&& 31)), .int v1_3], (I1, L, tw_P tw dr rt sc, A4, J, 57))) rfl ?_
        refine tw_forget (ls2 := [some (.ref 44), some (.int a1), none, none, some (.int v1_4)]) ⟨rfl, rfl, rfl, trivial⟩ ?_
        have hj16s := Option.some.inj hj16
        subst hj16s
        exact K
      · rw [if_neg hc14] at hj16
        refine tw_br (cd := tw_c258) rfl rfl rfl (by exact if_neg hc14) ?_
        refine tw_blk (cd := tw_c258) rfl 1 (c1 := (41, [some (.ref 44), some (.int a1), none, some (.int v1_3), some (.int v1_4)], [.int 0, .int v1_3], (I1, L, tw_P tw dr rt sc, A4, J, 57))) rfl ?_
        refine tw_forget (ls2 := [some (.ref 44), some (.int a1), none, none, some (.int v1_4)]) ⟨rfl, rfl, rfl, trivial⟩ ?_
        have hj16s := Option.some.inj hj16
        subst hj16s
        exact K
theorem e_X10_hidden (I : Nat → Int32) (L : Nat → Int64) (A : Nat → Nat → Int32) (J : Nat → Nat → Int64) (tw dr : Nat) (rt : Nat) (sc : Nat) (a1 : Int32) : ∀ r : (Int32 × (Nat → Int32) × (Nat → Nat → Int32)), g_X10_hidden I A a1 = some r → tw_ME 258 (0, [some (.ref 44), some (.int a1), none, none, none], [], (I, L, tw_P tw dr rt sc, A, J, 57)) (some (.int r.1), ((r.2.1), L, tw_P tw dr rt sc, (r.2.2), J, 57)) := by
  intro r h
  unfold g_X10_hidden at h
  refine tw_blk (cd := tw_c258) rfl 1 (c1 := (1, [some (.ref 44), some (.int a1), none, none, none], [.ref 44], (I, L, tw_P tw dr rt sc, A, J, 57))) rfl ?_
  obtain ⟨I1, hx2, h⟩ := tw_letE h
  refine tw_callE (cd := tw_c258) rfl rfl rfl rfl rfl (e_X10_good I L A J tw dr rt sc _ hx2) (by exact Or.inl rfl) ?_
  refine tw_blk (cd := tw_c258) rfl 5 (c1 := (7, [some (.ref 44), some (.int a1), none, none, none], [.int a1, .ref 44, .int (I1 4414), .ref 44], (I1, L, tw_P tw dr rt sc, A, J, 57))) rfl ?_
  refine tw_callE (cd := tw_c258) rfl rfl rfl rfl rfl (e_X10_isMinute I1 L A J tw dr rt sc a1 _ rfl) (by exact Or.inl rfl) ?_
  refine tw_callE (cd := tw_c258) rfl rfl rfl rfl rfl (e_X10_why I1 L A J tw dr rt sc (I1 4414) (tw_b (g_X10_isMinute a1)) _ rfl) (by exact Or.inl rfl) ?_
  refine tw_blk (cd := tw_c258) rfl 2 (c1 := (11, [some (.ref 44), some (.int a1), some (.int (g_X10_why (I1 4414) (tw_b (g_X10_isMinute a1)))), none, none], [.int (g_X10_why (I1 4414) (tw_b (g_X10_isMinute a1)))], (I1, L, tw_P tw dr rt sc, A, J, 57))) rfl ?_
  by_cases hc3 : (g_X10_why (I1 4414) (tw_b (g_X10_isMinute a1))) = 0
  · rw [if_pos hc3] at h
    refine tw_br (cd := tw_c258) rfl rfl rfl (by exact if_pos hc3) ?_
    refine tw_blk (cd := tw_c258) rfl 1 (c1 := (17, [some (.ref 44), some (.int a1), some (.int (g_X10_why (I1 4414) (tw_b (g_X10_isMinute a1)))), none, none], [.ref 44], (I1, L, tw_P tw dr rt sc, A, J, 57))) rfl ?_
    obtain ⟨A4, hx5, h⟩ := tw_bindE h
    refine tw_callE (cd := tw_c258) rfl rfl rfl rfl rfl (e_X10_asNow I1 L A J tw dr rt sc _ hx5) (by exact Or.inl rfl) ?_
    refine tw_blk (cd := tw_c258) rfl 4 (c1 := (22, [some (.ref 44), some (.int a1), some (.int (g_X10_why (I1 4414) (tw_b (g_X10_isMinute a1)))), some (.int 0), some (.int 0)], [], (I1, L, tw_P tw dr rt sc, A4, J, 57))) rfl ?_
    obtain ⟨x6, hx17, h⟩ := tw_bindE h
    refine tw_forget (ls2 := [some (.ref 44), some (.int a1), none, some (.int 0), some (.int 0)]) ⟨rfl, rfl, rfl, rfl, trivial⟩ ?_
    refine g_X10_hidden_L1_ok I L A J tw dr rt sc a1 I1 A4 _ 4096 (0 : Int32) (0 : Int32) _ hx17 ?_
    refine tw_blk (cd := tw_c258) rfl 1 (c1 := (46, [none, none, none, some (.int x6), none], [.int x6], (I1, L, tw_P tw dr rt sc, A4, J, 57))) rfl ?_
    have h := Option.some.inj h
    subst h
    exact tw_retE (cd := tw_c258) rfl rfl rfl rfl
  · rw [if_neg hc3] at h
    refine tw_br (cd := tw_c258) rfl rfl rfl (by exact if_neg hc3) ?_
    refine tw_blk (cd := tw_c258) rfl 2 (c1 := (14, [some (.ref 44), some (.int a1), some (.int (g_X10_why (I1 4414) (tw_b (g_X10_isMinute a1)))), none, none], [.int (g_X10_why (I1 4414) (tw_b (g_X10_isMinute a1))), .ref 44], (I1, L, tw_P tw dr rt sc, A, J, 57))) rfl ?_
    obtain ⟨⟨x18, I19⟩, hx20, h⟩ := tw_letE h
    dsimp only at h
    refine tw_callE (cd := tw_c258) rfl rfl rfl rfl rfl (e_X10_no I1 L A J tw dr rt sc (g_X10_why (I1 4414) (tw_b (g_X10_isMinute a1))) _ hx20) (by exact Or.inl rfl) ?_
    have h := Option.some.inj h
    subst h
    exact tw_retE (cd := tw_c258) rfl rfl rfl rfl
theorem g_X9_square_L2_ok (I : Nat → Int32) (L : Nat → Int64) (A : Nat → Nat → Int32) (J : Nat → Nat → Int64) (rt : Nat) (sc : Nat) (I2 : Nat → Int32) (A3 : Nat → Nat → Int32) (v1_1 : Int32) (v1_2 : Int32) (v1_3 : Int32) (out : Option Value × tw_S) : ∀ (n : Nat) (v2_4 : Int32) (v2_5 : Int32) (ex : Int32), g_X9_square_L2 I2 A3 v1_3 n v2_4 v2_5 = some ex → tw_ME 125 (41, [some (.ref 0), some (.int v1_1), some (.int v1_2), some (.int v1_3), some (.int ex), none], [], (I2, L, tw_P 2 14 rt 2, A3, J, 57)) out → tw_ME 125 (25, [some (.ref 0), some (.int v1_1), some (.int v1_2), some (.int v1_3), some (.int v2_4), some (.int v2_5)], [], (I2, L, tw_P 2 14 rt 2, A3, J, 57)) out := by
  intro n
  induction n with
  | zero =>
    intro v2_4 v2_5 ex h _
    cases h
  | succ n ih =>
    intro v2_4 v2_5 ex h K
    rw [g_X9_square_L2] at h
    refine tw_blk (cd := tw_c125) rfl 1 (c1 := (26, [some (.ref 0), some (.int v1_1), some (.int v1_2), some (.int v1_3), some (.int v2_4), some (.int v2_5)], [.int v2_5], (I2, L, tw_P 2 14 rt 2, A3, J, 57))) rfl ?_
    refine tw_blk (cd := tw_c125) rfl 1 (c1 := (27, [some (.ref 0), some (.int v1_1), some (.int v1_2), some (.int v1_3), some (.int v2_4), some (.int v2_5)], [.int 60, .int v2_5], (I2, L, tw_P 2 14 rt 2, A3, J, 57))) rfl ?_
    by_cases hc8 : (60 : Int32) ≤ v2_5
    · rw [if_pos hc8] at h
      refine tw_br (cd := tw_c125) rfl rfl rfl (by exact if_pos hc8) ?_
      refine tw_forget (ls2 := [some (.ref 0), some (.int v1_1), some (.int v1_2), some (.int v1_3), some (.int v2_4), none]) ⟨rfl, rfl, rfl, rfl, rfl, trivial⟩ ?_
      have h := Option.some.inj h
      subst h
      exact K
    · rw [if_neg hc8] at h
      refine tw_br (cd := tw_c125) rfl rfl rfl (by exact if_neg hc8) ?_
      refine tw_blk (cd := tw_c125) rfl 7 (c1 := (35, [some (.ref 0), some (.int v1_1), some (.int v1_2), some (.int v1_3), some (.int v2_4), some (.int v2_5)], [.int v2_5, .int v1_3, .ref 36, .ref 36, .int v2_4], (I2, L, tw_P 2 14 rt 2, A3, J, 57))) rfl ?_
      obtain ⟨x9, hx10, h⟩ := tw_bindE h
      refine tw_callE (cd := tw_c125) rfl rfl rfl rfl rfl (e_X6_seers I2 L A3 J 2 14 rt v1_3 v2_5 _ hx10) (by exact Or.inl rfl) ?_
      obtain ⟨x11, hx12, h⟩ := tw_bindE h
      refine tw_callE (cd := tw_c125) rfl rfl rfl rfl rfl (e_X6_eyesOf I2 L A3 J 2 14 rt x9 _ hx12) (by exact Or.inl rfl) ?_
      refine tw_blk (cd := tw_c125) rfl 4 (c1 := (25, [some (.ref 0), some (.int v1_1), some (.int v1_2), some (.int v1_3), some (.int (v2_4 + x11)), some (.int (v2_5 + (1 : Int32)))], [], (I2, L, tw_P 2 14 rt 2, A3, J, 57))) rfl ?_
      exact ih (v2_4 + x11) (v2_5 + (1 : Int32)) _ h K
theorem g_X9_square_L1_ok (I : Nat → Int32) (L : Nat → Int64) (A : Nat → Nat → Int32) (J : Nat → Nat → Int64) (rt : Nat) (sc : Nat) (I2 : Nat → Int32) (A3 : Nat → Nat → Int32) (out : Option Value × tw_S) : ∀ (n : Nat) (v1_1 : Int32) (v1_2 : Int32) (v1_3 : Int32) (ex : Int32), g_X9_square_L1 I2 A3 n v1_1 v1_2 v1_3 = some ex → tw_ME 125 (50, [some (.ref 0), some (.int ex), none, none, none, none], [], (I2, L, tw_P 2 14 rt 2, A3, J, 57)) out → tw_ME 125 (15, [some (.ref 0), some (.int v1_1), some (.int v1_2), some (.int v1_3), none, none], [], (I2, L, tw_P 2 14 rt 2, A3, J, 57)) out := by
  intro n
  induction n with
  | zero =>
    intro v1_1 v1_2 v1_3 ex h _
    cases h
  | succ n ih =>
    intro v1_1 v1_2 v1_3 ex h K
    rw [g_X9_square_L1] at h
    refine tw_blk (cd := tw_c125) rfl 1 (c1 := (16, [some (.ref 0), some (.int v1_1), some (.int v1_2), some (.int v1_3), none, none], [.int v1_3], (I2, L, tw_P 2 14 rt 2, A3, J, 57))) rfl ?_
    refine tw_blk (cd := tw_c125) rfl 3 (c1 := (19, [some (.ref 0), some (.int v1_1), some (.int v1_2), some (.int v1_3), none, none], [.int 1, .ref 2, .int v1_3], (I2, L, tw_P 2 14 rt 2, A3, J, 57))) rfl ?_
    refine tw_callE (cd := tw_c125) rfl rfl rfl rfl rfl (e_X8_count_2 I2 L A3 J 2 14 rt 2 (1 : Int32) _ rfl) (by exact Or.inl rfl) ?_
    by_cases hc6 : (g_X8_count_2 A3 (1 : Int32)) ≤ v1_3
    · rw [if_pos hc6] at h
      refine tw_br (cd := tw_c125) rfl rfl rfl (by exact if_pos hc6) ?_
      refine tw_forget (ls2 := [some (.ref 0), some (.int v1_1), none, none, none, none]) ⟨rfl, rfl, trivial⟩ ?_
      have h := Option.some.inj h
      subst h
      exact K
    · rw [if_neg hc6] at h
      refine tw_br (cd := tw_c125) rfl rfl rfl (by exact if_neg hc6) ?_
      refine tw_blk (cd := tw_c125) rfl 4 (c1 := (25, [some (.ref 0), some (.int v1_1), some (.int v1_2), some (.int v1_3), some (.int 0), some (.int 0)], [], (I2, L, tw_P 2 14 rt 2, A3, J, 57))) rfl ?_
      obtain ⟨x7, hx17, h⟩ := tw_bindE h
      refine g_X9_square_L2_ok I L A J rt sc I2 A3 v1_1 v1_2 v1_3 _ 4096 (0 : Int32) (0 : Int32) _ hx17 ?_
      refine tw_blk (cd := tw_c125) rfl 2 (c1 := (43, [some (.ref 0), some (.int v1_1), some (.int v1_2), some (.int v1_3), some (.int x7), none], [.int v1_2, .int x7], (I2, L, tw_P 2 14 rt 2, A3, J, 57))) rfl ?_
      obtain ⟨⟨x14, x15⟩, hj16, h⟩ := tw_bindE h
      dsimp only at h
      have K : tw_ME 125 (48, [some (.ref 0), some (.int x14), some (.int x15), some (.int v1_3), none, none], [], (I2, L, tw_P 2 14 rt 2, A3, J, 57)) out := by
        refine tw_blk (cd := tw_c125) rfl 2 (c1 := (15, [some (.ref 0), some (.int x14), some (.int x15), some (.int (v1_3 + (1 : Int32))), none, none], [], (I2, L, tw_P 2 14 rt 2, A3, J, 57))) rfl ?_
        exact ih x14 x15 (v1_3 + (1 : Int32)) _ h K
      by_cases hc13 : x7 ≤ v1_2
      · rw [if_pos hc13] at hj16
        refine tw_br (cd := tw_c125) rfl rfl rfl (by exact if_pos hc13) ?_
        refine tw_forget (ls2 := [some (.ref 0), some (.int v1_1), some (.int v1_2), some (.int v1_3), none, none]) ⟨rfl, rfl, rfl, rfl, trivial⟩ ?_
        have hj16s := Option.some.inj hj16
        obtain ⟨hj16_0, hj16r0⟩ := Prod.mk.inj hj16s
        subst hj16_0
        subst hj16r0
        exact K
      · rw [if_neg hc13] at hj16
        refine tw_br (cd := tw_c125) rfl rfl rfl (by exact if_neg hc13) ?_
        refine tw_blk (cd := tw_c125) rfl 4 (c1 := (48, [some (.ref 0), some (.int v1_3), some (.int x7), some (.int v1_3), some (.int x7), none], [], (I2, L, tw_P 2 14 rt 2, A3, J, 57))) rfl ?_
        refine tw_forget (ls2 := [some (.ref 0), some (.int v1_3), some (.int x7), some (.int v1_3), none, none]) ⟨rfl, rfl, rfl, rfl, trivial⟩ ?_
        have hj16s := Option.some.inj hj16
        obtain ⟨hj16_0, hj16r0⟩ := Prod.mk.inj hj16s
        subst hj16_0
        subst hj16r0
        exact K
theorem e_X9_square (I : Nat → Int32) (L : Nat → Int64) (A : Nat → Nat → Int32) (J : Nat → Nat → Int64) (rt : Nat) (sc : Nat) : ∀ r : (Int32 × (Nat → Int32) × (Nat → Nat → Int32) × Nat), g_X9_square I A sc = some r → tw_ME 125 (0, [some (.ref 0), none, none, none, none, none], [], (I, L, tw_P 2 14 rt sc, A, J, 57)) (some (.int r.1), ((r.2.1), L, tw_P 2 14 rt (r.2.2.2), (r.2.2.1), J, 57)) := by
  intro r h
  unfold g_X9_square at h
  refine tw_blk (cd := tw_c125) rfl 1 (c1 := (1, [some (.ref 0), none, none, none, none, none], [.ref 0], (I, L, tw_P 2 14 rt sc, A, J, 57))) rfl ?_
  refine tw_callE (cd := tw_c125) rfl rfl rfl rfl rfl (e_X9_hasTown I L A J rt sc _ rfl) (by exact Or.inl rfl) ?_
  by_cases hc1 : (g_X9_hasTown A) = true
  · rw [if_pos hc1] at h
    refine tw_br (cd := tw_c125) rfl rfl rfl (by exact if_neg (tw_b_t hc1)) ?_
    refine tw_blk (cd := tw_c125) rfl 1 (c1 := (8, [some (.ref 0), none, none, none, none, none], [.ref 0], (I, L, tw_P 2 14 rt sc, A, J, 57))) rfl ?_
    obtain ⟨⟨I2, A3⟩, hx4, h⟩ := tw_bindE h
    dsimp only at h
    refine tw_callE (cd := tw_c125) rfl rfl rfl rfl rfl (e_X9_showNow I L A J rt sc _ hx4) (by exact Or.inl rfl) ?_
    refine tw_blk (cd := tw_c125) rfl 6 (c1 := (15, [some (.ref 0), some (.int 0), some (.int (-1)), some (.int 0), none, none], [], (I2, L, tw_P 2 14 rt 2, A3, J, 57))) rfl ?_
    obtain ⟨x5, hx21, h⟩ := tw_bindE h
    refine g_X9_square_L1_ok I L A J rt sc I2 A3 _ 4096 (0 : Int32) (-1 : Int32) (0 : Int32) _ hx21 ?_
    refine tw_blk (cd := tw_c125) rfl 2 (c1 := (52, [some (.ref 0), some (.int x5), none, none, none, none], [.int x5, .ref 0], (I2, L, tw_P 2 14 rt 2, A3, J, 57))) rfl ?_
    obtain ⟨⟨x18, I19⟩, hx20, h⟩ := tw_letE h
    dsimp only at h
    refine tw_callE (cd := tw_c125) rfl rfl rfl rfl rfl (e_X9_grant I2 L A3 J 2 14 rt 2 x5 _ hx20) (by exact Or.inl rfl) ?_
    have h := Option.some.inj h
    subst h
    exact tw_retE (cd := tw_c125) rfl rfl rfl rfl
  · rw [if_neg hc1] at h
    refine tw_br (cd := tw_c125) rfl rfl rfl (by exact if_pos (tw_b_f hc1)) ?_
    refine tw_blk (cd := tw_c125) rfl 2 (c1 := (5, [some (.ref 0), none, none, none, none, none], [.int 1, .ref 0], (I, L, tw_P 2 14 rt sc, A, J, 57))) rfl ?_
    obtain ⟨⟨x22, I23⟩, hx24, h⟩ := tw_letE h
    dsimp only at h
    refine tw_callE (cd := tw_c125) rfl rfl rfl rfl rfl (e_X9_refuse I L A J 2 14 rt sc (1 : Int32) _ hx24) (by exact Or.inl rfl) ?_
    have h := Option.some.inj h
    subst h
    exact tw_retE (cd := tw_c125) rfl rfl rfl rfl
theorem g_X10_allEyes_L1_ok (I : Nat → Int32) (L : Nat → Int64) (A : Nat → Nat → Int32) (J : Nat → Nat → Int64) (tw : Nat) (dr : Nat) (rt : Nat) (sc : Nat) (a1 : Int32) (out : Option Value × tw_S) : ∀ (n : Nat) (v1_2 : Int32) (v1_3 : Int32) (ex : Int32), g_X10_allEyes_L1 A a1 n v1_2 v1_3 = some ex → tw_ME 259 (18, [none, none, some (.int ex), none], [], (I, L, tw_P tw dr rt sc, A, J, 57)) out → tw_ME 259 (4, [some (.ref 44), some (.int a1), some (.int v1_2), some (.int v1_3)], [], (I, L, tw_P tw dr rt sc, A, J, 57)) out := by
  intro n
  induction n with
  | zero =>
    intro v1_2 v1_3 ex h _
    cases h
  | succ n ih =>
    intro v1_2 v1_3 ex h K
    rw [g_X10_allEyes_L1] at h
    refine tw_blk (cd := tw_c259) rfl 1 (c1 := (5, [some (.ref 44), some (.int a1), some (.int v1_2), some (.int v1_3)], [.int v1_3], (I, L, tw_P tw dr rt sc, A, J, 57))) rfl ?_
    refine tw_blk (cd := tw_c259) rfl 1 (c1 := (6, [some (.ref 44), some (.int a1), some (.int v1_2), some (.int v1_3)], [.int 59, .int v1_3], (I, L, tw_P tw dr rt sc, A, J, 57))) rfl ?_
    by_cases hc2 : (59 : Int32) < v1_3
    · rw [if_pos hc2] at h
      refine tw_br (cd := tw_c259) rfl rfl rfl (by exact if_pos hc2) ?_
      refine tw_forget (ls2 := [none, none, some (.int v1_2), none]) ⟨rfl, trivial⟩ ?_
      have h := Option.some.inj h
      subst h
      exact K
    · rw [if_neg hc2] at h
      refine tw_br (cd := tw_c259) rfl rfl rfl (by exact if_neg hc2) ?_
      refine tw_blk (cd := tw_c259) rfl 5 (c1 := (12, [some (.ref 44), some (.int a1), some (.int v1_2), some (.int v1_3)], [.int v1_3, .int a1, .ref 44, .ref 44, .int v1_2], (I, L, tw_P tw dr rt sc, A, J, 57))) rfl ?_
      obtain ⟨x3, hx4, h⟩ := tw_bindE h
      refine tw_callE (cd := tw_c259) rfl rfl rfl rfl rfl (e_X10_watchersOf I L A J tw dr rt sc a1 v1_3 _ hx4) (by exact Or.inl rfl) ?_
      obtain ⟨x5, hx6, h⟩ := tw_bindE h
      refine tw_callE (cd := tw_c259) rfl rfl rfl rfl rfl (e_X10_eyesOf I L A J tw dr rt sc x3 _ hx6) (by exact Or.inl rfl) ?_
      refine tw_blk (cd := tw_c259) rfl 4 (c1 := (4, [some (.ref 44), some (.int a1), some (.int (v1_2 + x5)), some (.int (v1_3 + (1 : Int32)))], [], (I, L, tw_P tw dr rt sc, A, J, 57))) rfl ?_
      exact ih (v1_2 + x5) (v1_3 + (1 : Int32)) _ h K
theorem e_X10_allEyes (I : Nat → Int32) (L : Nat → Int64) (A : Nat → Nat → Int32) (J : Nat → Nat → Int64) (tw dr : Nat) (rt : Nat) (sc : Nat) (a1 : Int32) : ∀ r : Int32, g_X10_allEyes A a1 = some r → tw_ME 259 (0, [some (.ref 44), some (.int a1), none, none], [], (I, L, tw_P tw dr rt sc, A, J, 57)) (some (.int r), (I, L, tw_P tw dr rt sc, A, J, 57)) := by
  intro r h
  unfold g_X10_allEyes at h
  refine tw_blk (cd := tw_c259) rfl 4 (c1 := (4, [some (.ref 44), some (.int a1), some (.int 0), some (.int 0)], [], (I, L, tw_P tw dr rt sc, A, J, 57))) rfl ?_
  obtain ⟨x1, hx7, h⟩ := tw_bindE h
  refine g_X10_allEyes_L1_ok I L A J tw dr rt sc a1 _ 4096 (0 : Int32) (0 : Int32) _ hx7 ?_
  refine tw_blk (cd := tw_c259) rfl 1 (c1 := (19, [none, none, some (.int x1), none], [.int x1], (I, L, tw_P tw dr rt sc, A, J, 57))) rfl ?_
  have h := Option.some.inj h
  subst h
  exact tw_retE (cd := tw_c259) rfl rfl rfl rfl
theorem g_X10_square_L1_ok (I : Nat → Int32) (L : Nat → Int64) (A : Nat → Nat → Int32) (J : Nat → Nat → Int64) (tw : Nat) (dr : Nat) (rt : Nat) (sc : Nat) (I1 : Nat → Int32) (A7 : Nat → Nat → Int32) (x9 : Int32) (out : Option Value × tw_S) : ∀ (n : Nat) (v1_1 : Int32) (v1_2 : Int32) (v1_3 : Int32) (ex : Int32), g_X10_square_L1 A7 n v1_1 v1_2 v1_3 = some ex → tw_ME 260 (39, [none, some (.int ex), none, none, none], [], (I1, L, tw_P tw dr rt sc, A7, J, 57)) out → tw_ME 260 (19, [some (.ref 44), some (.int v1_1), some (.int v1_2), some (.int v1_3), none], [], (I1, L, tw_P tw dr rt sc, A7, J, 57)) out := by
  intro n
  induction n with
  | zero =>
    intro v1_1 v1_2 v1_3 ex h _
    cases h
  | succ n ih =>
    intro v1_1 v1_2 v1_3 ex h K
    rw [g_X10_square_L1] at h
    refine tw_blk (cd := tw_c260) rfl 1 (c1 := (20, [some (.ref 44), some (.int v1_1), some (.int v1_2), some (.int v1_3), none], [.int v1_3], (I1, L, tw_P tw dr rt sc, A7, J, 57))) rfl ?_
    refine tw_blk (cd := tw_c260) rfl 3 (c1 := (23, [some (.ref 44), some (.int v1_1), some (.int v1_2), some (.int v1_3), none], [.int 1, .ref 47, .int v1_3], (I1, L, tw_P tw dr rt sc, A7, J, 57))) rfl ?_
    obtain ⟨x13, hx12, h⟩ := tw_bindE h
    refine tw_iald (cd := tw_c260) (N := 241) rfl rfl rfl rfl hx12 ?_
    by_cases hc14 : x13 ≤ v1_3
    · rw [if_pos hc14] at h
      refine tw_br (cd := tw_c260) rfl rfl rfl (by exact if_pos hc14) ?_
      refine tw_forget (ls2 := [none, some (.int v1_1), none, none, none]) ⟨rfl, trivial⟩ ?_
      have h := Option.some.inj h
      subst h
      exact K
    · rw [if_neg hc14] at h
      refine tw_br (cd := tw_c260) rfl rfl rfl (by exact if_neg hc14) ?_
      refine tw_blk (cd := tw_c260) rfl 2 (c1 := (27, [some (.ref 44), some (.int v1_1), some (.int v1_2), some (.int v1_3), none], [.int v1_3, .ref 44], (I1, L, tw_P tw dr rt sc, A7, J, 57))) rfl ?_
      obtain ⟨x15, hx16, h⟩ := tw_bindE h
      refine tw_callE (cd := tw_c260) rfl rfl rfl rfl rfl (e_X10_allEyes I1 L A7 J tw dr rt sc v1_3 _ hx16) (by exact Or.inl rfl) ?_
      refine tw_blk (cd := tw_c260) rfl 3 (c1 := (31, [some (.ref 44), some (.int v1_1), some (.int v1_2), some (.int v1_3), some (.int x15)], [.int v1_2, .int x15], (I1, L, tw_P tw dr rt sc, A7, J, 57))) rfl ?_
      obtain ⟨⟨x18, x19⟩, hj20, h⟩ := tw_bindE h
      dsimp only at h
      have K : tw_ME 260 (37, [some (.ref 44), some (.int x18), some (.int x19), some (.int v1_3), none], [], (I1, L, tw_P tw dr rt sc, A7, J, 57)) out := by
        refine tw_blk (cd := tw_c260) rfl 2 (c1 := (19, [some (.ref 44), some (.int x18), some (.int x19), some (.int (v1_3 + (1 : Int32))), none], [], (I1, L, tw_P tw dr rt sc, A7, J, 57))) rfl ?_
        exact ih x18 x19 (v1_3 + (1 : Int32)) _ h K
      by_cases hc17 : v1_2 < x15
      · rw [if_pos hc17] at hj20
        refine tw_br (cd := tw_c260) rfl rfl rfl (by exact if_pos hc17) ?_
        refine tw_blk (cd := tw_c260) rfl 4 (c1 := (37, [some (.ref 44), some (.int v1_3), some (.int x15), some (.int v1_3), some (.int x15)], [], (I1, L, tw_P tw dr rt sc, A7, J, 57))) rfl ?_
        refine tw_forget (ls2 := [some (.ref 44), some (.int v1_3), some (.int x15), some (.int v1_3), none]) ⟨rfl, rfl, rfl, rfl, trivial⟩ ?_
        have hj20s := Option.some.inj hj20
        obtain ⟨hj20_0, hj20r0⟩ := Prod.mk.inj hj20s
        subst hj20_0
        subst hj20r0
        exact K
      · rw [if_neg hc17] at hj20
        refine tw_br (cd := tw_c260) rfl rfl rfl (by exact if_neg hc17) ?_
        refine tw_blk (cd := tw_c260) rfl 1 (c1 := (37, [some (.ref 44), some (.int v1_1), some (.int v1_2), some (.int v1_3), some (.int x15)], [], (I1, L, tw_P tw dr rt sc, A7, J, 57))) rfl ?_
        refine tw_forget (ls2 := [some (.ref 44), some (.int v1_1), some (.int v1_2), some (.int v1_3), none]) ⟨rfl, rfl, rfl, rfl, trivial⟩ ?_
        have hj20s := Option.some.inj hj20
        obtain ⟨hj20_0, hj20r0⟩ := Prod.mk.inj hj20s
        subst hj20_0
        subst hj20r0
        exact K
theorem e_X10_square (I : Nat → Int32) (L : Nat → Int64) (A : Nat → Nat → Int32) (J : Nat → Nat → Int64) (tw dr : Nat) (rt : Nat) (sc : Nat) : ∀ r : (Int32 × (Nat → Int32) × (Nat → Nat → Int32)), g_X10_square I A = some r → tw_ME 260 (0, [some (.ref 44), none, none, none, none], [], (I, L, tw_P tw dr rt sc, A, J, 57)) (some (.int r.1), ((r.2.1), L, tw_P tw dr rt sc, (r.2.2), J, 57)) := by
  intro r h
  unfold g_X10_square at h
  refine tw_blk (cd := tw_c260) rfl 1 (c1 := (1, [some (.ref 44), none, none, none, none], [.ref 44], (I, L, tw_P tw dr rt sc, A, J, 57))) rfl ?_
  obtain ⟨I1, hx2, h⟩ := tw_letE h
  refine tw_callE (cd := tw_c260) rfl rfl rfl rfl rfl (e_X10_good I L A J tw dr rt sc _ hx2) (by exact Or.inl rfl) ?_
  refine tw_blk (cd := tw_c260) rfl 2 (c1 := (4, [some (.ref 44), none, none, none, none], [.int (I1 4414)], (I1, L, tw_P tw dr rt sc, A, J, 57))) rfl ?_
  by_cases hc3 : (I1 4414) = 0
  · rw [if_pos hc3] at h
    refine tw_br (cd := tw_c260) rfl rfl rfl (by exact if_pos hc3) ?_
    refine tw_blk (cd := tw_c260) rfl 2 (c1 := (7, [some (.ref 44), none, none, none, none], [.int 1, .ref 44], (I1, L, tw_P tw dr rt sc, A, J, 57))) rfl ?_
    obtain ⟨⟨x4, I5⟩, hx6, h⟩ := tw_letE h
    dsimp only at h
    refine tw_callE (cd := tw_c260) rfl rfl rfl rfl rfl (e_X10_no I1 L A J tw dr rt sc (1 : Int32) _ hx6) (by exact Or.inl rfl) ?_
    have h := Option.some.inj h
    subst h
    exact tw_retE (cd := tw_c260) rfl rfl rfl rfl
  · rw [if_neg hc3] at h
    refine tw_br (cd := tw_c260) rfl rfl rfl (by exact if_neg hc3) ?_
    refine tw_blk (cd := tw_c260) rfl 1 (c1 := (10, [some (.ref 44), none, none, none, none], [.ref 44], (I1, L, tw_P tw dr rt sc, A, J, 57))) rfl ?_
    obtain ⟨A7, hx8, h⟩ := tw_bindE h
    refine tw_callE (cd := tw_c260) rfl rfl rfl rfl rfl (e_X10_asNow I1 L A J tw dr rt sc _ hx8) (by exact Or.inl rfl) ?_
    refine tw_blk (cd := tw_c260) rfl 4 (c1 := (15, [some (.ref 44), some (.int 0), none, none, none], [.int 0, .ref 44], (I1, L, tw_P tw dr rt sc, A7, J, 57))) rfl ?_
    obtain ⟨x9, hx10, h⟩ := tw_bindE h
    refine tw_callE (cd := tw_c260) rfl rfl rfl rfl rfl (e_X10_allEyes I1 L A7 J tw dr rt sc (0 : Int32) _ hx10) (by exact Or.inl rfl) ?_
    refine tw_blk (cd := tw_c260) rfl 3 (c1 := (19, [some (.ref 44), some (.int 0), some (.int x9), some (.int 1), none], [], (I1, L, tw_P tw dr rt sc, A7, J, 57))) rfl ?_
    obtain ⟨x11, hx21, h⟩ := tw_bindE h
    refine g_X10_square_L1_ok I L A J tw dr rt sc I1 A7 x9 _ 4096 (0 : Int32) x9 (1 : Int32) _ hx21 ?_
    refine tw_blk (cd := tw_c260) rfl 1 (c1 := (40, [none, some (.int x11), none, none, none], [.int x11], (I1, L, tw_P tw dr rt sc, A7, J, 57))) rfl ?_
    have h := Option.some.inj h
    subst h
    exact tw_retE (cd := tw_c260) rfl rfl rfl rfl
theorem g_X1_watch_L1_ok (I : Nat → Int32) (L : Nat → Int64) (A : Nat → Nat → Int32) (J : Nat → Nat → Int64) (tw : Nat) (dr : Nat) (rt : Nat) (a1 : Int32) (x1 : Int32) (out : Option Value × tw_S) : ∀ (n : Nat) (v1_3 : Int32) (A_1 : Nat → Nat → Int32) (ex : Nat → Nat → Int32), g_X1_watch_L1 I x1 n v1_3 A_1 = some ex → tw_ME 16 (21, [none, none, none, none], [], (I, L, tw_P tw dr rt 2, ex, J, 57)) out → tw_ME 16 (7, [some (.ref 39), none, some (.int x1), some (.int v1_3)], [], (I, L, tw_P tw dr rt 2, A_1, J, 57)) out := by
  intro n
  induction n with
  | zero =>
    intro v1_3 A_1 ex h _
    cases h
  | succ n ih =>
    intro v1_3 A_1 ex h K
    rw [g_X1_watch_L1] at h
    refine tw_blk (cd := tw_c16) rfl 1 (c1 := (8, [some (.ref 39), none, some (.int x1), some (.int v1_3)], [.int v1_3], (I, L, tw_P tw dr rt 2, A_1, J, 57))) rfl ?_
    refine tw_blk (cd := tw_c16) rfl 1 (c1 := (9, [some (.ref 39), none, some (.int x1), some (.int v1_3)], [.int 60, .int v1_3], (I, L, tw_P tw dr rt 2, A_1, J, 57))) rfl ?_
    by_cases hc4 : (60 : Int32) ≤ v1_3
    · rw [if_pos hc4] at h
      refine tw_br (cd := tw_c16) rfl rfl rfl (by exact if_pos hc4) ?_
      refine tw_forget (ls2 := [none, none, none, none]) trivial ?_
      have h := Option.some.inj h
      subst h
      exact K
    · rw [if_neg hc4] at h
      refine tw_br (cd := tw_c16) rfl rfl rfl (by exact if_neg hc4) ?_
      refine tw_blk (cd := tw_c16) rfl 7 (c1 := (17, [some (.ref 39), none, some (.int x1), some (.int v1_3)], [.int v1_3, .int x1, .ref 36, .int v1_3, .ref 40], (I, L, tw_P tw dr rt 2, A_1, J, 57))) rfl ?_
      obtain ⟨x5, hx6, h⟩ := tw_bindE h
      refine tw_callE (cd := tw_c16) rfl rfl rfl rfl rfl (e_X6_peopleAt I L A_1 J tw dr rt x1 v1_3 _ hx6) (by exact Or.inl rfl) ?_
      obtain ⟨w7, hw8, h⟩ := tw_letE h
      refine tw_callE (cd := tw_c16) rfl rfl rfl rfl rfl (tw_e_put I L (tw_P tw dr rt 2) A_1 J (q := 40) (N := 60) rfl rfl (by decide) v1_3 x5 w7 hw8) (by exact Or.inl rfl) ?_
      refine tw_blk (cd := tw_c16) rfl 2 (c1 := (7, [some (.ref 39), none, some (.int x1), some (.int (v1_3 + (1 : Int32)))], [], (I, L, tw_P tw dr rt 2, (va_up A_1 40 w7), J, 57))) rfl ?_
      exact ih (v1_3 + (1 : Int32)) (va_up A_1 40 w7) _ h K
theorem e_X1_watch (I : Nat → Int32) (L : Nat → Int64) (A : Nat → Nat → Int32) (J : Nat → Nat → Int64) (tw dr : Nat) (rt : Nat) (a1 : Int32) : ∀ r : Nat → Nat → Int32, g_X1_watch I A a1 = some r → tw_ME 16 (0, [some (.ref 39), some (.int a1), none, none], [], (I, L, tw_P tw dr rt 2, A, J, 57)) (none, (I, L, tw_P tw dr rt 2, r, J, 57)) := by
  intro r h
  unfold g_X1_watch at h
  refine tw_blk (cd := tw_c16) rfl 3 (c1 := (3, [some (.ref 39), some (.int a1), none, none], [.int a1, .ref 36], (I, L, tw_P tw dr rt 2, A, J, 57))) rfl ?_
  obtain ⟨x1, hx2, h⟩ := tw_bindE h
  refine tw_callE (cd := tw_c16) rfl rfl rfl rfl rfl (e_X6_lookouts I L A J tw dr rt a1 _ hx2) (by exact Or.inl rfl) ?_
  refine tw_blk (cd := tw_c16) rfl 3 (c1 := (7, [some (.ref 39), some (.int a1), some (.int x1), some (.int 0)], [], (I, L, tw_P tw dr rt 2, A, J, 57))) rfl ?_
  obtain ⟨A3, hx9, h⟩ := tw_bindE h
  refine tw_forget (ls2 := [some (.ref 39), none, some (.int x1), some (.int 0)]) ⟨rfl, rfl, rfl, trivial⟩ ?_
  refine g_X1_watch_L1_ok I L A J tw dr rt a1 x1 _ 4096 (0 : Int32) A _ hx9 ?_
  have h := Option.some.inj h
  subst h
  exact tw_retE (cd := tw_c16) rfl rfl rfl rfl
theorem e_X6_witOf (I : Nat → Int32) (L : Nat → Int64) (A : Nat → Nat → Int32) (J : Nat → Nat → Int64) (tw dr : Nat) (rt : Nat) (a1 : Int32) : ∀ r : Int32, g_X6_witOf A a1 = r → tw_ME 78 (0, [some (.ref 36), some (.int a1)], [], (I, L, tw_P tw dr rt 2, A, J, 57)) (some (.int r), (I, L, tw_P tw dr rt 2, A, J, 57)) := by
  intro r h
  unfold g_X6_witOf at h
  refine tw_blk (cd := tw_c78) rfl 3 (c1 := (3, [some (.ref 36), some (.int a1)], [.int a1, .ref 37], (I, L, tw_P tw dr rt 2, A, J, 57))) rfl ?_
  refine tw_callE (cd := tw_c78) rfl rfl rfl rfl rfl (tw_e_get I L (tw_P tw dr rt 2) A J (q := 37) (N := 6) rfl rfl (by decide) a1) (by exact Or.inl rfl) ?_
  subst h
  exact tw_retE (cd := tw_c78) rfl rfl rfl rfl
theorem e_X1_gainOf (I : Nat → Int32) (L : Nat → Int64) (A : Nat → Nat → Int32) (J : Nat → Nat → Int64) (tw dr : Nat) (rt : Nat) (a1 : Int32) : ∀ r : Int32, g_X1_gainOf A a1 = r → tw_ME 18 (0, [some (.ref 39), some (.int a1)], [], (I, L, tw_P tw dr rt 2, A, J, 57)) (some (.int r), (I, L, tw_P tw dr rt 2, A, J, 57)) := by
  intro r h
  unfold g_X1_gainOf at h
  refine tw_blk (cd := tw_c18) rfl 7 (c1 := (7, [some (.ref 39), some (.int a1)], [.int 0, .int a1, .ref 2, .ref 36], (I, L, tw_P tw dr rt 2, A, J, 57))) rfl ?_
  refine tw_callE (cd := tw_c18) rfl rfl rfl rfl rfl (e_X8_fact_2 I L A J tw dr rt 2 a1 (0 : Int32) _ rfl) (by exact Or.inl rfl) ?_
  refine tw_callE (cd := tw_c18) rfl rfl rfl rfl rfl (e_X6_witOf I L A J tw dr rt (g_X8_fact_2 A a1 (0 : Int32)) _ rfl) (by exact Or.inl rfl) ?_
  refine tw_blk (cd := tw_c18) rfl 7 (c1 := (16, [some (.ref 39), some (.int a1)], [.int 1, .int a1, .ref 2, .ref 36, .int (g_X6_witOf A (g_X8_fact_2 A a1 (0 : Int32)))], (I, L, tw_P tw dr rt 2, A, J, 57))) rfl ?_
  refine tw_callE (cd := tw_c18) rfl rfl rfl rfl rfl (e_X8_fact_2 I L A J tw dr rt 2 a1 (1 : Int32) _ rfl) (by exact Or.inl rfl) ?_
  refine tw_callE (cd := tw_c18) rfl rfl rfl rfl rfl (e_X6_witOf I L A J tw dr rt (g_X8_fact_2 A a1 (1 : Int32)) _ rfl) (by exact Or.inl rfl) ?_
  refine tw_blk (cd := tw_c18) rfl 1 (c1 := (19, [some (.ref 39), some (.int a1)], [.int ((g_X6_witOf A (g_X8_fact_2 A a1 (0 : Int32))) - (g_X6_witOf A (g_X8_fact_2 A a1 (1 : Int32))))], (I, L, tw_P tw dr rt 2, A, J, 57))) rfl ?_
  subst h
  exact tw_retE (cd := tw_c18) rfl rfl rfl rfl
theorem e_X1_drawsBelow (I : Nat → Int32) (L : Nat → Int64) (A : Nat → Nat → Int32) (J : Nat → Nat → Int64) (tw dr : Nat) (rt : Nat) (a1 : Int32) : ∀ r : (Bool × (Nat → Int32)), g_X1_drawsBelow I a1 = r → tw_ME 19 (0, [some (.ref 39), some (.int a1)], [], (I, L, tw_P tw dr rt 2, A, J, 57)) (some (.int (tw_b r.1)), ((r.2), L, tw_P tw dr rt 2, A, J, 57)) := by
  intro r h
  unfold g_X1_drawsBelow at h
  refine tw_blk (cd := tw_c19) rfl 8 (c1 := (8, [some (.ref 39), some (.int a1)], [.int 65537, .int (((75 : Int32) * (I 3907)) + (74 : Int32)), .ref 39], (I, L, tw_P tw dr rt 2, A, J, 57))) rfl ?_
  refine tw_br (cd := tw_c19) rfl rfl rfl (by exact rfl) ?_
  refine tw_blk (cd := tw_c19) rfl 4 (c1 := (13, [some (.ref 39), some (.int a1)], [.int 100, .int ((((75 : Int32) * (I 3907)) + (74 : Int32)) - (((75 : Int32) * (I 3907)) + (74 : Int32)) / (65537 : Int32) * (65537 : Int32))], ((upd I 3907 ((((75 : Int32) * (I 3907)) + (74 : Int32)) - (((75 : Int32) * (I 3907)) + (74 : Int32)) / (65537 : Int32) * (65537 : Int32))), L, tw_P tw dr rt 2, A, J, 57))) rfl ?_
  refine tw_br (cd := tw_c19) rfl rfl rfl (by exact rfl) ?_
  refine tw_blk (cd := tw_c19) rfl 1 (c1 := (15, [some (.ref 39), some (.int a1)], [.int a1, .int (((((75 : Int32) * (I 3907)) + (74 : Int32)) - (((75 : Int32) * (I 3907)) + (74 : Int32)) / (65537 : Int32) * (65537 : Int32)) - ((((75 : Int32) * (I 3907)) + (74 : Int32)) - (((75 : Int32) * (I 3907)) + (74 : Int32)) / (65537 : Int32) * (65537 : Int32)) / (100 : Int32) * (100 : Int32))], ((upd I 3907 ((((75 : Int32) * (I 3907)) + (74 : Int32)) - (((75 : Int32) * (I 3907)) + (74 : Int32)) / (65537 : Int32) * (65537 : Int32))), L, tw_P tw dr rt 2, A, J, 57))) rfl ?_
  by_cases hc1 : a1 ≤ (((((75 : Int32) * (I 3907)) + (74 : Int32)) - (((75 : Int32) * (I 3907)) + (74 : Int32)) / (65537 : Int32) * (65537 : Int32)) - ((((75 : Int32) * (I 3907)) + (74 : Int32)) - (((75 : Int32) * (I 3907)) + (74 : Int32)) / (65537 : Int32) * (65537 : Int32)) / (100 : Int32) * (100 : Int32))
  · rw [if_pos hc1] at h
    refine tw_br (cd := tw_c19) rfl rfl rfl (by exact if_pos hc1) ?_
    refine tw_blk (cd := tw_c19) rfl 1 (c1 := (19, [some (.ref 39), some (.int a1)], [.int 0], ((upd I 3907 ((((75 : Int32) * (I 3907)) + (74 : Int32)) - (((75 : Int32) * (I 3907)) + (74 : Int32)) / (65537 : Int32) * (65537 : Int32))), L, tw_P tw dr rt 2, A, J, 57))) rfl ?_
    subst h
    exact tw_retZ (cd := tw_c19) (b := false) rfl rfl rfl rfl
  · rw [if_neg hc1] at h
    refine tw_br (cd := tw_c19) rfl rfl rfl (by exact if_neg hc1) ?_
    refine tw_blk (cd := tw_c19) rfl 2 (c1 := (19, [some (.ref 39), some (.int a1)], [.int 1], ((upd I 3907 ((((75 : Int32) * (I 3907)) + (74 : Int32)) - (((75 : Int32) * (I 3907)) + (74 : Int32)) / (65537 : Int32) * (65537 : Int32))), L, tw_P tw dr rt 2, A, J, 57))) rfl ?_
    subst h
    exact tw_retZ (cd := tw_c19) (b := true) rfl rfl rfl rfl
theorem g_X1_go_L1_ok (I : Nat → Int32) (L : Nat → Int64) (A : Nat → Nat → Int32) (J : Nat → Nat → Int64) (tw : Nat) (dr : Nat) (rt : Nat) (a1 : Int32) (a2 : Int32) (a3 : Int32) (out : Option Value × tw_S) : ∀ (n : Nat) (v1_7 : Int32) (v1_8 : Int32) (I_1 : Nat → Int32) (ex : Nat → Int32), g_X1_go_L1 A a1 a3 n v1_7 v1_8 I_1 = some ex → tw_ME 17 (129, [none, none, none, none, none, none, none, none, none, none], [], (ex, L, tw_P tw dr rt 2, A, J, 57)) out → tw_ME 17 (36, [some (.ref 39), none, none, some (.int a3), some (.int (g_X8_twoOf_2 A a1)), some (.int (g_X1_gainOf A a1)), some (.int (g_X8_fact_2 A a1 (4 : Int32))), some (.int v1_7), some (.int v1_8), none], [], (I_1, L, tw_P tw dr rt 2, A, J, 57)) out := by
  intro n
  induction n with
  | zero =>
    intro v1_7 v1_8 I_1 ex h _
    cases h
  | succ n ih =>
    intro v1_7 v1_8 I_1 ex h K
    rw [g_X1_go_L1] at h
    refine tw_blk (cd := tw_c17) rfl 1 (c1 := (37, [some (.ref 39), none, none, some (.int a3), some (.int (g_X8_twoOf_2 A a1)), some (.int (g_X1_gainOf A a1)), some (.int (g_X8_fact_2 A a1 (4 : Int32))), some (.int v1_7), some (.int v1_8), none], [.int v1_8], (I_1, L, tw_P tw dr rt 2, A, J, 57))) rfl ?_
    refine tw_blk (cd := tw_c17) rfl 1 (c1 := (38, [some (.ref 39), none, none, some (.int a3), some (.int (g_X8_twoOf_2 A a1)), some (.int (g_X1_gainOf A a1)), some (.int (g_X8_fact_2 A a1 (4 : Int32))), some (.int v1_7), some (.int v1_8), none], [.int 60, .int v1_8], (I_1, L, tw_P tw dr rt 2, A, J, 57))) rfl ?_
    by_cases hc2 : (60 : Int32) ≤ v1_8
    · rw [if_pos hc2] at h
      refine tw_br (cd := tw_c17) rfl rfl rfl (by exact if_pos hc2) ?_
      refine tw_forget (ls2 := [none, none, none, none, none, none, none, none, none, none]) trivial ?_
      have h := Option.some.inj h
      subst h
      exact K
    · rw [if_neg hc2] at h
      refine tw_br (cd := tw_c17) rfl rfl rfl (by exact if_neg hc2) ?_
      refine tw_blk (cd := tw_c17) rfl 3 (c1 := (42, [some (.ref 39), none, none, some (.int a3), some (.int (g_X8_twoOf_2 A a1)), some (.int (g_X1_gainOf A a1)), some (.int (g_X8_fact_2 A a1 (4 : Int32))), some (.int v1_7), some (.int v1_8), none], [.int (-2), .int (I_1 3902)], (I_1, L, tw_P tw dr rt 2, A, J, 57))) rfl ?_
      by_cases hc3 : (I_1 3902) = (-2 : Int32)
      · rw [if_pos hc3] at h
        refine tw_br (cd := tw_c17) rfl rfl rfl (by exact if_pos hc3) ?_
        refine tw_blk (cd := tw_c17) rfl 9 (c1 := (52, [some (.ref 39), none, none, some (.int a3), some (.int (g_X8_twoOf_2 A a1)), some (.int (g_X1_gainOf A a1)), some (.int (g_X8_fact_2 A a1 (4 : Int32))), some (.int v1_7), some (.int v1_8), some (.int (I_1 3905))], [.int v1_8, .ref 40, .int (I_1 3905), .ref 39], (I_1, L, tw_P tw dr rt 2, A, J, 57))) rfl ?_
        refine tw_callE (cd := tw_c17) rfl rfl rfl rfl rfl (tw_e_get I_1 L (tw_P tw dr rt 2) A J (q := 40) (N := 60) rfl rfl (by decide) v1_8) (by exact Or.inl rfl) ?_
        refine tw_blk (cd := tw_c17) rfl 10 (c1 := (63, [some (.ref 39), none, none, some (.int a3), some (.int (g_X8_twoOf_2 A a1)), some (.int (g_X1_gainOf A a1)), some (.int (g_X8_fact_2 A a1 (4 : Int32))), some (.int v1_7), some (.int v1_8), some (.int (I_1 3905))], [.int (I_1 3905), .int ((I_1 3905) ||| ((tw_get0 60 (A 40) v1_8) &&& ((g_X8_twoOf_2 A a1) ^^^ (-1 : Int32)))), .int v1_7], ((upd I_1 3905 ((I_1 3905) ||| ((tw_get0 60 (A 40) v1_8) &&& ((g_X8_twoOf_2 A a1) ^^^ (-1 : Int32))))), L, tw_P tw dr rt 2, A, J, 57))) rfl ?_
        obtain ⟨x5, hj6, h⟩ := tw_bindE h
        have K : tw_ME 17 (75, [some (.ref 39), none, none, some (.int a3), some (.int (g_X8_twoOf_2 A a1)), some (.int (g_X1_gainOf A a1)), some (.int (g_X8_fact_2 A a1 (4 : Int32))), none, some (.int v1_8), some (.int (I_1 3905))], [.int x5, .int v1_7], ((upd I_1 3905 ((I_1 3905) ||| ((tw_get0 60 (A 40) v1_8) &&& ((g_X8_twoOf_2 A a1) ^^^ (-1 : Int32))))), L, tw_P tw dr rt 2, A, J, 57)) out := by
          refine tw_blk (cd := tw_c17) rfl 5 (c1 := (80, [some (.ref 39), none, none, some (.int a3), some (.int (g_X8_twoOf_2 A a1)), some (.int (g_X1_gainOf A a1)), some (.int (g_X8_fact_2 A a1 (4 : Int32))), some (.int (v1_7 + x5)), some (.int v1_8), some (.int (I_1 3905))], [.int a3, .ref 39, .int (v1_7 + x5)], ((upd I_1 3905 ((I_1 3905) ||| ((tw_get0 60 (A 40) v1_8) &&& ((g_X8_twoOf_2 A a1) ^^^ (-1 : Int32))))), L, tw_P tw dr rt 2, A, J, 57))) rfl ?_
          obtain ⟨⟨c9, I10⟩, hx11, h⟩ := tw_letE h
          dsimp only at h
          refine tw_callE (cd := tw_c17) rfl rfl rfl rfl rfl (e_X1_drawsBelow (upd I_1 3905 ((I_1 3905) ||| ((tw_get0 60 (A 40) v1_8) &&& ((g_X8_twoOf_2 A a1) ^^^ (-1 : Int32))))) L A J tw dr rt a3 _ hx11) (by exact Or.inl rfl) ?_
          obtain ⟨x13, hj14, h⟩ := tw_bindE h
          have K : tw_ME 17 (85, [some (.ref 39), none, none, some (.int a3), some (.int (g_X8_twoOf_2 A a1)), some (.int (g_X1_gainOf A a1)), some (.int (g_X8_fact_2 A a1 (4 : Int32))), none, some (.int v1_8), some (.int (I_1 3905))], [.int x13, .int (v1_7 + x5)], (I10, L, tw_P tw dr rt 2, A, J, 57)) out := by
            refine tw_blk (cd := tw_c17) rfl 4 (c1 := (89, [some (.ref 39), none, none, some (.int a3), some (.int (g_X8_twoOf_2 A a1)), some (.int (g_X1_gainOf A a1)), some (.int (g_X8_fact_2 A a1 (4 : Int32))), some (.int ((v1_7 + x5) + x13)), some (.int v1_8), some (.int (I_1 3905))], [.int 6, .int ((v1_7 + x5) + x13)], (I10, L, tw_P tw dr rt 2, A, J, 57))) rfl ?_
            obtain ⟨I16, hj17, h⟩ := tw_bindE h
            have K : tw_ME 17 (127, [some (.ref 39), none, none, some (.int a3), some (.int (g_X8_twoOf_2 A a1)), some (.int (g_X1_gainOf A a1)), some (.int (g_X8_fact_2 A a1 (4 : Int32))), some (.int ((v1_7 + x5) + x13)), some (.int v1_8), none], [], (I16, L, tw_P tw dr rt 2, A, J, 57)) out := by
              refine tw_blk (cd := tw_c17) rfl 2 (c1 := (36, [some (.ref 39), none, none, some (.int a3), some (.int (g_X8_twoOf_2 A a1)), some (.int (g_X1_gainOf A a1)), some (.int (g_X8_fact_2 A a1 (4 : Int32))), some (.int ((v1_7 + x5) + x13)), some (.int (v1_8 + (1 : Int32))), none], [], (I16, L, tw_P tw dr rt 2, A, J, 57))) rfl ?_
              exact ih ((v1_7 + x5) + x13) (v1_8 + (1 : Int32)) I16 _ h K
            by_cases hc15 : ((v1_7 + x5) + x13) < (6 : Int32)
            · rw [if_pos hc15] at hj17
              refine tw_br (cd := tw_c17) rfl rfl rfl (by exact if_pos hc15) ?_
              refine tw_blk (cd := tw_c17) rfl 8 (c1 := (113, [some (.ref 39), none, none, some (.int a3), some (.int (g_X8_twoOf_2 A a1)), some (.int (g_X1_gainOf A a1)), some (.int (g_X8_fact_2 A a1 (4 : Int32))), some (.int ((v1_7 + x5) + x13)), some (.int v1_8), some (.int (I_1 3905))], [.int ((I10 3904) + (g_X1_gainOf A a1))], ((upd I10 3904 ((I10 3904) + (g_X1_gainOf A a1))), L, tw_P tw dr rt 2, A, J, 57))) rfl ?_
              refine tw_mabs (cd := tw_c17) rfl rfl rfl ?_
              refine tw_blk (cd := tw_c17) rfl 1 (c1 := (115, [some (.ref 39), none, none, some (.int a3), some (.int (g_X8_twoOf_2 A a1)), some (.int (g_X1_gainOf A a1)), some (.int (g_X8_fact_2 A a1 (4 : Int32))), some (.int ((v1_7 + x5) + x13)), some (.int v1_8), some (.int (I_1 3905))], [.int (g_X8_fact_2 A a1 (4 : Int32)), .int (tw_abs ((I10 3904) + (g_X1_gainOf A a1)))], ((upd I10 3904 ((I10 3904) + (g_X1_gainOf A a1))), L, tw_P tw dr rt 2, A, J, 57))) rfl ?_
              by_cases hc18 : (tw_abs ((I10 3904) + (g_X1_gainOf A a1))) < (g_X8_fact_2 A a1 (4 : Int32))
              · rw [if_pos hc18] at hj17
                refine tw_br (cd := tw_c17) rfl rfl rfl (by exact if_pos hc18) ?_
                refine tw_forget (ls2 := [some (.ref 39), none, none, some (.int a3), some (.int (g_X8_twoOf_2 A a1)), some (.int (g_X1_gainOf A a1)), some (.int (g_X8_fact_2 A a1 (4 : Int32))), some (.int ((v1_7 + x5) + x13)), some (.int v1_8), none]) ⟨rfl, rfl, rfl, rfl, rfl, rfl, rfl, trivial⟩ ?_
                have hj17s := Option.some.inj hj17
                subst hj17s
                exact K
              · rw [if_neg hc18] at hj17
                refine tw_br (cd := tw_c17) rfl rfl rfl (by exact if_neg hc18) ?_
                refine tw_blk (cd := tw_c17) rfl 3 (c1 := (119, [some (.ref 39), none, none, some (.int a3), some (.int (g_X8_twoOf_2 A a1)), some (.int (g_X1_gainOf A a1)), some (.int (g_X8_fact_2 A a1 (4 : Int32))), some (.int ((v1_7 + x5) + x13)), some (.int v1_8), some (.int (I_1 3905))], [.int ((I10 3904) + (g_X1_gainOf A a1)), .ref 39], ((upd I10 3904 ((I10 3904) + (g_X1_gainOf A a1))), L, tw_P tw dr rt 2, A, J, 57))) rfl ?_
                obtain ⟨x20, hj21, hj17⟩ := tw_bindE hj17
                have K : tw_ME 17 (123, [some (.ref 39), none, none, some (.int a3), some (.int (g_X8_twoOf_2 A a1)), some (.int (g_X1_gainOf A a1)), some (.int (g_X8_fact_2 A a1 (4 : Int32))), some (.int ((v1_7 + x5) + x13)), some (.int v1_8), none], [.int x20, .ref 39], ((upd I10 3904 ((I10 3904) + (g_X1_gainOf A a1))), L, tw_P tw dr rt 2, A, J, 57)) out := by
                  refine tw_blk (cd := tw_c17) rfl 4 (c1 := (127, [some (.ref 39), none, none, some (.int a3), some (.int (g_X8_twoOf_2 A a1)), some (.int (g_X1_gainOf A a1)), some (.int (g_X8_fact_2 A a1 (4 : Int32))), some (.int ((v1_7 + x5) + x13)), some (.int v1_8), none], [], ((upd (upd (upd I10 3904 ((I10 3904) + (g_X1_gainOf A a1))) 3902 x20) 3903 v1_8), L, tw_P tw dr rt 2, A, J, 57))) rfl ?_
                  have hj17s := Option.some.inj hj17
                  subst hj17s
                  exact K
                by_cases hc19 : ((I10 3904) + (g_X1_gainOf A a1)) ≤ 0
                · rw [if_pos hc19] at hj21
                  refine tw_br (cd := tw_c17) rfl rfl rfl (by exact if_pos hc19) ?_
                  refine tw_blk (cd := tw_c17) rfl 1 (c1 := (123, [some (.ref 39), none, none, some (.int a3), some (.int (g_X8_twoOf_2 A a1)), some (.int (g_X1_gainOf A a1)), some (.int (g_X8_fact_2 A a1 (4 : Int32))), some (.int ((v1_7 + x5) + x13)), some (.int v1_8), some (.int (I_1 3905))], [.int 2, .ref 39], ((upd I10 3904 ((I10 3904) + (g_X1_gainOf A a1))), L, tw_P tw dr rt 2, A, J, 57))) rfl ?_
                  refine tw_forget (ls2 := [some (.ref 39), none, none, some (.int a3), some (.int (g_X8_twoOf_2 A a1)), some (.int (g_X1_gainOf A a1)), some (.int (g_X8_fact_2 A a1 (4 : Int32))), some (.int ((v1_7 + x5) + x13)), some (.int v1_8), none]) ⟨rfl, rfl, rfl, rfl, rfl, rfl, rfl, trivial⟩ ?_
                  have hj21s := Option.some.inj hj21
                  subst hj21s
                  exact K
                · rw [if_neg hc19] at hj21
                  refine tw_br (cd := tw_c17) rfl rfl rfl (by exact if_neg hc19) ?_
                  refine tw_blk (cd := tw_c17) rfl 2 (c1 := (123, [some (.ref 39), none, none, some (.int a3), some (.int (g_X8_twoOf_2 A a1)), some (.int (g_X1_gainOf A a1)), some (.int (g_X8_fact_2 A a1 (4 : Int32))), some (.int ((v1_7 + x5) + x13)), some (.int v1_8), some (.int (I_1 3905))], [.int 1, .ref 39], ((upd I10 3904 ((I10 3904) + (g_X1_gainOf A a1))), L, tw_P tw dr rt 2, A, J, 57))) rfl ?_
                  refine tw_forget (ls2 := [some (.ref 39), none, none, some (.int a3), some (.int (g_X8_twoOf_2 A a1)), some (.int (g_X1_gainOf A a1)), some (.int (g_X8_fact_2 A a1 (4 : Int32))), some (.int ((v1_7 + x5) + x13)), some (.int v1_8), none]) ⟨rfl, rfl, rfl, rfl, rfl, rfl, rfl, trivial⟩ ?_
                  have hj21s := Option.some.inj hj21
                  subst hj21s
                  exact K
            · rw [if_neg hc15] at hj17
              refine tw_br (cd := tw_c17) rfl rfl rfl (by exact if_neg hc15) ?_
              refine tw_blk (cd := tw_c17) rfl 15 (c1 := (127, [some (.ref 39), none, none, some (.int a3), some (.int (g_X8_twoOf_2 A a1)), some (.int (g_X1_gainOf A a1)), some (.int (g_X8_fact_2 A a1 (4 : Int32))), some (.int ((v1_7 + x5) + x13)), some (.int v1_8), some (.int (I_1 3905))], [], ((upd (upd (upd I10 3902 (0 : Int32)) 3903 v1_8) 3906 ((I10 3905) &&& ((I_1 3905) ^^^ (-1 : Int32)))), L, tw_P tw dr rt 2, A, J, 57))) rfl ?_
              refine tw_forget (ls2 := [some (.ref 39), none, none, some (.int a3), some (.int (g_X8_twoOf_2 A a1)), some (.int (g_X1_gainOf A a1)), some (.int (g_X8_fact_2 A a1 (4 : Int32))), some (.int ((v1_7 + x5) + x13)), some (.int v1_8), none]) ⟨rfl, rfl, rfl, rfl, rfl, rfl, rfl, trivial⟩ ?_
              have hj17s := Option.some.inj hj17
              subst hj17s
              exact K
          by_cases hc12 : c9 = true
          · rw [if_pos hc12] at hj14
            refine tw_br (cd := tw_c17) rfl rfl rfl (by exact if_neg (tw_b_t hc12)) ?_
            refine tw_blk (cd := tw_c17) rfl 2 (c1 := (85, [some (.ref 39), none, none, some (.int a3), some (.int (g_X8_twoOf_2 A a1)), some (.int (g_X1_gainOf A a1)), some (.int (g_X8_fact_2 A a1 (4 : Int32))), some (.int (v1_7 + x5)), some (.int v1_8), some (.int (I_1 3905))], [.int 2, .int (v1_7 + x5)], (I10, L, tw_P tw dr rt 2, A, J, 57))) rfl ?_
            refine tw_forget (ls2 := [some (.ref 39), none, none, some (.int a3), some (.int (g_X8_twoOf_2 A a1)), some (.int (g_X1_gainOf A a1)), some (.int (g_X8_fact_2 A a1 (4 : Int32))), none, some (.int v1_8), some (.int (I_1 3905))]) ⟨rfl, rfl, rfl, rfl, rfl, rfl, rfl, trivial⟩ ?_
            have hj14s := Option.some.inj hj14
            subst hj14s
            exact K
          · rw [if_neg hc12] at hj14
            refine tw_br (cd := tw_c17) rfl rfl rfl (by exact if_pos (tw_b_f hc12)) ?_
            refine tw_blk (cd := tw_c17) rfl 1 (c1 := (85, [some (.ref 39), none, none, some (.int a3), some (.int (g_X8_twoOf_2 A a1)), some (.int (g_X1_gainOf A a1)), some (.int (g_X8_fact_2 A a1 (4 : Int32))), some (.int (v1_7 + x5)), some (.int v1_8), some (.int (I_1 3905))], [.int 0, .int (v1_7 + x5)], (I10, L, tw_P tw dr rt 2, A, J, 57))) rfl ?_
            refine tw_forget (ls2 := [some (.ref 39), none, none, some (.int a3), some (.int (g_X8_twoOf_2 A a1)), some (.int (g_X1_gainOf A a1)), some (.int (g_X8_fact_2 A a1 (4 : Int32))), none, some (.int v1_8), some (.int (I_1 3905))]) ⟨rfl, rfl, rfl, rfl, rfl, rfl, rfl, trivial⟩ ?_
            have hj14s := Option.some.inj hj14
            subst hj14s
            exact K
        by_cases hc4 : ((I_1 3905) ||| ((tw_get0 60 (A 40) v1_8) &&& ((g_X8_twoOf_2 A a1) ^^^ (-1 : Int32)))) = (I_1 3905)
        · rw [if_pos hc4] at hj6
          refine tw_br (cd := tw_c17) rfl rfl rfl (by exact if_pos hc4) ?_
          refine tw_blk (cd := tw_c17) rfl 1 (c1 := (75, [some (.ref 39), none, none, some (.int a3), some (.int (g_X8_twoOf_2 A a1)), some (.int (g_X1_gainOf A a1)), some (.int (g_X8_fact_2 A a1 (4 : Int32))), some (.int v1_7), some (.int v1_8), some (.int (I_1 3905))], [.int 0, .int v1_7], ((upd I_1 3905 ((I_1 3905) ||| ((tw_get0 60 (A 40) v1_8) &&& ((g_X8_twoOf_2 A a1) ^^^ (-1 : Int32))))), L, tw_P tw dr rt 2, A, J, 57))) rfl ?_
          refine tw_forget (ls2 := [some (.ref 39), none, none, some (.int a3), some (.int (g_X8_twoOf_2 A a1)), some (.int (g_X1_gainOf A a1)), some (.int (g_X8_fact_2 A a1 (4 : Int32))), none, some (.int v1_8), some (.int (I_1 3905))]) ⟨rfl, rfl, rfl, rfl, rfl, rfl, rfl, trivial⟩ ?_
          have hj6s := Option.some.inj hj6
          subst hj6s
          exact K
        · rw [if_neg hc4] at hj6
          refine tw_br (cd := tw_c17) rfl rfl rfl (by exact if_neg hc4) ?_
          refine tw_blk (cd := tw_c17) rfl 8 (c1 := (72, [some (.ref 39), none, none, some (.int a3), some (.int (g_X8_twoOf_2 A a1)), some (.int (g_X1_gainOf A a1)), some (.int (g_X8_fact_2 A a1 (4 : Int32))), some (.int v1_7), some (.int v1_8), some (.int (I_1 3905))], [.int (((I_1 3905) ||| ((tw_get0 60 (A 40) v1_8) &&& ((g_X8_twoOf_2 A a1) ^^^ (-1 : Int32)))) &&& ((I_1 3905) ^^^ (-1 : Int32))), .ref 36, .int v1_7], ((upd I_1 3905 ((I_1 3905) ||| ((tw_get0 60 (A 40) v1_8) &&& ((g_X8_twoOf_2 A a1) ^^^ (-1 : Int32))))), L, tw_P tw dr rt 2, A, J, 57))) rfl ?_
          obtain ⟨x7, hx8, hj6⟩ := tw_bindE hj6
          refine tw_callE (cd := tw_c17) rfl rfl rfl rfl rfl (e_X6_eyesOf (upd I_1 3905 ((I_1 3905) ||| ((tw_get0 60 (A 40) v1_8) &&& ((g_X8_twoOf_2 A a1) ^^^ (-1 : Int32))))) L A J tw dr rt (((I_1 3905) ||| ((tw_get0 60 (A 40) v1_8) &&& ((g_X8_twoOf_2 A a1) ^^^ (-1 : Int32)))) &&& ((I_1 3905) ^^^ (-1 : Int32))) _ hx8) (by exact Or.inl rfl) ?_
          refine tw_blk (cd := tw_c17) rfl 1 (c1 := (75, [some (.ref 39), none, none, some (.int a3), some (.int (g_X8_twoOf_2 A a1)), some (.int (g_X1_gainOf A a1)), some (.int (g_X8_fact_2 A a1 (4 : Int32))), some (.int v1_7), some (.int v1_8), some (.int (I_1 3905))], [.int x7, .int v1_7], ((upd I_1 3905 ((I_1 3905) ||| ((tw_get0 60 (A 40) v1_8) &&& ((g_X8_twoOf_2 A a1) ^^^ (-1 : Int32))))), L, tw_P tw dr rt 2, A, J, 57))) rfl ?_
          refine tw_forget (ls2 := [some (.ref 39), none, none, some (.int a3), some (.int (g_X8_twoOf_2 A a1)), some (.int (g_X1_gainOf A a1)), some (.int (g_X8_fact_2 A a1 (4 : Int32))), none, some (.int v1_8), some (.int (I_1 3905))]) ⟨rfl, rfl, rfl, rfl, rfl, rfl, rfl, trivial⟩ ?_
          have hj6s := Option.some.inj hj6
          subst hj6s
          exact K
      · rw [if_neg hc3] at h
        refine tw_br (cd := tw_c17) rfl rfl rfl (by exact if_neg hc3) ?_
        refine tw_forget (ls2 := [none, none, none, none, none, none, none, none, none, none]) trivial ?_
        have h := Option.some.inj h
        subst h
        exact K
theorem e_X1_go (I : Nat → Int32) (L : Nat → Int64) (A : Nat → Nat → Int32) (J : Nat → Nat → Int64) (tw dr : Nat) (rt : Nat) (a1 : Int32) (a2 : Int32) (a3 : Int32) : ∀ r : Nat → Int32, g_X1_go I A a1 a2 a3 = some r → tw_ME 17 (0, [some (.ref 39), some (.int a1), some (.int a2), some (.int a3), none, none, none, none, none, none], [], (I, L, tw_P tw dr rt 2, A, J, 57)) (none, (r, L, tw_P tw dr rt 2, A, J, 57)) := by
  intro r h
  unfold g_X1_go at h
  refine tw_blk (cd := tw_c17) rfl 19 (c1 := (19, [some (.ref 39), some (.int a1), some (.int a2), some (.int a3), none, none, none, none, none, none], [.int a1, .ref 2], ((upd (upd (upd (upd (upd I 3902 (-2 : Int32)) 3903 (-2 : Int32)) 3904 (0 : Int32)) 3905 (0 : Int32)) 3906 (0 : Int32)), L, tw_P tw dr rt 2, A, J, 57))) rfl ?_
  refine tw_callE (cd := tw_c17) rfl rfl rfl rfl rfl (e_X8_twoOf_2 (upd (upd (upd (upd (upd I 3902 (-2 : Int32)) 3903 (-2 : Int32)) 3904 (0 : Int32)) 3905 (0 : Int32)) 3906 (0 : Int32)) L A J tw dr rt 2 a1 _ rfl) (by exact Or.inl rfl) ?_
  refine tw_blk (cd := tw_c17) rfl 3 (c1 := (23, [some (.ref 39), some (.int a1), some (.int a2), some (.int a3), some (.int (g_X8_twoOf_2 A a1)), none, none, none, none, none], [.int a1, .ref 39], ((upd (upd (upd (upd (upd I 3902 (-2 : Int32)) 3903 (-2 : Int32)) 3904 (0 : Int32)) 3905 (0 : Int32)) 3906 (0 : Int32)), L, tw_P tw dr rt 2, A, J, 57))) rfl ?_
  refine tw_callE (cd := tw_c17) rfl rfl rfl rfl rfl (e_X1_gainOf (upd (upd (upd (upd (upd I 3902 (-2 : Int32)) 3903 (-2 : Int32)) 3904 (0 : Int32)) 3905 (0 : Int32)) 3906 (0 : Int32)) L A J tw dr rt a1 _ rfl) (by exact Or.inl rfl) ?_
  refine tw_blk (cd := tw_c17) rfl 6 (c1 := (30, [some (.ref 39), some (.int a1), some (.int a2), some (.int a3), some (.int (g_X8_twoOf_2 A a1)), some (.int (g_X1_gainOf A a1)), none, none, none, none], [.int 4, .int a1, .ref 2], ((upd (upd (upd (upd (upd I 3902 (-2 : Int32)) 3903 (-2 : Int32)) 3904 (0 : Int32)) 3905 (0 : Int32)) 3906 (0 : Int32)), L, tw_P tw dr rt 2, A, J, 57))) rfl ?_
  refine tw_callE (cd := tw_c17) rfl rfl rfl rfl rfl (e_X8_fact_2 (upd (upd (upd (upd (upd I 3902 (-2 : Int32)) 3903 (-2 : Int32)) 3904 (0 : Int32)) 3905 (0 : Int32)) 3906 (0 : Int32)) L A J tw dr rt 2 a1 (4 : Int32) _ rfl) (by exact Or.inl rfl) ?_
  refine tw_blk (cd := tw_c17) rfl 5 (c1 := (36, [some (.ref 39), some (.int a1), some (.int a2), some (.int a3), some (.int (g_X8_twoOf_2 A a1)), some (.int (g_X1_gainOf A a1)), some (.int (g_X8_fact_2 A a1 (4 : Int32))), some (.int 0), some (.int a2), none], [], ((upd (upd (upd (upd (upd I 3902 (-2 : Int32)) 3903 (-2 : Int32)) 3904 (0 : Int32)) 3905 (0 : Int32)) 3906 (0 : Int32)), L, tw_P tw dr rt 2, A, J, 57))) rfl ?_
  obtain ⟨I1, hx22, h⟩ := tw_bindE h
  refine tw_forget (ls2 := [some (.ref 39), none, none, some (.int a3), some (.int (g_X8_twoOf_2 A a1)), some (.int (g_X1_gainOf A a1)), some (.int (g_X8_fact_2 A a1 (4 : Int32))), some (.int 0), some (.int a2), none]) ⟨rfl, rfl, rfl, rfl, rfl, rfl, rfl, trivial⟩ ?_
  refine g_X1_go_L1_ok I L A J tw dr rt a1 a2 a3 _ 4096 (0 : Int32) a2 (upd (upd (upd (upd (upd I 3902 (-2 : Int32)) 3903 (-2 : Int32)) 3904 (0 : Int32)) 3905 (0 : Int32)) 3906 (0 : Int32)) _ hx22 ?_
  have h := Option.some.inj h
  subst h
  exact tw_retE (cd := tw_c17) rfl rfl rfl rfl
theorem e_X1_run (I : Nat → Int32) (L : Nat → Int64) (A : Nat → Nat → Int32) (J : Nat → Nat → Int64) (tw dr : Nat) (rt : Nat) (a1 : Int32) (a2 : Int32) (a3 : Int32) : ∀ r : ((Nat → Int32) × (Nat → Nat → Int32)), g_X1_run I A a1 a2 a3 = some r → tw_ME 13 (0, [some (.ref 39), some (.int a1), some (.int a2), some (.int a3)], [], (I, L, tw_P tw dr rt 2, A, J, 57)) (none, ((r.1), L, tw_P tw dr rt 2, (r.2), J, 57)) := by
  intro r h
  unfold g_X1_run at h
  refine tw_blk (cd := tw_c13) rfl 2 (c1 := (2, [some (.ref 39), some (.int a1), some (.int a2), some (.int a3)], [.int a2, .ref 39], (I, L, tw_P tw dr rt 2, A, J, 57))) rfl ?_
  obtain ⟨A1, hx2, h⟩ := tw_bindE h
  refine tw_callE (cd := tw_c13) rfl rfl rfl rfl rfl (e_X1_watch I L A J tw dr rt a2 _ hx2) (by exact Or.inl rfl) ?_
  refine tw_blk (cd := tw_c13) rfl 4 (c1 := (7, [some (.ref 39), some (.int a1), some (.int a2), some (.int a3)], [.int 0, .int a3, .int a1, .ref 39], (I, L, tw_P tw dr rt 2, A1, J, 57))) rfl ?_
  obtain ⟨I3, hx4, h⟩ := tw_bindE h
  refine tw_callE (cd := tw_c13) rfl rfl rfl rfl rfl (e_X1_go I L A1 J tw dr rt a1 a3 (0 : Int32) _ hx4) (by exact Or.inl rfl) ?_
  have h := Option.some.inj h
  subst h
  exact tw_retE (cd := tw_c13) rfl rfl rfl rfl
theorem e_X1_runAsTold (I : Nat → Int32) (L : Nat → Int64) (A : Nat → Nat → Int32) (J : Nat → Nat → Int64) (tw dr : Nat) (rt : Nat) (a1 : Int32) : ∀ r : ((Nat → Int32) × (Nat → Nat → Int32)), g_X1_runAsTold I A a1 = some r → tw_ME 12 (0, [some (.ref 39), some (.int a1)], [], (I, L, tw_P tw dr rt 2, A, J, 57)) (none, ((r.1), L, tw_P tw dr rt 2, (r.2), J, 57)) := by
  intro r h
  unfold g_X1_runAsTold at h
  refine tw_blk (cd := tw_c12) rfl 7 (c1 := (7, [some (.ref 39), some (.int a1)], [.int 2, .int a1, .ref 2, .int a1, .ref 39], (I, L, tw_P tw dr rt 2, A, J, 57))) rfl ?_
  refine tw_callE (cd := tw_c12) rfl rfl rfl rfl rfl (e_X8_fact_2 I L A J tw dr rt 2 a1 (2 : Int32) _ rfl) (by exact Or.inl rfl) ?_
  refine tw_blk (cd := tw_c12) rfl 5 (c1 := (13, [some (.ref 39), some (.int a1)], [.int 3, .int a1, .ref 2, .int (g_X8_fact_2 A a1 (2 : Int32)), .int a1, .ref 39], (I, L, tw_P tw dr rt 2, A, J, 57))) rfl ?_
  refine tw_callE (cd := tw_c12) rfl rfl rfl rfl rfl (e_X8_fact_2 I L A J tw dr rt 2 a1 (3 : Int32) _ rfl) (by exact Or.inl rfl) ?_
  obtain ⟨⟨I1, A2⟩, hx3, h⟩ := tw_bindE h
  dsimp only at h
  refine tw_callE (cd := tw_c12) rfl rfl rfl rfl rfl (e_X1_run I L A J tw dr rt a1 (g_X8_fact_2 A a1 (2 : Int32)) (g_X8_fact_2 A a1 (3 : Int32)) _ hx3) (by exact Or.inl rfl) ?_
  have h := Option.some.inj h
  subst h
  exact tw_retE (cd := tw_c12) rfl rfl rfl rfl
theorem e_X9_deny (I : Nat → Int32) (L : Nat → Int64) (A : Nat → Nat → Int32) (J : Nat → Nat → Int64) (tw dr : Nat) (rt : Nat) (sc : Nat) (a1 : Int32) : ∀ r : (Bool × (Nat → Int32)), g_X9_deny I a1 = r → tw_ME 175 (0, [some (.ref 0), some (.int a1)], [], (I, L, tw_P tw dr rt sc, A, J, 57)) (some (.int (tw_b r.1)), ((r.2), L, tw_P tw dr rt sc, A, J, 57)) := by
  intro r h
  unfold g_X9_deny at h
  refine tw_blk (cd := tw_c175) rfl 4 (c1 := (4, [some (.ref 0), some (.int a1)], [.int 0], ((upd I 12 a1), L, tw_P tw dr rt sc, A, J, 57))) rfl ?_
  subst h
  exact tw_retZ (cd := tw_c175) (b := false) rfl rfl rfl rfl
theorem e_X9_runsNow (I : Nat → Int32) (L : Nat → Int64) (A : Nat → Nat → Int32) (J : Nat → Nat → Int64) (rt : Nat) (sc : Nat) (a1 : Int32) : ∀ r : (Bool × (Nat → Int32) × (Nat → Nat → Int32)), g_X9_runsNow I A a1 = some r → tw_ME 186 (0, [some (.ref 0), some (.int a1)], [], (I, L, tw_P 2 14 rt sc, A, J, 57)) (some (.int (tw_b r.1)), ((r.2.1), L, tw_P 2 14 rt (bif r.1 then 2 else sc), (r.2.2), J, 57)) := by
  intro r h
  unfold g_X9_runsNow at h
  refine tw_blk (cd := tw_c186) rfl 2 (c1 := (2, [some (.ref 0), some (.int a1)], [.int a1, .ref 0], (I, L, tw_P 2 14 rt sc, A, J, 57))) rfl ?_
  refine tw_callE (cd := tw_c186) rfl rfl rfl rfl rfl (e_X9_isQuarrel I L A J rt sc a1 _ rfl) (by exact Or.inl rfl) ?_
  by_cases hc1 : (g_X9_isQuarrel A a1) = true
  · rw [if_pos hc1] at h
    refine tw_br (cd := tw_c186) rfl rfl rfl (by exact if_neg (tw_b_t hc1)) ?_
    refine tw_blk (cd := tw_c186) rfl 1 (c1 := (9, [some (.ref 0), some (.int a1)], [.ref 0], (I, L, tw_P 2 14 rt sc, A, J, 57))) rfl ?_
    obtain ⟨⟨I2, A3⟩, hx4, h⟩ := tw_bindE h
    dsimp only at h
    refine tw_callE (cd := tw_c186) rfl rfl rfl rfl rfl (e_X9_showNow I L A J rt sc _ hx4) (by exact Or.inl rfl) ?_
    refine tw_blk (cd := tw_c186) rfl 3 (c1 := (13, [some (.ref 0), some (.int a1)], [.int a1, .ref 39], (I2, L, tw_P 2 14 rt 2, A3, J, 57))) rfl ?_
    obtain ⟨⟨I5, A6⟩, hx7, h⟩ := tw_bindE h
    dsimp only at h
    refine tw_callE (cd := tw_c186) rfl rfl rfl rfl rfl (e_X1_runAsTold I2 L A3 J 2 14 rt a1 _ hx7) (by exact Or.inl rfl) ?_
    refine tw_blk (cd := tw_c186) rfl 1 (c1 := (15, [some (.ref 0), some (.int a1)], [.int 1], (I5, L, tw_P 2 14 rt 2, A6, J, 57))) rfl ?_
    have h := Option.some.inj h
    subst h
    exact tw_retZ (cd := tw_c186) (b := true) rfl rfl rfl rfl
  · rw [if_neg hc1] at h
    refine tw_br (cd := tw_c186) rfl rfl rfl (by exact if_pos (tw_b_f hc1)) ?_
    refine tw_blk (cd := tw_c186) rfl 2 (c1 := (6, [some (.ref 0), some (.int a1)], [.int 1, .ref 0], (I, L, tw_P 2 14 rt sc, A, J, 57))) rfl ?_
    obtain ⟨⟨c8, I9⟩, hx10, h⟩ := tw_letE h
    dsimp only at h
    refine tw_callE (cd := tw_c186) rfl rfl rfl rfl rfl (e_X9_deny I L A J 2 14 rt sc (1 : Int32) _ hx10) (by exact Or.inl rfl) ?_
    have h := Option.some.inj h
    subst h
    have hz : c8 = false := (congrArg Prod.fst hx10).symm
    subst hz
    exact tw_retZ (cd := tw_c186) (b := false) rfl rfl rfl rfl
