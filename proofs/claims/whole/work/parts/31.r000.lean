/-! the machine does what the functions say -/
set_option maxRecDepth 16000
theorem g_X9_tapeNumber_L1_ok (I : Nat → Int32) (L : Nat → Int64) (A : Nat → Nat → Int32) (J : Nat → Nat → Int64) (tw : Nat) (dr : Nat) (rt : Nat) (sc : Nat) (a1 : Int32) (out : Option Value × tw_S) : ∀ (n : Nat) (v1_2 : Int32) (I_1 : Nat → Int32) (A_1 : Nat → Nat → Int32) (ex : ((Nat → Int32) × (Nat → Nat → Int32))), g_X9_tapeNumber_L1 a1 n v1_2 I_1 A_1 = some ex → tw_ME 113 (30, [none, none, none], [], ((ex.1), L, tw_P tw dr rt sc, (ex.2), J, 57)) out → tw_ME 113 (2, [some (.ref 0), some (.int a1), some (.int v1_2)], [], (I_1, L, tw_P tw dr rt sc, A_1, J, 57)) out := by
  intro n
  induction n with
  | zero =>
    intro v1_2 I_1 A_1 ex h _
    cases h
  | succ n ih =>
    intro v1_2 I_1 A_1 ex h K
    rw [g_X9_tapeNumber_L1] at h
    refine tw_blk (cd := tw_c113) rfl 1 (c1 := (3, [some (.ref 0), some (.int a1), some (.int v1_2)], [.int v1_2], (I_1, L, tw_P tw dr rt sc, A_1, J, 57))) rfl ?_
    by_cases hc3 : v1_2 < 0
    · rw [if_pos hc3] at h
      refine tw_br (cd := tw_c113) rfl rfl rfl (by exact if_pos hc3) ?_
      refine tw_forget (ls2 := [none, none, none]) trivial ?_
      have h := Option.some.inj h
      subst h
      exact K
    · rw [if_neg hc3] at h
      refine tw_br (cd := tw_c113) rfl rfl rfl (by exact if_neg hc3) ?_
      refine tw_blk (cd := tw_c113) rfl 2 (c1 := (6, [some (.ref 0), some (.int a1), some (.int v1_2)], [.int (I_1 1)], (I_1, L, tw_P tw dr rt sc, A_1, J, 57))) rfl ?_
      obtain ⟨⟨I5, A6⟩, hj7, h⟩ := tw_bindE h
      dsimp only at h
      have K : tw_ME 113 (28, [some (.ref 0), some (.int a1), some (.int v1_2)], [], (I5, L, tw_P tw dr rt sc, A6, J, 57)) out := by
        refine tw_blk (cd := tw_c113) rfl 2 (c1 := (2, [some (.ref 0), some (.int a1), some (.int (v1_2 + (-8 : Int32)))], [], (I5, L, tw_P tw dr rt sc, A6, J, 57))) rfl ?_
        exact ih (v1_2 + (-8 : Int32)) I5 A6 _ h K
      by_cases hc4 : (I_1 1) < 0
      · rw [if_pos hc4] at hj7
        refine tw_br (cd := tw_c113) rfl rfl rfl (by exact if_pos hc4) ?_
        have hj7s := Option.some.inj hj7
        obtain ⟨hj7_0, hj7r0⟩ := Prod.mk.inj hj7s
        subst hj7_0
        subst hj7r0
        exact K
      · rw [if_neg hc4] at hj7
        refine tw_br (cd := tw_c113) rfl rfl rfl (by exact if_neg hc4) ?_
        refine tw_blk (cd := tw_c113) rfl 5 (c1 := (12, [some (.ref 0), some (.int a1), some (.int v1_2)], [.int 900, .int (I_1 1)], (I_1, L, tw_P tw dr rt sc, A_1, J, 57))) rfl ?_
        by_cases hc8 : (900 : Int32) ≤ (I_1 1)
        · rw [if_pos hc8] at hj7
          refine tw_br (cd := tw_c113) rfl rfl rfl (by exact if_pos hc8) ?_
          have hj7s := Option.some.inj hj7
          obtain ⟨hj7_0, hj7r0⟩ := Prod.mk.inj hj7s
          subst hj7_0
          subst hj7r0
          exact K
        · rw [if_neg hc8] at hj7
          refine tw_br (cd := tw_c113) rfl rfl rfl (by exact if_neg hc8) ?_
          refine tw_blk (cd := tw_c113) rfl 8 (c1 := (21, [some (.ref 0), some (.int a1), some (.int v1_2)], [.int ((a1 >>> (v1_2 &&& 31)).toInt8.toInt32), .int (I_1 1), .ref 1], (I_1, L, tw_P tw dr rt sc, A_1, J, 57))) rfl ?_
          obtain ⟨w10, hx9, hj7⟩ := tw_bindE hj7
          refine tw_bast (cd := tw_c113) (N := 900) rfl rfl rfl rfl hx9 ?_
          refine tw_blk (cd := tw_c113) rfl 6 (c1 := (28, [some (.ref 0), some (.int a1), some (.int v1_2)], [], ((upd I_1 1 ((I_1 1) + (1 : Int32))), L, tw_P tw dr rt sc, (va_up A_1 1 w10), J, 57))) rfl ?_
          have hj7s := Option.some.inj hj7
          obtain ⟨hj7_0, hj7r0⟩ := Prod.mk.inj hj7s
          subst hj7_0
          subst hj7r0
          exact K
theorem e_X9_tapeNumber (I : Nat → Int32) (L : Nat → Int64) (A : Nat → Nat → Int32) (J : Nat → Nat → Int64) (tw dr : Nat) (rt : Nat) (sc : Nat) (a1 : Int32) : ∀ r : ((Nat → Int32) × (Nat → Nat → Int32)), g_X9_tapeNumber I A a1 = some r → tw_ME 113 (0, [some (.ref 0), some (.int a1), none], [], (I, L, tw_P tw dr rt sc, A, J, 57)) (none, ((r.1), L, tw_P tw dr rt sc, (r.2), J, 57)) := by
  intro r h
  unfold g_X9_tapeNumber at h
  refine tw_blk (cd := tw_c113) rfl 2 (c1 := (2, [some (.ref 0), some (.int a1), some (.int 24)], [], (I, L, tw_P tw dr rt sc, A, J, 57))) rfl ?_
  obtain ⟨⟨I1, A2⟩, hx11, h⟩ := tw_bindE h
  dsimp only at h
  refine g_X9_tapeNumber_L1_ok I L A J tw dr rt sc a1 _ 4096 (24 : Int32) I A _ hx11 ?_
  have h := Option.some.inj h
  subst h
  exact tw_retE (cd := tw_c113) rfl rfl rfl rfl
theorem e_X9_feed (I : Nat → Int32) (L : Nat → Int64) (A : Nat → Nat → Int32) (J : Nat → Nat → Int64) (tw dr : Nat) (rt : Nat) (sc : Nat) (a1 : Int32) (a2 : Int32) (a3 : Int32) (a4 : Int32) (a5 : Int32) : ∀ r : (Int32 × (Nat → Int32) × (Nat → Nat → Int32)), g_X9_feed I A a1 a2 a3 a4 a5 = some r → tw_ME 112 (0, [some (.ref 0), some (.int a1), some (.int a2), some (.int a3), some (.int a4), some (.int a5)], [], (I, L, tw_P tw dr rt sc, A, J, 57)) (some (.int r.1), ((r.2.1), L, tw_P tw dr rt sc, (r.2.2), J, 57)) := by
  intro r h
  unfold g_X9_feed at h
  refine tw_blk (cd := tw_c112) rfl 5 (c1 := (5, [some (.ref 0), some (.int a1), some (.int a2), some (.int a3), some (.int a4), some (.int a5)], [.int 900, .int ((I 1) + (20 : Int32))], (I, L, tw_P tw dr rt sc, A, J, 57))) rfl ?_
  by_cases hc1 : ((I 1) + (20 : Int32)) ≤ (900 : Int32)
  · rw [if_pos hc1] at h
    refine tw_br (cd := tw_c112) rfl rfl rfl (by exact if_pos hc1) ?_
    refine tw_blk (cd := tw_c112) rfl 2 (c1 := (10, [some (.ref 0), some (.int a1), some (.int a2), some (.int a3), some (.int a4), some (.int a5)], [.int a1, .ref 0], (I, L, tw_P tw dr rt sc, A, J, 57))) rfl ?_
    obtain ⟨⟨I2, A3⟩, hx4, h⟩ := tw_bindE h
    dsimp only at h
    refine tw_callE (cd := tw_c112) rfl rfl rfl rfl rfl (e_X9_tapeNumber I L A J tw dr rt sc a1 _ hx4) (by exact Or.inl rfl) ?_
    refine tw_blk (cd := tw_c112) rfl 2 (c1 := (13, [some (.ref 0), some (.int a1), some (.int a2), some (.int a3), some (.int a4), some (.int a5)], [.int a2, .ref 0], (I2, L, tw_P tw dr rt sc, A3, J, 57))) rfl ?_
    obtain ⟨⟨I5, A6⟩, hx7, h⟩ := tw_bindE h
    dsimp only at h
    refine tw_callE (cd := tw_c112) rfl rfl rfl rfl rfl (e_X9_tapeNumber I2 L A3 J tw dr rt sc a2 _ hx7) (by exact Or.inl rfl) ?_
    refine tw_blk (cd := tw_c112) rfl 2 (c1 := (16, [some (.ref 0), some (.int a1), some (.int a2), some (.int a3), some (.int a4), some (.int a5)], [.int a3, .ref 0], (I5, L, tw_P tw dr rt sc, A6, J, 57))) rfl ?_
    obtain ⟨⟨I8, A9⟩, hx10, h⟩ := tw_bindE h
    dsimp only at h
    refine tw_callE (cd := tw_c112) rfl rfl rfl rfl rfl (e_X9_tapeNumber I5 L A6 J tw dr rt sc a3 _ hx10) (by exact Or.inl rfl) ?_
    refine tw_blk (cd := tw_c112) rfl 2 (c1 := (19, [some (.ref 0), some (.int a1), some (.int a2), some (.int a3), some (.int a4), some (.int a5)], [.int a4, .ref 0], (I8, L, tw_P tw dr rt sc, A9, J, 57))) rfl ?_
    obtain ⟨⟨I11, A12⟩, hx13, h⟩ := tw_bindE h
    dsimp only at h
    refine tw_callE (cd := tw_c112) rfl rfl rfl rfl rfl (e_X9_tapeNumber I8 L A9 J tw dr rt sc a4 _ hx13) (by exact Or.inl rfl) ?_
    refine tw_blk (cd := tw_c112) rfl 2 (c1 := (22, [some (.ref 0), some (.int a1), some (.int a2), some (.int a3), some (.int a4), some (.int a5)], [.int a5, .ref 0], (I11, L, tw_P tw dr rt sc, A12, J, 57))) rfl ?_
    obtain ⟨⟨I14, A15⟩, hx16, h⟩ := tw_bindE h
    dsimp only at h
    refine tw_callE (cd := tw_c112) rfl rfl rfl rfl rfl (e_X9_tapeNumber I11 L A12 J tw dr rt sc a5 _ hx16) (by exact Or.inl rfl) ?_
    refine tw_blk (cd := tw_c112) rfl 2 (c1 := (25, [some (.ref 0), some (.int a1), some (.int a2), some (.int a3), some (.int a4), some (.int a5)], [.int (I14 1)], (I14, L, tw_P tw dr rt sc, A15, J, 57))) rfl ?_
    have h := Option.some.inj h
    subst h
    exact tw_retE (cd := tw_c112) rfl rfl rfl rfl
  · rw [if_neg hc1] at h
    refine tw_br (cd := tw_c112) rfl rfl rfl (by exact if_neg hc1) ?_
    refine tw_blk (cd := tw_c112) rfl 1 (c1 := (7, [some (.ref 0), some (.int a1), some (.int a2), some (.int a3), some (.int a4), some (.int a5)], [.int (-1)], (I, L, tw_P tw dr rt sc, A, J, 57))) rfl ?_
    have h := Option.some.inj h
    subst h
    exact tw_retE (cd := tw_c112) rfl rfl rfl rfl
theorem g_X10_feed_L1_ok (I : Nat → Int32) (L : Nat → Int64) (A : Nat → Nat → Int32) (J : Nat → Nat → Int64) (tw : Nat) (dr : Nat) (rt : Nat) (sc : Nat) (a1 : Int32) (a2 : Int32) (a3 : Int32) (a4 : Int32) (a5 : Int32) (out : Option Value × tw_S) : ∀ (n : Nat) (v1_6 : Int32) (I_1 : Nat → Int32) (A_1 : Nat → Nat → Int32) (ex : ((Nat → Int32) × (Nat → Nat → Int32))), g_X10_feed_L1 a1 a2 a3 a4 a5 n v1_6 I_1 A_1 = some ex → tw_ME 201 (62, [some (.ref 44), none, none, none, none, none, none, none], [], ((ex.1), L, tw_P tw dr rt sc, (ex.2), J, 57)) out → tw_ME 201 (13, [some (.ref 44), some (.int a1), some (.int a2), some (.int a3), some (.int a4), some (.int a5), some (.int v1_6), none], [], (I_1, L, tw_P tw dr rt sc, A_1, J, 57)) out := by
  intro n
  induction n with
  | zero =>
    intro v1_6 I_1 A_1 ex h _
    cases h
  | succ n ih =>
    intro v1_6 I_1 A_1 ex h K
    rw [g_X10_feed_L1] at h
    refine tw_blk (cd := tw_c201) rfl 1 (c1 := (14, [some (.ref 44), some (.int a1), some (.int a2), some (.int a3), some (.int a4), some (.int a5), some (.int v1_6), none], [.int v1_6], (I_1, L, tw_P tw dr rt sc, A_1, J, 57))) rfl ?_
    refine tw_blk (cd := tw_c201) rfl 1 (c1 := (15, [some (.ref 44), some (.int a1), some (.int a2), some (.int a3), some (.int a4), some (.int a5), some (.int v1_6), none], [.int 20, .int v1_6], (I_1, L, tw_P tw dr rt sc, A_1, J, 57))) rfl ?_
    by_cases hc4 : (20 : Int32) ≤ v1_6
    · rw [if_pos hc4] at h
      refine tw_br (cd := tw_c201) rfl rfl rfl (by exact if_pos hc4) ?_
      refine tw_forget (ls2 := [some (.ref 44), none, none, none, none, none, none, none]) ⟨rfl, trivial⟩ ?_
      have h := Option.some.inj h
      subst h
      exact K
    · rw [if_neg hc4] at h
      refine tw_br (cd := tw_c201) rfl rfl rfl (by exact if_neg hc4) ?_
      refine tw_blk (cd := tw_c201) rfl 2 (c1 := (18, [some (.ref 44), some (.int a1), some (.int a2), some (.int a3), some (.int a4), some (.int a5), some (.int v1_6), none], [.int 4, .int v1_6], (I_1, L, tw_P tw dr rt sc, A_1, J, 57))) rfl ?_
      obtain ⟨x6, hj7, h⟩ := tw_bindE h
      have K : tw_ME 201 (37, [some (.ref 44), some (.int a1), some (.int a2), some (.int a3), some (.int a4), some (.int a5), some (.int v1_6), none], [.int x6], (I_1, L, tw_P tw dr rt sc, A_1, J, 57)) out := by
        refine tw_blk (cd := tw_c201) rfl 10 (c1 := (47, [some (.ref 44), some (.int a1), some (.int a2), some (.int a3), some (.int a4), some (.int a5), some (.int v1_6), some (.int x6)], [.int 4, .int v1_6, .int 8, .int 24, .int x6, .int (I_1 4402), .ref 45], (I_1, L, tw_P tw dr rt sc, A_1, J, 57))) rfl ?_
        refine tw_br (cd := tw_c201) rfl rfl rfl (by exact rfl) ?_
        refine tw_blk (cd := tw_c201) rfl 5 (c1 := (53, [some (.ref 44), some (.int a1), some (.int a2), some (.int a3), some (.int a4), some (.int a5), some (.int v1_6), some (.int x6)], [.int ((x6 >>> (((24 : Int32) - ((8 : Int32) * (v1_6 - v1_6 / (4 : Int32) * (4 : Int32)))) &&& 31)) &&& (255 : Int32)), .int (I_1 4402), .ref 45], (I_1, L, tw_P tw dr rt sc, A_1, J, 57))) rfl ?_
        obtain ⟨w12, hx11, h⟩ := tw_bindE h
        refine tw_iast (cd := tw_c201) (N := 900) rfl rfl rfl rfl hx11 ?_
        refine tw_blk (cd := tw_c201) rfl 8 (c1 := (13, [some (.ref 44), some (.int a1), some (.int a2), some (.int a3), some (.int a4), some (.int a5), some (.int (v1_6 + (1 : Int32))), some (.int x6)], [], ((upd I_1 4402 ((I_1 4402) + (1 : Int32))), L, tw_P tw dr rt sc, (va_up A_1 45 w12), J, 57))) rfl ?_
        refine tw_forget (ls2 := [some (.ref 44), some (.int a1), some (.int a2), some (.int a3), some (.int a4), some (.int a5), some (.int (v1_6 + (1 : Int32))), none]) ⟨rfl, rfl, rfl, rfl, rfl, rfl, rfl, trivial⟩ ?_
        exact ih (v1_6 + (1 : Int32)) (upd I_1 4402 ((I_1 4402) + (1 : Int32))) (va_up A_1 45 w12) _ h K
      by_cases hc5 : (4 : Int32) ≤ v1_6
      · rw [if_pos hc5] at hj7
        refine tw_br (cd := tw_c201) rfl rfl rfl (by exact if_pos hc5) ?_
        refine tw_blk (cd := tw_c201) rfl 2 (c1 := (23, [some (.ref 44), some (.int a1), some (.int a2), some (.int a3), some (.int a4), some (.int a5), some (.int v1_6), none], [.int 8, .int v1_6], (I_1, L, tw_P tw dr rt sc, A_1, J, 57))) rfl ?_
        by_cases hc8 : (8 : Int32) ≤ v1_6
        · rw [if_pos hc8] at hj7
          refine tw_br (cd := tw_c201) rfl rfl rfl (by exact if_pos hc8) ?_
          refine tw_blk (cd := tw_c201) rfl 2 (c1 := (28, [some (.ref 44), some (.int a1), some (.int a2), some (.int a3), some (.int a4), some (.int a5), some (.int v1_6), none], [.int 12, .int v1_6], (I_1, L, tw_P tw dr rt sc, A_1, J, 57))) rfl ?_
          by_cases hc9 : (12 : Int32) ≤ v1_6
          · rw [if_pos hc9] at hj7
            refine tw_br (cd := tw_c201) rfl rfl rfl (by exact if_pos hc9) ?_
            refine tw_blk (cd := tw_c201) rfl 2 (c1 := (33, [some (.ref 44), some (.int a1), some (.int a2), some (.int a3), some (.int a4), some (.int a5), some (.int v1_6), none], [.int 16, .int v1_6], (I_1, L, tw_P tw dr rt sc, A_1, J, 57))) rfl ?_
            by_cases hc10 : (16 : Int32) ≤ v1_6
            · rw [if_pos hc10] at hj7
              refine tw_br (cd := tw_c201) rfl rfl rfl (by exact if_pos hc10) ?_
              refine tw_blk (cd := tw_c201) rfl 1 (c1 := (37, [some (.ref 44), some (.int a1), some (.int a2), some (.int a3), some (.int a4), some (.int a5), some (.int v1_6), none], [.int a5], (I_1, L, tw_P tw dr rt sc, A_1, J, 57))) rfl ?_
              have hj7s := Option.some.inj hj7
              subst hj7s
              exact K
            · rw [if_neg hc10] at hj7
              refine tw_br (cd := tw_c201) rfl rfl rfl (by exact if_neg hc10) ?_
              refine tw_blk (cd := tw_c201) rfl 2 (c1 := (37, [some (.ref 44), some (.int a1), some (.int a2), some (.int a3), some (.int a4), some (.int a5), some (.int v1_6), none], [.int a4], (I_1, L, tw_P tw dr rt sc, A_1, J, 57))) rfl ?_
              have hj7s := Option.some.inj hj7
              subst hj7s
              exact K
          · rw [if_neg hc9] at hj7
            refine tw_br (cd := tw_c201) rfl rfl rfl (by exact if_neg hc9) ?_
            refine tw_blk (cd := tw_c201) rfl 2 (c1 := (37, [some (.ref 44), some (.int a1), some (.int a2), some (.int a3), some (.int a4), some (.int a5), some (.int v1_6), none], [.int a3], (I_1, L, tw_P tw dr rt sc, A_1, J, 57))) rfl ?_
            have hj7s := Option.some.inj hj7
            subst hj7s
            exact K
        · rw [if_neg hc8] at hj7
          refine tw_br (cd := tw_c201) rfl rfl rfl (by exact if_neg hc8) ?_
          refine tw_blk (cd := tw_c201) rfl 2 (c1 := (37, [some (.ref 44), some (.int a1), some (.int a2), some (.int a3), some (.int a4), some (.int a5), some (.int v1_6), none], [.int a2], (I_1, L, tw_P tw dr rt sc, A_1, J, 57))) rfl ?_
          have hj7s := Option.some.inj hj7
          subst hj7s
          exact K
      · rw [if_neg hc5] at hj7
        refine tw_br (cd := tw_c201) rfl rfl rfl (by exact if_neg hc5) ?_
        refine tw_blk (cd := tw_c201) rfl 2 (c1 := (37, [some (.ref 44), some (.int a1), some (.int a2), some (.int a3), some (.int a4), some (.int a5), some (.int v1_6), none], [.int a1], (I_1, L, tw_P tw dr rt sc, A_1, J, 57))) rfl ?_
        have hj7s := Option.some.inj hj7
        subst hj7s
        exact K
theorem e_X10_feed (I : Nat → Int32) (L : Nat → Int64) (A : Nat → Nat → Int32) (J : Nat → Nat → Int64) (tw dr : Nat) (rt : Nat) (sc : Nat) (a1 : Int32) (a2 : Int32) (a3 : Int32) (a4 : Int32) (a5 : Int32) : ∀ r : (Int32 × (Nat → Int32) × (Nat → Nat → Int32)), g_X10_feed I A a1 a2 a3 a4 a5 = some r → tw_ME 201 (0, [some (.ref 44), some (.int a1), some (.int a2), some (.int a3), some (.int a4), some (.int a5), none, none], [], (I, L, tw_P tw dr rt sc, A, J, 57)) (some (.int r.1), ((r.2.1), L, tw_P tw dr rt sc, (r.2.2), J, 57)) := by
  intro r h
  unfold g_X10_feed at h
  refine tw_blk (cd := tw_c201) rfl 8 (c1 := (8, [some (.ref 44), some (.int a1), some (.int a2), some (.int a3), some (.int a4), some (.int a5), none, none], [.int 900, .int ((I 4402) + (20 : Int32))], ((upd I 4400 (0 : Int32)), L, tw_P tw dr rt sc, A, J, 57))) rfl ?_
  by_cases hc1 : ((I 4402) + (20 : Int32)) ≤ (900 : Int32)
  · rw [if_pos hc1] at h
    refine tw_br (cd := tw_c201) rfl rfl rfl (by exact if_pos hc1) ?_
    refine tw_blk (cd := tw_c201) rfl 2 (c1 := (13, [some (.ref 44), some (.int a1), some (.int a2), some (.int a3), some (.int a4), some (.int a5), some (.int 0), none], [], ((upd I 4400 (0 : Int32)), L, tw_P tw dr rt sc, A, J, 57))) rfl ?_
    obtain ⟨⟨I2, A3⟩, hx13, h⟩ := tw_bindE h
    dsimp only at h
    refine g_X10_feed_L1_ok I L A J tw dr rt sc a1 a2 a3 a4 a5 _ 4096 (0 : Int32) (upd I 4400 (0 : Int32)) A _ hx13 ?_
    refine tw_blk (cd := tw_c201) rfl 2 (c1 := (64, [some (.ref 44), none, none, none, none, none, none, none], [.int (I2 4402)], (I2, L, tw_P tw dr rt sc, A3, J, 57))) rfl ?_
    have h := Option.some.inj h
    subst h
    exact tw_retE (cd := tw_c201) rfl rfl rfl rfl
  · rw [if_neg hc1] at h
    refine tw_br (cd := tw_c201) rfl rfl rfl (by exact if_neg hc1) ?_
    refine tw_blk (cd := tw_c201) rfl 1 (c1 := (10, [some (.ref 44), some (.int a1), some (.int a2), some (.int a3), some (.int a4), some (.int a5), none, none], [.int (-1)], ((upd I 4400 (0 : Int32)), L, tw_P tw dr rt sc, A, J, 57))) rfl ?_
    have h := Option.some.inj h
    subst h
    exact tw_retE (cd := tw_c201) rfl rfl rfl rfl
theorem e_X9_refuse (I : Nat → Int32) (L : Nat → Int64) (A : Nat → Nat → Int32) (J : Nat → Nat → Int64) (tw dr : Nat) (rt : Nat) (sc : Nat) (a1 : Int32) : ∀ r : (Int32 × (Nat → Int32)), g_X9_refuse I a1 = r → tw_ME 173 (0, [some (.ref 0), some (.int a1)], [], (I, L, tw_P tw dr rt sc, A, J, 57)) (some (.int r.1), ((r.2), L, tw_P tw dr rt sc, A, J, 57)) := by
  intro r h
  unfold g_X9_refuse at h
  refine tw_blk (cd := tw_c173) rfl 4 (c1 := (4, [some (.ref 0), some (.int a1)], [.int (-1)], ((upd I 12 a1), L, tw_P tw dr rt sc, A, J, 57))) rfl ?_
  subst h
  exact tw_retE (cd := tw_c173) rfl rfl rfl rfl
theorem e_X8_clear_14 (I : Nat → Int32) (L : Nat → Int64) (A : Nat → Nat → Int32) (J : Nat → Nat → Int64) (tw dr : Nat) (rt : Nat) (sc : Nat) : ∀ r : Nat → Nat → Int32, g_X8_clear_14 A = r → tw_ME 99 (0, [some (.ref 14)], [], (I, L, tw_P tw dr rt sc, A, J, 57)) (none, (I, L, tw_P tw dr rt sc, r, J, 57)) := by
  intro r h
  unfold g_X8_clear_14 at h
  refine tw_blk (cd := tw_c99) rfl 3 (c1 := (3, [some (.ref 14)], [.int 0, .ref 15], (I, L, tw_P tw dr rt sc, A, J, 57))) rfl ?_
  obtain ⟨w1, hw2, h⟩ := tw_letE h
  refine tw_callE (cd := tw_c99) rfl rfl rfl rfl rfl (tw_e_fill I L (tw_P tw dr rt sc) A J (q := 15) (N := 9) rfl rfl (by decide) (0 : Int32) w1 hw2) (by exact Or.inl rfl) ?_
  refine tw_blk (cd := tw_c99) rfl 3 (c1 := (7, [some (.ref 14)], [.int (-2), .ref 20], (I, L, tw_P tw dr rt sc, (va_up A 15 w1), J, 57))) rfl ?_
  obtain ⟨w3, hw4, h⟩ := tw_letE h
  refine tw_callE (cd := tw_c99) rfl rfl rfl rfl rfl (tw_e_fill I L (tw_P tw dr rt sc) (va_up A 15 w1) J (q := 20) (N := 6) rfl rfl (by decide) (-2 : Int32) w3 hw4) (by exact Or.inl rfl) ?_
  refine tw_blk (cd := tw_c99) rfl 3 (c1 := (11, [some (.ref 14)], [.int (-2), .ref 23], (I, L, tw_P tw dr rt sc, (va_up (va_up A 15 w1) 20 w3), J, 57))) rfl ?_
  obtain ⟨w5, hw6, h⟩ := tw_letE h
  refine tw_callE (cd := tw_c99) rfl rfl rfl rfl rfl (tw_e_fill I L (tw_P tw dr rt sc) (va_up (va_up A 15 w1) 20 w3) J (q := 23) (N := 3) rfl rfl (by decide) (-2 : Int32) w5 hw6) (by exact Or.inl rfl) ?_
  subst h
  exact tw_retE (cd := tw_c99) rfl rfl rfl rfl
theorem e_X7_byteAt (I : Nat → Int32) (L : Nat → Int64) (A : Nat → Nat → Int32) (J : Nat → Nat → Int64) (tw dr : Nat) (rt : Nat) (sc : Nat) (a1 : Int32) : ∀ r : Int32, g_X7_byteAt A a1 = some r → tw_ME 93 (0, [some (.ref 32), some (.int a1)], [], (I, L, tw_P tw dr rt sc, A, J, 57)) (some (.int r), (I, L, tw_P tw dr rt sc, A, J, 57)) := by
  intro r h
  unfold g_X7_byteAt at h
  refine tw_blk (cd := tw_c93) rfl 4 (c1 := (4, [some (.ref 32), some (.int a1)], [.int a1], (I, L, tw_P tw dr rt sc, A, J, 57))) rfl ?_
  by_cases hc1 : a1 < 0
  · rw [if_pos hc1] at h
    refine tw_br (cd := tw_c93) rfl rfl rfl (by exact if_pos hc1) ?_
    refine tw_blk (cd := tw_c93) rfl 1 (c1 := (16, [some (.ref 32), some (.int a1)], [.int 0], (I, L, tw_P tw dr rt sc, A, J, 57))) rfl ?_
    have h := Option.some.inj h
    subst h
    exact tw_retE (cd := tw_c93) rfl rfl rfl rfl
  · rw [if_neg hc1] at h
    refine tw_br (cd := tw_c93) rfl rfl rfl (by exact if_neg hc1) ?_
    refine tw_blk (cd := tw_c93) rfl 4 (c1 := (9, [some (.ref 32), some (.int a1)], [.int 900, .int a1], (I, L, tw_P tw dr rt sc, A, J, 57))) rfl ?_
    by_cases hc2 : (900 : Int32) ≤ a1
    · rw [if_pos hc2] at h
      refine tw_br (cd := tw_c93) rfl rfl rfl (by exact if_pos hc2) ?_
      refine tw_blk (cd := tw_c93) rfl 1 (c1 := (16, [some (.ref 32), some (.int a1)], [.int 0], (I, L, tw_P tw dr rt sc, A, J, 57))) rfl ?_
      have h := Option.some.inj h
      subst h
      exact tw_retE (cd := tw_c93) rfl rfl rfl rfl
    · rw [if_neg hc2] at h
      refine tw_br (cd := tw_c93) rfl rfl rfl (by exact if_neg hc2) ?_
      refine tw_blk (cd := tw_c93) rfl 3 (c1 := (13, [some (.ref 32), some (.int a1)], [.int a1, .ref 1], (I, L, tw_P tw dr rt sc, A, J, 57))) rfl ?_
      obtain ⟨x4, hx3, h⟩ := tw_bindE h
      refine tw_bald (cd := tw_c93) (N := 900) rfl rfl rfl rfl hx3 ?_
      refine tw_blk (cd := tw_c93) rfl 1 (c1 := (16, [some (.ref 32), some (.int a1)], [.int x4], (I, L, tw_P tw dr rt sc, A, J, 57))) rfl ?_
      have h := Option.some.inj h
      subst h
      exact tw_retE (cd := tw_c93) rfl rfl rfl rfl
theorem e_X7_isLetter (I : Nat → Int32) (L : Nat → Int64) (A : Nat → Nat → Int32) (J : Nat → Nat → Int64) (tw dr : Nat) (rt : Nat) (sc : Nat) (a0 : Int32) : ∀ r : Bool, g_X7_isLetter a0 = r → tw_ME 94 (0, [some (.int a0)], [], (I, L, tw_P tw dr rt sc, A, J, 57)) (some (.int (tw_b r)), (I, L, tw_P tw dr rt sc, A, J, 57)) := by
  intro r h
  unfold g_X7_isLetter at h
  refine tw_blk (cd := tw_c94) rfl 2 (c1 := (2, [some (.int a0)], [.int 97, .int a0], (I, L, tw_P tw dr rt sc, A, J, 57))) rfl ?_
  by_cases hc1 : a0 < (97 : Int32)
  · rw [if_pos hc1] at h
    refine tw_br (cd := tw_c94) rfl rfl rfl (by exact if_pos hc1) ?_
    refine tw_blk (cd := tw_c94) rfl 1 (c1 := (9, [some (.int a0)], [.int 0], (I, L, tw_P tw dr rt sc, A, J, 57))) rfl ?_
    subst h
    exact tw_retZ (cd := tw_c94) (b := false) rfl rfl rfl rfl
  · rw [if_neg hc1] at h
    refine tw_br (cd := tw_c94) rfl rfl rfl (by exact if_neg hc1) ?_
    refine tw_blk (cd := tw_c94) rfl 2 (c1 := (5, [some (.int a0)], [.int 122, .int a0], (I, L, tw_P tw dr rt sc, A, J, 57))) rfl ?_
    by_cases hc2 : (122 : Int32) < a0
    · rw [if_pos hc2] at h
      refine tw_br (cd := tw_c94) rfl rfl rfl (by exact if_pos hc2) ?_
      refine tw_blk (cd := tw_c94) rfl 1 (c1 := (9, [some (.int a0)], [.int 0], (I, L, tw_P tw dr rt sc, A, J, 57))) rfl ?_
      subst h
      exact tw_retZ (cd := tw_c94) (b := false) rfl rfl rfl rfl
    · rw [if_neg hc2] at h
      refine tw_br (cd := tw_c94) rfl rfl rfl (by exact if_neg hc2) ?_
      refine tw_blk (cd := tw_c94) rfl 2 (c1 := (9, [some (.int a0)], [.int 1], (I, L, tw_P tw dr rt sc, A, J, 57))) rfl ?_
      subst h
      exact tw_retZ (cd := tw_c94) (b := true) rfl rfl rfl rfl
theorem g_X7_takeWord_L1_ok (I : Nat → Int32) (L : Nat → Int64) (A : Nat → Nat → Int32) (J : Nat → Nat → Int64) (tw : Nat) (dr : Nat) (rt : Nat) (sc : Nat) (out : Option Value × tw_S) : ∀ (n : Nat) (I_1 : Nat → Int32) (L_1 : Nat → Int64) (ex : ((Nat → Int32) × (Nat → Int64))), g_X7_takeWord_L1 A n I_1 L_1 = some ex → tw_ME 91 (44, [some (.ref 32)], [], ((ex.1), (ex.2), tw_P tw dr rt sc, A, J, 57)) out → tw_ME 91 (3, [some (.ref 32)], [], (I_1, L_1, tw_P tw dr rt sc, A, J, 57)) out := by
  intro n
  induction n with
  | zero =>
    intro I_1 L_1 ex h _
    cases h
  | succ n ih =>
    intro I_1 L_1 ex h K
    rw [g_X7_takeWord_L1] at h
    refine tw_blk (cd := tw_c91) rfl 1 (c1 := (4, [some (.ref 32)], [.ref 32], (I_1, L_1, tw_P tw dr rt sc, A, J, 57))) rfl ?_
    refine tw_blk (cd := tw_c91) rfl 3 (c1 := (7, [some (.ref 32)], [.int (I_1 3201), .int (I_1 3204)], (I_1, L_1, tw_P tw dr rt sc, A, J, 57))) rfl ?_
    by_cases hc3 : (I_1 3201) ≤ (I_1 3204)
    · rw [if_pos hc3] at h
      refine tw_br (cd := tw_c91) rfl rfl rfl (by exact if_pos hc3) ?_
      have h := Option.some.inj h
      subst h
      exact K
    · rw [if_neg hc3] at h
      refine tw_br (cd := tw_c91) rfl rfl rfl (by exact if_neg hc3) ?_
      refine tw_blk (cd := tw_c91) rfl 3 (c1 := (11, [some (.ref 32)], [.int (I_1 3204), .ref 32], (I_1, L_1, tw_P tw dr rt sc, A, J, 57))) rfl ?_
      obtain ⟨x4, hx5, h⟩ := tw_bindE h
      refine tw_callE (cd := tw_c91) rfl rfl rfl rfl rfl (e_X7_byteAt I_1 L_1 A J tw dr rt sc (I_1 3204) _ hx5) (by exact Or.inl rfl) ?_
      refine tw_callE (cd := tw_c91) rfl rfl rfl rfl rfl (e_X7_isLetter I_1 L_1 A J tw dr rt sc x4 _ rfl) (by exact Or.inl rfl) ?_
      by_cases hc6 : (g_X7_isLetter x4) = true
      · rw [if_pos hc6] at h
        refine tw_br (cd := tw_c91) rfl rfl rfl (by exact if_neg (tw_b_t hc6)) ?_
        refine tw_blk (cd := tw_c91) rfl 6 (c1 := (20, [some (.ref 32)], [.int 8, .int ((I_1 3204) - (I_1 3203))], (I_1, L_1, tw_P tw dr rt sc, A, J, 57))) rfl ?_
        obtain ⟨L8, hj9, h⟩ := tw_bindE h
        have K : tw_ME 91 (37, [some (.ref 32)], [], (I_1, L8, tw_P tw dr rt sc, A, J, 57)) out := by
          refine tw_blk (cd := tw_c91) rfl 7 (c1 := (3, [some (.ref 32)], [], ((upd I_1 3204 ((I_1 3204) + (1 : Int32))), L8, tw_P tw dr rt sc, A, J, 57))) rfl ?_
          exact ih (upd I_1 3204 ((I_1 3204) + (1 : Int32))) L8 _ h K
        by_cases hc7 : (8 : Int32) ≤ ((I_1 3204) - (I_1 3203))
        · rw [if_pos hc7] at hj9
          refine tw_br (cd := tw_c91) rfl rfl rfl (by exact if_pos hc7) ?_
          have hj9s := Option.some.inj hj9
          subst hj9s
          exact K
        · rw [if_neg hc7] at hj9
          refine tw_br (cd := tw_c91) rfl rfl rfl (by exact if_neg hc7) ?_
          refine tw_blk (cd := tw_c91) rfl 8 (c1 := (29, [some (.ref 32)], [.int (I_1 3204), .ref 32, .long ((L_1 3206) * (27 : Int64)), .ref 32], (I_1, L_1, tw_P tw dr rt sc, A, J, 57))) rfl ?_
          obtain ⟨x10, hx11, hj9⟩ := tw_bindE hj9
          refine tw_callE (cd := tw_c91) rfl rfl rfl rfl rfl (e_X7_byteAt I_1 L_1 A J tw dr rt sc (I_1 3204) _ hx11) (by exact Or.inl rfl) ?_
          refine tw_blk (cd := tw_c91) rfl 7 (c1 := (37, [some (.ref 32)], [], (I_1, (vp_updL L_1 3206 (((((L_1 3206) * (27 : Int64)) + ((x10).toInt64)) - (97 : Int64)) + (1 : Int64))), tw_P tw dr rt sc, A, J, 57))) rfl ?_
          have hj9s := Option.some.inj hj9
          subst hj9s
          exact K
      · rw [if_neg hc6] at h
        refine tw_br (cd := tw_c91) rfl rfl rfl (by exact if_pos (tw_b_f hc6)) ?_
        have h := Option.some.inj h
        subst h
        exact K
theorem e_X7_takeWord (I : Nat → Int32) (L : Nat → Int64) (A : Nat → Nat → Int32) (J : Nat → Nat → Int64) (tw dr : Nat) (rt : Nat) (sc : Nat) : ∀ r : ((Nat → Int32) × (Nat → Int64)), g_X7_takeWord I L A = some r → tw_ME 91 (0, [some (.ref 32)], [], (I, L, tw_P tw dr rt sc, A, J, 57)) (none, ((r.1), (r.2), tw_P tw dr rt sc, A, J, 57)) := by
  intro r h
  unfold g_X7_takeWord at h
  refine tw_blk (cd := tw_c91) rfl 3 (c1 := (3, [some (.ref 32)], [], (I, (vp_updL L 3206 (0 : Int64)), tw_P tw dr rt sc, A, J, 57))) rfl ?_
  obtain ⟨⟨I1, L2⟩, hx15, h⟩ := tw_bindE h
  dsimp only at h
  refine g_X7_takeWord_L1_ok I L A J tw dr rt sc _ 4096 I (vp_updL L 3206 (0 : Int64)) _ hx15 ?_
  refine tw_blk (cd := tw_c91) rfl 7 (c1 := (51, [some (.ref 32)], [.int 8, .int ((I1 3204) - (I1 3203)), .ref 32], (I1, L2, tw_P tw dr rt sc, A, J, 57))) rfl ?_
  obtain ⟨x13, hj14, h⟩ := tw_bindE h
  have K : tw_ME 91 (55, [none], [.int x13, .ref 32], (I1, L2, tw_P tw dr rt sc, A, J, 57)) (none, ((r.1), (r.2), tw_P tw dr rt sc, A, J, 57)) := by
    refine tw_blk (cd := tw_c91) rfl 1 (c1 := (56, [none], [], ((upd I1 3205 x13), L2, tw_P tw dr rt sc, A, J, 57))) rfl ?_
    have h := Option.some.inj h
    subst h
    exact tw_retE (cd := tw_c91) rfl rfl rfl rfl
  by_cases hc12 : (8 : Int32) < ((I1 3204) - (I1 3203))
  · rw [if_pos hc12] at hj14
    refine tw_br (cd := tw_c91) rfl rfl rfl (by exact if_pos hc12) ?_
    refine tw_blk (cd := tw_c91) rfl 1 (c1 := (55, [some (.ref 32)], [.int 4, .ref 32], (I1, L2, tw_P tw dr rt sc, A, J, 57))) rfl ?_
    refine tw_forget (ls2 := [none]) trivial ?_
    have hj14s := Option.some.inj hj14
    subst hj14s
    exact K
  · rw [if_neg hc12] at hj14
    refine tw_br (cd := tw_c91) rfl rfl rfl (by exact if_neg hc12) ?_
    refine tw_blk (cd := tw_c91) rfl 2 (c1 := (55, [some (.ref 32)], [.int 1, .ref 32], (I1, L2, tw_P tw dr rt sc, A, J, 57))) rfl ?_
    refine tw_forget (ls2 := [none]) trivial ?_
    have hj14s := Option.some.inj hj14
    subst hj14s
    exact K
theorem e_X7_isDigit (I : Nat → Int32) (L : Nat → Int64) (A : Nat → Nat → Int32) (J : Nat → Nat → Int64) (tw dr : Nat) (rt : Nat) (sc : Nat) (a0 : Int32) : ∀ r : Bool, g_X7_isDigit a0 = r → tw_ME 95 (0, [some (.int a0)], [], (I, L, tw_P tw dr rt sc, A, J, 57)) (some (.int (tw_b r)), (I, L, tw_P tw dr rt sc, A, J, 57)) := by
  intro r h
  unfold g_X7_isDigit at h
  refine tw_blk (cd := tw_c95) rfl 2 (c1 := (2, [some (.int a0)], [.int 48, .int a0], (I, L, tw_P tw dr rt sc, A, J, 57))) rfl ?_
  by_cases hc1 : a0 < (48 : Int32)
  · rw [if_pos hc1] at h
    refine tw_br (cd := tw_c95) rfl rfl rfl (by exact if_pos hc1) ?_
    refine tw_blk (cd := tw_c95) rfl 1 (c1 := (9, [some (.int a0)], [.int 0], (I, L, tw_P tw dr rt sc, A, J, 57))) rfl ?_
    subst h
    exact tw_retZ (cd := tw_c95) (b := false) rfl rfl rfl rfl
  · rw [if_neg hc1] at h
    refine tw_br (cd := tw_c95) rfl rfl rfl (by exact if_neg hc1) ?_
    refine tw_blk (cd := tw_c95) rfl 2 (c1 := (5, [some (.int a0)], [.int 57, .int a0], (I, L, tw_P tw dr rt sc, A, J, 57))) rfl ?_
    by_cases hc2 : (57 : Int32) < a0
    · rw [if_pos hc2] at h
      refine tw_br (cd := tw_c95) rfl rfl rfl (by exact if_pos hc2) ?_
      refine tw_blk (cd := tw_c95) rfl 1 (c1 := (9, [some (.int a0)], [.int 0], (I, L, tw_P tw dr rt sc, A, J, 57))) rfl ?_
      subst h
      exact tw_retZ (cd := tw_c95) (b := false) rfl rfl rfl rfl
    · rw [if_neg hc2] at h
      refine tw_br (cd := tw_c95) rfl rfl rfl (by exact if_neg hc2) ?_
      refine tw_blk (cd := tw_c95) rfl 2 (c1 := (9, [some (.int a0)], [.int 1], (I, L, tw_P tw dr rt sc, A, J, 57))) rfl ?_
      subst h
      exact tw_retZ (cd := tw_c95) (b := true) rfl rfl rfl rfl
theorem g_X7_takeWhole_L1_ok (I : Nat → Int32) (L : Nat → Int64) (A : Nat → Nat → Int32) (J : Nat → Nat → Int64) (tw : Nat) (dr : Nat) (rt : Nat) (sc : Nat) (out : Option Value × tw_S) : ∀ (n : Nat) (I_1 : Nat → Int32) (L_1 : Nat → Int64) (ex : ((Nat → Int32) × (Nat → Int64))), g_X7_takeWhole_L1 A n I_1 L_1 = some ex → tw_ME 92 (42, [some (.ref 32)], [], ((ex.1), (ex.2), tw_P tw dr rt sc, A, J, 57)) out → tw_ME 92 (3, [some (.ref 32)], [], (I_1, L_1, tw_P tw dr rt sc, A, J, 57)) out := by
  intro n
  induction n with
  | zero =>
    intro I_1 L_1 ex h _
    cases h
  | succ n ih =>
    intro I_1 L_1 ex h K
    rw [g_X7_takeWhole_L1] at h
    refine tw_blk (cd := tw_c92) rfl 1 (c1 := (4, [some (.ref 32)], [.ref 32], (I_1, L_1, tw_P tw dr rt sc, A, J, 57))) rfl ?_
    refine tw_blk (cd := tw_c92) rfl 3 (c1 := (7, [some (.ref 32)], [.int (I_1 3201), .int (I_1 3204)], (I_1, L_1, tw_P tw dr rt sc, A, J, 57))) rfl ?_
    by_cases hc3 : (I_1 3201) ≤ (I_1 3204)
    · rw [if_pos hc3] at h
      refine tw_br (cd := tw_c92) rfl rfl rfl (by exact if_pos hc3) ?_
      have h := Option.some.inj h
      subst h
      exact K
    · rw [if_neg hc3] at h
      refine tw_br (cd := tw_c92) rfl rfl rfl (by exact if_neg hc3) ?_
      refine tw_blk (cd := tw_c92) rfl 3 (c1 := (11, [some (.ref 32)], [.int (I_1 3204), .ref 32], (I_1, L_1, tw_P tw dr rt sc, A, J, 57))) rfl ?_
      obtain ⟨x4, hx5, h⟩ := tw_bindE h
      refine tw_callE (cd := tw_c92) rfl rfl rfl rfl rfl (e_X7_byteAt I_1 L_1 A J tw dr rt sc (I_1 3204) _ hx5) (by exact Or.inl rfl) ?_
      refine tw_callE (cd := tw_c92) rfl rfl rfl rfl rfl (e_X7_isDigit I_1 L_1 A J tw dr rt sc x4 _ rfl) (by exact Or.inl rfl) ?_
      by_cases hc6 : (g_X7_isDigit x4) = true
      · rw [if_pos hc6] at h
        refine tw_br (cd := tw_c92) rfl rfl rfl (by exact if_neg (tw_b_t hc6)) ?_
        refine tw_blk (cd := tw_c92) rfl 6 (c1 := (20, [some (.ref 32)], [.int 3, .int ((I_1 3204) - (I_1 3203))], (I_1, L_1, tw_P tw dr rt sc, A, J, 57))) rfl ?_
        obtain ⟨L8, hj9, h⟩ := tw_bindE h
        have K : tw_ME 92 (35, [some (.ref 32)], [], (I_1, L8, tw_P tw dr rt sc, A, J, 57)) out := by
          refine tw_blk (cd := tw_c92) rfl 7 (c1 := (3, [some (.ref 32)], [], ((upd I_1 3204 ((I_1 3204) + (1 : Int32))), L8, tw_P tw dr rt sc, A, J, 57))) rfl ?_
          exact ih (upd I_1 3204 ((I_1 3204) + (1 : Int32))) L8 _ h K
        by_cases hc7 : (3 : Int32) ≤ ((I_1 3204) - (I_1 3203))
        · rw [if_pos hc7] at hj9
          refine tw_br (cd := tw_c92) rfl rfl rfl (by exact if_pos hc7) ?_
          have hj9s := Option.some.inj hj9
          subst hj9s
          exact K
        · rw [if_neg hc7] at hj9
          refine tw_br (cd := tw_c92) rfl rfl rfl (by exact if_neg hc7) ?_
          refine tw_blk (cd := tw_c92) rfl 8 (c1 := (29, [some (.ref 32)], [.int (I_1 3204), .ref 32, .long ((L_1 3206) * (10 : Int64)), .ref 32], (I_1, L_1, tw_P tw dr rt sc, A, J, 57))) rfl ?_
          obtain ⟨x10, hx11, hj9⟩ := tw_bindE hj9
          refine tw_callE (cd := tw_c92) rfl rfl rfl rfl rfl (e_X7_byteAt I_1 L_1 A J tw dr rt sc (I_1 3204) _ hx11) (by exact Or.inl rfl) ?_
          refine tw_blk (cd := tw_c92) rfl 5 (c1 := (35, [some (.ref 32)], [], (I_1, (vp_updL L_1 3206 ((((L_1 3206) * (10 : Int64)) + ((x10).toInt64)) - (48 : Int64))), tw_P tw dr rt sc, A, J, 57))) rfl ?_
          have hj9s := Option.some.inj hj9
          subst hj9s
          exact K
      · rw [if_neg hc6] at h
        refine tw_br (cd := tw_c92) rfl rfl rfl (by exact if_pos (tw_b_f hc6)) ?_
        have h := Option.some.inj h
        subst h
        exact K
theorem e_X7_takeWhole (I : Nat → Int32) (L : Nat → Int64) (A : Nat → Nat → Int32) (J : Nat → Nat → Int64) (tw dr : Nat) (rt : Nat) (sc : Nat) : ∀ r : ((Nat → Int32) × (Nat → Int64)), g_X7_takeWhole I L A = some r → tw_ME 92 (0, [some (.ref 32)], [], (I, L, tw_P tw dr rt sc, A, J, 57)) (none, ((r.1), (r.2), tw_P tw dr rt sc, A, J, 57)) := by
  intro r h
  unfold g_X7_takeWhole at h
  refine tw_blk (cd := tw_c92) rfl 3 (c1 := (3, [some (.ref 32)], [], (I, (vp_updL L 3206 (0 : Int64)), tw_P tw dr rt sc, A, J, 57))) rfl ?_
  obtain ⟨⟨I1, L2⟩, hx15, h⟩ := tw_bindE h
  dsimp only at h
  refine g_X7_takeWhole_L1_ok I L A J tw dr rt sc _ 4096 I (vp_updL L 3206 (0 : Int64)) _ hx15 ?_
  refine tw_blk (cd := tw_c92) rfl 7 (c1 := (49, [some (.ref 32)], [.int 3, .int ((I1 3204) - (I1 3203)), .ref 32], (I1, L2, tw_P tw dr rt sc, A, J, 57))) rfl ?_
  obtain ⟨x13, hj14, h⟩ := tw_bindE h
  have K : tw_ME 92 (53, [none], [.int x13, .ref 32], (I1, L2, tw_P tw dr rt sc, A, J, 57)) (none, ((r.1), (r.2), tw_P tw dr rt sc, A, J, 57)) := by
    refine tw_blk (cd := tw_c92) rfl 1 (c1 := (54, [none], [], ((upd I1 3205 x13), L2, tw_P tw dr rt sc, A, J, 57))) rfl ?_
    have h := Option.some.inj h
    subst h
    exact tw_retE (cd := tw_c92) rfl rfl rfl rfl
  by_cases hc12 : (3 : Int32) < ((I1 3204) - (I1 3203))
  · rw [if_pos hc12] at hj14
    refine tw_br (cd := tw_c92) rfl rfl rfl (by exact if_pos hc12) ?_
    refine tw_blk (cd := tw_c92) rfl 1 (c1 := (53, [some (.ref 32)], [.int 4, .ref 32], (I1, L2, tw_P tw dr rt sc, A, J, 57))) rfl ?_
    refine tw_forget (ls2 := [none]) trivial ?_
    have hj14s := Option.some.inj hj14
    subst hj14s
    exact K
  · rw [if_neg hc12] at hj14
    refine tw_br (cd := tw_c92) rfl rfl rfl (by exact if_neg hc12) ?_
    refine tw_blk (cd := tw_c92) rfl 2 (c1 := (53, [some (.ref 32)], [.int 2, .ref 32], (I1, L2, tw_P tw dr rt sc, A, J, 57))) rfl ?_
    refine tw_forget (ls2 := [none]) trivial ?_
    have hj14s := Option.some.inj hj14
    subst hj14s
    exact K
theorem g_X7_next_L1_ok (I : Nat → Int32) (L : Nat → Int64) (A : Nat → Nat → Int32) (J : Nat → Nat → Int64) (tw : Nat) (dr : Nat) (rt : Nat) (sc : Nat) (out : Option Value × tw_S) : ∀ (n : Nat) (I_1 : Nat → Int32) (ex : Nat → Int32), g_X7_next_L1 A n I_1 = some ex → tw_ME 90 (26, [some (.ref 32), none], [], (ex, L, tw_P tw dr rt sc, A, J, 57)) out → tw_ME 90 (8, [some (.ref 32), none], [], (I_1, L, tw_P tw dr rt sc, A, J, 57)) out := by
  intro n
  induction n with
  | zero =>
    intro I_1 ex h _
    cases h
  | succ n ih =>
    intro I_1 ex h K
    rw [g_X7_next_L1] at h
    refine tw_blk (cd := tw_c90) rfl 1 (c1 := (9, [some (.ref 32), none], [.ref 32], (I_1, L, tw_P tw dr rt sc, A, J, 57))) rfl ?_
    refine tw_blk (cd := tw_c90) rfl 3 (c1 := (12, [some (.ref 32), none], [.int (I_1 3201), .int (I_1 3203)], (I_1, L, tw_P tw dr rt sc, A, J, 57))) rfl ?_
    by_cases hc2 : (I_1 3201) ≤ (I_1 3203)
    · rw [if_pos hc2] at h
      refine tw_br (cd := tw_c90) rfl rfl rfl (by exact if_pos hc2) ?_
      have h := Option.some.inj h
      subst h
      exact K
    · rw [if_neg hc2] at h
      refine tw_br (cd := tw_c90) rfl rfl rfl (by exact if_neg hc2) ?_
      refine tw_blk (cd := tw_c90) rfl 3 (c1 := (16, [some (.ref 32), none], [.int (I_1 3203), .ref 32], (I_1, L, tw_P tw dr rt sc, A, J, 57))) rfl ?_
      obtain ⟨x3, hx4, h⟩ := tw_bindE h
      refine tw_callE (cd := tw_c90) rfl rfl rfl rfl rfl (e_X7_byteAt I_1 L A J tw dr rt sc (I_1 3203) _ hx4) (by exact Or.inl rfl) ?_
      refine tw_blk (cd := tw_c90) rfl 1 (c1 := (18, [some (.ref 32), none], [.int 32, .int x3], (I_1, L, tw_P tw dr rt sc, A, J, 57))) rfl ?_
      by_cases hc5 : x3 = (32 : Int32)
      · rw [if_pos hc5] at h
        refine tw_br (cd := tw_c90) rfl rfl rfl (by exact if_pos hc5) ?_
        refine tw_blk (cd := tw_c90) rfl 7 (c1 := (8, [some (.ref 32), none], [], ((upd I_1 3203 ((I_1 3203) + (1 : Int32))), L, tw_P tw dr rt sc, A, J, 57))) rfl ?_
        exact ih (upd I_1 3203 ((I_1 3203) + (1 : Int32))) _ h K
      · rw [if_neg hc5] at h
        refine tw_br (cd := tw_c90) rfl rfl rfl (by exact if_neg hc5) ?_
        have h := Option.some.inj h
        subst h
        exact K
theorem e_X7_next (I : Nat → Int32) (L : Nat → Int64) (A : Nat → Nat → Int32) (J : Nat → Nat → Int64) (tw dr : Nat) (rt : Nat) (sc : Nat) : ∀ r : ((Nat → Int32) × (Nat → Int64)), g_X7_next I L A = some r → tw_ME 90 (0, [some (.ref 32), none], [], (I, L, tw_P tw dr rt sc, A, J, 57)) (none, ((r.1), (r.2), tw_P tw dr rt sc, A, J, 57)) := by
  intro r h
  unfold g_X7_next at h
  refine tw_blk (cd := tw_c90) rfl 8 (c1 := (8, [some (.ref 32), none], [], ((upd (upd I 3202 (I 3203)) 3203 (I 3204)), L, tw_P tw dr rt sc, A, J, 57))) rfl ?_
  obtain ⟨I1, hx18, h⟩ := tw_bindE h
  refine g_X7_next_L1_ok I L A J tw dr rt sc _ 4096 (upd (upd I 3202 (I 3203)) 3203 (I 3204)) _ hx18 ?_
  refine tw_blk (cd := tw_c90) rfl 7 (c1 := (33, [some (.ref 32), none], [.int (I1 3203), .ref 32], ((upd I1 3204 (I1 3203)), L, tw_P tw dr rt sc, A, J, 57))) rfl ?_
  obtain ⟨x6, hx7, h⟩ := tw_bindE h
  refine tw_callE (cd := tw_c90) rfl rfl rfl rfl rfl (e_X7_byteAt (upd I1 3204 (I1 3203)) L A J tw dr rt sc (I1 3203) _ hx7) (by exact Or.inl rfl) ?_
  refine tw_blk (cd := tw_c90) rfl 5 (c1 := (39, [some (.ref 32), some (.int x6)], [.int (I1 3201), .int (I1 3203)], ((upd I1 3204 (I1 3203)), L, tw_P tw dr rt sc, A, J, 57))) rfl ?_
  by_cases hc8 : (I1 3203) < (I1 3201)
  · rw [if_pos hc8] at h
    refine tw_br (cd := tw_c90) rfl rfl rfl (by exact if_pos hc8) ?_
    refine tw_blk (cd := tw_c90) rfl 2 (c1 := (46, [some (.ref 32), some (.int x6)], [.int 59, .int x6], ((upd I1 3204 (I1 3203)), L, tw_P tw dr rt sc, A, J, 57))) rfl ?_
    by_cases hc9 : x6 = (59 : Int32)
    · rw [if_pos hc9] at h
      refine tw_br (cd := tw_c90) rfl rfl rfl (by exact if_pos hc9) ?_
      refine tw_blk (cd := tw_c90) rfl 10 (c1 := (72, [some (.ref 32), some (.int x6)], [], ((upd (upd (upd I1 3204 (I1 3203)) 3205 (3 : Int32)) 3204 ((I1 3203) + (1 : Int32))), L, tw_P tw dr rt sc, A, J, 57))) rfl ?_
      have h := Option.some.inj h
      subst h
      exact tw_retE (cd := tw_c90) rfl rfl rfl rfl
    · rw [if_neg hc9] at h
      refine tw_br (cd := tw_c90) rfl rfl rfl (by exact if_neg hc9) ?_
      refine tw_blk (cd := tw_c90) rfl 1 (c1 := (58, [some (.ref 32), some (.int x6)], [.int x6], ((upd I1 3204 (I1 3203)), L, tw_P tw dr rt sc, A, J, 57))) rfl ?_
      refine tw_callE (cd := tw_c90) rfl rfl rfl rfl rfl (e_X7_isLetter (upd I1 3204 (I1 3203)) L A J tw dr rt sc x6 _ rfl) (by exact Or.inl rfl) ?_
      by_cases hc10 : (g_X7_isLetter x6) = true
      · rw [if_pos hc10] at h
        refine tw_br (cd := tw_c90) rfl rfl rfl (by exact if_neg (tw_b_t hc10)) ?_
        refine tw_blk (cd := tw_c90) rfl 1 (c1 := (61, [some (.ref 32), some (.int x6)], [.ref 32], ((upd I1 3204 (I1 3203)), L, tw_P tw dr rt sc, A, J, 57))) rfl ?_
        obtain ⟨⟨I11, L12⟩, hx13, h⟩ := tw_bindE h
        dsimp only at h
        refine tw_callE (cd := tw_c90) rfl rfl rfl rfl rfl (e_X7_takeWord (upd I1 3204 (I1 3203)) L A J tw dr rt sc _ hx13) (by exact Or.inl rfl) ?_
        refine tw_blk (cd := tw_c90) rfl 1 (c1 := (72, [some (.ref 32), some (.int x6)], [], (I11, L12, tw_P tw dr rt sc, A, J, 57))) rfl ?_
        have h := Option.some.inj h
        subst h
        exact tw_retE (cd := tw_c90) rfl rfl rfl rfl
      · rw [if_neg hc10] at h
        refine tw_br (cd := tw_c90) rfl rfl rfl (by exact if_pos (tw_b_f hc10)) ?_
        refine tw_blk (cd := tw_c90) rfl 1 (c1 := (64, [some (.ref 32), some (.int x6)], [.int x6], ((upd I1 3204 (I1 3203)), L, tw_P tw dr rt sc, A, J, 57))) rfl ?_
        refine tw_callE (cd := tw_c90) rfl rfl rfl rfl rfl (e_X7_isDigit (upd I1 3204 (I1 3203)) L A J tw dr rt sc x6 _ rfl) (by exact Or.inl rfl) ?_
        by_cases hc14 : (g_X7_isDigit x6) = true
        · rw [if_pos hc14] at h
          refine tw_br (cd := tw_c90) rfl rfl rfl (by exact if_neg (tw_b_t hc14)) ?_
          refine tw_blk (cd := tw_c90) rfl 1 (c1 := (67, [some (.ref 32), some (.int x6)], [.ref 32], ((upd I1 3204 (I1 3203)), L, tw_P tw dr rt sc, A, J, 57))) rfl ?_
          obtain ⟨⟨I15, L16⟩, hx17, h⟩ := tw_bindE h
          dsimp only at h
          refine tw_callE (cd := tw_c90) rfl rfl rfl rfl rfl (e_X7_takeWhole (upd I1 3204 (I1 3203)) L A J tw dr rt sc _ hx17) (by exact Or.inl rfl) ?_
          refine tw_blk (cd := tw_c90) rfl 1 (c1 := (72, [some (.ref 32), some (.int x6)], [], (I15, L16, tw_P tw dr rt sc, A, J, 57))) rfl ?_
          have h := Option.some.inj h
          subst h
          exact tw_retE (cd := tw_c90) rfl rfl rfl rfl
        · rw [if_neg hc14] at h
          refine tw_br (cd := tw_c90) rfl rfl rfl (by exact if_pos (tw_b_f hc14)) ?_
          refine tw_blk (cd := tw_c90) rfl 3 (c1 := (72, [some (.ref 32), some (.int x6)], [], ((upd (upd I1 3204 (I1 3203)) 3205 (4 : Int32)), L, tw_P tw dr rt sc, A, J, 57))) rfl ?_
          have h := Option.some.inj h
          subst h
          exact tw_retE (cd := tw_c90) rfl rfl rfl rfl
  · rw [if_neg hc8] at h
    refine tw_br (cd := tw_c90) rfl rfl rfl (by exact if_neg hc8) ?_
    refine tw_blk (cd := tw_c90) rfl 4 (c1 := (72, [some (.ref 32), some (.int x6)], [], ((upd (upd I1 3204 (I1 3203)) 3205 (0 : Int32)), L, tw_P tw dr rt sc, A, J, 57))) rfl ?_
    have h := Option.some.inj h
    subst h
    exact tw_retE (cd := tw_c90) rfl rfl rfl rfl
theorem e_X7_start (I : Nat → Int32) (L : Nat → Int64) (A : Nat → Nat → Int32) (J : Nat → Nat → Int64) (tw dr : Nat) (rt : Nat) (sc : Nat) (a1 : Int32) : ∀ r : ((Nat → Int32) × (Nat → Int64)), g_X7_start I L A a1 = some r → tw_ME 89 (0, [some (.ref 32), some (.int a1)], [], (I, L, tw_P tw dr rt sc, A, J, 57)) (none, ((r.1), (r.2), tw_P tw dr rt sc, A, J, 57)) := by
  intro r h
  unfold g_X7_start at h
  refine tw_blk (cd := tw_c89) rfl 7 (c1 := (7, [some (.ref 32), some (.int a1)], [.ref 32], ((upd (upd I 3201 a1) 3204 (0 : Int32)), L, tw_P tw dr rt sc, A, J, 57))) rfl ?_
  obtain ⟨⟨I1, L2⟩, hx3, h⟩ := tw_bindE h
  dsimp only at h
  refine tw_callE (cd := tw_c89) rfl rfl rfl rfl rfl (e_X7_next (upd (upd I 3201 a1) 3204 (0 : Int32)) L A J tw dr rt sc _ hx3) (by exact Or.inl rfl) ?_
  have h := Option.some.inj h
  subst h
  exact tw_retE (cd := tw_c89) rfl rfl rfl rfl
theorem g_X7_numberOf_L1_ok (I : Nat → Int32) (L : Nat → Int64) (A : Nat → Nat → Int32) (J : Nat → Nat → Int64) (tw : Nat) (dr : Nat) (rt : Nat) (sc : Nat) (q0 : Nat) (hq0 : (1000 ≤ q0 ∧ q0 < 1019)) (out : Option Value × tw_S) : ∀ (n : Nat) (v1_1 : Int64) (v1_3 : Int32) (ex : Int64), g_X7_numberOf_L1 q0 n v1_1 v1_3 = some ex → tw_ME 97 (23, [none, some (.long ex), none, none], [], (I, L, tw_P tw dr rt sc, A, J, 57)) out → tw_ME 97 (4, [some (.ref q0), some (.long v1_1), none, some (.int v1_3)], [], (I, L, tw_P tw dr rt sc, A, J, 57)) out := by
  intro n
  induction n with
  | zero =>
    intro v1_1 v1_3 ex h _
    cases h
  | succ n ih =>
    intro v1_1 v1_3 ex h K
    rw [g_X7_numberOf_L1] at h
    refine tw_blk (cd := tw_c97) rfl 1 (c1 := (5, [some (.ref q0), some (.long v1_1), none, some (.int v1_3)], [.int v1_3], (I, L, tw_P tw dr rt sc, A, J, 57))) rfl ?_
    refine tw_blk (cd := tw_c97) rfl 1 (c1 := (6, [some (.ref q0), some (.long v1_1), none, some (.int v1_3)], [.ref q0, .int v1_3], (I, L, tw_P tw dr rt sc, A, J, 57))) rfl ?_
    refine tw_slen (cd := tw_c97) rfl rfl hq0 rfl ?_
    by_cases hc2 : (Int32.ofNat (tw_lenS q0)) ≤ v1_3
    · rw [if_pos hc2] at h
      refine tw_br (cd := tw_c97) rfl rfl rfl (by exact if_pos hc2) ?_
      refine tw_forget (ls2 := [none, some (.long v1_1), none, none]) ⟨rfl, trivial⟩ ?_
      have h := Option.some.inj h
      subst h
      exact K
    · rw [if_neg hc2] at h
      refine tw_br (cd := tw_c97) rfl rfl rfl (by exact if_neg hc2) ?_
      refine tw_blk (cd := tw_c97) rfl 5 (c1 := (13, [some (.ref q0), some (.long v1_1), none, some (.int v1_3)], [.int v1_3, .ref q0, .long (v1_1 * (27 : Int64))], (I, L, tw_P tw dr rt sc, A, J, 57))) rfl ?_
      obtain ⟨x3, hx4, h⟩ := tw_bindE h
      refine tw_schr (cd := tw_c97) rfl rfl hq0 rfl hx4 ?_
      refine tw_blk (cd := tw_c97) rfl 9 (c1 := (4, [some (.ref q0), some (.long ((((v1_1 * (27 : Int64)) + ((x3).toInt64)) - (97 : Int64)) + (1 : Int64))), none, some (.int (v1_3 + (1 : Int32)))], [], (I, L, tw_P tw dr rt sc, A, J, 57))) rfl ?_
      exact ih ((((v1_1 * (27 : Int64)) + ((x3).toInt64)) - (97 : Int64)) + (1 : Int64)) (v1_3 + (1 : Int32)) _ h K
theorem e_X7_numberOf (I : Nat → Int32) (L : Nat → Int64) (A : Nat → Nat → Int32) (J : Nat → Nat → Int64) (tw dr : Nat) (rt : Nat) (sc : Nat) (q0 : Nat) (hq0 : 1000 ≤ q0 ∧ q0 < 1019) : ∀ r : Int64, g_X7_numberOf q0 = some r → tw_ME 97 (0, [some (.ref q0), none, none, none], [], (I, L, tw_P tw dr rt sc, A, J, 57)) (some (.long r), (I, L, tw_P tw dr rt sc, A, J, 57)) := by
  intro r h
  unfold g_X7_numberOf at h
  refine tw_blk (cd := tw_c97) rfl 4 (c1 := (4, [some (.ref q0), some (.long 0), none, some (.int 0)], [], (I, L, tw_P tw dr rt sc, A, J, 57))) rfl ?_
  obtain ⟨y1, hx5, h⟩ := tw_bindE h
  refine g_X7_numberOf_L1_ok I L A J tw dr rt sc q0 hq0 _ 4096 (0 : Int64) (0 : Int32) _ hx5 ?_
  refine tw_blk (cd := tw_c97) rfl 1 (c1 := (24, [none, some (.long y1), none, none], [.long y1], (I, L, tw_P tw dr rt sc, A, J, 57))) rfl ?_
  have h := Option.some.inj h
  subst h
  exact tw_retE (cd := tw_c97) rfl rfl rfl rfl
theorem e_X7_isWord (I : Nat → Int32) (L : Nat → Int64) (A : Nat → Nat → Int32) (J : Nat → Nat → Int64) (tw dr : Nat) (rt : Nat) (sc : Nat) (q1 : Nat) (hq1 : 1000 ≤ q1 ∧ q1 < 1019) : ∀ r : Bool, g_X7_isWord I L q1 = some r → tw_ME 96 (0, [some (.ref 32), some (.ref q1)], [], (I, L, tw_P tw dr rt sc, A, J, 57)) (some (.int (tw_b r)), (I, L, tw_P tw dr rt sc, A, J, 57)) := by
  intro r h
  unfold g_X7_isWord at h
  refine tw_blk (cd := tw_c96) rfl 3 (c1 := (3, [some (.ref 32), some (.ref q1)], [.int 1, .int (I 3205)], (I, L, tw_P tw dr rt sc, A, J, 57))) rfl ?_
  by_cases hc1 : (I 3205) = (1 : Int32)
  · rw [if_pos hc1] at h
    refine tw_br (cd := tw_c96) rfl rfl rfl (by exact if_pos hc1) ?_
    refine tw_blk (cd := tw_c96) rfl 3 (c1 := (7, [some (.ref 32), some (.ref q1)], [.ref q1, .long (L 3206)], (I, L, tw_P tw dr rt sc, A, J, 57))) rfl ?_
    obtain ⟨y2, hx3, h⟩ := tw_bindE h
    refine tw_callE (cd := tw_c96) rfl rfl rfl rfl rfl (e_X7_numberOf I L A J tw dr rt sc q1 hq1 _ hx3) (by exact Or.inl rfl) ?_
    refine tw_blk (cd := tw_c96) rfl 1 (c1 := (9, [some (.ref 32), some (.ref q1)], [.int (lg_cmp (L 3206) y2)], (I, L, tw_P tw dr rt sc, A, J, 57))) rfl ?_
    by_cases hc4 : (lg_cmp (L 3206) y2) = 0
    · rw [if_pos hc4] at h
      refine tw_br (cd := tw_c96) rfl rfl rfl (by exact if_pos hc4) ?_
      refine tw_blk (cd := tw_c96) rfl 2 (c1 := (13, [some (.ref 32), some (.ref q1)], [.int 1], (I, L, tw_P tw dr rt sc, A, J, 57))) rfl ?_
      have h := Option.some.inj h
      subst h
      exact tw_retZ (cd := tw_c96) (b := true) rfl rfl rfl rfl
    · rw [if_neg hc4] at h
      refine tw_br (cd := tw_c96) rfl rfl rfl (by exact if_neg hc4) ?_
      refine tw_blk (cd := tw_c96) rfl 1 (c1 := (13, [some (.ref 32), some (.ref q1)], [.int 0], (I, L, tw_P tw dr rt sc, A, J, 57))) rfl ?_
      have h := Option.some.inj h
      subst h
      exact tw_retZ (cd := tw_c96) (b := false) rfl rfl rfl rfl
  · rw [if_neg hc1] at h
    refine tw_br (cd := tw_c96) rfl rfl rfl (by exact if_neg hc1) ?_
    refine tw_blk (cd := tw_c96) rfl 1 (c1 := (13, [some (.ref 32), some (.ref q1)], [.int 0], (I, L, tw_P tw dr rt sc, A, J, 57))) rfl ?_
    have h := Option.some.inj h
    subst h
    exact tw_retZ (cd := tw_c96) (b := false) rfl rfl rfl rfl
theorem e_X4_lineSort (I : Nat → Int32) (L : Nat → Int64) (A : Nat → Nat → Int32) (J : Nat → Nat → Int64) (tw dr : Nat) (sc : Nat) : ∀ r : Int32, g_X4_lineSort I L = some r → tw_ME 48 (0, [some (.ref 26)], [], (I, L, tw_P tw dr 14 sc, A, J, 57)) (some (.int r), (I, L, tw_P tw dr 14 sc, A, J, 57)) := by
  intro r h
  unfold g_X4_lineSort at h
  refine tw_blk (cd := tw_c48) rfl 3 (c1 := (3, [some (.ref 26)], [.ref 1016, .ref 32], (I, L, tw_P tw dr 14 sc, A, J, 57))) rfl ?_
  obtain ⟨c1, hx2, h⟩ := tw_bindE h
  refine tw_callE (cd := tw_c48) rfl rfl rfl rfl rfl (e_X7_isWord I L A J tw dr 14 sc 1016 (by decide) _ hx2) (by exact Or.inl rfl) ?_
  by_cases hc3 : c1 = true
  · rw [if_pos hc3] at h
    refine tw_br (cd := tw_c48) rfl rfl rfl (by exact if_neg (tw_b_t hc3)) ?_
    refine tw_blk (cd := tw_c48) rfl 1 (c1 := (6, [some (.ref 26)], [.int 0], (I, L, tw_P tw dr 14 sc, A, J, 57))) rfl ?_
    have h := Option.some.inj h
    subst h
    exact tw_retE (cd := tw_c48) rfl rfl rfl rfl
  · rw [if_neg hc3] at h
    refine tw_br (cd := tw_c48) rfl rfl rfl (by exact if_pos (tw_b_f hc3)) ?_
    refine tw_blk (cd := tw_c48) rfl 3 (c1 := (10, [some (.ref 26)], [.ref 1012, .ref 32], (I, L, tw_P tw dr 14 sc, A, J, 57))) rfl ?_
    obtain ⟨c4, hx5, h⟩ := tw_bindE h
    refine tw_callE (cd := tw_c48) rfl rfl rfl rfl rfl (e_X7_isWord I L A J tw dr 14 sc 1012 (by decide) _ hx5) (by exact Or.inl rfl) ?_
    by_cases hc6 : c4 = true
    · rw [if_pos hc6] at h
      refine tw_br (cd := tw_c48) rfl rfl rfl (by exact if_neg (tw_b_t hc6)) ?_
      refine tw_blk (cd := tw_c48) rfl 1 (c1 := (13, [some (.ref 26)], [.int 1], (I, L, tw_P tw dr 14 sc, A, J, 57))) rfl ?_
      have h := Option.some.inj h
      subst h
      exact tw_retE (cd := tw_c48) rfl rfl rfl rfl
    · rw [if_neg hc6] at h
      refine tw_br (cd := tw_c48) rfl rfl rfl (by exact if_pos (tw_b_f hc6)) ?_
      refine tw_blk (cd := tw_c48) rfl 3 (c1 := (17, [some (.ref 26)], [.ref 1015, .ref 32], (I, L, tw_P tw dr 14 sc, A, J, 57))) rfl ?_
      obtain ⟨c7, hx8, h⟩ := tw_bindE h
      refine tw_callE (cd := tw_c48) rfl rfl rfl rfl rfl (e_X7_isWord I L A J tw dr 14 sc 1015 (by decide) _ hx8) (by exact Or.inl rfl) ?_
      by_cases hc9 : c7 = true
      · rw [if_pos hc9] at h
        refine tw_br (cd := tw_c48) rfl rfl rfl (by exact if_neg (tw_b_t hc9)) ?_
        refine tw_blk (cd := tw_c48) rfl 1 (c1 := (20, [some (.ref 26)], [.int 2], (I, L, tw_P tw dr 14 sc, A, J, 57))) rfl ?_
        have h := Option.some.inj h
        subst h
        exact tw_retE (cd := tw_c48) rfl rfl rfl rfl
      · rw [if_neg hc9] at h
        refine tw_br (cd := tw_c48) rfl rfl rfl (by exact if_pos (tw_b_f hc9)) ?_
        refine tw_blk (cd := tw_c48) rfl 3 (c1 := (24, [some (.ref 26)], [.ref 1011, .ref 32], (I, L, tw_P tw dr 14 sc, A, J, 57))) rfl ?_
        obtain ⟨c10, hx11, h⟩ := tw_bindE h
        refine tw_callE (cd := tw_c48) rfl rfl rfl rfl rfl (e_X7_isWord I L A J tw dr 14 sc 1011 (by decide) _ hx11) (by exact Or.inl rfl) ?_
        by_cases hc12 : c10 = true
        · rw [if_pos hc12] at h
          refine tw_br (cd := tw_c48) rfl rfl rfl (by exact if_neg (tw_b_t hc12)) ?_
          refine tw_blk (cd := tw_c48) rfl 1 (c1 := (27, [some (.ref 26)], [.int 3], (I, L, tw_P tw dr 14 sc, A, J, 57))) rfl ?_
          have h := Option.some.inj h
          subst h
          exact tw_retE (cd := tw_c48) rfl rfl rfl rfl
        · rw [if_neg hc12] at h
          refine tw_br (cd := tw_c48) rfl rfl rfl (by exact if_pos (tw_b_f hc12)) ?_
          refine tw_blk (cd := tw_c48) rfl 3 (c1 := (31, [some (.ref 26)], [.ref 1008, .ref 32], (I, L, tw_P tw dr 14 sc, A, J, 57))) rfl ?_
          obtain ⟨c13, hx14, h⟩ := tw_bindE h
          refine tw_callE (cd := tw_c48) rfl rfl rfl rfl rfl (e_X7_isWord I L A J tw dr 14 sc 1008 (by decide) _ hx14) (by exact Or.inl rfl) ?_
          by_cases hc15 : c13 = true
          · rw [if_pos hc15] at h
            refine tw_br (cd := tw_c48) rfl rfl rfl (by exact if_neg (tw_b_t hc15)) ?_
            refine tw_blk (cd := tw_c48) rfl 1 (c1 := (34, [some (.ref 26)], [.int 4], (I, L, tw_P tw dr 14 sc, A, J, 57))) rfl ?_
            have h := Option.some.inj h
            subst h
            exact tw_retE (cd := tw_c48) rfl rfl rfl rfl
          · rw [if_neg hc15] at h
            refine tw_br (cd := tw_c48) rfl rfl rfl (by exact if_pos (tw_b_f hc15)) ?_
            refine tw_blk (cd := tw_c48) rfl 3 (c1 := (38, [some (.ref 26)], [.ref 1014, .ref 32], (I, L, tw_P tw dr 14 sc, A, J, 57))) rfl ?_
            obtain ⟨c16, hx17, h⟩ := tw_bindE h
            refine tw_callE (cd := tw_c48) rfl rfl rfl rfl rfl (e_X7_isWord I L A J tw dr 14 sc 1014 (by decide) _ hx17) (by exact Or.inl rfl) ?_
            by_cases hc18 : c16 = true
            · rw [if_pos hc18] at h
              refine tw_br (cd := tw_c48) rfl rfl rfl (by exact if_neg (tw_b_t hc18)) ?_
              refine tw_blk (cd := tw_c48) rfl 1 (c1 := (41, [some (.ref 26)], [.int 5], (I, L, tw_P tw dr 14 sc, A, J, 57))) rfl ?_
              have h := Option.some.inj h
              subst h
              exact tw_retE (cd := tw_c48) rfl rfl rfl rfl
            · rw [if_neg hc18] at h
              refine tw_br (cd := tw_c48) rfl rfl rfl (by exact if_pos (tw_b_f hc18)) ?_
              refine tw_blk (cd := tw_c48) rfl 3 (c1 := (45, [some (.ref 26)], [.ref 1009, .ref 32], (I, L, tw_P tw dr 14 sc, A, J, 57))) rfl ?_
              obtain ⟨c19, hx20, h⟩ := tw_bindE h
              refine tw_callE (cd := tw_c48) rfl rfl rfl rfl rfl (e_X7_isWord I L A J tw dr 14 sc 1009 (by decide) _ hx20) (by exact Or.inl rfl) ?_
              by_cases hc21 : c19 = true
              · rw [if_pos hc21] at h
                refine tw_br (cd := tw_c48) rfl rfl rfl (by exact if_neg (tw_b_t hc21)) ?_
                refine tw_blk (cd := tw_c48) rfl 1 (c1 := (48, [some (.ref 26)], [.int 6], (I, L, tw_P tw dr 14 sc, A, J, 57))) rfl ?_
                have h := Option.some.inj h
                subst h
                exact tw_retE (cd := tw_c48) rfl rfl rfl rfl
              · rw [if_neg hc21] at h
                refine tw_br (cd := tw_c48) rfl rfl rfl (by exact if_pos (tw_b_f hc21)) ?_
                refine tw_blk (cd := tw_c48) rfl 3 (c1 := (52, [some (.ref 26)], [.ref 1017, .ref 32], (I, L, tw_P tw dr 14 sc, A, J, 57))) rfl ?_
                obtain ⟨c22, hx23, h⟩ := tw_bindE h
                refine tw_callE (cd := tw_c48) rfl rfl rfl rfl rfl (e_X7_isWord I L A J tw dr 14 sc 1017 (by decide) _ hx23) (by exact Or.inl rfl) ?_
                by_cases hc24 : c22 = true
                · rw [if_pos hc24] at h
                  refine tw_br (cd := tw_c48) rfl rfl rfl (by exact if_neg (tw_b_t hc24)) ?_
                  refine tw_blk (cd := tw_c48) rfl 1 (c1 := (55, [some (.ref 26)], [.int 7], (I, L, tw_P tw dr 14 sc, A, J, 57))) rfl ?_
                  have h := Option.some.inj h
                  subst h
                  exact tw_retE (cd := tw_c48) rfl rfl rfl rfl
                · rw [if_neg hc24] at h
                  refine tw_br (cd := tw_c48) rfl rfl rfl (by exact if_pos (tw_b_f hc24)) ?_
                  refine tw_blk (cd := tw_c48) rfl 3 (c1 := (59, [some (.ref 26)], [.ref 1005, .ref 32], (I, L, tw_P tw dr 14 sc, A, J, 57))) rfl ?_
                  obtain ⟨c25, hx26, h⟩ := tw_bindE h
                  refine tw_callE (cd := tw_c48) rfl rfl rfl rfl rfl (e_X7_isWord I L A J tw dr 14 sc 1005 (by decide) _ hx26) (by exact Or.inl rfl) ?_
                  by_cases hc27 : c25 = true
                  · rw [if_pos hc27] at h
                    refine tw_br (cd := tw_c48) rfl rfl rfl (by exact if_neg (tw_b_t hc27)) ?_
                    refine tw_blk (cd := tw_c48) rfl 2 (c1 := (64, [some (.ref 26)], [.int 8], (I, L, tw_P tw dr 14 sc, A, J, 57))) rfl ?_
                    have h := Option.some.inj h
                    subst h
                    exact tw_retE (cd := tw_c48) rfl rfl rfl rfl
                  · rw [if_neg hc27] at h
                    refine tw_br (cd := tw_c48) rfl rfl rfl (by exact if_pos (tw_b_f hc27)) ?_
                    refine tw_blk (cd := tw_c48) rfl 1 (c1 := (64, [some (.ref 26)], [.int (-1)], (I, L, tw_P tw dr 14 sc, A, J, 57))) rfl ?_
                    have h := Option.some.inj h
                    subst h
                    exact tw_retE (cd := tw_c48) rfl rfl rfl rfl
theorem e_X8_count_14 (I : Nat → Int32) (L : Nat → Int64) (A : Nat → Nat → Int32) (J : Nat → Nat → Int64) (tw dr : Nat) (rt : Nat) (sc : Nat) (a1 : Int32) : ∀ r : Int32, g_X8_count_14 A a1 = r → tw_ME 100 (0, [some (.ref 14), some (.int a1)], [], (I, L, tw_P tw dr rt sc, A, J, 57)) (some (.int r), (I, L, tw_P tw dr rt sc, A, J, 57)) := by
  intro r h
  unfold g_X8_count_14 at h
  refine tw_blk (cd := tw_c100) rfl 3 (c1 := (3, [some (.ref 14), some (.int a1)], [.int a1, .ref 15], (I, L, tw_P tw dr rt sc, A, J, 57))) rfl ?_
  refine tw_callE (cd := tw_c100) rfl rfl rfl rfl rfl (tw_e_get I L (tw_P tw dr rt sc) A J (q := 15) (N := 9) rfl rfl (by decide) a1) (by exact Or.inl rfl) ?_
  subst h
  exact tw_retE (cd := tw_c100) rfl rfl rfl rfl
theorem e_X4_roomFor (I : Nat → Int32) (L : Nat → Int64) (A : Nat → Nat → Int32) (J : Nat → Nat → Int64) (tw dr : Nat) (sc : Nat) (a0 : Int32) : ∀ r : Int32, g_X4_roomFor a0 = r → tw_ME 50 (0, [some (.int a0)], [], (I, L, tw_P tw dr 14 sc, A, J, 57)) (some (.int r), (I, L, tw_P tw dr 14 sc, A, J, 57)) := by
  intro r h
  unfold g_X4_roomFor at h
  refine tw_blk (cd := tw_c50) rfl 1 (c1 := (1, [some (.int a0)], [.int a0], (I, L, tw_P tw dr 14 sc, A, J, 57))) rfl ?_
  by_cases hs1 : a0 = 1
  · rw [if_pos hs1] at h
    refine tw_swE (cd := tw_c50) rfl rfl rfl hs1 (by exact rfl) ?_
    refine tw_blk (cd := tw_c50) rfl 1 (c1 := (3, [some (.int a0)], [.int 6], (I, L, tw_P tw dr 14 sc, A, J, 57))) rfl ?_
    subst h
    exact tw_retE (cd := tw_c50) rfl rfl rfl rfl
  · rw [if_neg hs1] at h
    by_cases hs2 : a0 = 2
    · rw [if_pos hs2] at h
      refine tw_swE (cd := tw_c50) rfl rfl rfl hs2 (by exact rfl) ?_
      refine tw_blk (cd := tw_c50) rfl 1 (c1 := (5, [some (.int a0)], [.int 8], (I, L, tw_P tw dr 14 sc, A, J, 57))) rfl ?_
      subst h
      exact tw_retE (cd := tw_c50) rfl rfl rfl rfl
    · rw [if_neg hs2] at h
      by_cases hs3 : a0 = 3
      · rw [if_pos hs3] at h
        refine tw_swE (cd := tw_c50) rfl rfl rfl hs3 (by exact rfl) ?_
        refine tw_blk (cd := tw_c50) rfl 1 (c1 := (7, [some (.int a0)], [.int 6], (I, L, tw_P tw dr 14 sc, A, J, 57))) rfl ?_
        subst h
        exact tw_retE (cd := tw_c50) rfl rfl rfl rfl
      · rw [if_neg hs3] at h
        by_cases hs4 : a0 = 4
        · rw [if_pos hs4] at h
          refine tw_swE (cd := tw_c50) rfl rfl rfl hs4 (by exact rfl) ?_
          refine tw_blk (cd := tw_c50) rfl 1 (c1 := (9, [some (.int a0)], [.int 10], (I, L, tw_P tw dr 14 sc, A, J, 57))) rfl ?_
          subst h
          exact tw_retE (cd := tw_c50) rfl rfl rfl rfl
        · rw [if_neg hs4] at h
          by_cases hs5 : a0 = 5
          · rw [if_pos hs5] at h
            refine tw_swE (cd := tw_c50) rfl rfl rfl hs5 (by exact rfl) ?_
            refine tw_blk (cd := tw_c50) rfl 1 (c1 := (11, [some (.int a0)], [.int 3], (I, L, tw_P tw dr 14 sc, A, J, 57))) rfl ?_
            subst h
            exact tw_retE (cd := tw_c50) rfl rfl rfl rfl
          · rw [if_neg hs5] at h
            by_cases hs6 : a0 = 6
            · rw [if_pos hs6] at h
              refine tw_swE (cd := tw_c50) rfl rfl rfl hs6 (by exact rfl) ?_
              refine tw_blk (cd := tw_c50) rfl 1 (c1 := (15, [some (.int a0)], [.int 900], (I, L, tw_P tw dr 14 sc, A, J, 57))) rfl ?_
              subst h
              exact tw_retE (cd := tw_c50) rfl rfl rfl rfl
            · rw [if_neg hs6] at h
              by_cases hs7 : a0 = 7
              · rw [if_pos hs7] at h
                refine tw_swE (cd := tw_c50) rfl rfl rfl hs7 (by exact rfl) ?_
                refine tw_blk (cd := tw_c50) rfl 1 (c1 := (13, [some (.int a0)], [.int 4], (I, L, tw_P tw dr 14 sc, A, J, 57))) rfl ?_
                subst h
                exact tw_retE (cd := tw_c50) rfl rfl rfl rfl
              · rw [if_neg hs7] at h
                refine tw_tsD (cd := tw_c50) rfl rfl ?_ rfl ?_
                · by_cases h8 : (a0).toInt < 1
                  · exact Or.inl h8
                  · by_cases h9 : 7 < (a0).toInt
                    · exact Or.inr h9
                    · exfalso
                      have h7 : (a0).toInt = 1 ∨ (a0).toInt = 2 ∨ (a0).toInt = 3 ∨ (a0).toInt = 4 ∨ (a0).toInt = 5 ∨ (a0).toInt = 6 ∨ (a0).toInt = 7 := by omega
                      rcases h7 with h7 | h7 | h7 | h7 | h7 | h7 | h7
                      · exact (fun e9 => hs1 (Int32.toInt_inj.mp (e9.trans (by decide)))) h7
                      · exact (fun e9 => hs2 (Int32.toInt_inj.mp (e9.trans (by decide)))) h7
                      · exact (fun e9 => hs3 (Int32.toInt_inj.mp (e9.trans (by decide)))) h7
                      · exact (fun e9 => hs4 (Int32.toInt_inj.mp (e9.trans (by decide)))) h7
                      · exact (fun e9 => hs5 (Int32.toInt_inj.mp (e9.trans (by decide)))) h7
                      · exact (fun e9 => hs6 (Int32.toInt_inj.mp (e9.trans (by decide)))) h7
                      · exact (fun e9 => hs7 (Int32.toInt_inj.mp (e9.trans (by decide)))) h7
                refine tw_blk (cd := tw_c50) rfl 1 (c1 := (15, [some (.int a0)], [.int 900], (I, L, tw_P tw dr 14 sc, A, J, 57))) rfl ?_
                subst h
                exact tw_retE (cd := tw_c50) rfl rfl rfl rfl
