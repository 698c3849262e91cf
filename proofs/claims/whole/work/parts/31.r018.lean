/-! the machine does what the functions say -/
theorem e_X10_rests (I : Nat → Int32) (L : Nat → Int64) (A : Nat → Nat → Int32) (J : Nat → Nat → Int64) (rt : Nat) (sc : Nat) (a1 : Int32) : ∀ r : (Int32 × (Nat → Int32)), g_X10_rests I a1 = some r → tw_ME 300 (0, [some (.ref 44), some (.int a1), none], [], (I, L, tw_P 2 14 rt sc, A, J, 57)) (some (.int r.1), ((r.2), L, tw_P 2 14 rt sc, A, J, 57)) := by
  intro r h
  unfold g_X10_rests at h
  refine tw_blk (cd := tw_c300) rfl 1 (c1 := (1, [some (.ref 44), some (.int a1), none], [.ref 44], (I, L, tw_P 2 14 rt sc, A, J, 57))) rfl ?_
  obtain ⟨I1, hx2, h⟩ := tw_letE h
  refine tw_callE (cd := tw_c300) rfl rfl rfl rfl rfl (e_X10_good I L A J rt sc _ hx2) (by exact Or.inl rfl) ?_
  refine tw_blk (cd := tw_c300) rfl 6 (c1 := (8, [some (.ref 44), some (.int a1), none], [.int 9, .int 0, .int a1, .int (I1 4414), .ref 44], (I1, L, tw_P 2 14 rt sc, A, J, 57))) rfl ?_
  refine tw_callE (cd := tw_c300) rfl rfl rfl rfl rfl (e_X10_in I1 L A J rt sc a1 (0 : Int32) (9 : Int32) _ rfl) (by exact Or.inl rfl) ?_
  refine tw_callE (cd := tw_c300) rfl rfl rfl rfl rfl (e_X10_why I1 L A J rt sc (I1 4414) (tw_b (g_X10_in a1 (0 : Int32) (9 : Int32))) _ rfl) (by exact Or.inl rfl) ?_
  refine tw_blk (cd := tw_c300) rfl 2 (c1 := (12, [some (.ref 44), some (.int a1), some (.int (g_X10_why (I1 4414) (tw_b (g_X10_in a1 (0 : Int32) (9 : Int32)))))], [.int (g_X10_why (I1 4414) (tw_b (g_X10_in a1 (0 : Int32) (9 : Int32))))], (I1, L, tw_P 2 14 rt sc, A, J, 57))) rfl ?_
  by_cases hc3 : (g_X10_why (I1 4414) (tw_b (g_X10_in a1 (0 : Int32) (9 : Int32)))) = 0
  · rw [if_pos hc3] at h
    refine tw_br (cd := tw_c300) rfl rfl rfl (by exact if_pos hc3) ?_
    refine tw_blk (cd := tw_c300) rfl 2 (c1 := (19, [some (.ref 44), some (.int a1), some (.int (g_X10_why (I1 4414) (tw_b (g_X10_in a1 (0 : Int32) (9 : Int32)))))], [.int a1, .ref 44], (I1, L, tw_P 2 14 rt sc, A, J, 57))) rfl ?_
    obtain ⟨⟨x4, I5⟩, hx6, h⟩ := tw_bindE h
    dsimp only at h
    refine tw_callE (cd := tw_c300) rfl rfl rfl rfl rfl (e_X10_seekRests I1 L A J rt sc a1 _ hx6) (by exact Or.inl rfl) ?_
    have h := Option.some.inj h
    subst h
    exact tw_retE (cd := tw_c300) rfl rfl rfl rfl
  · rw [if_neg hc3] at h
    refine tw_br (cd := tw_c300) rfl rfl rfl (by exact if_neg hc3) ?_
    refine tw_blk (cd := tw_c300) rfl 2 (c1 := (15, [some (.ref 44), some (.int a1), some (.int (g_X10_why (I1 4414) (tw_b (g_X10_in a1 (0 : Int32) (9 : Int32)))))], [.int (g_X10_why (I1 4414) (tw_b (g_X10_in a1 (0 : Int32) (9 : Int32)))), .ref 44], (I1, L, tw_P 2 14 rt sc, A, J, 57))) rfl ?_
    obtain ⟨⟨x7, I8⟩, hx9, h⟩ := tw_letE h
    dsimp only at h
    refine tw_callE (cd := tw_c300) rfl rfl rfl rfl rfl (e_X10_no I1 L A J rt sc (g_X10_why (I1 4414) (tw_b (g_X10_in a1 (0 : Int32) (9 : Int32)))) _ hx9) (by exact Or.inl rfl) ?_
    refine tw_blk (cd := tw_c300) rfl 1 (c1 := (20, [some (.ref 44), some (.int a1), some (.int (g_X10_why (I1 4414) (tw_b (g_X10_in a1 (0 : Int32) (9 : Int32)))))], [.int x7], (I8, L, tw_P 2 14 rt sc, A, J, 57))) rfl ?_
    have h := Option.some.inj h
    subst h
    exact tw_retE (cd := tw_c300) rfl rfl rfl rfl
theorem g_X9_rest_L1_ok (I : Nat → Int32) (L : Nat → Int64) (A : Nat → Nat → Int32) (J : Nat → Nat → Int64) (rt : Nat) (sc : Nat) (a1 : Int32) (c1 : Bool) (I2 : Nat → Int32) (kont : Unit → Option (Int32 × (Nat → Int32))) (r : (Int32 × (Nat → Int32))) : ∀ (n : Nat) (v1_2 : Int32), g_X9_rest_L1 a1 I2 kont n v1_2 = some r → (∀ ex : Unit, kont ex = some r → tw_ME 154 (43, [some (.ref 0), none, none], [], (I2, L, tw_P 2 14 rt sc, A, J, 57)) (some (.int r.1), ((r.2), L, tw_P 2 14 rt sc, A, J, 57))) → tw_ME 154 (8, [some (.ref 0), some (.int a1), some (.int v1_2)], [], (I2, L, tw_P 2 14 rt sc, A, J, 57)) (some (.int r.1), ((r.2), L, tw_P 2 14 rt sc, A, J, 57)) := by
  intro n
  induction n with
  | zero =>
    intro v1_2 h _
    cases h
  | succ n ih =>
    intro v1_2 h K
    rw [g_X9_rest_L1] at h
    refine tw_blk (cd := tw_c154) rfl 1 (c1 := (9, [some (.ref 0), some (.int a1), some (.int v1_2)], [.int v1_2], (I2, L, tw_P 2 14 rt sc, A, J, 57))) rfl ?_
    refine tw_blk (cd := tw_c154) rfl 1 (c1 := (10, [some (.ref 0), some (.int a1), some (.int v1_2)], [.int 4, .int v1_2], (I2, L, tw_P 2 14 rt sc, A, J, 57))) rfl ?_
    by_cases hc5 : (4 : Int32) ≤ v1_2
    · rw [if_pos hc5] at h
      refine tw_br (cd := tw_c154) rfl rfl rfl (by exact if_pos hc5) ?_
      refine tw_forget (ls2 := [some (.ref 0), none, none]) ⟨rfl, trivial⟩ ?_
      exact K _ h
    · rw [if_neg hc5] at h
      refine tw_br (cd := tw_c154) rfl rfl rfl (by exact if_neg hc5) ?_
      refine tw_blk (cd := tw_c154) rfl 3 (c1 := (14, [some (.ref 0), some (.int a1), some (.int v1_2)], [.int 2, .int v1_2, .int a1], (I2, L, tw_P 2 14 rt sc, A, J, 57))) rfl ?_
      obtain ⟨x7, hj8, h⟩ := tw_bindE h
      have K : tw_ME 154 (18, [some (.ref 0), some (.int a1), some (.int v1_2)], [.int x7, .int a1], (I2, L, tw_P 2 14 rt sc, A, J, 57)) (some (.int r.1), ((r.2), L, tw_P 2 14 rt sc, A, J, 57)) := by
        refine tw_blk (cd := tw_c154) rfl 2 (c1 := (20, [some (.ref 0), some (.int a1), some (.int v1_2)], [.int 2, .int v1_2, .int x7, .int a1], (I2, L, tw_P 2 14 rt sc, A, J, 57))) rfl ?_
        refine tw_br (cd := tw_c154) rfl rfl rfl (by exact rfl) ?_
        refine tw_blk (cd := tw_c154) rfl 1 (c1 := (22, [some (.ref 0), some (.int a1), some (.int v1_2)], [.int 1, .int (v1_2 - v1_2 / (2 : Int32) * (2 : Int32)), .int x7, .int a1], (I2, L, tw_P 2 14 rt sc, A, J, 57))) rfl ?_
        obtain ⟨x10, hj11, h⟩ := tw_bindE h
        have K : tw_ME 154 (26, [some (.ref 0), some (.int a1), some (.int v1_2)], [.int x10, .int x7, .int a1], (I2, L, tw_P 2 14 rt sc, A, J, 57)) (some (.int r.1), ((r.2), L, tw_P 2 14 rt sc, A, J, 57)) := by
          refine tw_callE (cd := tw_c154) rfl rfl rfl rfl rfl (e_X9_isRest I2 L A J rt sc a1 x7 x10 _ rfl) (by exact Or.inl rfl) ?_
          by_cases hc12 : (g_X9_isRest a1 x7 x10) = true
          · rw [if_pos hc12] at h
            refine tw_br (cd := tw_c154) rfl rfl rfl (by exact if_neg (tw_b_t hc12)) ?_
            refine tw_blk (cd := tw_c154) rfl 3 (c1 := (31, [some (.ref 0), some (.int a1), some (.int v1_2)], [.int 2, .int v1_2, .ref 0], (I2, L, tw_P 2 14 rt sc, A, J, 57))) rfl ?_
            obtain ⟨x14, hj15, h⟩ := tw_bindE h
            have K : tw_ME 154 (35, [none, none, some (.int v1_2)], [.int x14, .ref 0], (I2, L, tw_P 2 14 rt sc, A, J, 57)) (some (.int r.1), ((r.2), L, tw_P 2 14 rt sc, A, J, 57)) := by
              refine tw_blk (cd := tw_c154) rfl 2 (c1 := (37, [none, none, some (.int v1_2)], [.int 2, .int v1_2, .int x14, .ref 0], (I2, L, tw_P 2 14 rt sc, A, J, 57))) rfl ?_
              refine tw_br (cd := tw_c154) rfl rfl rfl (by exact rfl) ?_
              refine tw_blk (cd := tw_c154) rfl 1 (c1 := (39, [none, none, some (.int v1_2)], [.int (x14 + (v1_2 - v1_2 / (2 : Int32) * (2 : Int32))), .ref 0], (I2, L, tw_P 2 14 rt sc, A, J, 57))) rfl ?_
              obtain ⟨⟨x16, I17⟩, hx18, h⟩ := tw_letE h
              dsimp only at h
              refine tw_callE (cd := tw_c154) rfl rfl rfl rfl rfl (e_X9_grant I2 L A J rt sc (x14 + (v1_2 - v1_2 / (2 : Int32) * (2 : Int32))) _ hx18) (by exact Or.inl rfl) ?_
              have h := Option.some.inj h
              subst h
              exact tw_retE (cd := tw_c154) rfl rfl rfl rfl
            by_cases hc13 : v1_2 < (2 : Int32)
            · rw [if_pos hc13] at hj15
              refine tw_br (cd := tw_c154) rfl rfl rfl (by exact if_pos hc13) ?_
              refine tw_blk (cd := tw_c154) rfl 1 (c1 := (35, [some (.ref 0), some (.int a1), some (.int v1_2)], [.int 0, .ref 0], (I2, L, tw_P 2 14 rt sc, A, J, 57))) rfl ?_
              refine tw_forget (ls2 := [none, none, some (.int v1_2)]) ⟨rfl, trivial⟩ ?_
              have hj15s := Option.some.inj hj15
              subst hj15s
              exact K
            · rw [if_neg hc13] at hj15
              refine tw_br (cd := tw_c154) rfl rfl rfl (by exact if_neg hc13) ?_
              refine tw_blk (cd := tw_c154) rfl 2 (c1 := (35, [some (.ref 0), some (.int a1), some (.int v1_2)], [.int 10, .ref 0], (I2, L, tw_P 2 14 rt sc, A, J, 57))) rfl ?_
              refine tw_forget (ls2 := [none, none, some (.int v1_2)]) ⟨rfl, trivial⟩ ?_
              have hj15s := Option.some.inj hj15
              subst hj15s
              exact K
          · rw [if_neg hc12] at h
            refine tw_br (cd := tw_c154) rfl rfl rfl (by exact if_pos (tw_b_f hc12)) ?_
            refine tw_blk (cd := tw_c154) rfl 2 (c1 := (8, [some (.ref 0), some (.int a1), some (.int (v1_2 + (1 : Int32)))], [], (I2, L, tw_P 2 14 rt sc, A, J, 57))) rfl ?_
            exact ih (v1_2 + (1 : Int32)) h K
        by_cases hc9 : (v1_2 - v1_2 / (2 : Int32) * (2 : Int32)) = (1 : Int32)
        · rw [if_pos hc9] at hj11
          refine tw_br (cd := tw_c154) rfl rfl rfl (by exact if_pos hc9) ?_
          refine tw_blk (cd := tw_c154) rfl 2 (c1 := (26, [some (.ref 0), some (.int a1), some (.int v1_2)], [.int 1, .int x7, .int a1], (I2, L, tw_P 2 14 rt sc, A, J, 57))) rfl ?_
          have hj11s := Option.some.inj hj11
          subst hj11s
          exact K
        · rw [if_neg hc9] at hj11
          refine tw_br (cd := tw_c154) rfl rfl rfl (by exact if_neg hc9) ?_
          refine tw_blk (cd := tw_c154) rfl 1 (c1 := (26, [some (.ref 0), some (.int a1), some (.int v1_2)], [.int 0, .int x7, .int a1], (I2, L, tw_P 2 14 rt sc, A, J, 57))) rfl ?_
          have hj11s := Option.some.inj hj11
          subst hj11s
          exact K
      by_cases hc6 : v1_2 < (2 : Int32)
      · rw [if_pos hc6] at hj8
        refine tw_br (cd := tw_c154) rfl rfl rfl (by exact if_pos hc6) ?_
        refine tw_blk (cd := tw_c154) rfl 1 (c1 := (18, [some (.ref 0), some (.int a1), some (.int v1_2)], [.int 0, .int a1], (I2, L, tw_P 2 14 rt sc, A, J, 57))) rfl ?_
        have hj8s := Option.some.inj hj8
        subst hj8s
        exact K
      · rw [if_neg hc6] at hj8
        refine tw_br (cd := tw_c154) rfl rfl rfl (by exact if_neg hc6) ?_
        refine tw_blk (cd := tw_c154) rfl 2 (c1 := (18, [some (.ref 0), some (.int a1), some (.int v1_2)], [.int 1, .int a1], (I2, L, tw_P 2 14 rt sc, A, J, 57))) rfl ?_
        have hj8s := Option.some.inj hj8
        subst hj8s
        exact K
theorem e_X9_rest (I : Nat → Int32) (L : Nat → Int64) (A : Nat → Nat → Int32) (J : Nat → Nat → Int64) (rt : Nat) (sc : Nat) (a1 : Int32) : ∀ r : (Int32 × (Nat → Int32)), g_X9_rest I A a1 = some r → tw_ME 154 (0, [some (.ref 0), some (.int a1), none], [], (I, L, tw_P 2 14 rt sc, A, J, 57)) (some (.int r.1), ((r.2), L, tw_P 2 14 rt sc, A, J, 57)) := by
  intro r h
  unfold g_X9_rest at h
  refine tw_blk (cd := tw_c154) rfl 2 (c1 := (2, [some (.ref 0), some (.int a1), none], [.int a1, .ref 0], (I, L, tw_P 2 14 rt sc, A, J, 57))) rfl ?_
  obtain ⟨⟨c1, I2⟩, hx3, h⟩ := tw_letE h
  dsimp only at h
  refine tw_callE (cd := tw_c154) rfl rfl rfl rfl rfl (e_X9_mayNotHeat I L A J rt sc a1 _ hx3) (by exact Or.inl rfl) ?_
  by_cases hc4 : c1 = true
  · rw [if_pos hc4] at h
    refine tw_br (cd := tw_c154) rfl rfl rfl (by exact if_neg (tw_b_t hc4)) ?_
    refine tw_blk (cd := tw_c154) rfl 1 (c1 := (5, [some (.ref 0), some (.int a1), none], [.int (-1)], (I2, L, tw_P 2 14 rt sc, A, J, 57))) rfl ?_
    have h := Option.some.inj h
    subst h
    exact tw_retE (cd := tw_c154) rfl rfl rfl rfl
  · rw [if_neg hc4] at h
    refine tw_br (cd := tw_c154) rfl rfl rfl (by exact if_pos (tw_b_f hc4)) ?_
    refine tw_blk (cd := tw_c154) rfl 2 (c1 := (8, [some (.ref 0), some (.int a1), some (.int 0)], [], (I2, L, tw_P 2 14 rt sc, A, J, 57))) rfl ?_
    refine g_X9_rest_L1_ok I L A J rt sc a1 c1 I2 _ r 4096 (0 : Int32) h (fun ex h => ?_)
    refine tw_blk (cd := tw_c154) rfl 2 (c1 := (45, [some (.ref 0), none, none], [.int (-2), .ref 0], (I2, L, tw_P 2 14 rt sc, A, J, 57))) rfl ?_
    obtain ⟨⟨x19, I20⟩, hx21, h⟩ := tw_letE h
    dsimp only at h
    refine tw_callE (cd := tw_c154) rfl rfl rfl rfl rfl (e_X9_grant I2 L A J rt sc (-2 : Int32) _ hx21) (by exact Or.inl rfl) ?_
    have h := Option.some.inj h
    subst h
    exact tw_retE (cd := tw_c154) rfl rfl rfl rfl
theorem e_X10_rest (I : Nat → Int32) (L : Nat → Int64) (A : Nat → Nat → Int32) (J : Nat → Nat → Int64) (rt : Nat) (sc : Nat) (a1 : Int32) : ∀ r : (Int32 × (Nat → Int32)), g_X10_rest I a1 = some r → tw_ME 301 (0, [some (.ref 44), some (.int a1), none], [], (I, L, tw_P 2 14 rt sc, A, J, 57)) (some (.int r.1), ((r.2), L, tw_P 2 14 rt sc, A, J, 57)) := by
  intro r h
  unfold g_X10_rest at h
  refine tw_blk (cd := tw_c301) rfl 1 (c1 := (1, [some (.ref 44), some (.int a1), none], [.ref 44], (I, L, tw_P 2 14 rt sc, A, J, 57))) rfl ?_
  obtain ⟨I1, hx2, h⟩ := tw_letE h
  refine tw_callE (cd := tw_c301) rfl rfl rfl rfl rfl (e_X10_good I L A J rt sc _ hx2) (by exact Or.inl rfl) ?_
  refine tw_blk (cd := tw_c301) rfl 6 (c1 := (8, [some (.ref 44), some (.int a1), none], [.int 9, .int 0, .int a1, .int (I1 4414), .ref 44], (I1, L, tw_P 2 14 rt sc, A, J, 57))) rfl ?_
  refine tw_callE (cd := tw_c301) rfl rfl rfl rfl rfl (e_X10_in I1 L A J rt sc a1 (0 : Int32) (9 : Int32) _ rfl) (by exact Or.inl rfl) ?_
  refine tw_callE (cd := tw_c301) rfl rfl rfl rfl rfl (e_X10_why I1 L A J rt sc (I1 4414) (tw_b (g_X10_in a1 (0 : Int32) (9 : Int32))) _ rfl) (by exact Or.inl rfl) ?_
  refine tw_blk (cd := tw_c301) rfl 2 (c1 := (12, [some (.ref 44), some (.int a1), some (.int (g_X10_why (I1 4414) (tw_b (g_X10_in a1 (0 : Int32) (9 : Int32)))))], [.int (g_X10_why (I1 4414) (tw_b (g_X10_in a1 (0 : Int32) (9 : Int32))))], (I1, L, tw_P 2 14 rt sc, A, J, 57))) rfl ?_
  by_cases hc3 : (g_X10_why (I1 4414) (tw_b (g_X10_in a1 (0 : Int32) (9 : Int32)))) = 0
  · rw [if_pos hc3] at h
    refine tw_br (cd := tw_c301) rfl rfl rfl (by exact if_pos hc3) ?_
    refine tw_blk (cd := tw_c301) rfl 2 (c1 := (19, [some (.ref 44), some (.int a1), some (.int (g_X10_why (I1 4414) (tw_b (g_X10_in a1 (0 : Int32) (9 : Int32)))))], [.int a1, .ref 44], (I1, L, tw_P 2 14 rt sc, A, J, 57))) rfl ?_
    obtain ⟨⟨x4, I5⟩, hx6, h⟩ := tw_bindE h
    dsimp only at h
    refine tw_callE (cd := tw_c301) rfl rfl rfl rfl rfl (e_X10_seekRests I1 L A J rt sc a1 _ hx6) (by exact Or.inl rfl) ?_
    refine tw_blk (cd := tw_c301) rfl 3 (c1 := (23, [some (.ref 44), some (.int a1), some (.int (g_X10_why (I1 4414) (tw_b (g_X10_in a1 (0 : Int32) (9 : Int32)))))], [.int (I5 4436)], (I5, L, tw_P 2 14 rt sc, A, J, 57))) rfl ?_
    have h := Option.some.inj h
    subst h
    exact tw_retE (cd := tw_c301) rfl rfl rfl rfl
  · rw [if_neg hc3] at h
    refine tw_br (cd := tw_c301) rfl rfl rfl (by exact if_neg hc3) ?_
    refine tw_blk (cd := tw_c301) rfl 2 (c1 := (15, [some (.ref 44), some (.int a1), some (.int (g_X10_why (I1 4414) (tw_b (g_X10_in a1 (0 : Int32) (9 : Int32)))))], [.int (g_X10_why (I1 4414) (tw_b (g_X10_in a1 (0 : Int32) (9 : Int32)))), .ref 44], (I1, L, tw_P 2 14 rt sc, A, J, 57))) rfl ?_
    obtain ⟨⟨x7, I8⟩, hx9, h⟩ := tw_letE h
    dsimp only at h
    refine tw_callE (cd := tw_c301) rfl rfl rfl rfl rfl (e_X10_no I1 L A J rt sc (g_X10_why (I1 4414) (tw_b (g_X10_in a1 (0 : Int32) (9 : Int32)))) _ hx9) (by exact Or.inl rfl) ?_
    have h := Option.some.inj h
    subst h
    exact tw_retE (cd := tw_c301) rfl rfl rfl rfl
theorem e_X1_leftOf (I : Nat → Int32) (L : Nat → Int64) (A : Nat → Nat → Int32) (J : Nat → Nat → Int64) (rt : Nat) (a0 : Int64) (a1 : Int32) : ∀ r : Int64, g_X1_leftOf a0 a1 = r → tw_ME 21 (0, [some (.long a0), none, some (.int a1)], [], (I, L, tw_P 2 14 rt 2, A, J, 57)) (some (.long r), (I, L, tw_P 2 14 rt 2, A, J, 57)) := by
  intro r h
  unfold g_X1_leftOf at h
  refine tw_blk (cd := tw_c21) rfl 2 (c1 := (2, [some (.long a0), none, some (.int a1)], [.int 6, .int a1], (I, L, tw_P 2 14 rt 2, A, J, 57))) rfl ?_
  by_cases hc1 : a1 < (6 : Int32)
  · rw [if_pos hc1] at h
    refine tw_br (cd := tw_c21) rfl rfl rfl (by exact if_pos hc1) ?_
    refine tw_blk (cd := tw_c21) rfl 1 (c1 := (6, [some (.long a0), none, some (.int a1)], [.long a0], (I, L, tw_P 2 14 rt 2, A, J, 57))) rfl ?_
    subst h
    exact tw_retE (cd := tw_c21) rfl rfl rfl rfl
  · rw [if_neg hc1] at h
    refine tw_br (cd := tw_c21) rfl rfl rfl (by exact if_neg hc1) ?_
    refine tw_blk (cd := tw_c21) rfl 2 (c1 := (6, [some (.long a0), none, some (.int a1)], [.long 0], (I, L, tw_P 2 14 rt 2, A, J, 57))) rfl ?_
    subst h
    exact tw_retE (cd := tw_c21) rfl rfl rfl rfl
theorem g_X1_weigh_L1_ok (I : Nat → Int32) (L : Nat → Int64) (A : Nat → Nat → Int32) (J : Nat → Nat → Int64) (rt : Nat) (a1 : Int32) (a2 : Int32) (A1 : Nat → Nat → Int32) (kont : (Int64 × Int64 × Int64 × (Nat → Int64)) → Option ((Nat → Int64) × (Nat → Nat → Int32))) (r : ((Nat → Int64) × (Nat → Nat → Int32))) : ∀ (n : Nat) (v1_6 : Int64) (v1_8 : Int64) (v1_10 : Int64) (v1_12 : Int32) (v1_13 : Int32) (v1_14 : Int32) (L_1 : Nat → Int64), g_X1_weigh_L1 a1 a2 A1 kont n v1_6 v1_8 v1_10 v1_12 v1_13 v1_14 L_1 = some r → (∀ ex : (Int64 × Int64 × Int64 × (Nat → Int64)), kont ex = some r → tw_ME 20 (131, [some (.ref 39), none, none, none, none, none, some (.long (ex.1)), none, some (.long (ex.2.1)), none, some (.long (ex.2.2.1)), none, none, none, none, none], [], (I, (ex.2.2.2), tw_P 2 14 rt 2, A1, J, 57)) (none, (I, (r.1), tw_P 2 14 rt 2, (r.2), J, 57))) → tw_ME 20 (42, [some (.ref 39), some (.int a1), some (.int a2), some (.int (g_X8_twoOf_2 A1 a1)), some (.int (g_X8_fact_2 A1 a1 (3 : Int32))), some (.int (g_X8_count_2 A1 (0 : Int32))), some (.long v1_6), none, some (.long v1_8), none, some (.long v1_10), none, some (.int v1_12), some (.int v1_13), some (.int v1_14), none], [], (I, L_1, tw_P 2 14 rt 2, A1, J, 57)) (none, (I, (r.1), tw_P 2 14 rt 2, (r.2), J, 57)) := by
  intro n
  induction n with
  | zero =>
    intro v1_6 v1_8 v1_10 v1_12 v1_13 v1_14 L_1 h _
    cases h
  | succ n ih =>
    intro v1_6 v1_8 v1_10 v1_12 v1_13 v1_14 L_1 h K
    rw [g_X1_weigh_L1] at h
    refine tw_blk (cd := tw_c20) rfl 1 (c1 := (43, [some (.ref 39), some (.int a1), some (.int a2), some (.int (g_X8_twoOf_2 A1 a1)), some (.int (g_X8_fact_2 A1 a1 (3 : Int32))), some (.int (g_X8_count_2 A1 (0 : Int32))), some (.long v1_6), none, some (.long v1_8), none, some (.long v1_10), none, some (.int v1_12), some (.int v1_13), some (.int v1_14), none], [.int v1_14], (I, L_1, tw_P 2 14 rt 2, A1, J, 57))) rfl ?_
    refine tw_blk (cd := tw_c20) rfl 1 (c1 := (44, [some (.ref 39), some (.int a1), some (.int a2), some (.int (g_X8_twoOf_2 A1 a1)), some (.int (g_X8_fact_2 A1 a1 (3 : Int32))), some (.int (g_X8_count_2 A1 (0 : Int32))), some (.long v1_6), none, some (.long v1_8), none, some (.long v1_10), none, some (.int v1_12), some (.int v1_13), some (.int v1_14), none], [.int 60, .int v1_14], (I, L_1, tw_P 2 14 rt 2, A1, J, 57))) rfl ?_
    by_cases hc7 : (60 : Int32) ≤ v1_14
    · rw [if_pos hc7] at h
      refine tw_br (cd := tw_c20) rfl rfl rfl (by exact if_pos hc7) ?_
      refine tw_forget (ls2 := [some (.ref 39), none, none, none, none, none, some (.long v1_6), none, some (.long v1_8), none, some (.long v1_10), none, none, none, none, none]) ⟨rfl, rfl, rfl, rfl, trivial⟩ ?_
      exact K _ h
    · rw [if_neg hc7] at h
      refine tw_br (cd := tw_c20) rfl rfl rfl (by exact if_neg hc7) ?_
      refine tw_blk (cd := tw_c20) rfl 4 (c1 := (49, [some (.ref 39), some (.int a1), some (.int a2), some (.int (g_X8_twoOf_2 A1 a1)), some (.int (g_X8_fact_2 A1 a1 (3 : Int32))), some (.int (g_X8_count_2 A1 (0 : Int32))), some (.long v1_6), none, some (.long v1_8), none, some (.long v1_10), none, some (.int v1_12), some (.int v1_13), some (.int v1_14), none], [.int ((g_X8_fact_2 A1 a1 (3 : Int32)) + a2), .int v1_14], (I, L_1, tw_P 2 14 rt 2, A1, J, 57))) rfl ?_
      by_cases hc8 : ((g_X8_fact_2 A1 a1 (3 : Int32)) + a2) ≤ v1_14
      · rw [if_pos hc8] at h
        refine tw_br (cd := tw_c20) rfl rfl rfl (by exact if_pos hc8) ?_
        refine tw_forget (ls2 := [some (.ref 39), none, none, none, none, none, some (.long v1_6), none, some (.long v1_8), none, some (.long v1_10), none, none, none, none, none]) ⟨rfl, rfl, rfl, rfl, trivial⟩ ?_
        exact K _ h
      · rw [if_neg hc8] at h
        refine tw_br (cd := tw_c20) rfl rfl rfl (by exact if_neg hc8) ?_
        refine tw_blk (cd := tw_c20) rfl 4 (c1 := (54, [some (.ref 39), some (.int a1), some (.int a2), some (.int (g_X8_twoOf_2 A1 a1)), some (.int (g_X8_fact_2 A1 a1 (3 : Int32))), some (.int (g_X8_count_2 A1 (0 : Int32))), some (.long v1_6), none, some (.long v1_8), none, some (.long v1_10), none, some (.int v1_12), some (.int v1_13), some (.int v1_14), none], [.int v1_14, .ref 40, .int v1_12], (I, L_1, tw_P 2 14 rt 2, A1, J, 57))) rfl ?_
        refine tw_callE (cd := tw_c20) rfl rfl rfl rfl rfl (tw_e_get I L_1 (tw_P 2 14 rt 2) A1 J (q := 40) (N := 60) rfl rfl (by decide) v1_14) (by exact Or.inl rfl) ?_
        refine tw_blk (cd := tw_c20) rfl 9 (c1 := (64, [some (.ref 39), some (.int a1), some (.int a2), some (.int (g_X8_twoOf_2 A1 a1)), some (.int (g_X8_fact_2 A1 a1 (3 : Int32))), some (.int (g_X8_count_2 A1 (0 : Int32))), some (.long v1_6), none, some (.long v1_8), none, some (.long v1_10), none, some (.int (v1_12 ||| ((tw_get0 60 (A1 40) v1_14) &&& ((g_X8_twoOf_2 A1 a1) ^^^ (-1 : Int32))))), some (.int v1_13), some (.int v1_14), none], [.int (v1_12 ||| ((tw_get0 60 (A1 40) v1_14) &&& ((g_X8_twoOf_2 A1 a1) ^^^ (-1 : Int32)))), .ref 36], (I, L_1, tw_P 2 14 rt 2, A1, J, 57))) rfl ?_
        obtain ⟨x9, hx10, h⟩ := tw_bindE h
        refine tw_callE (cd := tw_c20) rfl rfl rfl rfl rfl (e_X6_eyesOf I L_1 A1 J rt (v1_12 ||| ((tw_get0 60 (A1 40) v1_14) &&& ((g_X8_twoOf_2 A1 a1) ^^^ (-1 : Int32)))) _ hx10) (by exact Or.inl rfl) ?_
        refine tw_blk (cd := tw_c20) rfl 15 (c1 := (80, [some (.ref 39), some (.int a1), some (.int a2), some (.int (g_X8_twoOf_2 A1 a1)), some (.int (g_X8_fact_2 A1 a1 (3 : Int32))), some (.int (g_X8_count_2 A1 (0 : Int32))), some (.long v1_6), none, some (.long v1_8), none, some (.long v1_10), none, some (.int (v1_12 ||| ((tw_get0 60 (A1 40) v1_14) &&& ((g_X8_twoOf_2 A1 a1) ^^^ (-1 : Int32))))), some (.int v1_13), some (.int v1_14), some (.int x9)], [.int (x9 + (4 : Int32)), .long ((v1_10 * ((((100 : Int32) - (g_X8_count_2 A1 (0 : Int32)))).toInt64)) + (v1_8 * (((g_X8_count_2 A1 (0 : Int32))).toInt64)))], (I, L_1, tw_P 2 14 rt 2, A1, J, 57))) rfl ?_
        refine tw_callE (cd := tw_c20) rfl rfl rfl rfl rfl (e_X1_leftOf I L_1 A1 J rt ((v1_10 * ((((100 : Int32) - (g_X8_count_2 A1 (0 : Int32)))).toInt64)) + (v1_8 * (((g_X8_count_2 A1 (0 : Int32))).toInt64))) (x9 + (4 : Int32)) _ rfl) (by exact Or.inl rfl) ?_
        refine tw_blk (cd := tw_c20) rfl 15 (c1 := (96, [some (.ref 39), some (.int a1), some (.int a2), some (.int (g_X8_twoOf_2 A1 a1)), some (.int (g_X8_fact_2 A1 a1 (3 : Int32))), some (.int (g_X8_count_2 A1 (0 : Int32))), some (.long v1_6), none, some (.long v1_8), none, some (.long (g_X1_leftOf ((v1_10 * ((((100 : Int32) - (g_X8_count_2 A1 (0 : Int32)))).toInt64)) + (v1_8 * (((g_X8_count_2 A1 (0 : Int32))).toInt64))) (x9 + (4 : Int32)))), none, some (.int (v1_12 ||| ((tw_get0 60 (A1 40) v1_14) &&& ((g_X8_twoOf_2 A1 a1) ^^^ (-1 : Int32))))), some (.int v1_13), some (.int v1_14), some (.int x9)], [.int (x9 + (2 : Int32)), .long ((v1_8 * ((((100 : Int32) - (g_X8_count_2 A1 (0 : Int32)))).toInt64)) + (v1_6 * (((g_X8_count_2 A1 (0 : Int32))).toInt64)))], (I, L_1, tw_P 2 14 rt 2, A1, J, 57))) rfl ?_
        refine tw_callE (cd := tw_c20) rfl rfl rfl rfl rfl (e_X1_leftOf I L_1 A1 J rt ((v1_8 * ((((100 : Int32) - (g_X8_count_2 A1 (0 : Int32)))).toInt64)) + (v1_6 * (((g_X8_count_2 A1 (0 : Int32))).toInt64))) (x9 + (2 : Int32)) _ rfl) (by exact Or.inl rfl) ?_
        refine tw_blk (cd := tw_c20) rfl 8 (c1 := (105, [some (.ref 39), some (.int a1), some (.int a2), some (.int (g_X8_twoOf_2 A1 a1)), some (.int (g_X8_fact_2 A1 a1 (3 : Int32))), some (.int (g_X8_count_2 A1 (0 : Int32))), some (.long v1_6), none, some (.long (g_X1_leftOf ((v1_8 * ((((100 : Int32) - (g_X8_count_2 A1 (0 : Int32)))).toInt64)) + (v1_6 * (((g_X8_count_2 A1 (0 : Int32))).toInt64))) (x9 + (2 : Int32)))), none, some (.long (g_X1_leftOf ((v1_10 * ((((100 : Int32) - (g_X8_count_2 A1 (0 : Int32)))).toInt64)) + (v1_8 * (((g_X8_count_2 A1 (0 : Int32))).toInt64))) (x9 + (4 : Int32)))), none, some (.int (v1_12 ||| ((tw_get0 60 (A1 40) v1_14) &&& ((g_X8_twoOf_2 A1 a1) ^^^ (-1 : Int32))))), some (.int v1_13), some (.int v1_14), some (.int x9)], [.int x9, .long (v1_6 * ((((100 : Int32) - (g_X8_count_2 A1 (0 : Int32)))).toInt64))], (I, L_1, tw_P 2 14 rt 2, A1, J, 57))) rfl ?_
        refine tw_callE (cd := tw_c20) rfl rfl rfl rfl rfl (e_X1_leftOf I L_1 A1 J rt (v1_6 * ((((100 : Int32) - (g_X8_count_2 A1 (0 : Int32)))).toInt64)) x9 _ rfl) (by exact Or.inl rfl) ?_
        refine tw_blk (cd := tw_c20) rfl 10 (c1 := (116, [some (.ref 39), some (.int a1), some (.int a2), some (.int (g_X8_twoOf_2 A1 a1)), some (.int (g_X8_fact_2 A1 a1 (3 : Int32))), some (.int (g_X8_count_2 A1 (0 : Int32))), some (.long (g_X1_leftOf (v1_6 * ((((100 : Int32) - (g_X8_count_2 A1 (0 : Int32)))).toInt64)) x9)), none, some (.long (g_X1_leftOf ((v1_8 * ((((100 : Int32) - (g_X8_count_2 A1 (0 : Int32)))).toInt64)) + (v1_6 * (((g_X8_count_2 A1 (0 : Int32))).toInt64))) (x9 + (2 : Int32)))), none, some (.long (g_X1_leftOf ((v1_10 * ((((100 : Int32) - (g_X8_count_2 A1 (0 : Int32)))).toInt64)) + (v1_8 * (((g_X8_count_2 A1 (0 : Int32))).toInt64))) (x9 + (4 : Int32)))), none, some (.int (v1_12 ||| ((tw_get0 60 (A1 40) v1_14) &&& ((g_X8_twoOf_2 A1 a1) ^^^ (-1 : Int32))))), some (.int v1_13), some (.int v1_14), some (.int x9)], [.int a1, .ref 39, .int v1_13], (I, (vp_updL L_1 3909 ((L_1 3909) * (100 : Int64))), tw_P 2 14 rt 2, A1, J, 57))) rfl ?_
        refine tw_callE (cd := tw_c20) rfl rfl rfl rfl rfl (e_X1_gainOf I (vp_updL L_1 3909 ((L_1 3909) * (100 : Int64))) A1 J rt a1 _ rfl) (by exact Or.inl rfl) ?_
        refine tw_blk (cd := tw_c20) rfl 3 (c1 := (120, [some (.ref 39), some (.int a1), some (.int a2), some (.int (g_X8_twoOf_2 A1 a1)), some (.int (g_X8_fact_2 A1 a1 (3 : Int32))), some (.int (g_X8_count_2 A1 (0 : Int32))), some (.long (g_X1_leftOf (v1_6 * ((((100 : Int32) - (g_X8_count_2 A1 (0 : Int32)))).toInt64)) x9)), none, some (.long (g_X1_leftOf ((v1_8 * ((((100 : Int32) - (g_X8_count_2 A1 (0 : Int32)))).toInt64)) + (v1_6 * (((g_X8_count_2 A1 (0 : Int32))).toInt64))) (x9 + (2 : Int32)))), none, some (.long (g_X1_leftOf ((v1_10 * ((((100 : Int32) - (g_X8_count_2 A1 (0 : Int32)))).toInt64)) + (v1_8 * (((g_X8_count_2 A1 (0 : Int32))).toInt64))) (x9 + (4 : Int32)))), none, some (.int (v1_12 ||| ((tw_get0 60 (A1 40) v1_14) &&& ((g_X8_twoOf_2 A1 a1) ^^^ (-1 : Int32))))), some (.int (v1_13 + (g_X1_gainOf A1 a1))), some (.int v1_14), some (.int x9)], [.int (v1_13 + (g_X1_gainOf A1 a1))], (I, (vp_updL L_1 3909 ((L_1 3909) * (100 : Int64))), tw_P 2 14 rt 2, A1, J, 57))) rfl ?_
        refine tw_slen (cd := tw_c20) rfl rfl h(v1_13 + (g_X1_gainOf A1 a1)) rfl ?_
        refine tw_blk (cd := tw_c20) rfl 5 (c1 := (126, [some (.ref 39), some (.int a1), some (.int a2), some (.int (g_X8_twoOf_2 A1 a1)), some (.int (g_X8_fact_2 A1 a1 (3 : Int32))), some (.int (g_X8_count_2 A1 (0 : Int32))), some (.long (g_X1_leftOf (v1_6 * ((((100 : Int32) - (g_X8_count_2 A1 (0 : Int32)))).toInt64)) x9)), none, some (.long (g_X1_leftOf ((v1_8 * ((((100 : Int32) - (g_X8_count_2 A1 (0 : Int32)))).toInt64)) + (v1_6 * (((g_X8_count_2 A1 (0 : Int32))).toInt64))) (x9 + (2 : Int32)))), none, some (.long (g_X1_leftOf ((v1_10 * ((((100 : Int32) - (g_X8_count_2 A1 (0 : Int32)))).toInt64)) + (v1_8 * (((g_X8_count_2 A1 (0 : Int32))).toInt64))) (x9 + (4 : Int32)))), none, some (.int (v1_12 ||| ((tw_get0 60 (A1 40) v1_14) &&& ((g_X8_twoOf_2 A1 a1) ^^^ (-1 : Int32))))), some (.int (v1_13 + (g_X1_gainOf A1 a1))), some (.int v1_14), some (.int x9)], [.int 4, .int a1, .ref 2, .int (Int32.ofNat (tw_lenS (v1_13 + (g_X1_gainOf A1 a1))))], (I, (vp_updL L_1 3909 ((L_1 3909) * (100 : Int64))), tw_P 2 14 rt 2, A1, J, 57))) rfl ?_
        refine tw_callE (cd := tw_c20) rfl rfl rfl rfl rfl (e_X8_fact_2 I (vp_updL L_1 3909 ((L_1 3909) * (100 : Int64))) A1 J rt 2 a1 (4 : Int32) _ rfl) (by exact Or.inl rfl) ?_
        by_cases hc11 : (Int32.ofNat (tw_lenS (v1_13 + (g_X1_gainOf A1 a1)))) < (g_X8_fact_2 A1 a1 (4 : Int32))
        · rw [if_pos hc11] at h
          refine tw_br (cd := tw_c20) rfl rfl rfl (by exact if_pos hc11) ?_
          refine tw_blk (cd := tw_c20) rfl 2 (c1 := (42, [some (.ref 39), some (.int a1), some (.int a2), some (.int (g_X8_twoOf_2 A1 a1)), some (.int (g_X8_fact_2 A1 a1 (3 : Int32))), some (.int (g_X8_count_2 A1 (0 : Int32))), some (.long (g_X1_leftOf (v1_6 * ((((100 : Int32) - (g_X8_count_2 A1 (0 : Int32)))).toInt64)) x9)), none, some (.long (g_X1_leftOf ((v1_8 * ((((100 : Int32) - (g_X8_count_2 A1 (0 : Int32)))).toInt64)) + (v1_6 * (((g_X8_count_2 A1 (0 : Int32))).toInt64))) (x9 + (2 : Int32)))), none, some (.long (g_X1_leftOf ((v1_10 * ((((100 : Int32) - (g_X8_count_2 A1 (0 : Int32)))).toInt64)) + (v1_8 * (((g_X8_count_2 A1 (0 : Int32))).toInt64))) (x9 + (4 : Int32)))), none, some (.int (v1_12 ||| ((tw_get0 60 (A1 40) v1_14) &&& ((g_X8_twoOf_2 A1 a1) ^^^ (-1 : Int32))))), some (.int (v1_13 + (g_X1_gainOf A1 a1))), some (.int (v1_14 + (1 : Int32))), some (.int x9)], [], (I, (vp_updL L_1 3909 ((L_1 3909) * (100 : Int64))), tw_P 2 14 rt 2, A1, J, 57))) rfl ?_
          refine tw_forget (ls2 := [some (.ref 39), some (.int a1), some (.int a2), some (.int (g_X8_twoOf_2 A1 a1)), some (.int (g_X8_fact_2 A1 a1 (3 : Int32))), some (.int (g_X8_count_2 A1 (0 : Int32))), some (.long (g_X1_leftOf (v1_6 * ((((100 : Int32) - (g_X8_count_2 A1 (0 : Int32)))).toInt64)) x9)), none, some (.long (g_X1_leftOf ((v1_8 * ((((100 : Int32) - (g_X8_count_2 A1 (0 : Int32)))).toInt64)) + (v1_6 * (((g_X8_count_2 A1 (0 : Int32))).toInt64))) (x9 + (2 : Int32)))), none, some (.long (g_X1_leftOf ((v1_10 * ((((100 : Int32) - (g_X8_count_2 A1 (0 : Int32)))).toInt64)) + (v1_8 * (((g_X8_count_2 A1 (0 : Int32))).toInt64))) (x9 + (4 : Int32)))), none, some (.int (v1_12 ||| ((tw_get0 60 (A1 40) v1_14) &&& ((g_X8_twoOf_2 A1 a1) ^^^ (-1 : Int32))))), some (.int (v1_13 + (g_X1_gainOf A1 a1))), some (.int (v1_14 + (1 : Int32))), none]) ⟨rfl, rfl, rfl, rfl, rfl, rfl, rfl, rfl, rfl, rfl, rfl, rfl, trivial⟩ ?_
          exact ih (g_X1_leftOf (v1_6 * ((((100 : Int32) - (g_X8_count_2 A1 (0 : Int32)))).toInt64)) x9) (g_X1_leftOf ((v1_8 * ((((100 : Int32) - (g_X8_count_2 A1 (0 : Int32)))).toInt64)) + (v1_6 * (((g_X8_count_2 A1 (0 : Int32))).toInt64))) (x9 + (2 : Int32))) (g_X1_leftOf ((v1_10 * ((((100 : Int32) - (g_X8_count_2 A1 (0 : Int32)))).toInt64)) + (v1_8 * (((g_X8_count_2 A1 (0 : Int32))).toInt64))) (x9 + (4 : Int32))) (v1_12 ||| ((tw_get0 60 (A1 40) v1_14) &&& ((g_X8_twoOf_2 A1 a1) ^^^ (-1 : Int32)))) (v1_13 + (g_X1_gainOf A1 a1)) (v1_14 + (1 : Int32)) (vp_updL L_1 3909 ((L_1 3909) * (100 : Int64))) h K
        · rw [if_neg hc11] at h
          refine tw_br (cd := tw_c20) rfl rfl rfl (by exact if_neg hc11) ?_
          refine tw_blk (cd := tw_c20) rfl 1 (c1 := (131, [some (.ref 39), some (.int a1), some (.int a2), some (.int (g_X8_twoOf_2 A1 a1)), some (.int (g_X8_fact_2 A1 a1 (3 : Int32))), some (.int (g_X8_count_2 A1 (0 : Int32))), some (.long (g_X1_leftOf (v1_6 * ((((100 : Int32) - (g_X8_count_2 A1 (0 : Int32)))).toInt64)) x9)), none, some (.long (g_X1_leftOf ((v1_8 * ((((100 : Int32) - (g_X8_count_2 A1 (0 : Int32)))).toInt64)) + (v1_6 * (((g_X8_count_2 A1 (0 : Int32))).toInt64))) (x9 + (2 : Int32)))), none, some (.long (g_X1_leftOf ((v1_10 * ((((100 : Int32) - (g_X8_count_2 A1 (0 : Int32)))).toInt64)) + (v1_8 * (((g_X8_count_2 A1 (0 : Int32))).toInt64))) (x9 + (4 : Int32)))), none, some (.int (v1_12 ||| ((tw_get0 60 (A1 40) v1_14) &&& ((g_X8_twoOf_2 A1 a1) ^^^ (-1 : Int32))))), some (.int (v1_13 + (g_X1_gainOf A1 a1))), some (.int v1_14), some (.int x9)], [], (I, (vp_updL L_1 3909 ((L_1 3909) * (100 : Int64))), tw_P 2 14 rt 2, A1, J, 57))) rfl ?_
          refine tw_forget (ls2 := [some (.ref 39), none, none, none, none, none, some (.long (g_X1_leftOf (v1_6 * ((((100 : Int32) - (g_X8_count_2 A1 (0 : Int32)))).toInt64)) x9)), none, some (.long (g_X1_leftOf ((v1_8 * ((((100 : Int32) - (g_X8_count_2 A1 (0 : Int32)))).toInt64)) + (v1_6 * (((g_X8_count_2 A1 (0 : Int32))).toInt64))) (x9 + (2 : Int32)))), none, some (.long (g_X1_leftOf ((v1_10 * ((((100 : Int32) - (g_X8_count_2 A1 (0 : Int32)))).toInt64)) + (v1_8 * (((g_X8_count_2 A1 (0 : Int32))).toInt64))) (x9 + (4 : Int32)))), none, none, none, none, none]) ⟨rfl, rfl, rfl, rfl, trivial⟩ ?_
          exact K _ h
theorem e_X1_weigh (I : Nat → Int32) (L : Nat → Int64) (A : Nat → Nat → Int32) (J : Nat → Nat → Int64) (rt : Nat) (a1 : Int32) (a2 : Int32) : ∀ r : ((Nat → Int64) × (Nat → Nat → Int32)), g_X1_weigh I L A a1 a2 = some r → tw_ME 20 (0, [some (.ref 39), some (.int a1), some (.int a2), none, none, none, none, none, none, none, none, none, none, none, none, none], [], (I, L, tw_P 2 14 rt 2, A, J, 57)) (none, (I, (r.1), tw_P 2 14 rt 2, (r.2), J, 57)) := by
  intro r h
  unfold g_X1_weigh at h
  refine tw_blk (cd := tw_c20) rfl 6 (c1 := (6, [some (.ref 39), some (.int a1), some (.int a2), none, none, none, none, none, none, none, none, none, none, none, none, none], [.int 2, .int a1, .ref 2, .ref 39], (I, L, tw_P 2 14 rt 2, A, J, 57))) rfl ?_
  refine tw_callE (cd := tw_c20) rfl rfl rfl rfl rfl (e_X8_fact_2 I L A J rt 2 a1 (2 : Int32) _ rfl) (by exact Or.inl rfl) ?_
  obtain ⟨A1, hx2, h⟩ := tw_bindE h
  refine tw_callE (cd := tw_c20) rfl rfl rfl rfl rfl (e_X1_watch I L A J rt (g_X8_fact_2 A a1 (2 : Int32)) _ hx2) (by exact Or.inl rfl) ?_
  refine tw_blk (cd := tw_c20) rfl 4 (c1 := (12, [some (.ref 39), some (.int a1), some (.int a2), none, none, none, none, none, none, none, none, none, none, none, none, none], [.int a1, .ref 2], (I, L, tw_P 2 14 rt 2, A1, J, 57))) rfl ?_
  refine tw_callE (cd := tw_c20) rfl rfl rfl rfl rfl (e_X8_twoOf_2 I L A1 J rt 2 a1 _ rfl) (by exact Or.inl rfl) ?_
  refine tw_blk (cd := tw_c20) rfl 6 (c1 := (19, [some (.ref 39), some (.int a1), some (.int a2), some (.int (g_X8_twoOf_2 A1 a1)), none, none, none, none, none, none, none, none, none, none, none, none], [.int 3, .int a1, .ref 2], (I, L, tw_P 2 14 rt 2, A1, J, 57))) rfl ?_
  refine tw_callE (cd := tw_c20) rfl rfl rfl rfl rfl (e_X8_fact_2 I L A1 J rt 2 a1 (3 : Int32) _ rfl) (by exact Or.inl rfl) ?_
  refine tw_blk (cd := tw_c20) rfl 5 (c1 := (25, [some (.ref 39), some (.int a1), some (.int a2), some (.int (g_X8_twoOf_2 A1 a1)), some (.int (g_X8_fact_2 A1 a1 (3 : Int32))), none, none, none, none, none, none, none, none, none, none, none], [.int 0, .ref 2], (I, L, tw_P 2 14 rt 2, A1, J, 57))) rfl ?_
  refine tw_callE (cd := tw_c20) rfl rfl rfl rfl rfl (e_X8_count_2 I L A1 J rt 2 (0 : Int32) _ rfl) (by exact Or.inl rfl) ?_
  refine tw_blk (cd := tw_c20) rfl 16 (c1 := (42, [some (.ref 39), some (.int a1), some (.int a2), some (.int (g_X8_twoOf_2 A1 a1)), some (.int (g_X8_fact_2 A1 a1 (3 : Int32))), some (.int (g_X8_count_2 A1 (0 : Int32))), some (.long 1), none, some (.long 0), none, some (.long 0), none, some (.int 0), some (.int 0), some (.int (g_X8_fact_2 A1 a1 (3 : Int32))), none], [], (I, (vp_updL L 3909 (1 : Int64)), tw_P 2 14 rt 2, A1, J, 57))) rfl ?_
  refine g_X1_weigh_L1_ok I L A J rt a1 a2 A1 _ r 4096 (1 : Int64) (0 : Int64) (0 : Int64) (0 : Int32) (0 : Int32) (g_X8_fact_2 A1 a1 (3 : Int32)) (vp_updL L 3909 (1 : Int64)) h (fun ex h => ?_)
  obtain ⟨y3, y4, y5, L6⟩ := ex
  dsimp only at h
  refine tw_blk (cd := tw_c20) rfl 7 (c1 := (138, [some (.ref 39), none, none, none, none, none, some (.long y3), none, some (.long y4), none, some (.long y5), none, none, none, none, none], [], (I, (vp_updL L6 3908 ((y3 + y4) + y5)), tw_P 2 14 rt 2, A1, J, 57))) rfl ?_
  have h := Option.some.inj h
  subst h
  exact tw_retE (cd := tw_c20) rfl rfl rfl rfl
theorem e_X9_lasts (I : Nat → Int32) (L : Nat → Int64) (A : Nat → Nat → Int32) (J : Nat → Nat → Int64) (rt : Nat) (sc : Nat) (a1 : Int32) (a2 : Int32) (a3 : Int32) : ∀ r : (Int64 × (Nat → Int32) × (Nat → Int64) × (Nat → Nat → Int32) × Nat), g_X9_lasts I L A sc a1 a2 a3 = some r → tw_ME 158 (0, [some (.ref 0), some (.int a1), some (.int a2), some (.int a3)], [], (I, L, tw_P 2 14 rt sc, A, J, 57)) (some (.long r.1), ((r.2.1), (r.2.2.1), tw_P 2 14 rt (r.2.2.2.2), (r.2.2.2.1), J, 57)) := by
  intro r h
  unfold g_X9_lasts at h
  refine tw_blk (cd := tw_c158) rfl 2 (c1 := (2, [some (.ref 0), some (.int a1), some (.int a2), some (.int a3)], [.int a1, .ref 0], (I, L, tw_P 2 14 rt sc, A, J, 57))) rfl ?_
  refine tw_callE (cd := tw_c158) rfl rfl rfl rfl rfl (e_X9_isQuarrel I L A J rt sc a1 _ rfl) (by exact Or.inl rfl) ?_
  by_cases hc1 : (g_X9_isQuarrel A a1) = true
  · rw [if_pos hc1] at h
    refine tw_br (cd := tw_c158) rfl rfl rfl (by exact if_neg (tw_b_t hc1)) ?_
    refine tw_blk (cd := tw_c158) rfl 1 (c1 := (10, [some (.ref 0), some (.int a1), some (.int a2), some (.int a3)], [.int a2], (I, L, tw_P 2 14 rt sc, A, J, 57))) rfl ?_
    by_cases hc2 : a2 < 0
    · rw [if_pos hc2] at h
      refine tw_br (cd := tw_c158) rfl rfl rfl (by exact if_pos hc2) ?_
      refine tw_blk (cd := tw_c158) rfl 2 (c1 := (16, [some (.ref 0), some (.int a1), some (.int a2), some (.int a3)], [.int 2, .ref 0], (I, L, tw_P 2 14 rt sc, A, J, 57))) rfl ?_
      obtain ⟨⟨x3, I4⟩, hx5, h⟩ := tw_letE h
      dsimp only at h
      refine tw_callE (cd := tw_c158) rfl rfl rfl rfl rfl (e_X9_refuse I L A J rt sc (2 : Int32) _ hx5) (by exact Or.inl rfl) ?_
      refine tw_blk (cd := tw_c158) rfl 1 (c1 := (18, [some (.ref 0), some (.int a1), some (.int a2), some (.int a3)], [.long ((x3).toInt64)], (I4, L, tw_P 2 14 rt sc, A, J, 57))) rfl ?_
      have h := Option.some.inj h
      subst h
      exact tw_retE (cd := tw_c158) rfl rfl rfl rfl
    · rw [if_neg hc2] at h
      refine tw_br (cd := tw_c158) rfl rfl rfl (by exact if_neg hc2) ?_
      refine tw_blk (cd := tw_c158) rfl 2 (c1 := (13, [some (.ref 0), some (.int a1), some (.int a2), some (.int a3)], [.int 6, .int a2], (I, L, tw_P 2 14 rt sc, A, J, 57))) rfl ?_
      by_cases hc6 : a2 ≤ (6 : Int32)
      · rw [if_pos hc6] at h
        refine tw_br (cd := tw_c158) rfl rfl rfl (by exact if_pos hc6) ?_
        refine tw_blk (cd := tw_c158) rfl 1 (c1 := (20, [some (.ref 0), some (.int a1), some (.int a2), some (.int a3)], [.ref 0], (I, L, tw_P 2 14 rt sc, A, J, 57))) rfl ?_
        obtain ⟨⟨I7, A8⟩, hx9, h⟩ := tw_bindE h
        dsimp only at h
        refine tw_callE (cd := tw_c158) rfl rfl rfl rfl rfl (e_X9_showNow I L A J rt sc _ hx9) (by exact Or.inl rfl) ?_
        refine tw_blk (cd := tw_c158) rfl 4 (c1 := (25, [some (.ref 0), some (.int a1), some (.int a2), some (.int a3)], [.int a2, .int a1, .ref 39], (I7, L, tw_P 2 14 rt 2, A8, J, 57))) rfl ?_
        obtain ⟨⟨L10, A11⟩, hx12, h⟩ := tw_bindE h
        dsimp only at h
        refine tw_callE (cd := tw_c158) rfl rfl rfl rfl rfl (e_X1_weigh I7 L A8 J rt a1 a2 _ hx12) (by exact Or.inl rfl) ?_
        refine tw_blk (cd := tw_c158) rfl 10 (c1 := (36, [some (.ref 0), some (.int a1), some (.int a2), some (.int a3)], [.int a3, .long (L10 3909), .long (L10 3908)], ((upd I7 12 (0 : Int32)), L10, tw_P 2 14 rt 2, A11, J, 57))) rfl ?_
        obtain ⟨y13, hx14, h⟩ := tw_bindE h
        refine tw_callE (cd := tw_c158) rfl rfl rfl rfl rfl (e_X9_inLowestTerms (upd I7 12 (0 : Int32)) L10 A11 J rt 2 (L10 3908) (L10 3909) a3 _ hx14) (by exact Or.inl rfl) ?_
        have h := Option.some.inj h
        subst h
        exact tw_retE (cd := tw_c158) rfl rfl rfl rfl
      · rw [if_neg hc6] at h
        refine tw_br (cd := tw_c158) rfl rfl rfl (by exact if_neg hc6) ?_
        refine tw_blk (cd := tw_c158) rfl 2 (c1 := (16, [some (.ref 0), some (.int a1), some (.int a2), some (.int a3)], [.int 2, .ref 0], (I, L, tw_P 2 14 rt sc, A, J, 57))) rfl ?_
        obtain ⟨⟨x15, I16⟩, hx17, h⟩ := tw_letE h
        dsimp only at h
        refine tw_callE (cd := tw_c158) rfl rfl rfl rfl rfl (e_X9_refuse I L A J rt sc (2 : Int32) _ hx17) (by exact Or.inl rfl) ?_
        refine tw_blk (cd := tw_c158) rfl 1 (c1 := (18, [some (.ref 0), some (.int a1), some (.int a2), some (.int a3)], [.long ((x15).toInt64)], (I16, L, tw_P 2 14 rt sc, A, J, 57))) rfl ?_
        have h := Option.some.inj h
        subst h
        exact tw_retE (cd := tw_c158) rfl rfl rfl rfl
  · rw [if_neg hc1] at h
    refine tw_br (cd := tw_c158) rfl rfl rfl (by exact if_pos (tw_b_f hc1)) ?_
    refine tw_blk (cd := tw_c158) rfl 2 (c1 := (6, [some (.ref 0), some (.int a1), some (.int a2), some (.int a3)], [.int 1, .ref 0], (I, L, tw_P 2 14 rt sc, A, J, 57))) rfl ?_
    obtain ⟨⟨x18, I19⟩, hx20, h⟩ := tw_letE h
    dsimp only at h
    refine tw_callE (cd := tw_c158) rfl rfl rfl rfl rfl (e_X9_refuse I L A J rt sc (1 : Int32) _ hx20) (by exact Or.inl rfl) ?_
    refine tw_blk (cd := tw_c158) rfl 1 (c1 := (8, [some (.ref 0), some (.int a1), some (.int a2), some (.int a3)], [.long ((x18).toInt64)], (I19, L, tw_P 2 14 rt sc, A, J, 57))) rfl ?_
    have h := Option.some.inj h
    subst h
    exact tw_retE (cd := tw_c158) rfl rfl rfl rfl
theorem e_X10_runWithBoys (I : Nat → Int32) (L : Nat → Int64) (A : Nat → Nat → Int32) (J : Nat → Nat → Int64) (rt : Nat) (sc : Nat) (a1 : Int32) : ∀ r : Nat → Int32, g_X10_runWithBoys I A a1 = some r → tw_ME 302 (0, [some (.ref 44), some (.int a1)], [], (I, L, tw_P 2 14 rt sc, A, J, 57)) (none, (r, L, tw_P 2 14 rt sc, A, J, 57)) := by
  intro r h
  unfold g_X10_runWithBoys at h
  refine tw_blk (cd := tw_c302) rfl 11 (c1 := (11, [some (.ref 44), some (.int a1)], [.int (((80 : Int32) + ((5 : Int32) * a1)) + (2 : Int32)), .ref 47, .int a1, .ref 44], (I, L, tw_P 2 14 rt sc, A, J, 57))) rfl ?_
  obtain ⟨x2, hx1, h⟩ := tw_bindE h
  refine tw_iald (cd := tw_c302) (N := 241) rfl rfl rfl rfl hx1 ?_
  refine tw_blk (cd := tw_c302) rfl 9 (c1 := (21, [some (.ref 44), some (.int a1)], [.int (((80 : Int32) + ((5 : Int32) * a1)) + (3 : Int32)), .ref 47, .int x2, .int a1, .ref 44], (I, L, tw_P 2 14 rt sc, A, J, 57))) rfl ?_
  obtain ⟨x4, hx3, h⟩ := tw_bindE h
  refine tw_iald (cd := tw_c302) (N := 241) rfl rfl rfl rfl hx3 ?_
  refine tw_blk (cd := tw_c302) rfl 1 (c1 := (23, [some (.ref 44), some (.int a1)], [.int 1, .int x4, .int x2, .int a1, .ref 44], (I, L, tw_P 2 14 rt sc, A, J, 57))) rfl ?_
  obtain ⟨I5, hx6, h⟩ := tw_bindE h
  refine tw_callE (cd := tw_c302) rfl rfl rfl rfl rfl (e_X10_run I L A J rt sc a1 x2 x4 (1 : Int32) _ hx6) (by exact Or.inl rfl) ?_
  have h := Option.some.inj h
  subst h
  exact tw_retE (cd := tw_c302) rfl rfl rfl rfl
theorem g_X10_lasts_L2_ok (I : Nat → Int32) (L : Nat → Int64) (A : Nat → Nat → Int32) (J : Nat → Nat → Int64) (rt : Nat) (sc : Nat) (a1 : Int32) (a2 : Int32) (a3 : Int32) (I1 : Nat → Int32) (c3 : Bool) (A6 : Nat → Nat → Int32) (v1_5 : Int64) (v1_7 : Int64) (v1_9 : Int32) (I_1 : Nat → Int32) (out : Option Value × tw_S) : ∀ (n : Nat) (v2_10 : Int64) (v2_12 : Int32) (ex : Int64), g_X10_lasts_L2 a2 A6 v1_9 n v2_10 v2_12 = some ex → tw_ME 303 (61, [some (.ref 44), some (.int a1), some (.int a2), some (.int a3), none, some (.long v1_5), none, some (.long v1_7), none, some (.int v1_9), some (.long ex), none, none], [], (I_1, L, tw_P 2 14 rt sc, A6, J, 57)) out → tw_ME 303 (36, [some (.ref 44), some (.int a1), some (.int a2), some (.int a3), none, some (.long v1_5), none, some (.long v1_7), none, some (.int v1_9), some (.long v2_10), none, some (.int v2_12)], [], (I_1, L, tw_P 2 14 rt sc, A6, J, 57)) out := by
  intro n
  induction n with
  | zero =>
    intro v2_10 v2_12 ex h _
    cases h
  | succ n ih =>
    intro v2_10 v2_12 ex h K
    rw [g_X10_lasts_L2] at h
    refine tw_blk (cd := tw_c303) rfl 1 (c1 := (37, [some (.ref 44), some (.int a1), some (.int a2), some (.int a3), none, some (.long v1_5), none, some (.long v1_7), none, some (.int v1_9), some (.long v2_10), none, some (.int v2_12)], [.int v2_12], (I_1, L, tw_P 2 14 rt sc, A6, J, 57))) rfl ?_
    refine tw_blk (cd := tw_c303) rfl 1 (c1 := (38, [some (.ref 44), some (.int a1), some (.int a2), some (.int a3), none, some (.long v1_5), none, some (.long v1_7), none, some (.int v1_9), some (.long v2_10), none, some (.int v2_12)], [.int a2, .int v2_12], (I_1, L, tw_P 2 14 rt sc, A6, J, 57))) rfl ?_
    by_cases hc13 : a2 ≤ v2_12
    · rw [if_pos hc13] at h
      refine tw_br (cd := tw_c303) rfl rfl rfl (by exact if_pos hc13) ?_
      refine tw_forget (ls2 := [some (.ref 44), some (.int a1), some (.int a2), some (.int a3), none, some (.long v1_5), none, some (.long v1_7), none, some (.int v1_9), some (.long v2_10), none, none]) ⟨rfl, rfl, rfl, rfl, rfl, rfl, rfl, rfl, trivial⟩ ?_
      have h := Option.some.inj h
      subst h
      exact K
    · rw [if_neg hc13] at h
      refine tw_br (cd := tw_c303) rfl rfl rfl (by exact if_neg hc13) ?_
      refine tw_blk (cd := tw_c303) rfl 3 (c1 := (42, [some (.ref 44), some (.int a1), some (.int a2), some (.int a3), none, some (.long v1_5), none, some (.long v1_7), none, some (.int v1_9), some (.long v2_10), none, some (.int v2_12)], [.int v2_12, .int v1_9, .long v2_10], (I_1, L, tw_P 2 14 rt sc, A6, J, 57))) rfl ?_
      refine tw_callE (cd := tw_c303) rfl rfl rfl rfl rfl (e_X10_hasBit I_1 L A6 J rt sc v1_9 v2_12 _ rfl) (by exact Or.inl rfl) ?_
      obtain ⟨y15, hj16, h⟩ := tw_bindE h
      have K : tw_ME 303 (57, [some (.ref 44), some (.int a1), some (.int a2), some (.int a3), none, some (.long v1_5), none, some (.long v1_7), none, some (.int v1_9), none, none, some (.int v2_12)], [.long y15, .long v2_10], (I_1, L, tw_P 2 14 rt sc, A6, J, 57)) out := by
        refine tw_blk (cd := tw_c303) rfl 4 (c1 := (36, [some (.ref 44), some (.int a1), some (.int a2), some (.int a3), none, some (.long v1_5), none, some (.long v1_7), none, some (.int v1_9), some (.long (v2_10 * y15)), none, some (.int (v2_12 + (1 : Int32)))], [], (I_1, L, tw_P 2 14 rt sc, A6, J, 57))) rfl ?_
        exact ih (v2_10 * y15) (v2_12 + (1 : Int32)) _ h K
      by_cases hc14 : (g_X10_hasBit v1_9 v2_12) = true
      · rw [if_pos hc14] at hj16
        refine tw_br (cd := tw_c303) rfl rfl rfl (by exact if_neg (tw_b_t hc14)) ?_
        refine tw_blk (cd := tw_c303) rfl 3 (c1 := (47, [some (.ref 44), some (.int a1), some (.int a2), some (.int a3), none, some (.long v1_5), none, some (.long v1_7), none, some (.int v1_9), some (.long v2_10), none, some (.int v2_12)], [.int 0, .ref 47, .long v2_10], (I_1, L, tw_P 2 14 rt sc, A6, J, 57))) rfl ?_
        obtain ⟨x18, hx17, hj16⟩ := tw_bindE hj16
        refine tw_iald (cd := tw_c303) (N := 241) rfl rfl rfl rfl hx17 ?_
        refine tw_blk (cd := tw_c303) rfl 2 (c1 := (57, [some (.ref 44), some (.int a1), some (.int a2), some (.int a3), none, some (.long v1_5), none, some (.long v1_7), none, some (.int v1_9), some (.long v2_10), none, some (.int v2_12)], [.long ((x18).toInt64), .long v2_10], (I_1, L, tw_P 2 14 rt sc, A6, J, 57))) rfl ?_
        refine tw_forget (ls2 := [some (.ref 44), some (.int a1), some (.int a2), some (.int a3), none, some (.long v1_5), none, some (.long v1_7), none, some (.int v1_9), none, none, some (.int v2_12)]) ⟨rfl, rfl, rfl, rfl, rfl, rfl, rfl, rfl, trivial⟩ ?_
        have hj16s := Option.some.inj hj16
        subst hj16s
        exact K
      · rw [if_neg hc14] at hj16
        refine tw_br (cd := tw_c303) rfl rfl rfl (by exact if_pos (tw_b_f hc14)) ?_
        refine tw_blk (cd := tw_c303) rfl 4 (c1 := (54, [some (.ref 44), some (.int a1), some (.int a2), some (.int a3), none, some (.long v1_5), none, some (.long v1_7), none, some (.int v1_9), some (.long v2_10), none, some (.int v2_12)], [.int 0, .ref 47, .int 100, .long v2_10], (I_1, L, tw_P 2 14 rt sc, A6, J, 57))) rfl ?_
        obtain ⟨x20, hx19, hj16⟩ := tw_bindE hj16
        refine tw_iald (cd := tw_c303) (N := 241) rfl rfl rfl rfl hx19 ?_
        refine tw_blk (cd := tw_c303) rfl 2 (c1 := (57, [some (.ref 44), some (.int a1), some (.int a2), some (.int a3), none, some (.long v1_5), none, some (.long v1_7), none, some (.int v1_9), some (.long v2_10), none, some (.int v2_12)], [.long ((((100 : Int32) - x20)).toInt64), .long v2_10], (I_1, L, tw_P 2 14 rt sc, A6, J, 57))) rfl ?_
        refine tw_forget (ls2 := [some (.ref 44), some (.int a1), some (.int a2), some (.int a3), none, some (.long v1_5), none, some (.long v1_7), none, some (.int v1_9), none, none, some (.int v2_12)]) ⟨rfl, rfl, rfl, rfl, rfl, rfl, rfl, rfl, trivial⟩ ?_
        have hj16s := Option.some.inj hj16
        subst hj16s
        exact K
theorem g_X10_lasts_L1_ok (I : Nat → Int32) (L : Nat → Int64) (A : Nat → Nat → Int32) (J : Nat → Nat → Int64) (rt : Nat) (sc : Nat) (a1 : Int32) (a2 : Int32) (a3 : Int32) (I1 : Nat → Int32) (c3 : Bool) (A6 : Nat → Nat → Int32) (out : Option Value × tw_S) : ∀ (n : Nat) (v1_5 : Int64) (v1_7 : Int64) (v1_9 : Int32) (I_1 : Nat → Int32) (ex : (Int64 × Int64 × (Nat → Int32))), g_X10_lasts_L1 a1 a2 A6 n v1_5 v1_7 v1_9 I_1 = some ex → tw_ME 303 (97, [none, none, none, some (.int a3), none, some (.long (ex.1)), none, some (.long (ex.2.1)), none, none, none, none, none], [], ((ex.2.2), L, tw_P 2 14 rt sc, A6, J, 57)) out → tw_ME 303 (27, [some (.ref 44), some (.int a1), some (.int a2), some (.int a3), none, some (.long v1_5), none, some (.long v1_7), none, some (.int v1_9), none, none, none], [], (I_1, L, tw_P 2 14 rt sc, A6, J, 57)) out := by
  intro n
  induction n with
  | zero =>
    intro v1_5 v1_7 v1_9 I_1 ex h _
    cases h
  | succ n ih =>
    intro v1_5 v1_7 v1_9 I_1 ex h K
    rw [g_X10_lasts_L1] at h
    refine tw_blk (cd := tw_c303) rfl 1 (c1 := (28, [some (.ref 44), some (.int a1), some (.int a2), some (.int a3), none, some (.long v1_5), none, some (.long v1_7), none, some (.int v1_9), none, none, none], [.int v1_9], (I_1, L, tw_P 2 14 rt sc, A6, J, 57))) rfl ?_
    refine tw_blk (cd := tw_c303) rfl 3 (c1 := (31, [some (.ref 44), some (.int a1), some (.int a2), some (.int a3), none, some (.long v1_5), none, some (.long v1_7), none, some (.int v1_9), none, none, none], [.int ((1 : Int32) <<< (a2 &&& 31)), .int v1_9], (I_1, L, tw_P 2 14 rt sc, A6, J, 57))) rfl ?_
    by_cases hc11 : ((1 : Int32) <<< (a2 &&& 31)) ≤ v1_9
    · rw [if_pos hc11] at h
      refine tw_br (cd := tw_c303) rfl rfl rfl (by exact if_pos hc11) ?_
      refine tw_forget (ls2 := [none, none, none, some (.int a3), none, some (.long v1_5), none, some (.long v1_7), none, none, none, none, none]) ⟨rfl, rfl, rfl, trivial⟩ ?_
      have h := Option.some.inj h
      subst h
      exact K
    · rw [if_neg hc11] at h
      refine tw_br (cd := tw_c303) rfl rfl rfl (by exact if_neg hc11) ?_
      refine tw_blk (cd := tw_c303) rfl 4 (c1 := (36, [some (.ref 44), some (.int a1), some (.int a2), some (.int a3), none, some (.long v1_5), none, some (.long v1_7), none, some (.int v1_9), some (.long 1), none, some (.int 0)], [], (I_1, L, tw_P 2 14 rt sc, A6, J, 57))) rfl ?_
      obtain ⟨y12, hx29, h⟩ := tw_bindE h
      refine g_X10_lasts_L2_ok I L A J rt sc a1 a2 a3 I1 c3 A6 v1_5 v1_7 v1_9 I_1 _ 4096 (1 : Int64) (0 : Int32) _ hx29 ?_
      refine tw_blk (cd := tw_c303) rfl 5 (c1 := (66, [some (.ref 44), some (.int a1), some (.int a2), some (.int a3), none, some (.long v1_5), none, some (.long v1_7), none, some (.int v1_9), some (.long y12), none, none], [.int a1, .ref 44], ((upd I_1 4430 v1_9), L, tw_P 2 14 rt sc, A6, J, 57))) rfl ?_
      obtain ⟨I21, hx22, h⟩ := tw_bindE h
      refine tw_callE (cd := tw_c303) rfl rfl rfl rfl rfl (e_X10_runWithBoys (upd I_1 4430 v1_9) L A6 J rt sc a1 _ hx22) (by exact Or.inl rfl) ?_
      refine tw_blk (cd := tw_c303) rfl 7 (c1 := (74, [some (.ref 44), some (.int a1), some (.int a2), some (.int a3), none, some (.long v1_5), none, some (.long (v1_7 + y12)), none, some (.int v1_9), some (.long y12), none, none], [.int (I21 4425), .long v1_5], (I21, L, tw_P 2 14 rt sc, A6, J, 57))) rfl ?_
      obtain ⟨y24, hj25, h⟩ := tw_bindE h
      have K : tw_ME 303 (93, [some (.ref 44), some (.int a1), some (.int a2), some (.int a3), none, none, none, some (.long (v1_7 + y12)), none, some (.int v1_9), none, none, none], [.long y24, .long v1_5], (I21, L, tw_P 2 14 rt sc, A6, J, 57)) out := by
        refine tw_blk (cd := tw_c303) rfl 4 (c1 := (27, [some (.ref 44), some (.int a1), some (.int a2), some (.int a3), none, some (.long (v1_5 + y24)), none, some (.long (v1_7 + y12)), none, some (.int (v1_9 + (1 : Int32))), none, none, none], [], (I21, L, tw_P 2 14 rt sc, A6, J, 57))) rfl ?_
        exact ih (v1_5 + y24) (v1_7 + y12) (v1_9 + (1 : Int32)) I21 _ h K
      by_cases hc23 : (I21 4425) = 0
      · rw [if_pos hc23] at hj25
        refine tw_br (cd := tw_c303) rfl rfl rfl (by exact if_pos hc23) ?_
        refine tw_blk (cd := tw_c303) rfl 11 (c1 := (86, [some (.ref 44), some (.int a1), some (.int a2), some (.int a3), none, some (.long v1_5), none, some (.long (v1_7 + y12)), none, some (.int v1_9), some (.long y12), none, none], [.int (((80 : Int32) + ((5 : Int32) * a1)) + (3 : Int32)), .ref 47, .int (I21 4426), .long v1_5], (I21, L, tw_P 2 14 rt sc, A6, J, 57))) rfl ?_
        obtain ⟨x27, hx26, hj25⟩ := tw_bindE hj25
        refine tw_iald (cd := tw_c303) (N := 241) rfl rfl rfl rfl hx26 ?_
        refine tw_blk (cd := tw_c303) rfl 2 (c1 := (89, [some (.ref 44), some (.int a1), some (.int a2), some (.int a3), none, some (.long v1_5), none, some (.long (v1_7 + y12)), none, some (.int v1_9), some (.long y12), none, none], [.int (x27 + a2), .int (I21 4426), .long v1_5], (I21, L, tw_P 2 14 rt sc, A6, J, 57))) rfl ?_
        by_cases hc28 : (x27 + a2) ≤ (I21 4426)
        · rw [if_pos hc28] at hj25
          refine tw_br (cd := tw_c303) rfl rfl rfl (by exact if_pos hc28) ?_
          refine tw_blk (cd := tw_c303) rfl 1 (c1 := (93, [some (.ref 44), some (.int a1), some (.int a2), some (.int a3), none, some (.long v1_5), none, some (.long (v1_7 + y12)), none, some (.int v1_9), some (.long y12), none, none], [.long y12, .long v1_5], (I21, L, tw_P 2 14 rt sc, A6, J, 57))) rfl ?_
          refine tw_forget (ls2 := [some (.ref 44), some (.int a1), some (.int a2), some (.int a3), none, none, none, some (.long (v1_7 + y12)), none, some (.int v1_9), none, none, none]) ⟨rfl, rfl, rfl, rfl, rfl, rfl, trivial⟩ ?_
          have hj25s := Option.some.inj hj25
          subst hj25s
          exact K
        · rw [if_neg hc28] at hj25
          refine tw_br (cd := tw_c303) rfl rfl rfl (by exact if_neg hc28) ?_
          refine tw_blk (cd := tw_c303) rfl 2 (c1 := (93, [some (.ref 44), some (.int a1), some (.int a2), some (.int a3), none, some (.long v1_5), none, some (.long (v1_7 + y12)), none, some (.int v1_9), some (.long y12), none, none], [.long 0, .long v1_5], (I21, L, tw_P 2 14 rt sc, A6, J, 57))) rfl ?_
          refine tw_forget (ls2 := [some (.ref 44), some (.int a1), some (.int a2), some (.int a3), none, none, none, some (.long (v1_7 + y12)), none, some (.int v1_9), none, none, none]) ⟨rfl, rfl, rfl, rfl, rfl, rfl, trivial⟩ ?_
          have hj25s := Option.some.inj hj25
          subst hj25s
          exact K
      · rw [if_neg hc23] at hj25
        refine tw_br (cd := tw_c303) rfl rfl rfl (by exact if_neg hc23) ?_
        refine tw_blk (cd := tw_c303) rfl 1 (c1 := (93, [some (.ref 44), some (.int a1), some (.int a2), some (.int a3), none, some (.long v1_5), none, some (.long (v1_7 + y12)), none, some (.int v1_9), some (.long y12), none, none], [.long y12, .long v1_5], (I21, L, tw_P 2 14 rt sc, A6, J, 57))) rfl ?_
        refine tw_forget (ls2 := [some (.ref 44), some (.int a1), some (.int a2), some (.int a3), none, none, none, some (.long (v1_7 + y12)), none, some (.int v1_9), none, none, none]) ⟨rfl, rfl, rfl, rfl, rfl, rfl, trivial⟩ ?_
        have hj25s := Option.some.inj hj25
        subst hj25s
        exact K
theorem e_X10_lasts (I : Nat → Int32) (L : Nat → Int64) (A : Nat → Nat → Int32) (J : Nat → Nat → Int64) (rt : Nat) (sc : Nat) (a1 : Int32) (a2 : Int32) (a3 : Int32) : ∀ r : (Int64 × (Nat → Int32) × (Nat → Nat → Int32)), g_X10_lasts I A a1 a2 a3 = some r → tw_ME 303 (0, [some (.ref 44), some (.int a1), some (.int a2), some (.int a3), none, none, none, none, none, none, none, none, none], [], (I, L, tw_P 2 14 rt sc, A, J, 57)) (some (.long r.1), ((r.2.1), L, tw_P 2 14 rt sc, (r.2.2), J, 57)) := by
  intro r h
  unfold g_X10_lasts at h
  refine tw_blk (cd := tw_c303) rfl 1 (c1 := (1, [some (.ref 44), some (.int a1), some (.int a2), some (.int a3), none, none, none, none, none, none, none, none, none], [.ref 44], (I, L, tw_P 2 14 rt sc, A, J, 57))) rfl ?_
  obtain ⟨I1, hx2, h⟩ := tw_letE h
  refine tw_callE (cd := tw_c303) rfl rfl rfl rfl rfl (e_X10_good I L A J rt sc _ hx2) (by exact Or.inl rfl) ?_
  refine tw_blk (cd := tw_c303) rfl 3 (c1 := (5, [some (.ref 44), some (.int a1), some (.int a2), some (.int a3), none, none, none, none, none, none, none, none, none], [.int a1, .ref 44, .ref 44], (I1, L, tw_P 2 14 rt sc, A, J, 57))) rfl ?_
  obtain ⟨c3, hx4, h⟩ := tw_bindE h
  refine tw_callE (cd := tw_c303) rfl rfl rfl rfl rfl (e_X10_isQuarrel I1 L A J rt sc a1 _ hx4) (by exact Or.inl rfl) ?_
  refine tw_blk (cd := tw_c303) rfl 3 (c1 := (9, [some (.ref 44), some (.int a1), some (.int a2), some (.int a3), none, none, none, none, none, none, none, none, none], [.int 6, .int 0, .int a2, .int (tw_b c3), .ref 44], (I1, L, tw_P 2 14 rt sc, A, J, 57))) rfl ?_
  refine tw_callE (cd := tw_c303) rfl rfl rfl rfl rfl (e_X10_in I1 L A J rt sc a2 (0 : Int32) (6 : Int32) _ rfl) (by exact Or.inl rfl) ?_
  refine tw_callE (cd := tw_c303) rfl rfl rfl rfl rfl (e_X10_why I1 L A J rt sc (tw_b c3) (tw_b (g_X10_in a2 (0 : Int32) (6 : Int32))) _ rfl) (by exact Or.inl rfl) ?_
  refine tw_blk (cd := tw_c303) rfl 2 (c1 := (13, [some (.ref 44), some (.int a1), some (.int a2), some (.int a3), some (.int (g_X10_why (tw_b c3) (tw_b (g_X10_in a2 (0 : Int32) (6 : Int32))))), none, none, none, none, none, none, none, none], [.int (g_X10_why (tw_b c3) (tw_b (g_X10_in a2 (0 : Int32) (6 : Int32))))], (I1, L, tw_P 2 14 rt sc, A, J, 57))) rfl ?_
  by_cases hc5 : (g_X10_why (tw_b c3) (tw_b (g_X10_in a2 (0 : Int32) (6 : Int32)))) = 0
  · rw [if_pos hc5] at h
    refine tw_br (cd := tw_c303) rfl rfl rfl (by exact if_pos hc5) ?_
    refine tw_blk (cd := tw_c303) rfl 1 (c1 := (20, [some (.ref 44), some (.int a1), some (.int a2), some (.int a3), some (.int (g_X10_why (tw_b c3) (tw_b (g_X10_in a2 (0 : Int32) (6 : Int32))))), none, none, none, none, none, none, none, none], [.ref 44], (I1, L, tw_P 2 14 rt sc, A, J, 57))) rfl ?_
    obtain ⟨A6, hx7, h⟩ := tw_bindE h
    refine tw_callE (cd := tw_c303) rfl rfl rfl rfl rfl (e_X10_asNow I1 L A J rt sc _ hx7) (by exact Or.inl rfl) ?_
    refine tw_blk (cd := tw_c303) rfl 6 (c1 := (27, [some (.ref 44), some (.int a1), some (.int a2), some (.int a3), some (.int (g_X10_why (tw_b c3) (tw_b (g_X10_in a2 (0 : Int32) (6 : Int32))))), some (.long 0), none, some (.long 0), none, some (.int 0), none, none, none], [], (I1, L, tw_P 2 14 rt sc, A6, J, 57))) rfl ?_
    obtain ⟨⟨y8, y9, I10⟩, hx32, h⟩ := tw_bindE h
    dsimp only at h
    refine tw_forget (ls2 := [some (.ref 44), some (.int a1), some (.int a2), some (.int a3), none, some (.long 0), none, some (.long 0), none, some (.int 0), none, none, none]) ⟨rfl, rfl, rfl, rfl, rfl, rfl, rfl, trivial⟩ ?_
    refine g_X10_lasts_L1_ok I L A J rt sc a1 a2 a3 I1 c3 A6 _ 4096 (0 : Int64) (0 : Int64) (0 : Int32) I1 _ hx32 ?_
    refine tw_blk (cd := tw_c303) rfl 3 (c1 := (100, [none, none, none, some (.int a3), none, some (.long y8), none, some (.long y9), none, none, none, none, none], [.int a3, .long y9, .long y8], (I10, L, tw_P 2 14 rt sc, A6, J, 57))) rfl ?_
    obtain ⟨y30, hx31, h⟩ := tw_bindE h
    refine tw_callE (cd := tw_c303) rfl rfl rfl rfl rfl (e_X10_lowest I10 L A6 J rt sc y8 y9 a3 _ hx31) (by exact Or.inl rfl) ?_
    have h := Option.some.inj h
    subst h
    exact tw_retE (cd := tw_c303) rfl rfl rfl rfl
  · rw [if_neg hc5] at h
    refine tw_br (cd := tw_c303) rfl rfl rfl (by exact if_neg hc5) ?_
    refine tw_blk (cd := tw_c303) rfl 2 (c1 := (16, [some (.ref 44), some (.int a1), some (.int a2), some (.int a3), some (.int (g_X10_why (tw_b c3) (tw_b (g_X10_in a2 (0 : Int32) (6 : Int32))))), none, none, none, none, none, none, none, none], [.int (g_X10_why (tw_b c3) (tw_b (g_X10_in a2 (0 : Int32) (6 : Int32)))), .ref 44], (I1, L, tw_P 2 14 rt sc, A, J, 57))) rfl ?_
    obtain ⟨⟨x33, I34⟩, hx35, h⟩ := tw_letE h
    dsimp only at h
    refine tw_callE (cd := tw_c303) rfl rfl rfl rfl rfl (e_X10_no I1 L A J rt sc (g_X10_why (tw_b c3) (tw_b (g_X10_in a2 (0 : Int32) (6 : Int32)))) _ hx35) (by exact Or.inl rfl) ?_
    refine tw_blk (cd := tw_c303) rfl 1 (c1 := (18, [some (.ref 44), some (.int a1), some (.int a2), some (.int a3), some (.int (g_X10_why (tw_b c3) (tw_b (g_X10_in a2 (0 : Int32) (6 : Int32))))), none, none, none, none, none, none, none, none], [.long ((x33).toInt64)], (I34, L, tw_P 2 14 rt sc, A, J, 57))) rfl ?_
    have h := Option.some.inj h
    subst h
    exact tw_retE (cd := tw_c303) rfl rfl rfl rfl
