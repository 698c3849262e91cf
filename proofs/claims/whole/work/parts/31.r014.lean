/-! the machine does what the functions say -/
theorem e_X10_stoppers (I : Nat → Int32) (L : Nat → Int64) (A : Nat → Nat → Int32) (J : Nat → Nat → Int64) (rt : Nat) (sc : Nat) (a1 : Int32) : ∀ r : (Int32 × (Nat → Int32) × (Nat → Nat → Int32)), g_X10_stoppers I A a1 = some r → tw_ME 279 (0, [some (.ref 44), some (.int a1)], [], (I, L, tw_P 2 14 rt sc, A, J, 57)) (some (.int r.1), ((r.2.1), L, tw_P 2 14 rt sc, (r.2.2), J, 57)) := by
  intro r h
  unfold g_X10_stoppers at h
  refine tw_blk (cd := tw_c279) rfl 1 (c1 := (1, [some (.ref 44), some (.int a1)], [.ref 44], (I, L, tw_P 2 14 rt sc, A, J, 57))) rfl ?_
  obtain ⟨I1, hx2, h⟩ := tw_letE h
  refine tw_callE (cd := tw_c279) rfl rfl rfl rfl rfl (e_X10_good I L A J rt sc _ hx2) (by exact Or.inl rfl) ?_
  refine tw_blk (cd := tw_c279) rfl 2 (c1 := (4, [some (.ref 44), some (.int a1)], [.int a1, .ref 44], (I1, L, tw_P 2 14 rt sc, A, J, 57))) rfl ?_
  obtain ⟨c3, hx4, h⟩ := tw_bindE h
  refine tw_callE (cd := tw_c279) rfl rfl rfl rfl rfl (e_X10_isQuarrel I1 L A J rt sc a1 _ hx4) (by exact Or.inl rfl) ?_
  by_cases hc5 : c3 = true
  · rw [if_pos hc5] at h
    refine tw_br (cd := tw_c279) rfl rfl rfl (by exact if_neg (tw_b_t hc5)) ?_
    refine tw_blk (cd := tw_c279) rfl 2 (c1 := (8, [some (.ref 44), some (.int a1)], [.int a1, .ref 44], (I1, L, tw_P 2 14 rt sc, A, J, 57))) rfl ?_
    obtain ⟨⟨x6, I7, A8⟩, hx9, h⟩ := tw_bindE h
    dsimp only at h
    refine tw_callE (cd := tw_c279) rfl rfl rfl rfl rfl (e_X10_stoppersOf I1 L A J rt sc a1 _ hx9) (by exact Or.inl rfl) ?_
    refine tw_blk (cd := tw_c279) rfl 1 (c1 := (13, [some (.ref 44), some (.int a1)], [.int x6], (I7, L, tw_P 2 14 rt sc, A8, J, 57))) rfl ?_
    have h := Option.some.inj h
    subst h
    exact tw_retE (cd := tw_c279) rfl rfl rfl rfl
  · rw [if_neg hc5] at h
    refine tw_br (cd := tw_c279) rfl rfl rfl (by exact if_pos (tw_b_f hc5)) ?_
    refine tw_blk (cd := tw_c279) rfl 2 (c1 := (12, [some (.ref 44), some (.int a1)], [.int 1, .ref 44], (I1, L, tw_P 2 14 rt sc, A, J, 57))) rfl ?_
    obtain ⟨⟨x10, I11⟩, hx12, h⟩ := tw_letE h
    dsimp only at h
    refine tw_callE (cd := tw_c279) rfl rfl rfl rfl rfl (e_X10_no I1 L A J rt sc (1 : Int32) _ hx12) (by exact Or.inl rfl) ?_
    have h := Option.some.inj h
    subst h
    exact tw_retE (cd := tw_c279) rfl rfl rfl rfl
theorem e_X9_price (I : Nat → Int32) (L : Nat → Int64) (A : Nat → Nat → Int32) (J : Nat → Nat → Int64) (rt : Nat) (sc : Nat) (a1 : Int32) : ∀ r : (Int32 × (Nat → Int32) × (Nat → Nat → Int32) × Nat), g_X9_price I A sc a1 = some r → tw_ME 140 (0, [some (.ref 0), some (.int a1), none], [], (I, L, tw_P 2 14 rt sc, A, J, 57)) (some (.int r.1), ((r.2.1), L, tw_P 2 14 rt (r.2.2.2), (r.2.2.1), J, 57)) := by
  intro r h
  unfold g_X9_price at h
  refine tw_blk (cd := tw_c140) rfl 2 (c1 := (2, [some (.ref 0), some (.int a1), none], [.int a1, .ref 0], (I, L, tw_P 2 14 rt sc, A, J, 57))) rfl ?_
  refine tw_callE (cd := tw_c140) rfl rfl rfl rfl rfl (e_X9_isQuarrel I L A J rt sc a1 _ rfl) (by exact Or.inl rfl) ?_
  by_cases hc1 : (g_X9_isQuarrel A a1) = true
  · rw [if_pos hc1] at h
    refine tw_br (cd := tw_c140) rfl rfl rfl (by exact if_neg (tw_b_t hc1)) ?_
    refine tw_blk (cd := tw_c140) rfl 1 (c1 := (9, [some (.ref 0), some (.int a1), none], [.ref 0], (I, L, tw_P 2 14 rt sc, A, J, 57))) rfl ?_
    obtain ⟨⟨I2, A3⟩, hx4, h⟩ := tw_bindE h
    dsimp only at h
    refine tw_callE (cd := tw_c140) rfl rfl rfl rfl rfl (e_X9_showNow I L A J rt sc _ hx4) (by exact Or.inl rfl) ?_
    refine tw_blk (cd := tw_c140) rfl 3 (c1 := (13, [some (.ref 0), some (.int a1), none], [.int a1, .ref 41], (I2, L, tw_P 2 14 rt 2, A3, J, 57))) rfl ?_
    obtain ⟨⟨x5, I6, A7⟩, hx8, h⟩ := tw_bindE h
    dsimp only at h
    refine tw_callE (cd := tw_c140) rfl rfl rfl rfl rfl (e_X3_cheapestStoppers I2 L A3 J rt a1 _ hx8) (by exact Or.inl rfl) ?_
    refine tw_blk (cd := tw_c140) rfl 4 (c1 := (18, [some (.ref 0), some (.int a1), some (.int x5)], [.int (-2), .int x5, .ref 0], (I6, L, tw_P 2 14 rt 2, A7, J, 57))) rfl ?_
    obtain ⟨x10, hj11, h⟩ := tw_bindE h
    have K : tw_ME 140 (25, [none, none, none], [.int x10, .ref 0], (I6, L, tw_P 2 14 rt 2, A7, J, 57)) (some (.int r.1), ((r.2.1), L, tw_P 2 14 rt (r.2.2.2), (r.2.2.1), J, 57)) := by
      obtain ⟨⟨x14, I15⟩, hx16, h⟩ := tw_letE h
      dsimp only at h
      refine tw_callE (cd := tw_c140) rfl rfl rfl rfl rfl (e_X9_grant I6 L A7 J rt 2 x10 _ hx16) (by exact Or.inl rfl) ?_
      have h := Option.some.inj h
      subst h
      exact tw_retE (cd := tw_c140) rfl rfl rfl rfl
    by_cases hc9 : x5 = (-2 : Int32)
    · rw [if_pos hc9] at hj11
      refine tw_br (cd := tw_c140) rfl rfl rfl (by exact if_pos hc9) ?_
      refine tw_blk (cd := tw_c140) rfl 2 (c1 := (25, [some (.ref 0), some (.int a1), some (.int x5)], [.int (-2), .ref 0], (I6, L, tw_P 2 14 rt 2, A7, J, 57))) rfl ?_
      refine tw_forget (ls2 := [none, none, none]) trivial ?_
      have hj11s := Option.some.inj hj11
      subst hj11s
      exact K
    · rw [if_neg hc9] at hj11
      refine tw_br (cd := tw_c140) rfl rfl rfl (by exact if_neg hc9) ?_
      refine tw_blk (cd := tw_c140) rfl 3 (c1 := (24, [some (.ref 0), some (.int a1), some (.int x5)], [.int x5, .ref 2, .ref 0], (I6, L, tw_P 2 14 rt 2, A7, J, 57))) rfl ?_
      obtain ⟨x12, hx13, hj11⟩ := tw_bindE hj11
      refine tw_callE (cd := tw_c140) rfl rfl rfl rfl rfl (e_X8_priceOf_2 I6 L A7 J rt 2 x5 _ hx13) (by exact Or.inl rfl) ?_
      refine tw_forget (ls2 := [none, none, none]) trivial ?_
      have hj11s := Option.some.inj hj11
      subst hj11s
      exact K
  · rw [if_neg hc1] at h
    refine tw_br (cd := tw_c140) rfl rfl rfl (by exact if_pos (tw_b_f hc1)) ?_
    refine tw_blk (cd := tw_c140) rfl 2 (c1 := (6, [some (.ref 0), some (.int a1), none], [.int 1, .ref 0], (I, L, tw_P 2 14 rt sc, A, J, 57))) rfl ?_
    obtain ⟨⟨x17, I18⟩, hx19, h⟩ := tw_letE h
    dsimp only at h
    refine tw_callE (cd := tw_c140) rfl rfl rfl rfl rfl (e_X9_refuse I L A J rt sc (1 : Int32) _ hx19) (by exact Or.inl rfl) ?_
    have h := Option.some.inj h
    subst h
    exact tw_retE (cd := tw_c140) rfl rfl rfl rfl
theorem e_X10_price (I : Nat → Int32) (L : Nat → Int64) (A : Nat → Nat → Int32) (J : Nat → Nat → Int64) (rt : Nat) (sc : Nat) (a1 : Int32) : ∀ r : (Int32 × (Nat → Int32) × (Nat → Nat → Int32)), g_X10_price I A a1 = some r → tw_ME 280 (0, [some (.ref 44), some (.int a1), none], [], (I, L, tw_P 2 14 rt sc, A, J, 57)) (some (.int r.1), ((r.2.1), L, tw_P 2 14 rt sc, (r.2.2), J, 57)) := by
  intro r h
  unfold g_X10_price at h
  refine tw_blk (cd := tw_c280) rfl 1 (c1 := (1, [some (.ref 44), some (.int a1), none], [.ref 44], (I, L, tw_P 2 14 rt sc, A, J, 57))) rfl ?_
  obtain ⟨I1, hx2, h⟩ := tw_letE h
  refine tw_callE (cd := tw_c280) rfl rfl rfl rfl rfl (e_X10_good I L A J rt sc _ hx2) (by exact Or.inl rfl) ?_
  refine tw_blk (cd := tw_c280) rfl 2 (c1 := (4, [some (.ref 44), some (.int a1), none], [.int a1, .ref 44], (I1, L, tw_P 2 14 rt sc, A, J, 57))) rfl ?_
  obtain ⟨c3, hx4, h⟩ := tw_bindE h
  refine tw_callE (cd := tw_c280) rfl rfl rfl rfl rfl (e_X10_isQuarrel I1 L A J rt sc a1 _ hx4) (by exact Or.inl rfl) ?_
  by_cases hc5 : c3 = true
  · rw [if_pos hc5] at h
    refine tw_br (cd := tw_c280) rfl rfl rfl (by exact if_neg (tw_b_t hc5)) ?_
    refine tw_blk (cd := tw_c280) rfl 2 (c1 := (12, [some (.ref 44), some (.int a1), none], [.int a1, .ref 44], (I1, L, tw_P 2 14 rt sc, A, J, 57))) rfl ?_
    obtain ⟨⟨x6, I7, A8⟩, hx9, h⟩ := tw_bindE h
    dsimp only at h
    refine tw_callE (cd := tw_c280) rfl rfl rfl rfl rfl (e_X10_stoppersOf I1 L A J rt sc a1 _ hx9) (by exact Or.inl rfl) ?_
    refine tw_blk (cd := tw_c280) rfl 2 (c1 := (15, [some (.ref 44), some (.int a1), some (.int x6)], [.int x6], (I7, L, tw_P 2 14 rt sc, A8, J, 57))) rfl ?_
    by_cases hc10 : 0 ≤ x6
    · rw [if_pos hc10] at h
      refine tw_br (cd := tw_c280) rfl rfl rfl (by exact if_pos hc10) ?_
      refine tw_blk (cd := tw_c280) rfl 2 (c1 := (20, [some (.ref 44), some (.int a1), some (.int x6)], [.int x6, .ref 44], (I7, L, tw_P 2 14 rt sc, A8, J, 57))) rfl ?_
      obtain ⟨x11, hx12, h⟩ := tw_bindE h
      refine tw_callE (cd := tw_c280) rfl rfl rfl rfl rfl (e_X10_priceOf I7 L A8 J rt sc x6 _ hx12) (by exact Or.inl rfl) ?_
      have h := Option.some.inj h
      subst h
      exact tw_retE (cd := tw_c280) rfl rfl rfl rfl
    · rw [if_neg hc10] at h
      refine tw_br (cd := tw_c280) rfl rfl rfl (by exact if_neg hc10) ?_
      refine tw_blk (cd := tw_c280) rfl 2 (c1 := (21, [some (.ref 44), some (.int a1), some (.int x6)], [.int (-2)], (I7, L, tw_P 2 14 rt sc, A8, J, 57))) rfl ?_
      have h := Option.some.inj h
      subst h
      exact tw_retE (cd := tw_c280) rfl rfl rfl rfl
  · rw [if_neg hc5] at h
    refine tw_br (cd := tw_c280) rfl rfl rfl (by exact if_pos (tw_b_f hc5)) ?_
    refine tw_blk (cd := tw_c280) rfl 2 (c1 := (8, [some (.ref 44), some (.int a1), none], [.int 1, .ref 44], (I1, L, tw_P 2 14 rt sc, A, J, 57))) rfl ?_
    obtain ⟨⟨x13, I14⟩, hx15, h⟩ := tw_letE h
    dsimp only at h
    refine tw_callE (cd := tw_c280) rfl rfl rfl rfl rfl (e_X10_no I1 L A J rt sc (1 : Int32) _ hx15) (by exact Or.inl rfl) ?_
    have h := Option.some.inj h
    subst h
    exact tw_retE (cd := tw_c280) rfl rfl rfl rfl
theorem e_X9_stoppedIf (I : Nat → Int32) (L : Nat → Int64) (A : Nat → Nat → Int32) (J : Nat → Nat → Int64) (rt : Nat) (sc : Nat) (a1 : Int32) (a2 : Int32) : ∀ r : (Int32 × (Nat → Int32) × (Nat → Nat → Int32) × Nat), g_X9_stoppedIf I A sc a1 a2 = some r → tw_ME 141 (0, [some (.ref 0), some (.int a1), some (.int a2)], [], (I, L, tw_P 2 14 rt sc, A, J, 57)) (some (.int r.1), ((r.2.1), L, tw_P 2 14 rt (r.2.2.2), (r.2.2.1), J, 57)) := by
  intro r h
  unfold g_X9_stoppedIf at h
  refine tw_blk (cd := tw_c141) rfl 2 (c1 := (2, [some (.ref 0), some (.int a1), some (.int a2)], [.int a1, .ref 0], (I, L, tw_P 2 14 rt sc, A, J, 57))) rfl ?_
  refine tw_callE (cd := tw_c141) rfl rfl rfl rfl rfl (e_X9_isPerson I L A J rt sc a1 _ rfl) (by exact Or.inl rfl) ?_
  by_cases hc1 : (g_X9_isPerson A a1) = true
  · rw [if_pos hc1] at h
    refine tw_br (cd := tw_c141) rfl rfl rfl (by exact if_neg (tw_b_t hc1)) ?_
    refine tw_blk (cd := tw_c141) rfl 2 (c1 := (6, [some (.ref 0), some (.int a1), some (.int a2)], [.int a2, .ref 0], (I, L, tw_P 2 14 rt sc, A, J, 57))) rfl ?_
    refine tw_callE (cd := tw_c141) rfl rfl rfl rfl rfl (e_X9_isPlace I L A J rt sc a2 _ rfl) (by exact Or.inl rfl) ?_
    by_cases hc2 : (g_X9_isPlace A a2) = true
    · rw [if_pos hc2] at h
      refine tw_br (cd := tw_c141) rfl rfl rfl (by exact if_neg (tw_b_t hc2)) ?_
      refine tw_blk (cd := tw_c141) rfl 3 (c1 := (15, [some (.ref 0), some (.int a1), some (.int a2)], [.int a1, .ref 2], (I, L, tw_P 2 14 rt sc, A, J, 57))) rfl ?_
      refine tw_callE (cd := tw_c141) rfl rfl rfl rfl rfl (e_X8_canBeHired_2 I L A J rt sc a1 _ rfl) (by exact Or.inl rfl) ?_
      by_cases hc3 : (g_X8_canBeHired_2 A a1) = true
      · rw [if_pos hc3] at h
        refine tw_br (cd := tw_c141) rfl rfl rfl (by exact if_neg (tw_b_t hc3)) ?_
        refine tw_blk (cd := tw_c141) rfl 1 (c1 := (22, [some (.ref 0), some (.int a1), some (.int a2)], [.ref 0], (I, L, tw_P 2 14 rt sc, A, J, 57))) rfl ?_
        obtain ⟨⟨I4, A5⟩, hx6, h⟩ := tw_bindE h
        dsimp only at h
        refine tw_callE (cd := tw_c141) rfl rfl rfl rfl rfl (e_X9_showNow I L A J rt sc _ hx6) (by exact Or.inl rfl) ?_
        refine tw_blk (cd := tw_c141) rfl 7 (c1 := (30, [some (.ref 0), some (.int a1), some (.int a2)], [.int a2, .int a1, .int (I4 3301), .ref 36], (I4, L, tw_P 2 14 rt 2, A5, J, 57))) rfl ?_
        refine tw_callE (cd := tw_c141) rfl rfl rfl rfl rfl (e_X0_sending I4 L A5 J rt 2 (I4 3301) a1 a2 _ rfl) (by exact Or.inl rfl) ?_
        refine tw_blk (cd := tw_c141) rfl 4 (c1 := (35, [some (.ref 0), some (.int a1), some (.int a2)], [.ref 41, .ref 0], ((upd I4 3602 (g_X0_sending (I4 3301) a1 a2)), L, tw_P 2 14 rt 2, A5, J, 57))) rfl ?_
        obtain ⟨⟨x7, I8, A9⟩, hx10, h⟩ := tw_bindE h
        dsimp only at h
        refine tw_callE (cd := tw_c141) rfl rfl rfl rfl rfl (e_X3_stoppedOnes (upd I4 3602 (g_X0_sending (I4 3301) a1 a2)) L A5 J rt _ hx10) (by exact Or.inl rfl) ?_
        obtain ⟨⟨x11, I12⟩, hx13, h⟩ := tw_letE h
        dsimp only at h
        refine tw_callE (cd := tw_c141) rfl rfl rfl rfl rfl (e_X9_grant I8 L A9 J rt 2 x7 _ hx13) (by exact Or.inl rfl) ?_
        have h := Option.some.inj h
        subst h
        exact tw_retE (cd := tw_c141) rfl rfl rfl rfl
      · rw [if_neg hc3] at h
        refine tw_br (cd := tw_c141) rfl rfl rfl (by exact if_pos (tw_b_f hc3)) ?_
        refine tw_blk (cd := tw_c141) rfl 2 (c1 := (19, [some (.ref 0), some (.int a1), some (.int a2)], [.int 5, .ref 0], (I, L, tw_P 2 14 rt sc, A, J, 57))) rfl ?_
        obtain ⟨⟨x14, I15⟩, hx16, h⟩ := tw_letE h
        dsimp only at h
        refine tw_callE (cd := tw_c141) rfl rfl rfl rfl rfl (e_X9_refuse I L A J rt sc (5 : Int32) _ hx16) (by exact Or.inl rfl) ?_
        have h := Option.some.inj h
        subst h
        exact tw_retE (cd := tw_c141) rfl rfl rfl rfl
    · rw [if_neg hc2] at h
      refine tw_br (cd := tw_c141) rfl rfl rfl (by exact if_pos (tw_b_f hc2)) ?_
      refine tw_blk (cd := tw_c141) rfl 2 (c1 := (10, [some (.ref 0), some (.int a1), some (.int a2)], [.int 1, .ref 0], (I, L, tw_P 2 14 rt sc, A, J, 57))) rfl ?_
      obtain ⟨⟨x17, I18⟩, hx19, h⟩ := tw_letE h
      dsimp only at h
      refine tw_callE (cd := tw_c141) rfl rfl rfl rfl rfl (e_X9_refuse I L A J rt sc (1 : Int32) _ hx19) (by exact Or.inl rfl) ?_
      have h := Option.some.inj h
      subst h
      exact tw_retE (cd := tw_c141) rfl rfl rfl rfl
  · rw [if_neg hc1] at h
    refine tw_br (cd := tw_c141) rfl rfl rfl (by exact if_pos (tw_b_f hc1)) ?_
    refine tw_blk (cd := tw_c141) rfl 2 (c1 := (10, [some (.ref 0), some (.int a1), some (.int a2)], [.int 1, .ref 0], (I, L, tw_P 2 14 rt sc, A, J, 57))) rfl ?_
    obtain ⟨⟨x20, I21⟩, hx22, h⟩ := tw_letE h
    dsimp only at h
    refine tw_callE (cd := tw_c141) rfl rfl rfl rfl rfl (e_X9_refuse I L A J rt sc (1 : Int32) _ hx22) (by exact Or.inl rfl) ?_
    have h := Option.some.inj h
    subst h
    exact tw_retE (cd := tw_c141) rfl rfl rfl rfl
theorem e_X10_stoppedWith (I : Nat → Int32) (L : Nat → Int64) (A : Nat → Nat → Int32) (J : Nat → Nat → Int64) (rt : Nat) (sc : Nat) (a1 : Int32) (a2 : Int32) : ∀ r : (Int32 × (Nat → Int32) × (Nat → Nat → Int32)), g_X10_stoppedWith I A a1 a2 = some r → tw_ME 281 (0, [some (.ref 44), some (.int a1), some (.int a2)], [], (I, L, tw_P 2 14 rt sc, A, J, 57)) (some (.int r.1), ((r.2.1), L, tw_P 2 14 rt sc, (r.2.2), J, 57)) := by
  intro r h
  unfold g_X10_stoppedWith at h
  refine tw_blk (cd := tw_c281) rfl 1 (c1 := (1, [some (.ref 44), some (.int a1), some (.int a2)], [.ref 44], (I, L, tw_P 2 14 rt sc, A, J, 57))) rfl ?_
  obtain ⟨A1, hx2, h⟩ := tw_bindE h
  refine tw_callE (cd := tw_c281) rfl rfl rfl rfl rfl (e_X10_asNow I L A J rt sc _ hx2) (by exact Or.inl rfl) ?_
  refine tw_blk (cd := tw_c281) rfl 6 (c1 := (8, [some (.ref 44), some (.int a1), some (.int a2)], [.int (a2 + (1 : Int32)), .int a1, .ref 52], (I, L, tw_P 2 14 rt sc, A1, J, 57))) rfl ?_
  obtain ⟨w4, hx3, h⟩ := tw_bindE h
  refine tw_iast (cd := tw_c281) (N := 8) rfl rfl rfl rfl hx3 ?_
  refine tw_blk (cd := tw_c281) rfl 1 (c1 := (10, [some (.ref 44), some (.int a1), some (.int a2)], [.ref 44], (I, L, tw_P 2 14 rt sc, (va_up A1 52 w4), J, 57))) rfl ?_
  obtain ⟨⟨x5, I6⟩, hx7, h⟩ := tw_bindE h
  dsimp only at h
  refine tw_callE (cd := tw_c281) rfl rfl rfl rfl rfl (e_X10_stopped I L (va_up A1 52 w4) J rt sc _ hx7) (by exact Or.inl rfl) ?_
  have h := Option.some.inj h
  subst h
  exact tw_retE (cd := tw_c281) rfl rfl rfl rfl
theorem e_X10_stoppedIf (I : Nat → Int32) (L : Nat → Int64) (A : Nat → Nat → Int32) (J : Nat → Nat → Int64) (rt : Nat) (sc : Nat) (a1 : Int32) (a2 : Int32) : ∀ r : (Int32 × (Nat → Int32) × (Nat → Nat → Int32)), g_X10_stoppedIf I A a1 a2 = some r → tw_ME 282 (0, [some (.ref 44), some (.int a1), some (.int a2)], [], (I, L, tw_P 2 14 rt sc, A, J, 57)) (some (.int r.1), ((r.2.1), L, tw_P 2 14 rt sc, (r.2.2), J, 57)) := by
  intro r h
  unfold g_X10_stoppedIf at h
  refine tw_blk (cd := tw_c282) rfl 1 (c1 := (1, [some (.ref 44), some (.int a1), some (.int a2)], [.ref 44], (I, L, tw_P 2 14 rt sc, A, J, 57))) rfl ?_
  obtain ⟨I1, hx2, h⟩ := tw_letE h
  refine tw_callE (cd := tw_c282) rfl rfl rfl rfl rfl (e_X10_good I L A J rt sc _ hx2) (by exact Or.inl rfl) ?_
  refine tw_blk (cd := tw_c282) rfl 2 (c1 := (4, [some (.ref 44), some (.int a1), some (.int a2)], [.int a1, .ref 44], (I1, L, tw_P 2 14 rt sc, A, J, 57))) rfl ?_
  obtain ⟨c3, hx4, h⟩ := tw_bindE h
  refine tw_callE (cd := tw_c282) rfl rfl rfl rfl rfl (e_X10_isPerson I1 L A J rt sc a1 _ hx4) (by exact Or.inl rfl) ?_
  by_cases hc5 : c3 = true
  · rw [if_pos hc5] at h
    refine tw_br (cd := tw_c282) rfl rfl rfl (by exact if_neg (tw_b_t hc5)) ?_
    refine tw_blk (cd := tw_c282) rfl 2 (c1 := (8, [some (.ref 44), some (.int a1), some (.int a2)], [.int a2, .ref 44], (I1, L, tw_P 2 14 rt sc, A, J, 57))) rfl ?_
    obtain ⟨c6, hx7, h⟩ := tw_bindE h
    refine tw_callE (cd := tw_c282) rfl rfl rfl rfl rfl (e_X10_isPlace I1 L A J rt sc a2 _ hx7) (by exact Or.inl rfl) ?_
    by_cases hc8 : c6 = true
    · rw [if_pos hc8] at h
      refine tw_br (cd := tw_c282) rfl rfl rfl (by exact if_neg (tw_b_t hc8)) ?_
      refine tw_blk (cd := tw_c282) rfl 2 (c1 := (16, [some (.ref 44), some (.int a1), some (.int a2)], [.int a1, .ref 44], (I1, L, tw_P 2 14 rt sc, A, J, 57))) rfl ?_
      obtain ⟨c9, hx10, h⟩ := tw_bindE h
      refine tw_callE (cd := tw_c282) rfl rfl rfl rfl rfl (e_X10_canHire I1 L A J rt sc a1 _ hx10) (by exact Or.inl rfl) ?_
      by_cases hc11 : c9 = true
      · rw [if_pos hc11] at h
        refine tw_br (cd := tw_c282) rfl rfl rfl (by exact if_neg (tw_b_t hc11)) ?_
        refine tw_blk (cd := tw_c282) rfl 3 (c1 := (21, [some (.ref 44), some (.int a1), some (.int a2)], [.int a2, .int a1, .ref 44], (I1, L, tw_P 2 14 rt sc, A, J, 57))) rfl ?_
        obtain ⟨⟨x12, I13, A14⟩, hx15, h⟩ := tw_bindE h
        dsimp only at h
        refine tw_callE (cd := tw_c282) rfl rfl rfl rfl rfl (e_X10_stoppedWith I1 L A J rt sc a1 a2 _ hx15) (by exact Or.inl rfl) ?_
        refine tw_blk (cd := tw_c282) rfl 1 (c1 := (26, [some (.ref 44), some (.int a1), some (.int a2)], [.int x12], (I13, L, tw_P 2 14 rt sc, A14, J, 57))) rfl ?_
        have h := Option.some.inj h
        subst h
        exact tw_retE (cd := tw_c282) rfl rfl rfl rfl
      · rw [if_neg hc11] at h
        refine tw_br (cd := tw_c282) rfl rfl rfl (by exact if_pos (tw_b_f hc11)) ?_
        refine tw_blk (cd := tw_c282) rfl 2 (c1 := (25, [some (.ref 44), some (.int a1), some (.int a2)], [.int 5, .ref 44], (I1, L, tw_P 2 14 rt sc, A, J, 57))) rfl ?_
        obtain ⟨⟨x16, I17⟩, hx18, h⟩ := tw_letE h
        dsimp only at h
        refine tw_callE (cd := tw_c282) rfl rfl rfl rfl rfl (e_X10_no I1 L A J rt sc (5 : Int32) _ hx18) (by exact Or.inl rfl) ?_
        have h := Option.some.inj h
        subst h
        exact tw_retE (cd := tw_c282) rfl rfl rfl rfl
    · rw [if_neg hc8] at h
      refine tw_br (cd := tw_c282) rfl rfl rfl (by exact if_pos (tw_b_f hc8)) ?_
      refine tw_blk (cd := tw_c282) rfl 2 (c1 := (12, [some (.ref 44), some (.int a1), some (.int a2)], [.int 1, .ref 44], (I1, L, tw_P 2 14 rt sc, A, J, 57))) rfl ?_
      obtain ⟨⟨x19, I20⟩, hx21, h⟩ := tw_letE h
      dsimp only at h
      refine tw_callE (cd := tw_c282) rfl rfl rfl rfl rfl (e_X10_no I1 L A J rt sc (1 : Int32) _ hx21) (by exact Or.inl rfl) ?_
      have h := Option.some.inj h
      subst h
      exact tw_retE (cd := tw_c282) rfl rfl rfl rfl
  · rw [if_neg hc5] at h
    refine tw_br (cd := tw_c282) rfl rfl rfl (by exact if_pos (tw_b_f hc5)) ?_
    refine tw_blk (cd := tw_c282) rfl 2 (c1 := (12, [some (.ref 44), some (.int a1), some (.int a2)], [.int 1, .ref 44], (I1, L, tw_P 2 14 rt sc, A, J, 57))) rfl ?_
    obtain ⟨⟨x22, I23⟩, hx24, h⟩ := tw_letE h
    dsimp only at h
    refine tw_callE (cd := tw_c282) rfl rfl rfl rfl rfl (e_X10_no I1 L A J rt sc (1 : Int32) _ hx24) (by exact Or.inl rfl) ?_
    have h := Option.some.inj h
    subst h
    exact tw_retE (cd := tw_c282) rfl rfl rfl rfl
theorem g_X3_bestSending_L2_ok (I : Nat → Int32) (L : Nat → Int64) (A : Nat → Nat → Int32) (J : Nat → Nat → Int64) (rt : Nat) (x1 : Int32) (I2 : Nat → Int32) (A3 : Nat → Nat → Int32) (v1_2 : Int32) (v1_3 : Int32) (v1_4 : Int32) (I_1 : Nat → Int32) (A_1 : Nat → Nat → Int32) (out : Option Value × tw_S) : ∀ (n : Nat) (v2_2 : Int32) (v2_3 : Int32) (v2_5 : Int32) (I_2 : Nat → Int32) (A_2 : Nat → Nat → Int32) (ex : (Int32 × Int32 × (Nat → Int32) × (Nat → Nat → Int32))), g_X3_bestSending_L2 I v1_4 n v2_2 v2_3 v2_5 I_2 A_2 = some ex → tw_ME 43 (60, [some (.ref 41), some (.int (I 3602)), some (.int (ex.1)), some (.int (ex.2.1)), some (.int v1_4), none, none], [], ((ex.2.2.1), L, tw_P 2 14 rt 2, (ex.2.2.2), J, 57)) out → tw_ME 43 (21, [some (.ref 41), some (.int (I 3602)), some (.int v2_2), some (.int v2_3), some (.int v1_4), some (.int v2_5), none], [], (I_2, L, tw_P 2 14 rt 2, A_2, J, 57)) out := by
  intro n
  induction n with
  | zero =>
    intro v2_2 v2_3 v2_5 I_2 A_2 ex h _
    cases h
  | succ n ih =>
    intro v2_2 v2_3 v2_5 I_2 A_2 ex h K
    rw [g_X3_bestSending_L2] at h
    refine tw_blk (cd := tw_c43) rfl 1 (c1 := (22, [some (.ref 41), some (.int (I 3602)), some (.int v2_2), some (.int v2_3), some (.int v1_4), some (.int v2_5), none], [.int v2_5], (I_2, L, tw_P 2 14 rt 2, A_2, J, 57))) rfl ?_
    refine tw_blk (cd := tw_c43) rfl 4 (c1 := (26, [some (.ref 41), some (.int (I 3602)), some (.int v2_2), some (.int v2_3), some (.int v1_4), some (.int v2_5), none], [.int 1, .ref 2, .int v2_5], (I_2, L, tw_P 2 14 rt 2, A_2, J, 57))) rfl ?_
    refine tw_callE (cd := tw_c43) rfl rfl rfl rfl rfl (e_X8_count_2 I_2 L A_2 J rt 2 (1 : Int32) _ rfl) (by exact Or.inl rfl) ?_
    by_cases hc13 : (g_X8_count_2 A_2 (1 : Int32)) ≤ v2_5
    · rw [if_pos hc13] at h
      refine tw_br (cd := tw_c43) rfl rfl rfl (by exact if_pos hc13) ?_
      refine tw_forget (ls2 := [some (.ref 41), some (.int (I 3602)), some (.int v2_2), some (.int v2_3), some (.int v1_4), none, none]) ⟨rfl, rfl, rfl, rfl, rfl, trivial⟩ ?_
      have h := Option.some.inj h
      subst h
      exact K
    · rw [if_neg hc13] at h
      refine tw_br (cd := tw_c43) rfl rfl rfl (by exact if_neg hc13) ?_
      refine tw_blk (cd := tw_c43) rfl 5 (c1 := (33, [some (.ref 41), some (.int (I 3602)), some (.int v2_2), some (.int v2_3), some (.int v1_4), some (.int v2_5), none], [.int v2_5, .int v1_4, .int (I 3602), .ref 36], (I_2, L, tw_P 2 14 rt 2, A_2, J, 57))) rfl ?_
      refine tw_callE (cd := tw_c43) rfl rfl rfl rfl rfl (e_X0_sending I_2 L A_2 J rt 2 (I 3602) v1_4 v2_5 _ rfl) (by exact Or.inl rfl) ?_
      refine tw_blk (cd := tw_c43) rfl 5 (c1 := (39, [some (.ref 41), some (.int (I 3602)), some (.int v2_2), some (.int v2_3), some (.int v1_4), some (.int v2_5), none], [.int v1_4, .ref 2], ((upd I_2 3602 (g_X0_sending (I 3602) v1_4 v2_5)), L, tw_P 2 14 rt 2, A_2, J, 57))) rfl ?_
      refine tw_callE (cd := tw_c43) rfl rfl rfl rfl rfl (e_X8_canBeHired_2 (upd I_2 3602 (g_X0_sending (I 3602) v1_4 v2_5)) L A_2 J rt 2 v1_4 _ rfl) (by exact Or.inl rfl) ?_
      obtain ⟨⟨x15, I16, A17⟩, hj18, h⟩ := tw_bindE h
      dsimp only at h
      have K : tw_ME 43 (46, [some (.ref 41), some (.int (I 3602)), some (.int v2_2), some (.int v2_3), some (.int v1_4), some (.int v2_5), none], [.int x15], (I16, L, tw_P 2 14 rt 2, A17, J, 57)) out := by
        refine tw_blk (cd := tw_c43) rfl 3 (c1 := (49, [some (.ref 41), some (.int (I 3602)), some (.int v2_2), some (.int v2_3), some (.int v1_4), some (.int v2_5), some (.int x15)], [.int v2_3, .int x15], (I16, L, tw_P 2 14 rt 2, A17, J, 57))) rfl ?_
        obtain ⟨⟨x24, x25⟩, hj26, h⟩ := tw_bindE h
        dsimp only at h
        have K : tw_ME 43 (58, [some (.ref 41), some (.int (I 3602)), some (.int x24), some (.int x25), some (.int v1_4), some (.int v2_5), none], [], (I16, L, tw_P 2 14 rt 2, A17, J, 57)) out := by
          refine tw_blk (cd := tw_c43) rfl 2 (c1 := (21, [some (.ref 41), some (.int (I 3602)), some (.int x24), some (.int x25), some (.int v1_4), some (.int (v2_5 + (1 : Int32))), none], [], (I16, L, tw_P 2 14 rt 2, A17, J, 57))) rfl ?_
          exact ih x24 x25 (v2_5 + (1 : Int32)) I16 A17 _ h K
        by_cases hc23 : x15 ≤ v2_3
        · rw [if_pos hc23] at hj26
          refine tw_br (cd := tw_c43) rfl rfl rfl (by exact if_pos hc23) ?_
          refine tw_forget (ls2 := [some (.ref 41), some (.int (I 3602)), some (.int v2_2), some (.int v2_3), some (.int v1_4), some (.int v2_5), none]) ⟨rfl, rfl, rfl, rfl, rfl, rfl, trivial⟩ ?_
          have hj26s := Option.some.inj hj26
          obtain ⟨hj26_0, hj26r0⟩ := Prod.mk.inj hj26s
          subst hj26_0
          subst hj26r0
          exact K
        · rw [if_neg hc23] at hj26
          refine tw_br (cd := tw_c43) rfl rfl rfl (by exact if_neg hc23) ?_
          refine tw_blk (cd := tw_c43) rfl 8 (c1 := (58, [some (.ref 41), some (.int (I 3602)), some (.int ((v1_4 * (10 : Int32)) + v2_5)), some (.int x15), some (.int v1_4), some (.int v2_5), some (.int x15)], [], (I16, L, tw_P 2 14 rt 2, A17, J, 57))) rfl ?_
          refine tw_forget (ls2 := [some (.ref 41), some (.int (I 3602)), some (.int ((v1_4 * (10 : Int32)) + v2_5)), some (.int x15), some (.int v1_4), some (.int v2_5), none]) ⟨rfl, rfl, rfl, rfl, rfl, rfl, trivial⟩ ?_
          have hj26s := Option.some.inj hj26
          obtain ⟨hj26_0, hj26r0⟩ := Prod.mk.inj hj26s
          subst hj26_0
          subst hj26r0
          exact K
      by_cases hc14 : (g_X8_canBeHired_2 A_2 v1_4) = true
      · rw [if_pos hc14] at hj18
        refine tw_br (cd := tw_c43) rfl rfl rfl (by exact if_neg (tw_b_t hc14)) ?_
        refine tw_blk (cd := tw_c43) rfl 1 (c1 := (42, [some (.ref 41), some (.int (I 3602)), some (.int v2_2), some (.int v2_3), some (.int v1_4), some (.int v2_5), none], [.ref 41], ((upd I_2 3602 (g_X0_sending (I 3602) v1_4 v2_5)), L, tw_P 2 14 rt 2, A_2, J, 57))) rfl ?_
        obtain ⟨⟨x19, I20, A21⟩, hx22, hj18⟩ := tw_bindE hj18
        dsimp only at hj18
        refine tw_callE (cd := tw_c43) rfl rfl rfl rfl rfl (e_X3_stoppedOnes (upd I_2 3602 (g_X0_sending (I 3602) v1_4 v2_5)) L A_2 J rt _ hx22) (by exact Or.inl rfl) ?_
        refine tw_callE (cd := tw_c43) rfl rfl rfl rfl rfl (e_J6_bitCount_0f7a4 I20 L A21 J rt 2 x19 _ rfl) (by exact Or.inl rfl) ?_
        refine tw_blk (cd := tw_c43) rfl 1 (c1 := (46, [some (.ref 41), some (.int (I 3602)), some (.int v2_2), some (.int v2_3), some (.int v1_4), some (.int v2_5), none], [.int (g_J6_bitCount_0f7a4 x19)], (I20, L, tw_P 2 14 rt 2, A21, J, 57))) rfl ?_
        have hj18s := Option.some.inj hj18
        obtain ⟨hj18_0, hj18r0⟩ := Prod.mk.inj hj18s
        obtain ⟨hj18_1, hj18r1⟩ := Prod.mk.inj hj18r0
        subst hj18_0
        subst hj18_1
        subst hj18r1
        exact K
      · rw [if_neg hc14] at hj18
        refine tw_br (cd := tw_c43) rfl rfl rfl (by exact if_pos (tw_b_f hc14)) ?_
        refine tw_blk (cd := tw_c43) rfl 1 (c1 := (46, [some (.ref 41), some (.int (I 3602)), some (.int v2_2), some (.int v2_3), some (.int v1_4), some (.int v2_5), none], [.int 0], ((upd I_2 3602 (g_X0_sending (I 3602) v1_4 v2_5)), L, tw_P 2 14 rt 2, A_2, J, 57))) rfl ?_
        have hj18s := Option.some.inj hj18
        obtain ⟨hj18_0, hj18r0⟩ := Prod.mk.inj hj18s
        obtain ⟨hj18_1, hj18r1⟩ := Prod.mk.inj hj18r0
        subst hj18_0
        subst hj18_1
        subst hj18r1
        exact K
theorem g_X3_bestSending_L1_ok (I : Nat → Int32) (L : Nat → Int64) (A : Nat → Nat → Int32) (J : Nat → Nat → Int64) (rt : Nat) (x1 : Int32) (I2 : Nat → Int32) (A3 : Nat → Nat → Int32) (out : Option Value × tw_S) : ∀ (n : Nat) (v1_2 : Int32) (v1_3 : Int32) (v1_4 : Int32) (I_1 : Nat → Int32) (A_1 : Nat → Nat → Int32) (ex : (Int32 × (Nat → Int32) × (Nat → Nat → Int32))), g_X3_bestSending_L1 I n v1_2 v1_3 v1_4 I_1 A_1 = some ex → tw_ME 43 (62, [some (.ref 41), some (.int (I 3602)), some (.int (ex.1)), none, none, none, none], [], ((ex.2.1), L, tw_P 2 14 rt 2, (ex.2.2), J, 57)) out → tw_ME 43 (12, [some (.ref 41), some (.int (I 3602)), some (.int v1_2), some (.int v1_3), some (.int v1_4), none, none], [], (I_1, L, tw_P 2 14 rt 2, A_1, J, 57)) out := by
  intro n
  induction n with
  | zero =>
    intro v1_2 v1_3 v1_4 I_1 A_1 ex h _
    cases h
  | succ n ih =>
    intro v1_2 v1_3 v1_4 I_1 A_1 ex h K
    rw [g_X3_bestSending_L1] at h
    refine tw_blk (cd := tw_c43) rfl 1 (c1 := (13, [some (.ref 41), some (.int (I 3602)), some (.int v1_2), some (.int v1_3), some (.int v1_4), none, none], [.int v1_4], (I_1, L, tw_P 2 14 rt 2, A_1, J, 57))) rfl ?_
    refine tw_blk (cd := tw_c43) rfl 4 (c1 := (17, [some (.ref 41), some (.int (I 3602)), some (.int v1_2), some (.int v1_3), some (.int v1_4), none, none], [.int 3, .ref 2, .int v1_4], (I_1, L, tw_P 2 14 rt 2, A_1, J, 57))) rfl ?_
    refine tw_callE (cd := tw_c43) rfl rfl rfl rfl rfl (e_X8_count_2 I_1 L A_1 J rt 2 (3 : Int32) _ rfl) (by exact Or.inl rfl) ?_
    by_cases hc8 : (g_X8_count_2 A_1 (3 : Int32)) ≤ v1_4
    · rw [if_pos hc8] at h
      refine tw_br (cd := tw_c43) rfl rfl rfl (by exact if_pos hc8) ?_
      refine tw_forget (ls2 := [some (.ref 41), some (.int (I 3602)), some (.int v1_2), none, none, none, none]) ⟨rfl, rfl, rfl, trivial⟩ ?_
      have h := Option.some.inj h
      subst h
      exact K
    · rw [if_neg hc8] at h
      refine tw_br (cd := tw_c43) rfl rfl rfl (by exact if_neg hc8) ?_
      refine tw_blk (cd := tw_c43) rfl 2 (c1 := (21, [some (.ref 41), some (.int (I 3602)), some (.int v1_2), some (.int v1_3), some (.int v1_4), some (.int 0), none], [], (I_1, L, tw_P 2 14 rt 2, A_1, J, 57))) rfl ?_
      obtain ⟨⟨x9, x10, I11, A12⟩, hx27, h⟩ := tw_bindE h
      dsimp only at h
      refine g_X3_bestSending_L2_ok I L A J rt x1 I2 A3 v1_2 v1_3 v1_4 I_1 A_1 _ 4096 v1_2 v1_3 (0 : Int32) I_1 A_1 _ hx27 ?_
      refine tw_blk (cd := tw_c43) rfl 2 (c1 := (12, [some (.ref 41), some (.int (I 3602)), some (.int x9), some (.int x10), some (.int (v1_4 + (1 : Int32))), none, none], [], (I11, L, tw_P 2 14 rt 2, A12, J, 57))) rfl ?_
      exact ih x9 x10 (v1_4 + (1 : Int32)) I11 A12 _ h K
theorem e_X3_bestSending (I : Nat → Int32) (L : Nat → Int64) (A : Nat → Nat → Int32) (J : Nat → Nat → Int64) (rt : Nat) : ∀ r : (Int32 × (Nat → Int32) × (Nat → Nat → Int32)), g_X3_bestSending I A = some r → tw_ME 43 (0, [some (.ref 41), none, none, none, none, none, none], [], (I, L, tw_P 2 14 rt 2, A, J, 57)) (some (.int r.1), ((r.2.1), L, tw_P 2 14 rt 2, (r.2.2), J, 57)) := by
  intro r h
  unfold g_X3_bestSending at h
  refine tw_blk (cd := tw_c43) rfl 7 (c1 := (7, [some (.ref 41), some (.int (I 3602)), some (.int (-2)), none, none, none, none], [.ref 41], (I, L, tw_P 2 14 rt 2, A, J, 57))) rfl ?_
  obtain ⟨⟨x1, I2, A3⟩, hx4, h⟩ := tw_bindE h
  dsimp only at h
  refine tw_callE (cd := tw_c43) rfl rfl rfl rfl rfl (e_X3_stoppedOnes I L A J rt _ hx4) (by exact Or.inl rfl) ?_
  refine tw_callE (cd := tw_c43) rfl rfl rfl rfl rfl (e_J6_bitCount_0f7a4 I2 L A3 J rt 2 x1 _ rfl) (by exact Or.inl rfl) ?_
  refine tw_blk (cd := tw_c43) rfl 3 (c1 := (12, [some (.ref 41), some (.int (I 3602)), some (.int (-2)), some (.int (g_J6_bitCount_0f7a4 x1)), some (.int 0), none, none], [], (I2, L, tw_P 2 14 rt 2, A3, J, 57))) rfl ?_
  obtain ⟨⟨x5, I6, A7⟩, hx28, h⟩ := tw_bindE h
  dsimp only at h
  refine g_X3_bestSending_L1_ok I L A J rt x1 I2 A3 _ 4096 (-2 : Int32) (g_J6_bitCount_0f7a4 x1) (0 : Int32) I2 A3 _ hx28 ?_
  refine tw_blk (cd := tw_c43) rfl 5 (c1 := (67, [some (.ref 41), some (.int (I 3602)), some (.int x5), none, none, none, none], [.int x5], ((upd I6 3602 (I 3602)), L, tw_P 2 14 rt 2, A7, J, 57))) rfl ?_
  have h := Option.some.inj h
  subst h
  exact tw_retE (cd := tw_c43) rfl rfl rfl rfl
theorem e_X9_bestHire (I : Nat → Int32) (L : Nat → Int64) (A : Nat → Nat → Int32) (J : Nat → Nat → Int64) (rt : Nat) (sc : Nat) : ∀ r : (Int32 × (Nat → Int32) × (Nat → Nat → Int32) × Nat), g_X9_bestHire I A sc = some r → tw_ME 142 (0, [some (.ref 0)], [], (I, L, tw_P 2 14 rt sc, A, J, 57)) (some (.int r.1), ((r.2.1), L, tw_P 2 14 rt (r.2.2.2), (r.2.2.1), J, 57)) := by
  intro r h
  unfold g_X9_bestHire at h
  refine tw_blk (cd := tw_c142) rfl 1 (c1 := (1, [some (.ref 0)], [.ref 0], (I, L, tw_P 2 14 rt sc, A, J, 57))) rfl ?_
  refine tw_callE (cd := tw_c142) rfl rfl rfl rfl rfl (e_X9_hasTown I L A J rt sc _ rfl) (by exact Or.inl rfl) ?_
  by_cases hc1 : (g_X9_hasTown A) = true
  · rw [if_pos hc1] at h
    refine tw_br (cd := tw_c142) rfl rfl rfl (by exact if_neg (tw_b_t hc1)) ?_
    refine tw_blk (cd := tw_c142) rfl 1 (c1 := (8, [some (.ref 0)], [.ref 0], (I, L, tw_P 2 14 rt sc, A, J, 57))) rfl ?_
    obtain ⟨⟨I2, A3⟩, hx4, h⟩ := tw_bindE h
    dsimp only at h
    refine tw_callE (cd := tw_c142) rfl rfl rfl rfl rfl (e_X9_showNow I L A J rt sc _ hx4) (by exact Or.inl rfl) ?_
    refine tw_blk (cd := tw_c142) rfl 3 (c1 := (12, [some (.ref 0)], [.ref 41, .ref 0], (I2, L, tw_P 2 14 rt 2, A3, J, 57))) rfl ?_
    obtain ⟨⟨x5, I6, A7⟩, hx8, h⟩ := tw_bindE h
    dsimp only at h
    refine tw_callE (cd := tw_c142) rfl rfl rfl rfl rfl (e_X3_bestSending I2 L A3 J rt _ hx8) (by exact Or.inl rfl) ?_
    obtain ⟨⟨x9, I10⟩, hx11, h⟩ := tw_letE h
    dsimp only at h
    refine tw_callE (cd := tw_c142) rfl rfl rfl rfl rfl (e_X9_grant I6 L A7 J rt 2 x5 _ hx11) (by exact Or.inl rfl) ?_
    have h := Option.some.inj h
    subst h
    exact tw_retE (cd := tw_c142) rfl rfl rfl rfl
  · rw [if_neg hc1] at h
    refine tw_br (cd := tw_c142) rfl rfl rfl (by exact if_pos (tw_b_f hc1)) ?_
    refine tw_blk (cd := tw_c142) rfl 2 (c1 := (5, [some (.ref 0)], [.int 1, .ref 0], (I, L, tw_P 2 14 rt sc, A, J, 57))) rfl ?_
    obtain ⟨⟨x12, I13⟩, hx14, h⟩ := tw_letE h
    dsimp only at h
    refine tw_callE (cd := tw_c142) rfl rfl rfl rfl rfl (e_X9_refuse I L A J rt sc (1 : Int32) _ hx14) (by exact Or.inl rfl) ?_
    have h := Option.some.inj h
    subst h
    exact tw_retE (cd := tw_c142) rfl rfl rfl rfl
theorem g_X10_bestHire_L2_ok (I : Nat → Int32) (L : Nat → Int64) (A : Nat → Nat → Int32) (J : Nat → Nat → Int64) (rt : Nat) (sc : Nat) (I1 : Nat → Int32) (x4 : Int32) (I5 : Nat → Int32) (A7 : Nat → Nat → Int32) (x9 : Int32) (I10 : Nat → Int32) (x12 : Int32) (v1_1 : Int32) (v1_2 : Int32) (v1_3 : Int32) (I_1 : Nat → Int32) (A_1 : Nat → Nat → Int32) (x18 : Int32) (out : Option Value × tw_S) : ∀ (n : Nat) (v2_1 : Int32) (v2_2 : Int32) (v2_4 : Int32) (I_2 : Nat → Int32) (A_2 : Nat → Nat → Int32) (ex : (Int32 × Int32 × (Nat → Int32) × (Nat → Nat → Int32))), g_X10_bestHire_L2 v1_3 n v2_1 v2_2 v2_4 I_2 A_2 = some ex → tw_ME 283 (57, [some (.ref 44), some (.int (ex.1)), some (.int (ex.2.1)), some (.int v1_3), none, none], [], ((ex.2.2.1), L, tw_P 2 14 rt sc, (ex.2.2.2), J, 57)) out → tw_ME 283 (27, [some (.ref 44), some (.int v2_1), some (.int v2_2), some (.int v1_3), some (.int v2_4), none], [], (I_2, L, tw_P 2 14 rt sc, A_2, J, 57)) out := by
  intro n
  induction n with
  | zero =>
    intro v2_1 v2_2 v2_4 I_2 A_2 ex h _
    cases h
  | succ n ih =>
    intro v2_1 v2_2 v2_4 I_2 A_2 ex h K
    rw [g_X10_bestHire_L2] at h
    refine tw_blk (cd := tw_c283) rfl 1 (c1 := (28, [some (.ref 44), some (.int v2_1), some (.int v2_2), some (.int v1_3), some (.int v2_4), none], [.int v2_4], (I_2, L, tw_P 2 14 rt sc, A_2, J, 57))) rfl ?_
    refine tw_blk (cd := tw_c283) rfl 3 (c1 := (31, [some (.ref 44), some (.int v2_1), some (.int v2_2), some (.int v1_3), some (.int v2_4), none], [.int 1, .ref 47, .int v2_4], (I_2, L, tw_P 2 14 rt sc, A_2, J, 57))) rfl ?_
    obtain ⟨x25, hx24, h⟩ := tw_bindE h
    refine tw_iald (cd := tw_c283) (N := 241) rfl rfl rfl rfl hx24 ?_
    by_cases hc26 : x25 ≤ v2_4
    · rw [if_pos hc26] at h
      refine tw_br (cd := tw_c283) rfl rfl rfl (by exact if_pos hc26) ?_
      refine tw_forget (ls2 := [some (.ref 44), some (.int v2_1), some (.int v2_2), some (.int v1_3), none, none]) ⟨rfl, rfl, rfl, rfl, trivial⟩ ?_
      have h := Option.some.inj h
      subst h
      exact K
    · rw [if_neg hc26] at h
      refine tw_br (cd := tw_c283) rfl rfl rfl (by exact if_neg hc26) ?_
      refine tw_blk (cd := tw_c283) rfl 2 (c1 := (35, [some (.ref 44), some (.int v2_1), some (.int v2_2), some (.int v1_3), some (.int v2_4), none], [.int v1_3, .ref 44], (I_2, L, tw_P 2 14 rt sc, A_2, J, 57))) rfl ?_
      obtain ⟨c27, hx28, h⟩ := tw_bindE h
      refine tw_callE (cd := tw_c283) rfl rfl rfl rfl rfl (e_X10_canHire I_2 L A_2 J rt sc v1_3 _ hx28) (by exact Or.inl rfl) ?_
      by_cases hc29 : c27 = true
      · rw [if_pos hc29] at h
        refine tw_br (cd := tw_c283) rfl rfl rfl (by exact if_neg (tw_b_t hc29)) ?_
        refine tw_blk (cd := tw_c283) rfl 3 (c1 := (40, [some (.ref 44), some (.int v2_1), some (.int v2_2), some (.int v1_3), some (.int v2_4), none], [.int v2_4, .int v1_3, .ref 44], (I_2, L, tw_P 2 14 rt sc, A_2, J, 57))) rfl ?_
        obtain ⟨⟨x30, I31, A32⟩, hx33, h⟩ := tw_bindE h
        dsimp only at h
        refine tw_callE (cd := tw_c283) rfl rfl rfl rfl rfl (e_X10_stoppedWith I_2 L A_2 J rt sc v1_3 v2_4 _ hx33) (by exact Or.inl rfl) ?_
        obtain ⟨x34, hx35, h⟩ := tw_bindE h
        refine tw_callE (cd := tw_c283) rfl rfl rfl rfl rfl (e_X10_ones I31 L A32 J rt sc x30 _ hx35) (by exact Or.inl rfl) ?_
        refine tw_blk (cd := tw_c283) rfl 3 (c1 := (45, [some (.ref 44), some (.int v2_1), some (.int v2_2), some (.int v1_3), some (.int v2_4), some (.int x34)], [.int v2_1, .int x34], (I31, L, tw_P 2 14 rt sc, A32, J, 57))) rfl ?_
        obtain ⟨⟨x37, x38⟩, hj39, h⟩ := tw_bindE h
        dsimp only at h
        have K : tw_ME 283 (55, [some (.ref 44), some (.int x37), some (.int x38), some (.int v1_3), some (.int v2_4), none], [], (I31, L, tw_P 2 14 rt sc, A32, J, 57)) out := by
          refine tw_blk (cd := tw_c283) rfl 2 (c1 := (27, [some (.ref 44), some (.int x37), some (.int x38), some (.int v1_3), some (.int (v2_4 + (1 : Int32))), none], [], (I31, L, tw_P 2 14 rt sc, A32, J, 57))) rfl ?_
          exact ih x37 x38 (v2_4 + (1 : Int32)) I31 A32 _ h K
        by_cases hc36 : v2_1 < x34
        · rw [if_pos hc36] at hj39
          refine tw_br (cd := tw_c283) rfl rfl rfl (by exact if_pos hc36) ?_
          refine tw_blk (cd := tw_c283) rfl 8 (c1 := (55, [some (.ref 44), some (.int x34), some (.int (((10 : Int32) * v1_3) + v2_4)), some (.int v1_3), some (.int v2_4), some (.int x34)], [], (I31, L, tw_P 2 14 rt sc, A32, J, 57))) rfl ?_
          refine tw_forget (ls2 := [some (.ref 44), some (.int x34), some (.int (((10 : Int32) * v1_3) + v2_4)), some (.int v1_3), some (.int v2_4), none]) ⟨rfl, rfl, rfl, rfl, rfl, trivial⟩ ?_
          have hj39s := Option.some.inj hj39
          obtain ⟨hj39_0, hj39r0⟩ := Prod.mk.inj hj39s
          subst hj39_0
          subst hj39r0
          exact K
        · rw [if_neg hc36] at hj39
          refine tw_br (cd := tw_c283) rfl rfl rfl (by exact if_neg hc36) ?_
          refine tw_blk (cd := tw_c283) rfl 1 (c1 := (55, [some (.ref 44), some (.int v2_1), some (.int v2_2), some (.int v1_3), some (.int v2_4), some (.int x34)], [], (I31, L, tw_P 2 14 rt sc, A32, J, 57))) rfl ?_
          refine tw_forget (ls2 := [some (.ref 44), some (.int v2_1), some (.int v2_2), some (.int v1_3), some (.int v2_4), none]) ⟨rfl, rfl, rfl, rfl, rfl, trivial⟩ ?_
          have hj39s := Option.some.inj hj39
          obtain ⟨hj39_0, hj39r0⟩ := Prod.mk.inj hj39s
          subst hj39_0
          subst hj39r0
          exact K
      · rw [if_neg hc29] at h
        refine tw_br (cd := tw_c283) rfl rfl rfl (by exact if_pos (tw_b_f hc29)) ?_
        refine tw_forget (ls2 := [some (.ref 44), some (.int v2_1), some (.int v2_2), some (.int v1_3), none, none]) ⟨rfl, rfl, rfl, rfl, trivial⟩ ?_
        have h := Option.some.inj h
        subst h
        exact K
theorem g_X10_bestHire_L1_ok (I : Nat → Int32) (L : Nat → Int64) (A : Nat → Nat → Int32) (J : Nat → Nat → Int64) (rt : Nat) (sc : Nat) (I1 : Nat → Int32) (x4 : Int32) (I5 : Nat → Int32) (A7 : Nat → Nat → Int32) (x9 : Int32) (I10 : Nat → Int32) (x12 : Int32) (out : Option Value × tw_S) : ∀ (n : Nat) (v1_1 : Int32) (v1_2 : Int32) (v1_3 : Int32) (I_1 : Nat → Int32) (A_1 : Nat → Nat → Int32) (ex : (Int32 × (Nat → Int32) × (Nat → Nat → Int32))), g_X10_bestHire_L1 n v1_1 v1_2 v1_3 I_1 A_1 = some ex → tw_ME 283 (59, [none, none, some (.int (ex.1)), none, none, none], [], ((ex.2.1), L, tw_P 2 14 rt sc, (ex.2.2), J, 57)) out → tw_ME 283 (19, [some (.ref 44), some (.int v1_1), some (.int v1_2), some (.int v1_3), none, none], [], (I_1, L, tw_P 2 14 rt sc, A_1, J, 57)) out := by
  intro n
  induction n with
  | zero =>
    intro v1_1 v1_2 v1_3 I_1 A_1 ex h _
    cases h
  | succ n ih =>
    intro v1_1 v1_2 v1_3 I_1 A_1 ex h K
    rw [g_X10_bestHire_L1] at h
    refine tw_blk (cd := tw_c283) rfl 1 (c1 := (20, [some (.ref 44), some (.int v1_1), some (.int v1_2), some (.int v1_3), none, none], [.int v1_3], (I_1, L, tw_P 2 14 rt sc, A_1, J, 57))) rfl ?_
    refine tw_blk (cd := tw_c283) rfl 3 (c1 := (23, [some (.ref 44), some (.int v1_1), some (.int v1_2), some (.int v1_3), none, none], [.int 3, .ref 47, .int v1_3], (I_1, L, tw_P 2 14 rt sc, A_1, J, 57))) rfl ?_
    obtain ⟨x18, hx17, h⟩ := tw_bindE h
    refine tw_iald (cd := tw_c283) (N := 241) rfl rfl rfl rfl hx17 ?_
    by_cases hc19 : x18 ≤ v1_3
    · rw [if_pos hc19] at h
      refine tw_br (cd := tw_c283) rfl rfl rfl (by exact if_pos hc19) ?_
      refine tw_forget (ls2 := [none, none, some (.int v1_2), none, none, none]) ⟨rfl, trivial⟩ ?_
      have h := Option.some.inj h
      subst h
      exact K
    · rw [if_neg hc19] at h
      refine tw_br (cd := tw_c283) rfl rfl rfl (by exact if_neg hc19) ?_
      refine tw_blk (cd := tw_c283) rfl 2 (c1 := (27, [some (.ref 44), some (.int v1_1), some (.int v1_2), some (.int v1_3), some (.int 0), none], [], (I_1, L, tw_P 2 14 rt sc, A_1, J, 57))) rfl ?_
      obtain ⟨⟨x20, x21, I22, A23⟩, hx40, h⟩ := tw_bindE h
      dsimp only at h
      refine g_X10_bestHire_L2_ok I L A J rt sc I1 x4 I5 A7 x9 I10 x12 v1_1 v1_2 v1_3 I_1 A_1 x18 _ 4096 v1_1 v1_2 (0 : Int32) I_1 A_1 _ hx40 ?_
      refine tw_blk (cd := tw_c283) rfl 2 (c1 := (19, [some (.ref 44), some (.int x20), some (.int x21), some (.int (v1_3 + (1 : Int32))), none, none], [], (I22, L, tw_P 2 14 rt sc, A23, J, 57))) rfl ?_
      exact ih x20 x21 (v1_3 + (1 : Int32)) I22 A23 _ h K
theorem e_X10_bestHire (I : Nat → Int32) (L : Nat → Int64) (A : Nat → Nat → Int32) (J : Nat → Nat → Int64) (rt : Nat) (sc : Nat) : ∀ r : (Int32 × (Nat → Int32) × (Nat → Nat → Int32)), g_X10_bestHire I A = some r → tw_ME 283 (0, [some (.ref 44), none, none, none, none, none], [], (I, L, tw_P 2 14 rt sc, A, J, 57)) (some (.int r.1), ((r.2.1), L, tw_P 2 14 rt sc, (r.2.2), J, 57)) := by
  intro r h
  unfold g_X10_bestHire at h
  refine tw_blk (cd := tw_c283) rfl 1 (c1 := (1, [some (.ref 44), none, none, none, none, none], [.ref 44], (I, L, tw_P 2 14 rt sc, A, J, 57))) rfl ?_
  obtain ⟨I1, hx2, h⟩ := tw_letE h
  refine tw_callE (cd := tw_c283) rfl rfl rfl rfl rfl (e_X10_good I L A J rt sc _ hx2) (by exact Or.inl rfl) ?_
  refine tw_blk (cd := tw_c283) rfl 2 (c1 := (4, [some (.ref 44), none, none, none, none, none], [.int (I1 4414)], (I1, L, tw_P 2 14 rt sc, A, J, 57))) rfl ?_
  by_cases hc3 : (I1 4414) = 0
  · rw [if_pos hc3] at h
    refine tw_br (cd := tw_c283) rfl rfl rfl (by exact if_pos hc3) ?_
    refine tw_blk (cd := tw_c283) rfl 2 (c1 := (7, [some (.ref 44), none, none, none, none, none], [.int 1, .ref 44], (I1, L, tw_P 2 14 rt sc, A, J, 57))) rfl ?_
    obtain ⟨⟨x4, I5⟩, hx6, h⟩ := tw_letE h
    dsimp only at h
    refine tw_callE (cd := tw_c283) rfl rfl rfl rfl rfl (e_X10_no I1 L A J rt sc (1 : Int32) _ hx6) (by exact Or.inl rfl) ?_
    have h := Option.some.inj h
    subst h
    exact tw_retE (cd := tw_c283) rfl rfl rfl rfl
  · rw [if_neg hc3] at h
    refine tw_br (cd := tw_c283) rfl rfl rfl (by exact if_neg hc3) ?_
    refine tw_blk (cd := tw_c283) rfl 1 (c1 := (10, [some (.ref 44), none, none, none, none, none], [.ref 44], (I1, L, tw_P 2 14 rt sc, A, J, 57))) rfl ?_
    obtain ⟨A7, hx8, h⟩ := tw_bindE h
    refine tw_callE (cd := tw_c283) rfl rfl rfl rfl rfl (e_X10_asNow I1 L A J rt sc _ hx8) (by exact Or.inl rfl) ?_
    refine tw_blk (cd := tw_c283) rfl 1 (c1 := (12, [some (.ref 44), none, none, none, none, none], [.ref 44], (I1, L, tw_P 2 14 rt sc, A7, J, 57))) rfl ?_
    obtain ⟨⟨x9, I10⟩, hx11, h⟩ := tw_bindE h
    dsimp only at h
    refine tw_callE (cd := tw_c283) rfl rfl rfl rfl rfl (e_X10_stopped I1 L A7 J rt sc _ hx11) (by exact Or.inl rfl) ?_
    obtain ⟨x12, hx13, h⟩ := tw_bindE h
    refine tw_callE (cd := tw_c283) rfl rfl rfl rfl rfl (e_X10_ones I10 L A7 J rt sc x9 _ hx13) (by exact Or.inl rfl) ?_
    refine tw_blk (cd := tw_c283) rfl 5 (c1 := (19, [some (.ref 44), some (.int x12), some (.int (-2)), some (.int 0), none, none], [], (I10, L, tw_P 2 14 rt sc, A7, J, 57))) rfl ?_
    obtain ⟨⟨x14, I15, A16⟩, hx41, h⟩ := tw_bindE h
    dsimp only at h
    refine g_X10_bestHire_L1_ok I L A J rt sc I1 x4 I5 A7 x9 I10 x12 _ 4096 x12 (-2 : Int32) (0 : Int32) I10 A7 _ hx41 ?_
    refine tw_blk (cd := tw_c283) rfl 1 (c1 := (60, [none, none, some (.int x14), none, none, none], [.int x14], (I15, L, tw_P 2 14 rt sc, A16, J, 57))) rfl ?_
    have h := Option.some.inj h
    subst h
    exact tw_retE (cd := tw_c283) rfl rfl rfl rfl
theorem e_X9_showTold (I : Nat → Int32) (L : Nat → Int64) (A : Nat → Nat → Int32) (J : Nat → Nat → Int64) (rt : Nat) (sc : Nat) : ∀ r : ((Nat → Int32) × (Nat → Nat → Int32)), g_X9_showTold I A = some r → tw_ME 184 (0, [some (.ref 0)], [], (I, L, tw_P 2 14 rt sc, A, J, 57)) (none, ((r.1), L, tw_P 2 14 rt 2, (r.2), J, 57)) := by
  intro r h
  unfold g_X9_showTold at h
  refine tw_blk (cd := tw_c184) rfl 6 (c1 := (6, [some (.ref 0)], [.int 0, .int 0, .ref 2, .ref 36], (I, L, tw_P 2 14 rt sc, A, J, 57))) rfl ?_
  obtain ⟨⟨I1, A2⟩, hx3, h⟩ := tw_bindE h
  dsimp only at h
  refine tw_callE (cd := tw_c184) rfl rfl rfl rfl rfl (e_X6_show I L A J rt sc (0 : Int32) (0 : Int32) _ hx3) (by exact Or.inl rfl) ?_
  have h := Option.some.inj h
  subst h
  exact tw_retE (cd := tw_c184) rfl rfl rfl rfl
theorem e_X6_takeForWit (I : Nat → Int32) (L : Nat → Int64) (A : Nat → Nat → Int32) (J : Nat → Nat → Int64) (rt : Nat) (a1 : Int32) (a2 : Int32) : ∀ r : Nat → Nat → Int32, g_X6_takeForWit A a1 a2 = r → tw_ME 79 (0, [some (.ref 36), some (.int a1), some (.int a2)], [], (I, L, tw_P 2 14 rt 2, A, J, 57)) (none, (I, L, tw_P 2 14 rt 2, r, J, 57)) := by
  intro r h
  unfold g_X6_takeForWit at h
  refine tw_blk (cd := tw_c79) rfl 4 (c1 := (4, [some (.ref 36), some (.int a1), some (.int a2)], [.int a2, .int a1, .ref 37], (I, L, tw_P 2 14 rt 2, A, J, 57))) rfl ?_
  obtain ⟨w1, hw2, h⟩ := tw_letE h
  refine tw_callE (cd := tw_c79) rfl rfl rfl rfl rfl (tw_e_put I L (tw_P 2 14 rt 2) A J (q := 37) (N := 6) rfl rfl (by decide) a1 a2 w1 hw2) (by exact Or.inl rfl) ?_
  subst h
  exact tw_retE (cd := tw_c79) rfl rfl rfl rfl
theorem g_X2_takeForOther_L1_ok (I : Nat → Int32) (L : Nat → Int64) (A : Nat → Nat → Int32) (J : Nat → Nat → Int64) (rt : Nat) (a1 : Int32) (out : Option Value × tw_S) : ∀ (n : Nat) (v1_2 : Int32) (A_1 : Nat → Nat → Int32) (ex : Nat → Nat → Int32), g_X2_takeForOther_L1 a1 n v1_2 A_1 = some ex → tw_ME 24 (47, [none, none, none, none, none], [], (I, L, tw_P 2 14 rt 2, ex, J, 57)) out → tw_ME 24 (2, [some (.ref 42), some (.int a1), some (.int v1_2), none, none], [], (I, L, tw_P 2 14 rt 2, A_1, J, 57)) out := by
  intro n
  induction n with
  | zero =>
    intro v1_2 A_1 ex h _
    cases h
  | succ n ih =>
    intro v1_2 A_1 ex h K
    rw [g_X2_takeForOther_L1] at h
    refine tw_blk (cd := tw_c24) rfl 1 (c1 := (3, [some (.ref 42), some (.int a1), some (.int v1_2), none, none], [.int v1_2], (I, L, tw_P 2 14 rt 2, A_1, J, 57))) rfl ?_
    refine tw_blk (cd := tw_c24) rfl 4 (c1 := (7, [some (.ref 42), some (.int a1), some (.int v1_2), none, none], [.int 7, .ref 2, .int v1_2], (I, L, tw_P 2 14 rt 2, A_1, J, 57))) rfl ?_
    refine tw_callE (cd := tw_c24) rfl rfl rfl rfl rfl (e_X8_count_2 I L A_1 J rt 2 (7 : Int32) _ rfl) (by exact Or.inl rfl) ?_
    by_cases hc2 : (g_X8_count_2 A_1 (7 : Int32)) ≤ v1_2
    · rw [if_pos hc2] at h
      refine tw_br (cd := tw_c24) rfl rfl rfl (by exact if_pos hc2) ?_
      refine tw_forget (ls2 := [none, none, none, none, none]) trivial ?_
      have h := Option.some.inj h
      subst h
      exact K
    · rw [if_neg hc2] at h
      refine tw_br (cd := tw_c24) rfl rfl rfl (by exact if_neg hc2) ?_
      refine tw_blk (cd := tw_c24) rfl 5 (c1 := (14, [some (.ref 42), some (.int a1), some (.int v1_2), none, none], [.int v1_2, .ref 12], (I, L, tw_P 2 14 rt 2, A_1, J, 57))) rfl ?_
      refine tw_callE (cd := tw_c24) rfl rfl rfl rfl rfl (tw_e_get I L (tw_P 2 14 rt 2) A_1 J (q := 12) (N := 4) rfl rfl (by decide) v1_2) (by exact Or.inl rfl) ?_
      refine tw_blk (cd := tw_c24) rfl 6 (c1 := (21, [some (.ref 42), some (.int a1), some (.int v1_2), some (.int (tw_get0 4 (A_1 12) v1_2)), none], [.int ((a1 >>> (v1_2 &&& 31)) &&& (1 : Int32))], (I, L, tw_P 2 14 rt 2, A_1, J, 57))) rfl ?_
      obtain ⟨x4, hj5, h⟩ := tw_bindE h
      have K : tw_ME 24 (25, [some (.ref 42), some (.int a1), some (.int v1_2), some (.int (tw_get0 4 (A_1 12) v1_2)), none], [.int x4], (I, L, tw_P 2 14 rt 2, A_1, J, 57)) out := by
        refine tw_blk (cd := tw_c24) rfl 5 (c1 := (30, [some (.ref 42), some (.int a1), some (.int v1_2), some (.int (tw_get0 4 (A_1 12) v1_2)), some (.int x4)], [.int x4, .int (tw_get0 4 (A_1 12) v1_2), .ref 36], (I, L, tw_P 2 14 rt 2, A_1, J, 57))) rfl ?_
        obtain ⟨x7, hj8, h⟩ := tw_bindE h
        have K : tw_ME 24 (44, [some (.ref 42), some (.int a1), some (.int v1_2), none, none], [.int x7, .int (tw_get0 4 (A_1 12) v1_2), .ref 36], (I, L, tw_P 2 14 rt 2, A_1, J, 57)) out := by
          obtain ⟨A9, hx10, h⟩ := tw_letE h
          refine tw_callE (cd := tw_c24) rfl rfl rfl rfl rfl (e_X6_takeForWit I L A_1 J rt (tw_get0 4 (A_1 12) v1_2) x7 _ hx10) (by exact Or.inl rfl) ?_
          refine tw_blk (cd := tw_c24) rfl 2 (c1 := (2, [some (.ref 42), some (.int a1), some (.int (v1_2 + (1 : Int32))), none, none], [], (I, L, tw_P 2 14 rt 2, A9, J, 57))) rfl ?_
          exact ih (v1_2 + (1 : Int32)) A9 _ h K
        by_cases hc6 : x4 = 0
        · rw [if_pos hc6] at hj8
          refine tw_br (cd := tw_c24) rfl rfl rfl (by exact if_pos hc6) ?_
          refine tw_blk (cd := tw_c24) rfl 5 (c1 := (43, [some (.ref 42), some (.int a1), some (.int v1_2), some (.int (tw_get0 4 (A_1 12) v1_2)), some (.int x4)], [.int (tw_get0 4 (A_1 12) v1_2), .ref 7, .int (tw_get0 4 (A_1 12) v1_2), .ref 36], (I, L, tw_P 2 14 rt 2, A_1, J, 57))) rfl ?_
          refine tw_callE (cd := tw_c24) rfl rfl rfl rfl rfl (tw_e_get I L (tw_P 2 14 rt 2) A_1 J (q := 7) (N := 6) rfl rfl (by decide) (tw_get0 4 (A_1 12) v1_2)) (by exact Or.inl rfl) ?_
          refine tw_forget (ls2 := [some (.ref 42), some (.int a1), some (.int v1_2), none, none]) ⟨rfl, rfl, rfl, trivial⟩ ?_
          have hj8s := Option.some.inj hj8
          subst hj8s
          exact K
        · rw [if_neg hc6] at hj8
          refine tw_br (cd := tw_c24) rfl rfl rfl (by exact if_neg hc6) ?_
          refine tw_blk (cd := tw_c24) rfl 5 (c1 := (36, [some (.ref 42), some (.int a1), some (.int v1_2), some (.int (tw_get0 4 (A_1 12) v1_2)), some (.int x4)], [.int v1_2, .ref 13, .int (tw_get0 4 (A_1 12) v1_2), .ref 36], (I, L, tw_P 2 14 rt 2, A_1, J, 57))) rfl ?_
          refine tw_callE (cd := tw_c24) rfl rfl rfl rfl rfl (tw_e_get I L (tw_P 2 14 rt 2) A_1 J (q := 13) (N := 4) rfl rfl (by decide) v1_2) (by exact Or.inl rfl) ?_
          refine tw_blk (cd := tw_c24) rfl 1 (c1 := (44, [some (.ref 42), some (.int a1), some (.int v1_2), some (.int (tw_get0 4 (A_1 12) v1_2)), some (.int x4)], [.int (tw_get0 4 (A_1 13) v1_2), .int (tw_get0 4 (A_1 12) v1_2), .ref 36], (I, L, tw_P 2 14 rt 2, A_1, J, 57))) rfl ?_
          refine tw_forget (ls2 := [some (.ref 42), some (.int a1), some (.int v1_2), none, none]) ⟨rfl, rfl, rfl, trivial⟩ ?_
          have hj8s := Option.some.inj hj8
          subst hj8s
          exact K
      by_cases hc3 : ((a1 >>> (v1_2 &&& 31)) &&& (1 : Int32)) = 0
      · rw [if_pos hc3] at hj5
        refine tw_br (cd := tw_c24) rfl rfl rfl (by exact if_pos hc3) ?_
        refine tw_blk (cd := tw_c24) rfl 1 (c1 := (25, [some (.ref 42), some (.int a1), some (.int v1_2), some (.int (tw_get0 4 (A_1 12) v1_2)), none], [.int 0], (I, L, tw_P 2 14 rt 2, A_1, J, 57))) rfl ?_
        have hj5s := Option.some.inj hj5
        subst hj5s
        exact K
      · rw [if_neg hc3] at hj5
        refine tw_br (cd := tw_c24) rfl rfl rfl (by exact if_neg hc3) ?_
        refine tw_blk (cd := tw_c24) rfl 2 (c1 := (25, [some (.ref 42), some (.int a1), some (.int v1_2), some (.int (tw_get0 4 (A_1 12) v1_2)), none], [.int 1], (I, L, tw_P 2 14 rt 2, A_1, J, 57))) rfl ?_
        have hj5s := Option.some.inj hj5
        subst hj5s
        exact K
theorem e_X2_takeForOther (I : Nat → Int32) (L : Nat → Int64) (A : Nat → Nat → Int32) (J : Nat → Nat → Int64) (rt : Nat) (a1 : Int32) : ∀ r : Nat → Nat → Int32, g_X2_takeForOther A a1 = some r → tw_ME 24 (0, [some (.ref 42), some (.int a1), none, none, none], [], (I, L, tw_P 2 14 rt 2, A, J, 57)) (none, (I, L, tw_P 2 14 rt 2, r, J, 57)) := by
  intro r h
  unfold g_X2_takeForOther at h
  refine tw_blk (cd := tw_c24) rfl 2 (c1 := (2, [some (.ref 42), some (.int a1), some (.int 0), none, none], [], (I, L, tw_P 2 14 rt 2, A, J, 57))) rfl ?_
  obtain ⟨A1, hx11, h⟩ := tw_bindE h
  refine g_X2_takeForOther_L1_ok I L A J rt a1 _ 4096 (0 : Int32) A _ hx11 ?_
  have h := Option.some.inj h
  subst h
  exact tw_retE (cd := tw_c24) rfl rfl rfl rfl
theorem g_X2_firstOtherwise_L1_ok (I : Nat → Int32) (L : Nat → Int64) (A : Nat → Nat → Int32) (J : Nat → Nat → Int64) (rt : Nat) (kont : ((Nat → Int32) × (Nat → Nat → Int32)) → Option (Int32 × (Nat → Int32) × (Nat → Nat → Int32))) (r : (Int32 × (Nat → Int32) × (Nat → Nat → Int32))) : ∀ (n : Nat) (v1_1 : Int32) (I_1 : Nat → Int32) (A_1 : Nat → Nat → Int32), g_X2_firstOtherwise_L1 kont n v1_1 I_1 A_1 = some r → (∀ ex : ((Nat → Int32) × (Nat → Nat → Int32)), kont ex = some r → tw_ME 25 (48, [none, none, none], [], ((ex.1), L, tw_P 2 14 rt 2, (ex.2), J, 57)) (some (.int r.1), ((r.2.1), L, tw_P 2 14 rt 2, (r.2.2), J, 57))) → tw_ME 25 (2, [some (.ref 42), some (.int v1_1), none], [], (I_1, L, tw_P 2 14 rt 2, A_1, J, 57)) (some (.int r.1), ((r.2.1), L, tw_P 2 14 rt 2, (r.2.2), J, 57)) := by
  intro n
  induction n with
  | zero =>
    intro v1_1 I_1 A_1 h _
    cases h
  | succ n ih =>
    intro v1_1 I_1 A_1 h K
    rw [g_X2_firstOtherwise_L1] at h
    refine tw_blk (cd := tw_c25) rfl 1 (c1 := (3, [some (.ref 42), some (.int v1_1), none], [.int v1_1], (I_1, L, tw_P 2 14 rt 2, A_1, J, 57))) rfl ?_
    refine tw_blk (cd := tw_c25) rfl 4 (c1 := (7, [some (.ref 42), some (.int v1_1), none], [.int 5, .ref 2, .int v1_1], (I_1, L, tw_P 2 14 rt 2, A_1, J, 57))) rfl ?_
    refine tw_callE (cd := tw_c25) rfl rfl rfl rfl rfl (e_X8_count_2 I_1 L A_1 J rt 2 (5 : Int32) _ rfl) (by exact Or.inl rfl) ?_
    by_cases hc3 : (g_X8_count_2 A_1 (5 : Int32)) ≤ v1_1
    · rw [if_pos hc3] at h
      refine tw_br (cd := tw_c25) rfl rfl rfl (by exact if_pos hc3) ?_
      refine tw_forget (ls2 := [none, none, none]) trivial ?_
      exact K _ h
    · rw [if_neg hc3] at h
      refine tw_br (cd := tw_c25) rfl rfl rfl (by exact if_neg hc3) ?_
      refine tw_blk (cd := tw_c25) rfl 5 (c1 := (14, [some (.ref 42), some (.int v1_1), none], [.int v1_1, .ref 11], (I_1, L, tw_P 2 14 rt 2, A_1, J, 57))) rfl ?_
      refine tw_callE (cd := tw_c25) rfl rfl rfl rfl rfl (tw_e_get I_1 L (tw_P 2 14 rt 2) A_1 J (q := 11) (N := 3) rfl rfl (by decide) v1_1) (by exact Or.inl rfl) ?_
      refine tw_blk (cd := tw_c25) rfl 3 (c1 := (18, [some (.ref 42), some (.int v1_1), some (.int (tw_get0 3 (A_1 11) v1_1))], [.int (-2), .int (tw_get0 3 (A_1 11) v1_1)], (I_1, L, tw_P 2 14 rt 2, A_1, J, 57))) rfl ?_
      by_cases hc4 : (tw_get0 3 (A_1 11) v1_1) = (-2 : Int32)
      · rw [if_pos hc4] at h
        refine tw_br (cd := tw_c25) rfl rfl rfl (by exact if_pos hc4) ?_
        refine tw_blk (cd := tw_c25) rfl 2 (c1 := (2, [some (.ref 42), some (.int (v1_1 + (1 : Int32))), some (.int (tw_get0 3 (A_1 11) v1_1))], [], (I_1, L, tw_P 2 14 rt 2, A_1, J, 57))) rfl ?_
        refine tw_forget (ls2 := [some (.ref 42), some (.int (v1_1 + (1 : Int32))), none]) ⟨rfl, rfl, trivial⟩ ?_
        exact ih (v1_1 + (1 : Int32)) I_1 A_1 h K
      · rw [if_neg hc4] at h
        refine tw_br (cd := tw_c25) rfl rfl rfl (by exact if_neg hc4) ?_
        refine tw_blk (cd := tw_c25) rfl 7 (c1 := (26, [some (.ref 42), some (.int v1_1), some (.int (tw_get0 3 (A_1 11) v1_1))], [.int 2, .int v1_1, .ref 2, .ref 39], (I_1, L, tw_P 2 14 rt 2, A_1, J, 57))) rfl ?_
        refine tw_callE (cd := tw_c25) rfl rfl rfl rfl rfl (e_X8_fact_2 I_1 L A_1 J rt 2 v1_1 (2 : Int32) _ rfl) (by exact Or.inl rfl) ?_
        obtain ⟨A5, hx6, h⟩ := tw_bindE h
        refine tw_callE (cd := tw_c25) rfl rfl rfl rfl rfl (e_X1_watch I_1 L A_1 J rt (g_X8_fact_2 A_1 v1_1 (2 : Int32)) _ hx6) (by exact Or.inl rfl) ?_
        refine tw_blk (cd := tw_c25) rfl 8 (c1 := (36, [some (.ref 42), some (.int v1_1), some (.int (tw_get0 3 (A_1 11) v1_1))], [.int 3, .int v1_1, .ref 2, .int v1_1, .ref 39], (I_1, L, tw_P 2 14 rt 2, A5, J, 57))) rfl ?_
        refine tw_callE (cd := tw_c25) rfl rfl rfl rfl rfl (e_X8_fact_2 I_1 L A5 J rt 2 v1_1 (3 : Int32) _ rfl) (by exact Or.inl rfl) ?_
        refine tw_blk (cd := tw_c25) rfl 1 (c1 := (38, [some (.ref 42), some (.int v1_1), some (.int (tw_get0 3 (A_1 11) v1_1))], [.int 0, .int (g_X8_fact_2 A5 v1_1 (3 : Int32)), .int v1_1, .ref 39], (I_1, L, tw_P 2 14 rt 2, A5, J, 57))) rfl ?_
        obtain ⟨I7, hx8, h⟩ := tw_bindE h
        refine tw_callE (cd := tw_c25) rfl rfl rfl rfl rfl (e_X1_go I_1 L A5 J rt v1_1 (g_X8_fact_2 A5 v1_1 (3 : Int32)) (0 : Int32) _ hx8) (by exact Or.inl rfl) ?_
        refine tw_blk (cd := tw_c25) rfl 4 (c1 := (43, [some (.ref 42), some (.int v1_1), some (.int (tw_get0 3 (A_1 11) v1_1))], [.int (tw_get0 3 (A_1 11) v1_1), .int (I7 3903)], (I7, L, tw_P 2 14 rt 2, A5, J, 57))) rfl ?_
        by_cases hc9 : (I7 3903) = (tw_get0 3 (A_1 11) v1_1)
        · rw [if_pos hc9] at h
          refine tw_br (cd := tw_c25) rfl rfl rfl (by exact if_pos hc9) ?_
          refine tw_blk (cd := tw_c25) rfl 2 (c1 := (2, [some (.ref 42), some (.int (v1_1 + (1 : Int32))), some (.int (tw_get0 3 (A_1 11) v1_1))], [], (I7, L, tw_P 2 14 rt 2, A5, J, 57))) rfl ?_
          refine tw_forget (ls2 := [some (.ref 42), some (.int (v1_1 + (1 : Int32))), none]) ⟨rfl, rfl, trivial⟩ ?_
          exact ih (v1_1 + (1 : Int32)) I7 A5 h K
        · rw [if_neg hc9] at h
          refine tw_br (cd := tw_c25) rfl rfl rfl (by exact if_neg hc9) ?_
          refine tw_blk (cd := tw_c25) rfl 1 (c1 := (45, [some (.ref 42), some (.int v1_1), some (.int (tw_get0 3 (A_1 11) v1_1))], [.int v1_1], (I7, L, tw_P 2 14 rt 2, A5, J, 57))) rfl ?_
          have h := Option.some.inj h
          subst h
          exact tw_retE (cd := tw_c25) rfl rfl rfl rfl
theorem e_X2_firstOtherwise (I : Nat → Int32) (L : Nat → Int64) (A : Nat → Nat → Int32) (J : Nat → Nat → Int64) (rt : Nat) : ∀ r : (Int32 × (Nat → Int32) × (Nat → Nat → Int32)), g_X2_firstOtherwise I A = some r → tw_ME 25 (0, [some (.ref 42), none, none], [], (I, L, tw_P 2 14 rt 2, A, J, 57)) (some (.int r.1), ((r.2.1), L, tw_P 2 14 rt 2, (r.2.2), J, 57)) := by
  intro r h
  unfold g_X2_firstOtherwise at h
  refine tw_blk (cd := tw_c25) rfl 2 (c1 := (2, [some (.ref 42), some (.int 0), none], [], (I, L, tw_P 2 14 rt 2, A, J, 57))) rfl ?_
  refine g_X2_firstOtherwise_L1_ok I L A J rt _ r 4096 (0 : Int32) I A h (fun ex h => ?_)
  obtain ⟨I1, A2⟩ := ex
  dsimp only at h
  refine tw_blk (cd := tw_c25) rfl 1 (c1 := (49, [none, none, none], [.int (-2)], (I1, L, tw_P 2 14 rt 2, A2, J, 57))) rfl ?_
  have h := Option.some.inj h
  subst h
  exact tw_retE (cd := tw_c25) rfl rfl rfl rfl
