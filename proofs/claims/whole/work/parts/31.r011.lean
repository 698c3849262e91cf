/-! the machine does what the functions say -/
set_option maxRecDepth 16000
theorem e_X9_won (I : Nat → Int32) (L : Nat → Int64) (A : Nat → Nat → Int32) (J : Nat → Nat → Int64) (rt : Nat) (sc : Nat) : ∀ r : (Int32 × (Nat → Int32) × (Nat → Nat → Int32) × Nat), g_X9_won I A sc = some r → tw_ME 131 (0, [some (.ref 0)], [], (I, L, tw_P 2 14 rt sc, A, J, 57)) (some (.int r.1), ((r.2.1), L, tw_P 2 14 rt (r.2.2.2), (r.2.2.1), J, 57)) := by
  intro r h
  unfold g_X9_won at h
  refine tw_blk (cd := tw_c131) rfl 1 (c1 := (1, [some (.ref 0)], [.ref 0], (I, L, tw_P 2 14 rt sc, A, J, 57))) rfl ?_
  refine tw_callE (cd := tw_c131) rfl rfl rfl rfl rfl (e_X9_hasTown I L A J rt sc _ rfl) (by exact Or.inl rfl) ?_
  by_cases hc1 : (g_X9_hasTown A) = true
  · rw [if_pos hc1] at h
    refine tw_br (cd := tw_c131) rfl rfl rfl (by exact if_neg (tw_b_t hc1)) ?_
    refine tw_blk (cd := tw_c131) rfl 1 (c1 := (8, [some (.ref 0)], [.ref 0], (I, L, tw_P 2 14 rt sc, A, J, 57))) rfl ?_
    obtain ⟨⟨I2, A3⟩, hx4, h⟩ := tw_bindE h
    dsimp only at h
    refine tw_callE (cd := tw_c131) rfl rfl rfl rfl rfl (e_X9_showNow I L A J rt sc _ hx4) (by exact Or.inl rfl) ?_
    refine tw_blk (cd := tw_c131) rfl 3 (c1 := (12, [some (.ref 0)], [.ref 41, .ref 0], (I2, L, tw_P 2 14 rt 2, A3, J, 57))) rfl ?_
    obtain ⟨⟨x5, I6, A7⟩, hx8, h⟩ := tw_bindE h
    dsimp only at h
    refine tw_callE (cd := tw_c131) rfl rfl rfl rfl rfl (e_X3_wonOnes I2 L A3 J 2 14 rt _ hx8) (by exact Or.inl rfl) ?_
    obtain ⟨⟨x9, I10⟩, hx11, h⟩ := tw_letE h
    dsimp only at h
    refine tw_callE (cd := tw_c131) rfl rfl rfl rfl rfl (e_X9_grant I6 L A7 J 2 14 rt 2 x5 _ hx11) (by exact Or.inl rfl) ?_
    have h := Option.some.inj h
    subst h
    exact tw_retE (cd := tw_c131) rfl rfl rfl rfl
  · rw [if_neg hc1] at h
    refine tw_br (cd := tw_c131) rfl rfl rfl (by exact if_pos (tw_b_f hc1)) ?_
    refine tw_blk (cd := tw_c131) rfl 2 (c1 := (5, [some (.ref 0)], [.int 1, .ref 0], (I, L, tw_P 2 14 rt sc, A, J, 57))) rfl ?_
    obtain ⟨⟨x12, I13⟩, hx14, h⟩ := tw_letE h
    dsimp only at h
    refine tw_callE (cd := tw_c131) rfl rfl rfl rfl rfl (e_X9_refuse I L A J 2 14 rt sc (1 : Int32) _ hx14) (by exact Or.inl rfl) ?_
    have h := Option.some.inj h
    subst h
    exact tw_retE (cd := tw_c131) rfl rfl rfl rfl
theorem g_X10_won_L1_ok (I : Nat → Int32) (L : Nat → Int64) (A : Nat → Nat → Int32) (J : Nat → Nat → Int64) (tw : Nat) (dr : Nat) (rt : Nat) (sc : Nat) (I1 : Nat → Int32) (out : Option Value × tw_S) : ∀ (n : Nat) (v1_1 : Int32) (v1_2 : Int32) (I_1 : Nat → Int32) (A_1 : Nat → Nat → Int32) (ex : (Int32 × (Nat → Int32) × (Nat → Nat → Int32))), g_X10_won_L1 n v1_1 v1_2 I_1 A_1 = some ex → tw_ME 267 (36, [none, some (.int (ex.1)), none], [], ((ex.2.1), L, tw_P tw dr rt sc, (ex.2.2), J, 57)) out → tw_ME 267 (13, [some (.ref 44), some (.int v1_1), some (.int v1_2)], [], (I_1, L, tw_P tw dr rt sc, A_1, J, 57)) out := by
  intro n
  induction n with
  | zero =>
    intro v1_1 v1_2 I_1 A_1 ex h _
    cases h
  | succ n ih =>
    intro v1_1 v1_2 I_1 A_1 ex h K
    rw [g_X10_won_L1] at h
    refine tw_blk (cd := tw_c267) rfl 1 (c1 := (14, [some (.ref 44), some (.int v1_1), some (.int v1_2)], [.int v1_2], (I_1, L, tw_P tw dr rt sc, A_1, J, 57))) rfl ?_
    refine tw_blk (cd := tw_c267) rfl 3 (c1 := (17, [some (.ref 44), some (.int v1_1), some (.int v1_2)], [.int 5, .ref 47, .int v1_2], (I_1, L, tw_P tw dr rt sc, A_1, J, 57))) rfl ?_
    obtain ⟨x11, hx10, h⟩ := tw_bindE h
    refine tw_iald (cd := tw_c267) (N := 241) rfl rfl rfl rfl hx10 ?_
    by_cases hc12 : x11 ≤ v1_2
    · rw [if_pos hc12] at h
      refine tw_br (cd := tw_c267) rfl rfl rfl (by exact if_pos hc12) ?_
      refine tw_forget (ls2 := [none, some (.int v1_1), none]) ⟨rfl, trivial⟩ ?_
      have h := Option.some.inj h
      subst h
      exact K
    · rw [if_neg hc12] at h
      refine tw_br (cd := tw_c267) rfl rfl rfl (by exact if_neg hc12) ?_
      refine tw_blk (cd := tw_c267) rfl 3 (c1 := (22, [some (.ref 44), some (.int v1_1), some (.int v1_2)], [.int v1_2, .ref 44, .int v1_1], (I_1, L, tw_P tw dr rt sc, A_1, J, 57))) rfl ?_
      obtain ⟨⟨c13, I14, A15⟩, hx16, h⟩ := tw_bindE h
      dsimp only at h
      refine tw_callE (cd := tw_c267) rfl rfl rfl rfl rfl (e_X10_goOver I_1 L A_1 J tw dr rt sc v1_2 _ hx16) (by exact Or.inl rfl) ?_
      obtain ⟨x18, hj19, h⟩ := tw_bindE h
      have K : tw_ME 267 (32, [some (.ref 44), none, some (.int v1_2)], [.int x18, .int v1_1], (I14, L, tw_P tw dr rt sc, A15, J, 57)) out := by
        refine tw_blk (cd := tw_c267) rfl 4 (c1 := (13, [some (.ref 44), some (.int (v1_1 ||| x18)), some (.int (v1_2 + (1 : Int32)))], [], (I14, L, tw_P tw dr rt sc, A15, J, 57))) rfl ?_
        exact ih (v1_1 ||| x18) (v1_2 + (1 : Int32)) I14 A15 _ h K
      by_cases hc17 : c13 = true
      · rw [if_pos hc17] at hj19
        refine tw_br (cd := tw_c267) rfl rfl rfl (by exact if_neg (tw_b_t hc17)) ?_
        refine tw_blk (cd := tw_c267) rfl 2 (c1 := (26, [some (.ref 44), some (.int v1_1), some (.int v1_2)], [.int (I14 4425), .int v1_1], (I14, L, tw_P tw dr rt sc, A15, J, 57))) rfl ?_
        by_cases hc20 : (I14 4425) ≤ 0
        · rw [if_pos hc20] at hj19
          refine tw_br (cd := tw_c267) rfl rfl rfl (by exact if_pos hc20) ?_
          refine tw_blk (cd := tw_c267) rfl 1 (c1 := (32, [some (.ref 44), some (.int v1_1), some (.int v1_2)], [.int 0, .int v1_1], (I14, L, tw_P tw dr rt sc, A15, J, 57))) rfl ?_
          refine tw_forget (ls2 := [some (.ref 44), none, some (.int v1_2)]) ⟨rfl, rfl, trivial⟩ ?_
          have hj19s := Option.some.inj hj19
          subst hj19s
          exact K
        · rw [if_neg hc20] at hj19
          refine tw_br (cd := tw_c267) rfl rfl rfl (by exact if_neg hc20) ?_
          refine tw_blk (cd := tw_c267) rfl 4 (c1 := (32, [some (.ref 44), some (.int v1_1), some (.int v1_2)], [.int ((1 : Int32) <<< (v1_2 &&& 31)), .int v1_1], (I14, L, tw_P tw dr rt sc, A15, J, 57))) rfl ?_
          refine tw_forget (ls2 := [some (.ref 44), none, some (.int v1_2)]) ⟨rfl, rfl, trivial⟩ ?_
          have hj19s := Option.some.inj hj19
          subst hj19s
          exact K
      · rw [if_neg hc17] at hj19
        refine tw_br (cd := tw_c267) rfl rfl rfl (by exact if_pos (tw_b_f hc17)) ?_
        refine tw_blk (cd := tw_c267) rfl 1 (c1 := (32, [some (.ref 44), some (.int v1_1), some (.int v1_2)], [.int 0, .int v1_1], (I14, L, tw_P tw dr rt sc, A15, J, 57))) rfl ?_
        refine tw_forget (ls2 := [some (.ref 44), none, some (.int v1_2)]) ⟨rfl, rfl, trivial⟩ ?_
        have hj19s := Option.some.inj hj19
        subst hj19s
        exact K
theorem e_X10_won (I : Nat → Int32) (L : Nat → Int64) (A : Nat → Nat → Int32) (J : Nat → Nat → Int64) (tw dr : Nat) (rt : Nat) (sc : Nat) : ∀ r : (Int32 × (Nat → Int32) × (Nat → Nat → Int32)), g_X10_won I A = some r → tw_ME 267 (0, [some (.ref 44), none, none], [], (I, L, tw_P tw dr rt sc, A, J, 57)) (some (.int r.1), ((r.2.1), L, tw_P tw dr rt sc, (r.2.2), J, 57)) := by
  intro r h
  unfold g_X10_won at h
  refine tw_blk (cd := tw_c267) rfl 1 (c1 := (1, [some (.ref 44), none, none], [.ref 44], (I, L, tw_P tw dr rt sc, A, J, 57))) rfl ?_
  obtain ⟨I1, hx2, h⟩ := tw_letE h
  refine tw_callE (cd := tw_c267) rfl rfl rfl rfl rfl (e_X10_good I L A J tw dr rt sc _ hx2) (by exact Or.inl rfl) ?_
  refine tw_blk (cd := tw_c267) rfl 2 (c1 := (4, [some (.ref 44), none, none], [.int (I1 4414)], (I1, L, tw_P tw dr rt sc, A, J, 57))) rfl ?_
  by_cases hc3 : (I1 4414) = 0
  · rw [if_pos hc3] at h
    refine tw_br (cd := tw_c267) rfl rfl rfl (by exact if_pos hc3) ?_
    refine tw_blk (cd := tw_c267) rfl 2 (c1 := (7, [some (.ref 44), none, none], [.int 1, .ref 44], (I1, L, tw_P tw dr rt sc, A, J, 57))) rfl ?_
    obtain ⟨⟨x4, I5⟩, hx6, h⟩ := tw_letE h
    dsimp only at h
    refine tw_callE (cd := tw_c267) rfl rfl rfl rfl rfl (e_X10_no I1 L A J tw dr rt sc (1 : Int32) _ hx6) (by exact Or.inl rfl) ?_
    have h := Option.some.inj h
    subst h
    exact tw_retE (cd := tw_c267) rfl rfl rfl rfl
  · rw [if_neg hc3] at h
    refine tw_br (cd := tw_c267) rfl rfl rfl (by exact if_neg hc3) ?_
    refine tw_blk (cd := tw_c267) rfl 4 (c1 := (13, [some (.ref 44), some (.int 0), some (.int 0)], [], (I1, L, tw_P tw dr rt sc, A, J, 57))) rfl ?_
    obtain ⟨⟨x7, I8, A9⟩, hx21, h⟩ := tw_bindE h
    dsimp only at h
    refine g_X10_won_L1_ok I L A J tw dr rt sc I1 _ 4096 (0 : Int32) (0 : Int32) I1 A _ hx21 ?_
    refine tw_blk (cd := tw_c267) rfl 1 (c1 := (37, [none, some (.int x7), none], [.int x7], (I8, L, tw_P tw dr rt sc, A9, J, 57))) rfl ?_
    have h := Option.some.inj h
    subst h
    exact tw_retE (cd := tw_c267) rfl rfl rfl rfl
theorem g_X3_stoppedOnes_L1_ok (I : Nat → Int32) (L : Nat → Int64) (A : Nat → Nat → Int32) (J : Nat → Nat → Int64) (tw : Nat) (dr : Nat) (rt : Nat) (out : Option Value × tw_S) : ∀ (n : Nat) (v1_1 : Int32) (v1_2 : Int32) (I_1 : Nat → Int32) (A_1 : Nat → Nat → Int32) (ex : (Int32 × (Nat → Int32) × (Nat → Nat → Int32))), g_X3_stoppedOnes_L1 n v1_1 v1_2 I_1 A_1 = some ex → tw_ME 32 (41, [none, some (.int (ex.1)), none], [], ((ex.2.1), L, tw_P tw dr rt 2, (ex.2.2), J, 57)) out → tw_ME 32 (4, [some (.ref 41), some (.int v1_1), some (.int v1_2)], [], (I_1, L, tw_P tw dr rt 2, A_1, J, 57)) out := by
  intro n
  induction n with
  | zero =>
    intro v1_1 v1_2 I_1 A_1 ex h _
    cases h
  | succ n ih =>
    intro v1_1 v1_2 I_1 A_1 ex h K
    rw [g_X3_stoppedOnes_L1] at h
    refine tw_blk (cd := tw_c32) rfl 1 (c1 := (5, [some (.ref 41), some (.int v1_1), some (.int v1_2)], [.int v1_2], (I_1, L, tw_P tw dr rt 2, A_1, J, 57))) rfl ?_
    refine tw_blk (cd := tw_c32) rfl 4 (c1 := (9, [some (.ref 41), some (.int v1_1), some (.int v1_2)], [.int 5, .ref 2, .int v1_2], (I_1, L, tw_P tw dr rt 2, A_1, J, 57))) rfl ?_
    refine tw_callE (cd := tw_c32) rfl rfl rfl rfl rfl (e_X8_count_2 I_1 L A_1 J tw dr rt 2 (5 : Int32) _ rfl) (by exact Or.inl rfl) ?_
    by_cases hc4 : (g_X8_count_2 A_1 (5 : Int32)) ≤ v1_2
    · rw [if_pos hc4] at h
      refine tw_br (cd := tw_c32) rfl rfl rfl (by exact if_pos hc4) ?_
      refine tw_forget (ls2 := [none, some (.int v1_1), none]) ⟨rfl, trivial⟩ ?_
      have h := Option.some.inj h
      subst h
      exact K
    · rw [if_neg hc4] at h
      refine tw_br (cd := tw_c32) rfl rfl rfl (by exact if_neg hc4) ?_
      refine tw_blk (cd := tw_c32) rfl 8 (c1 := (19, [some (.ref 41), some (.int v1_1), some (.int v1_2)], [.int 2, .int v1_2, .ref 2, .int v1_2, .ref 39], (I_1, L, tw_P tw dr rt 2, A_1, J, 57))) rfl ?_
      refine tw_callE (cd := tw_c32) rfl rfl rfl rfl rfl (e_X8_fact_2 I_1 L A_1 J tw dr rt 2 v1_2 (2 : Int32) _ rfl) (by exact Or.inl rfl) ?_
      refine tw_blk (cd := tw_c32) rfl 5 (c1 := (25, [some (.ref 41), some (.int v1_1), some (.int v1_2)], [.int 3, .int v1_2, .ref 2, .int (g_X8_fact_2 A_1 v1_2 (2 : Int32)), .int v1_2, .ref 39], (I_1, L, tw_P tw dr rt 2, A_1, J, 57))) rfl ?_
      refine tw_callE (cd := tw_c32) rfl rfl rfl rfl rfl (e_X8_fact_2 I_1 L A_1 J tw dr rt 2 v1_2 (3 : Int32) _ rfl) (by exact Or.inl rfl) ?_
      obtain ⟨⟨I5, A6⟩, hx7, h⟩ := tw_bindE h
      dsimp only at h
      refine tw_callE (cd := tw_c32) rfl rfl rfl rfl rfl (e_X1_run I_1 L A_1 J tw dr rt v1_2 (g_X8_fact_2 A_1 v1_2 (2 : Int32)) (g_X8_fact_2 A_1 v1_2 (3 : Int32)) _ hx7) (by exact Or.inl rfl) ?_
      refine tw_blk (cd := tw_c32) rfl 4 (c1 := (31, [some (.ref 41), some (.int v1_1), some (.int v1_2)], [.int (I5 3902), .int v1_1], (I5, L, tw_P tw dr rt 2, A6, J, 57))) rfl ?_
      obtain ⟨x9, hj10, h⟩ := tw_bindE h
      have K : tw_ME 32 (37, [some (.ref 41), none, some (.int v1_2)], [.int x9, .int v1_1], (I5, L, tw_P tw dr rt 2, A6, J, 57)) out := by
        refine tw_blk (cd := tw_c32) rfl 4 (c1 := (4, [some (.ref 41), some (.int (v1_1 ||| x9)), some (.int (v1_2 + (1 : Int32)))], [], (I5, L, tw_P tw dr rt 2, A6, J, 57))) rfl ?_
        exact ih (v1_1 ||| x9) (v1_2 + (1 : Int32)) I5 A6 _ h K
      by_cases hc8 : (I5 3902) = 0
      · rw [if_pos hc8] at hj10
        refine tw_br (cd := tw_c32) rfl rfl rfl (by exact if_pos hc8) ?_
        refine tw_blk (cd := tw_c32) rfl 4 (c1 := (37, [some (.ref 41), some (.int v1_1), some (.int v1_2)], [.int ((1 : Int32) <<< (v1_2 &&& 31)), .int v1_1], (I5, L, tw_P tw dr rt 2, A6, J, 57))) rfl ?_
        refine tw_forget (ls2 := [some (.ref 41), none, some (.int v1_2)]) ⟨rfl, rfl, trivial⟩ ?_
        have hj10s := Option.some.inj hj10
        subst hj10s
        exact K
      · rw [if_neg hc8] at hj10
        refine tw_br (cd := tw_c32) rfl rfl rfl (by exact if_neg hc8) ?_
        refine tw_blk (cd := tw_c32) rfl 1 (c1 := (37, [some (.ref 41), some (.int v1_1), some (.int v1_2)], [.int 0, .int v1_1], (I5, L, tw_P tw dr rt 2, A6, J, 57))) rfl ?_
        refine tw_forget (ls2 := [some (.ref 41), none, some (.int v1_2)]) ⟨rfl, rfl, trivial⟩ ?_
        have hj10s := Option.some.inj hj10
        subst hj10s
        exact K
theorem e_X3_stoppedOnes (I : Nat → Int32) (L : Nat → Int64) (A : Nat → Nat → Int32) (J : Nat → Nat → Int64) (tw dr : Nat) (rt : Nat) : ∀ r : (Int32 × (Nat → Int32) × (Nat → Nat → Int32)), g_X3_stoppedOnes I A = some r → tw_ME 32 (0, [some (.ref 41), none, none], [], (I, L, tw_P tw dr rt 2, A, J, 57)) (some (.int r.1), ((r.2.1), L, tw_P tw dr rt 2, (r.2.2), J, 57)) := by
  intro r h
  unfold g_X3_stoppedOnes at h
  refine tw_blk (cd := tw_c32) rfl 4 (c1 := (4, [some (.ref 41), some (.int 0), some (.int 0)], [], (I, L, tw_P tw dr rt 2, A, J, 57))) rfl ?_
  obtain ⟨⟨x1, I2, A3⟩, hx11, h⟩ := tw_bindE h
  dsimp only at h
  refine g_X3_stoppedOnes_L1_ok I L A J tw dr rt _ 4096 (0 : Int32) (0 : Int32) I A _ hx11 ?_
  refine tw_blk (cd := tw_c32) rfl 1 (c1 := (42, [none, some (.int x1), none], [.int x1], (I2, L, tw_P tw dr rt 2, A3, J, 57))) rfl ?_
  have h := Option.some.inj h
  subst h
  exact tw_retE (cd := tw_c32) rfl rfl rfl rfl
theorem e_J6_bitCount_0f7a4 (I : Nat → Int32) (L : Nat → Int64) (A : Nat → Nat → Int32) (J : Nat → Nat → Int64) (tw dr : Nat) (rt : Nat) (sc : Nat) (a0 : Int32) : ∀ r : Int32, g_J6_bitCount_0f7a4 a0 = r → tw_ME 321 (0, [some (.int a0)], [], (I, L, tw_P tw dr rt sc, A, J, 57)) (some (.int r), (I, L, tw_P tw dr rt sc, A, J, 57)) := by
  intro r h
  unfold g_J6_bitCount_0f7a4 at h
  refine tw_blk (cd := tw_c321) rfl 41 (c1 := (41, [some (.int (((((((a0 - (((a0.toUInt32 >>> ((1 : Int32).toUInt32 &&& Int32.toUInt32 31)).toInt32) &&& (1431655765 : Int32))) &&& (858993459 : Int32)) + ((((a0 - (((a0.toUInt32 >>> ((1 : Int32).toUInt32 &&& Int32.toUInt32 31)).toInt32) &&& (1431655765 : Int32))).toUInt32 >>> ((2 : Int32).toUInt32 &&& Int32.toUInt32 31)).toInt32) &&& (858993459 : Int32))) + (((((a0 - (((a0.toUInt32 >>> ((1 : Int32).toUInt32 &&& Int32.toUInt32 31)).toInt32) &&& (1431655765 : Int32))) &&& (858993459 : Int32)) + ((((a0 - (((a0.toUInt32 >>> ((1 : Int32).toUInt32 &&& Int32.toUInt32 31)).toInt32) &&& (1431655765 : Int32))).toUInt32 >>> ((2 : Int32).toUInt32 &&& Int32.toUInt32 31)).toInt32) &&& (858993459 : Int32))).toUInt32 >>> ((4 : Int32).toUInt32 &&& Int32.toUInt32 31)).toInt32)) &&& (252645135 : Int32)) + (((((((a0 - (((a0.toUInt32 >>> ((1 : Int32).toUInt32 &&& Int32.toUInt32 31)).toInt32) &&& (1431655765 : Int32))) &&& (858993459 : Int32)) + ((((a0 - (((a0.toUInt32 >>> ((1 : Int32).toUInt32 &&& Int32.toUInt32 31)).toInt32) &&& (1431655765 : Int32))).toUInt32 >>> ((2 : Int32).toUInt32 &&& Int32.toUInt32 31)).toInt32) &&& (858993459 : Int32))) + (((((a0 - (((a0.toUInt32 >>> ((1 : Int32).toUInt32 &&& Int32.toUInt32 31)).toInt32) &&& (1431655765 : Int32))) &&& (858993459 : Int32)) + ((((a0 - (((a0.toUInt32 >>> ((1 : Int32).toUInt32 &&& Int32.toUInt32 31)).toInt32) &&& (1431655765 : Int32))).toUInt32 >>> ((2 : Int32).toUInt32 &&& Int32.toUInt32 31)).toInt32) &&& (858993459 : Int32))).toUInt32 >>> ((4 : Int32).toUInt32 &&& Int32.toUInt32 31)).toInt32)) &&& (252645135 : Int32)).toUInt32 >>> ((8 : Int32).toUInt32 &&& Int32.toUInt32 31)).toInt32)) + ((((((((a0 - (((a0.toUInt32 >>> ((1 : Int32).toUInt32 &&& Int32.toUInt32 31)).toInt32) &&& (1431655765 : Int32))) &&& (858993459 : Int32)) + ((((a0 - (((a0.toUInt32 >>> ((1 : Int32).toUInt32 &&& Int32.toUInt32 31)).toInt32) &&& (1431655765 : Int32))).toUInt32 >>> ((2 : Int32).toUInt32 &&& Int32.toUInt32 31)).toInt32) &&& (858993459 : Int32))) + (((((a0 - (((a0.toUInt32 >>> ((1 : Int32).toUInt32 &&& Int32.toUInt32 31)).toInt32) &&& (1431655765 : Int32))) &&& (858993459 : Int32)) + ((((a0 - (((a0.toUInt32 >>> ((1 : Int32).toUInt32 &&& Int32.toUInt32 31)).toInt32) &&& (1431655765 : Int32))).toUInt32 >>> ((2 : Int32).toUInt32 &&& Int32.toUInt32 31)).toInt32) &&& (858993459 : Int32))).toUInt32 >>> ((4 : Int32).toUInt32 &&& Int32.toUInt32 31)).toInt32)) &&& (252645135 : Int32)) + (((((((a0 - (((a0.toUInt32 >>> ((1 : Int32).toUInt32 &&& Int32.toUInt32 31)).toInt32) &&& (1431655765 : Int32))) &&& (858993459 : Int32)) + ((((a0 - (((a0.toUInt32 >>> ((1 : Int32).toUInt32 &&& Int32.toUInt32 31)).toInt32) &&& (1431655765 : Int32))).toUInt32 >>> ((2 : Int32).toUInt32 &&& Int32.toUInt32 31)).toInt32) &&& (858993459 : Int32))) + (((((a0 - (((a0.toUInt32 >>> ((1 : Int32).toUInt32 &&& Int32.toUInt32 31)).toInt32) &&& (1431655765 : Int32))) &&& (858993459 : Int32)) + ((((a0 - (((a0.toUInt32 >>> ((1 : Int32).toUInt32 &&& Int32.toUInt32 31)).toInt32) &&& (1431655765 : Int32))).toUInt32 >>> ((2 : Int32).toUInt32 &&& Int32.toUInt32 31)).toInt32) &&& (858993459 : Int32))).toUInt32 >>> ((4 : Int32).toUInt32 &&& Int32.toUInt32 31)).toInt32)) &&& (252645135 : Int32)).toUInt32 >>> ((8 : Int32).toUInt32 &&& Int32.toUInt32 31)).toInt32)).toUInt32 >>> ((16 : Int32).toUInt32 &&& Int32.toUInt32 31)).toInt32)))], [.int ((((((((a0 - (((a0.toUInt32 >>> ((1 : Int32).toUInt32 &&& Int32.toUInt32 31)).toInt32) &&& (1431655765 : Int32))) &&& (858993459 : Int32)) + ((((a0 - (((a0.toUInt32 >>> ((1 : Int32).toUInt32 &&& Int32.toUInt32 31)).toInt32) &&& (1431655765 : Int32))).toUInt32 >>> ((2 : Int32).toUInt32 &&& Int32.toUInt32 31)).toInt32) &&& (858993459 : Int32))) + (((((a0 - (((a0.toUInt32 >>> ((1 : Int32).toUInt32 &&& Int32.toUInt32 31)).toInt32) &&& (1431655765 : Int32))) &&& (858993459 : Int32)) + ((((a0 - (((a0.toUInt32 >>> ((1 : Int32).toUInt32 &&& Int32.toUInt32 31)).toInt32) &&& (1431655765 : Int32))).toUInt32 >>> ((2 : Int32).toUInt32 &&& Int32.toUInt32 31)).toInt32) &&& (858993459 : Int32))).toUInt32 >>> ((4 : Int32).toUInt32 &&& Int32.toUInt32 31)).toInt32)) &&& (252645135 : Int32)) + (((((((a0 - (((a0.toUInt32 >>> ((1 : Int32).toUInt32 &&& Int32.toUInt32 31)).toInt32) &&& (1431655765 : Int32))) &&& (858993459 : Int32)) + ((((a0 - (((a0.toUInt32 >>> ((1 : Int32).toUInt32 &&& Int32.toUInt32 31)).toInt32) &&& (1431655765 : Int32))).toUInt32 >>> ((2 : Int32).toUInt32 &&& Int32.toUInt32 31)).toInt32) &&& (858993459 : Int32))) + (((((a0 - (((a0.toUInt32 >>> ((1 : Int32).toUInt32 &&& Int32.toUInt32 31)).toInt32) &&& (1431655765 : Int32))) &&& (858993459 : Int32)) + ((((a0 - (((a0.toUInt32 >>> ((1 : Int32).toUInt32 &&& Int32.toUInt32 31)).toInt32) &&& (1431655765 : Int32))).toUInt32 >>> ((2 : Int32).toUInt32 &&& Int32.toUInt32 31)).toInt32) &&& (858993459 : Int32))).toUInt32 >>> ((4 : Int32).toUInt32 &&& Int32.toUInt32 31)).toInt32)) &&& (252645135 : Int32)).toUInt32 >>> ((8 : Int32).toUInt32 &&& Int32.toUInt32 31)).toInt32)) + ((((((((a0 - (((a0.toUInt32 >>> ((1 : Int32).toUInt32 &&& Int32.toUInt32 31)).toInt32) &&& (1431655765 : Int32))) &&& (858993459 : Int32)) + ((((a0 - (((a0.toUInt32 >>> ((1 : Int32).toUInt32 &&& Int32.toUInt32 31)).toInt32) &&& (1431655765 : Int32))).toUInt32 >>> ((2 : Int32).toUInt32 &&& Int32.toUInt32 31)).toInt32) &&& (858993459 : Int32))) + (((((a0 - (((a0.toUInt32 >>> ((1 : Int32).toUInt32 &&& Int32.toUInt32 31)).toInt32) &&& (1431655765 : Int32))) &&& (858993459 : Int32)) + ((((a0 - (((a0.toUInt32 >>> ((1 : Int32).toUInt32 &&& Int32.toUInt32 31)).toInt32) &&& (1431655765 : Int32))).toUInt32 >>> ((2 : Int32).toUInt32 &&& Int32.toUInt32 31)).toInt32) &&& (858993459 : Int32))).toUInt32 >>> ((4 : Int32).toUInt32 &&& Int32.toUInt32 31)).toInt32)) &&& (252645135 : Int32)) + (((((((a0 - (((a0.toUInt32 >>> ((1 : Int32).toUInt32 &&& Int32.toUInt32 31)).toInt32) &&& (1431655765 : Int32))) &&& (858993459 : Int32)) + ((((a0 - (((a0.toUInt32 >>> ((1 : Int32).toUInt32 &&& Int32.toUInt32 31)).toInt32) &&& (1431655765 : Int32))).toUInt32 >>> ((2 : Int32).toUInt32 &&& Int32.toUInt32 31)).toInt32) &&& (858993459 : Int32))) + (((((a0 - (((a0.toUInt32 >>> ((1 : Int32).toUInt32 &&& Int32.toUInt32 31)).toInt32) &&& (1431655765 : Int32))) &&& (858993459 : Int32)) + ((((a0 - (((a0.toUInt32 >>> ((1 : Int32).toUInt32 &&& Int32.toUInt32 31)).toInt32) &&& (1431655765 : Int32))).toUInt32 >>> ((2 : Int32).toUInt32 &&& Int32.toUInt32 31)).toInt32) &&& (858993459 : Int32))).toUInt32 >>> ((4 : Int32).toUInt32 &&& Int32.toUInt32 31)).toInt32)) &&& (252645135 : Int32)).toUInt32 >>> ((8 : Int32).toUInt32 &&& Int32.toUInt32 31)).toInt32)).toUInt32 >>> ((16 : Int32).toUInt32 &&& Int32.toUInt32 31)).toInt32)) &&& (63 : Int32))], (I, L, tw_P tw dr rt sc, A, J, 57))) rfl ?_
  subst h
  exact tw_retE (cd := tw_c321) rfl rfl rfl rfl
theorem e_X6_takeForPlain (I : Nat → Int32) (L : Nat → Int64) (A : Nat → Nat → Int32) (J : Nat → Nat → Int64) (tw dr : Nat) (rt : Nat) (a1 : Int32) : ∀ r : Nat → Nat → Int32, g_X6_takeForPlain A a1 = r → tw_ME 80 (0, [some (.ref 36), some (.int a1)], [], (I, L, tw_P tw dr rt 2, A, J, 57)) (none, (I, L, tw_P tw dr rt 2, r, J, 57)) := by
  intro r h
  unfold g_X6_takeForPlain at h
  refine tw_blk (cd := tw_c80) rfl 4 (c1 := (4, [some (.ref 36), some (.int a1)], [.int 2, .int a1, .ref 38], (I, L, tw_P tw dr rt 2, A, J, 57))) rfl ?_
  obtain ⟨w1, hw2, h⟩ := tw_letE h
  refine tw_callE (cd := tw_c80) rfl rfl rfl rfl rfl (tw_e_put I L (tw_P tw dr rt 2) A J (q := 38) (N := 6) rfl rfl (by decide) a1 (2 : Int32) w1 hw2) (by exact Or.inl rfl) ?_
  subst h
  exact tw_retE (cd := tw_c80) rfl rfl rfl rfl
theorem e_X6_takeForHisKind (I : Nat → Int32) (L : Nat → Int64) (A : Nat → Nat → Int32) (J : Nat → Nat → Int64) (tw dr : Nat) (rt : Nat) (a1 : Int32) : ∀ r : Nat → Nat → Int32, g_X6_takeForHisKind A a1 = r → tw_ME 81 (0, [some (.ref 36), some (.int a1)], [], (I, L, tw_P tw dr rt 2, A, J, 57)) (none, (I, L, tw_P tw dr rt 2, r, J, 57)) := by
  intro r h
  unfold g_X6_takeForHisKind at h
  refine tw_blk (cd := tw_c81) rfl 6 (c1 := (6, [some (.ref 36), some (.int a1)], [.int a1, .ref 2, .int a1, .ref 38], (I, L, tw_P tw dr rt 2, A, J, 57))) rfl ?_
  refine tw_callE (cd := tw_c81) rfl rfl rfl rfl rfl (e_X8_eyesByKind_2 I L A J tw dr rt 2 a1 _ rfl) (by exact Or.inl rfl) ?_
  obtain ⟨w1, hw2, h⟩ := tw_letE h
  refine tw_callE (cd := tw_c81) rfl rfl rfl rfl rfl (tw_e_put I L (tw_P tw dr rt 2) A J (q := 38) (N := 6) rfl rfl (by decide) a1 (g_X8_eyesByKind_2 A a1) w1 hw2) (by exact Or.inl rfl) ?_
  subst h
  exact tw_retE (cd := tw_c81) rfl rfl rfl rfl
theorem g_X3_bestPlainOne_L1_ok (I : Nat → Int32) (L : Nat → Int64) (A : Nat → Nat → Int32) (J : Nat → Nat → Int64) (tw : Nat) (dr : Nat) (rt : Nat) (x1 : Int32) (I2 : Nat → Int32) (A3 : Nat → Nat → Int32) (out : Option Value × tw_S) : ∀ (n : Nat) (v1_1 : Int32) (v1_2 : Int32) (v1_3 : Int32) (I_1 : Nat → Int32) (A_1 : Nat → Nat → Int32) (ex : (Int32 × (Nat → Int32) × (Nat → Nat → Int32))), g_X3_bestPlainOne_L1 n v1_1 v1_2 v1_3 I_1 A_1 = some ex → tw_ME 33 (36, [none, some (.int (ex.1)), none, none, none], [], ((ex.2.1), L, tw_P tw dr rt 2, (ex.2.2), J, 57)) out → tw_ME 33 (8, [some (.ref 41), some (.int v1_1), some (.int v1_2), some (.int v1_3), none], [], (I_1, L, tw_P tw dr rt 2, A_1, J, 57)) out := by
  intro n
  induction n with
  | zero =>
    intro v1_1 v1_2 v1_3 I_1 A_1 ex h _
    cases h
  | succ n ih =>
    intro v1_1 v1_2 v1_3 I_1 A_1 ex h K
    rw [g_X3_bestPlainOne_L1] at h
    refine tw_blk (cd := tw_c33) rfl 1 (c1 := (9, [some (.ref 41), some (.int v1_1), some (.int v1_2), some (.int v1_3), none], [.int v1_3], (I_1, L, tw_P tw dr rt 2, A_1, J, 57))) rfl ?_
    refine tw_blk (cd := tw_c33) rfl 4 (c1 := (13, [some (.ref 41), some (.int v1_1), some (.int v1_2), some (.int v1_3), none], [.int 3, .ref 2, .int v1_3], (I_1, L, tw_P tw dr rt 2, A_1, J, 57))) rfl ?_
    refine tw_callE (cd := tw_c33) rfl rfl rfl rfl rfl (e_X8_count_2 I_1 L A_1 J tw dr rt 2 (3 : Int32) _ rfl) (by exact Or.inl rfl) ?_
    by_cases hc8 : (g_X8_count_2 A_1 (3 : Int32)) ≤ v1_3
    · rw [if_pos hc8] at h
      refine tw_br (cd := tw_c33) rfl rfl rfl (by exact if_pos hc8) ?_
      refine tw_forget (ls2 := [none, some (.int v1_1), none, none, none]) ⟨rfl, trivial⟩ ?_
      have h := Option.some.inj h
      subst h
      exact K
    · rw [if_neg hc8] at h
      refine tw_br (cd := tw_c33) rfl rfl rfl (by exact if_neg hc8) ?_
      refine tw_blk (cd := tw_c33) rfl 3 (c1 := (18, [some (.ref 41), some (.int v1_1), some (.int v1_2), some (.int v1_3), none], [.int v1_3, .ref 36], (I_1, L, tw_P tw dr rt 2, A_1, J, 57))) rfl ?_
      obtain ⟨A9, hx10, h⟩ := tw_letE h
      refine tw_callE (cd := tw_c33) rfl rfl rfl rfl rfl (e_X6_takeForPlain I_1 L A_1 J tw dr rt v1_3 _ hx10) (by exact Or.inl rfl) ?_
      refine tw_blk (cd := tw_c33) rfl 1 (c1 := (20, [some (.ref 41), some (.int v1_1), some (.int v1_2), some (.int v1_3), none], [.ref 41], (I_1, L, tw_P tw dr rt 2, A9, J, 57))) rfl ?_
      obtain ⟨⟨x11, I12, A13⟩, hx14, h⟩ := tw_bindE h
      dsimp only at h
      refine tw_callE (cd := tw_c33) rfl rfl rfl rfl rfl (e_X3_stoppedOnes I_1 L A9 J tw dr rt _ hx14) (by exact Or.inl rfl) ?_
      refine tw_callE (cd := tw_c33) rfl rfl rfl rfl rfl (e_J6_bitCount_0f7a4 I12 L A13 J tw dr rt 2 x11 _ rfl) (by exact Or.inl rfl) ?_
      refine tw_blk (cd := tw_c33) rfl 4 (c1 := (26, [some (.ref 41), some (.int v1_1), some (.int v1_2), some (.int v1_3), some (.int (g_J6_bitCount_0f7a4 x11))], [.int v1_3, .ref 36], (I12, L, tw_P tw dr rt 2, A13, J, 57))) rfl ?_
      obtain ⟨A15, hx16, h⟩ := tw_letE h
      refine tw_callE (cd := tw_c33) rfl rfl rfl rfl rfl (e_X6_takeForHisKind I12 L A13 J tw dr rt v1_3 _ hx16) (by exact Or.inl rfl) ?_
      refine tw_blk (cd := tw_c33) rfl 2 (c1 := (29, [some (.ref 41), some (.int v1_1), some (.int v1_2), some (.int v1_3), some (.int (g_J6_bitCount_0f7a4 x11))], [.int v1_2, .int (g_J6_bitCount_0f7a4 x11)], (I12, L, tw_P tw dr rt 2, A15, J, 57))) rfl ?_
      obtain ⟨⟨x18, x19⟩, hj20, h⟩ := tw_bindE h
      dsimp only at h
      have K : tw_ME 33 (34, [some (.ref 41), some (.int x18), some (.int x19), some (.int v1_3), none], [], (I12, L, tw_P tw dr rt 2, A15, J, 57)) out := by
        refine tw_blk (cd := tw_c33) rfl 2 (c1 := (8, [some (.ref 41), some (.int x18), some (.int x19), some (.int (v1_3 + (1 : Int32))), none], [], (I12, L, tw_P tw dr rt 2, A15, J, 57))) rfl ?_
        exact ih x18 x19 (v1_3 + (1 : Int32)) I12 A15 _ h K
      by_cases hc17 : (g_J6_bitCount_0f7a4 x11) ≤ v1_2
      · rw [if_pos hc17] at hj20
        refine tw_br (cd := tw_c33) rfl rfl rfl (by exact if_pos hc17) ?_
        refine tw_forget (ls2 := [some (.ref 41), some (.int v1_1), some (.int v1_2), some (.int v1_3), none]) ⟨rfl, rfl, rfl, rfl, trivial⟩ ?_
        have hj20s := Option.some.inj hj20
        obtain ⟨hj20_0, hj20r0⟩ := Prod.mk.inj hj20s
        subst hj20_0
        subst hj20r0
        exact K
      · rw [if_neg hc17] at hj20
        refine tw_br (cd := tw_c33) rfl rfl rfl (by exact if_neg hc17) ?_
        refine tw_blk (cd := tw_c33) rfl 4 (c1 := (34, [some (.ref 41), some (.int v1_3), some (.int (g_J6_bitCount_0f7a4 x11)), some (.int v1_3), some (.int (g_J6_bitCount_0f7a4 x11))], [], (I12, L, tw_P tw dr rt 2, A15, J, 57))) rfl ?_
        refine tw_forget (ls2 := [some (.ref 41), some (.int v1_3), some (.int (g_J6_bitCount_0f7a4 x11)), some (.int v1_3), none]) ⟨rfl, rfl, rfl, rfl, trivial⟩ ?_
        have hj20s := Option.some.inj hj20
        obtain ⟨hj20_0, hj20r0⟩ := Prod.mk.inj hj20s
        subst hj20_0
        subst hj20r0
        exact K
theorem e_X3_bestPlainOne (I : Nat → Int32) (L : Nat → Int64) (A : Nat → Nat → Int32) (J : Nat → Nat → Int64) (tw dr : Nat) (rt : Nat) : ∀ r : (Int32 × (Nat → Int32) × (Nat → Nat → Int32)), g_X3_bestPlainOne I A = some r → tw_ME 33 (0, [some (.ref 41), none, none, none, none], [], (I, L, tw_P tw dr rt 2, A, J, 57)) (some (.int r.1), ((r.2.1), L, tw_P tw dr rt 2, (r.2.2), J, 57)) := by
  intro r h
  unfold g_X3_bestPlainOne at h
  refine tw_blk (cd := tw_c33) rfl 3 (c1 := (3, [some (.ref 41), some (.int (-2)), none, none, none], [.ref 41], (I, L, tw_P tw dr rt 2, A, J, 57))) rfl ?_
  obtain ⟨⟨x1, I2, A3⟩, hx4, h⟩ := tw_bindE h
  dsimp only at h
  refine tw_callE (cd := tw_c33) rfl rfl rfl rfl rfl (e_X3_stoppedOnes I L A J tw dr rt _ hx4) (by exact Or.inl rfl) ?_
  refine tw_callE (cd := tw_c33) rfl rfl rfl rfl rfl (e_J6_bitCount_0f7a4 I2 L A3 J tw dr rt 2 x1 _ rfl) (by exact Or.inl rfl) ?_
  refine tw_blk (cd := tw_c33) rfl 3 (c1 := (8, [some (.ref 41), some (.int (-2)), some (.int (g_J6_bitCount_0f7a4 x1)), some (.int 0), none], [], (I2, L, tw_P tw dr rt 2, A3, J, 57))) rfl ?_
  obtain ⟨⟨x5, I6, A7⟩, hx21, h⟩ := tw_bindE h
  dsimp only at h
  refine g_X3_bestPlainOne_L1_ok I L A J tw dr rt x1 I2 A3 _ 4096 (-2 : Int32) (g_J6_bitCount_0f7a4 x1) (0 : Int32) I2 A3 _ hx21 ?_
  refine tw_blk (cd := tw_c33) rfl 1 (c1 := (37, [none, some (.int x5), none, none, none], [.int x5], (I6, L, tw_P tw dr rt 2, A7, J, 57))) rfl ?_
  have h := Option.some.inj h
  subst h
  exact tw_retE (cd := tw_c33) rfl rfl rfl rfl
theorem e_X9_nurse (I : Nat → Int32) (L : Nat → Int64) (A : Nat → Nat → Int32) (J : Nat → Nat → Int64) (rt : Nat) (sc : Nat) : ∀ r : (Int32 × (Nat → Int32) × (Nat → Nat → Int32) × Nat), g_X9_nurse I A sc = some r → tw_ME 132 (0, [some (.ref 0)], [], (I, L, tw_P 2 14 rt sc, A, J, 57)) (some (.int r.1), ((r.2.1), L, tw_P 2 14 rt (r.2.2.2), (r.2.2.1), J, 57)) := by
  intro r h
  unfold g_X9_nurse at h
  refine tw_blk (cd := tw_c132) rfl 1 (c1 := (1, [some (.ref 0)], [.ref 0], (I, L, tw_P 2 14 rt sc, A, J, 57))) rfl ?_
  refine tw_callE (cd := tw_c132) rfl rfl rfl rfl rfl (e_X9_hasTown I L A J rt sc _ rfl) (by exact Or.inl rfl) ?_
  by_cases hc1 : (g_X9_hasTown A) = true
  · rw [if_pos hc1] at h
    refine tw_br (cd := tw_c132) rfl rfl rfl (by exact if_neg (tw_b_t hc1)) ?_
    refine tw_blk (cd := tw_c132) rfl 1 (c1 := (8, [some (.ref 0)], [.ref 0], (I, L, tw_P 2 14 rt sc, A, J, 57))) rfl ?_
    obtain ⟨⟨I2, A3⟩, hx4, h⟩ := tw_bindE h
    dsimp only at h
    refine tw_callE (cd := tw_c132) rfl rfl rfl rfl rfl (e_X9_showNow I L A J rt sc _ hx4) (by exact Or.inl rfl) ?_
    refine tw_blk (cd := tw_c132) rfl 3 (c1 := (12, [some (.ref 0)], [.ref 41, .ref 0], (I2, L, tw_P 2 14 rt 2, A3, J, 57))) rfl ?_
    obtain ⟨⟨x5, I6, A7⟩, hx8, h⟩ := tw_bindE h
    dsimp only at h
    refine tw_callE (cd := tw_c132) rfl rfl rfl rfl rfl (e_X3_bestPlainOne I2 L A3 J 2 14 rt _ hx8) (by exact Or.inl rfl) ?_
    obtain ⟨⟨x9, I10⟩, hx11, h⟩ := tw_letE h
    dsimp only at h
    refine tw_callE (cd := tw_c132) rfl rfl rfl rfl rfl (e_X9_grant I6 L A7 J 2 14 rt 2 x5 _ hx11) (by exact Or.inl rfl) ?_
    have h := Option.some.inj h
    subst h
    exact tw_retE (cd := tw_c132) rfl rfl rfl rfl
  · rw [if_neg hc1] at h
    refine tw_br (cd := tw_c132) rfl rfl rfl (by exact if_pos (tw_b_f hc1)) ?_
    refine tw_blk (cd := tw_c132) rfl 2 (c1 := (5, [some (.ref 0)], [.int 1, .ref 0], (I, L, tw_P 2 14 rt sc, A, J, 57))) rfl ?_
    obtain ⟨⟨x12, I13⟩, hx14, h⟩ := tw_letE h
    dsimp only at h
    refine tw_callE (cd := tw_c132) rfl rfl rfl rfl rfl (e_X9_refuse I L A J 2 14 rt sc (1 : Int32) _ hx14) (by exact Or.inl rfl) ?_
    have h := Option.some.inj h
    subst h
    exact tw_retE (cd := tw_c132) rfl rfl rfl rfl
theorem g_X10_stopped_L1_ok (I : Nat → Int32) (L : Nat → Int64) (A : Nat → Nat → Int32) (J : Nat → Nat → Int64) (tw : Nat) (dr : Nat) (rt : Nat) (sc : Nat) (out : Option Value × tw_S) : ∀ (n : Nat) (v1_1 : Int32) (v1_2 : Int32) (I_1 : Nat → Int32) (ex : (Int32 × (Nat → Int32))), g_X10_stopped_L1 A n v1_1 v1_2 I_1 = some ex → tw_ME 268 (26, [none, some (.int (ex.1)), none], [], ((ex.2), L, tw_P tw dr rt sc, A, J, 57)) out → tw_ME 268 (4, [some (.ref 44), some (.int v1_1), some (.int v1_2)], [], (I_1, L, tw_P tw dr rt sc, A, J, 57)) out := by
  intro n
  induction n with
  | zero =>
    intro v1_1 v1_2 I_1 ex h _
    cases h
  | succ n ih =>
    intro v1_1 v1_2 I_1 ex h K
    rw [g_X10_stopped_L1] at h
    refine tw_blk (cd := tw_c268) rfl 1 (c1 := (5, [some (.ref 44), some (.int v1_1), some (.int v1_2)], [.int v1_2], (I_1, L, tw_P tw dr rt sc, A, J, 57))) rfl ?_
    refine tw_blk (cd := tw_c268) rfl 3 (c1 := (8, [some (.ref 44), some (.int v1_1), some (.int v1_2)], [.int 5, .ref 47, .int v1_2], (I_1, L, tw_P tw dr rt sc, A, J, 57))) rfl ?_
    obtain ⟨x4, hx3, h⟩ := tw_bindE h
    refine tw_iald (cd := tw_c268) (N := 241) rfl rfl rfl rfl hx3 ?_
    by_cases hc5 : x4 ≤ v1_2
    · rw [if_pos hc5] at h
      refine tw_br (cd := tw_c268) rfl rfl rfl (by exact if_pos hc5) ?_
      refine tw_forget (ls2 := [none, some (.int v1_1), none]) ⟨rfl, trivial⟩ ?_
      have h := Option.some.inj h
      subst h
      exact K
    · rw [if_neg hc5] at h
      refine tw_br (cd := tw_c268) rfl rfl rfl (by exact if_neg hc5) ?_
      refine tw_blk (cd := tw_c268) rfl 2 (c1 := (12, [some (.ref 44), some (.int v1_1), some (.int v1_2)], [.int v1_2, .ref 44], (I_1, L, tw_P tw dr rt sc, A, J, 57))) rfl ?_
      obtain ⟨I6, hx7, h⟩ := tw_bindE h
      refine tw_callE (cd := tw_c268) rfl rfl rfl rfl rfl (e_X10_runTold I_1 L A J tw dr rt sc v1_2 _ hx7) (by exact Or.inl rfl) ?_
      refine tw_blk (cd := tw_c268) rfl 3 (c1 := (16, [some (.ref 44), some (.int v1_1), some (.int v1_2)], [.int (I6 4425), .int v1_1], (I6, L, tw_P tw dr rt sc, A, J, 57))) rfl ?_
      obtain ⟨x9, hj10, h⟩ := tw_bindE h
      have K : tw_ME 268 (22, [some (.ref 44), none, some (.int v1_2)], [.int x9, .int v1_1], (I6, L, tw_P tw dr rt sc, A, J, 57)) out := by
        refine tw_blk (cd := tw_c268) rfl 4 (c1 := (4, [some (.ref 44), some (.int (v1_1 ||| x9)), some (.int (v1_2 + (1 : Int32)))], [], (I6, L, tw_P tw dr rt sc, A, J, 57))) rfl ?_
        exact ih (v1_1 ||| x9) (v1_2 + (1 : Int32)) I6 _ h K
      by_cases hc8 : (I6 4425) = 0
      · rw [if_pos hc8] at hj10
        refine tw_br (cd := tw_c268) rfl rfl rfl (by exact if_pos hc8) ?_
        refine tw_blk (cd := tw_c268) rfl 4 (c1 := (22, [some (.ref 44), some (.int v1_1), some (.int v1_2)], [.int ((1 : Int32) <<< (v1_2 &&& 31)), .int v1_1], (I6, L, tw_P tw dr rt sc, A, J, 57))) rfl ?_
        refine tw_forget (ls2 := [some (.ref 44), none, some (.int v1_2)]) ⟨rfl, rfl, trivial⟩ ?_
        have hj10s := Option.some.inj hj10
        subst hj10s
        exact K
      · rw [if_neg hc8] at hj10
        refine tw_br (cd := tw_c268) rfl rfl rfl (by exact if_neg hc8) ?_
        refine tw_blk (cd := tw_c268) rfl 1 (c1 := (22, [some (.ref 44), some (.int v1_1), some (.int v1_2)], [.int 0, .int v1_1], (I6, L, tw_P tw dr rt sc, A, J, 57))) rfl ?_
        refine tw_forget (ls2 := [some (.ref 44), none, some (.int v1_2)]) ⟨rfl, rfl, trivial⟩ ?_
        have hj10s := Option.some.inj hj10
        subst hj10s
        exact K
theorem e_X10_stopped (I : Nat → Int32) (L : Nat → Int64) (A : Nat → Nat → Int32) (J : Nat → Nat → Int64) (tw dr : Nat) (rt : Nat) (sc : Nat) : ∀ r : (Int32 × (Nat → Int32)), g_X10_stopped I A = some r → tw_ME 268 (0, [some (.ref 44), none, none], [], (I, L, tw_P tw dr rt sc, A, J, 57)) (some (.int r.1), ((r.2), L, tw_P tw dr rt sc, A, J, 57)) := by
  intro r h
  unfold g_X10_stopped at h
  refine tw_blk (cd := tw_c268) rfl 4 (c1 := (4, [some (.ref 44), some (.int 0), some (.int 0)], [], (I, L, tw_P tw dr rt sc, A, J, 57))) rfl ?_
  obtain ⟨⟨x1, I2⟩, hx11, h⟩ := tw_bindE h
  dsimp only at h
  refine g_X10_stopped_L1_ok I L A J tw dr rt sc _ 4096 (0 : Int32) (0 : Int32) I _ hx11 ?_
  refine tw_blk (cd := tw_c268) rfl 1 (c1 := (27, [none, some (.int x1), none], [.int x1], (I2, L, tw_P tw dr rt sc, A, J, 57))) rfl ?_
  have h := Option.some.inj h
  subst h
  exact tw_retE (cd := tw_c268) rfl rfl rfl rfl
theorem g_X10_ones_L1_ok (I : Nat → Int32) (L : Nat → Int64) (A : Nat → Nat → Int32) (J : Nat → Nat → Int64) (tw : Nat) (dr : Nat) (rt : Nat) (sc : Nat) (a0 : Int32) (out : Option Value × tw_S) : ∀ (n : Nat) (v1_1 : Int32) (v1_2 : Int32) (ex : Int32), g_X10_ones_L1 a0 n v1_1 v1_2 = some ex → tw_ME 198 (17, [none, some (.int ex), none], [], (I, L, tw_P tw dr rt sc, A, J, 57)) out → tw_ME 198 (4, [some (.int a0), some (.int v1_1), some (.int v1_2)], [], (I, L, tw_P tw dr rt sc, A, J, 57)) out := by
  intro n
  induction n with
  | zero =>
    intro v1_1 v1_2 ex h _
    cases h
  | succ n ih =>
    intro v1_1 v1_2 ex h K
    rw [g_X10_ones_L1] at h
    refine tw_blk (cd := tw_c198) rfl 1 (c1 := (5, [some (.int a0), some (.int v1_1), some (.int v1_2)], [.int v1_2], (I, L, tw_P tw dr rt sc, A, J, 57))) rfl ?_
    refine tw_blk (cd := tw_c198) rfl 1 (c1 := (6, [some (.int a0), some (.int v1_1), some (.int v1_2)], [.int 8, .int v1_2], (I, L, tw_P tw dr rt sc, A, J, 57))) rfl ?_
    by_cases hc2 : (8 : Int32) ≤ v1_2
    · rw [if_pos hc2] at h
      refine tw_br (cd := tw_c198) rfl rfl rfl (by exact if_pos hc2) ?_
      refine tw_forget (ls2 := [none, some (.int v1_1), none]) ⟨rfl, trivial⟩ ?_
      have h := Option.some.inj h
      subst h
      exact K
    · rw [if_neg hc2] at h
      refine tw_br (cd := tw_c198) rfl rfl rfl (by exact if_neg hc2) ?_
      refine tw_blk (cd := tw_c198) rfl 10 (c1 := (4, [some (.int a0), some (.int (v1_1 + ((a0 >>> (v1_2 &&& 31)) &&& (1 : Int32)))), some (.int (v1_2 + (1 : Int32)))], [], (I, L, tw_P tw dr rt sc, A, J, 57))) rfl ?_
      exact ih (v1_1 + ((a0 >>> (v1_2 &&& 31)) &&& (1 : Int32))) (v1_2 + (1 : Int32)) _ h K
theorem e_X10_ones (I : Nat → Int32) (L : Nat → Int64) (A : Nat → Nat → Int32) (J : Nat → Nat → Int64) (tw dr : Nat) (rt : Nat) (sc : Nat) (a0 : Int32) : ∀ r : Int32, g_X10_ones a0 = some r → tw_ME 198 (0, [some (.int a0), none, none], [], (I, L, tw_P tw dr rt sc, A, J, 57)) (some (.int r), (I, L, tw_P tw dr rt sc, A, J, 57)) := by
  intro r h
  unfold g_X10_ones at h
  refine tw_blk (cd := tw_c198) rfl 4 (c1 := (4, [some (.int a0), some (.int 0), some (.int 0)], [], (I, L, tw_P tw dr rt sc, A, J, 57))) rfl ?_
  obtain ⟨x1, hx3, h⟩ := tw_bindE h
  refine g_X10_ones_L1_ok I L A J tw dr rt sc a0 _ 4096 (0 : Int32) (0 : Int32) _ hx3 ?_
  refine tw_blk (cd := tw_c198) rfl 1 (c1 := (18, [none, some (.int x1), none], [.int x1], (I, L, tw_P tw dr rt sc, A, J, 57))) rfl ?_
  have h := Option.some.inj h
  subst h
  exact tw_retE (cd := tw_c198) rfl rfl rfl rfl
theorem g_X10_nurse_L1_ok (I : Nat → Int32) (L : Nat → Int64) (A : Nat → Nat → Int32) (J : Nat → Nat → Int64) (tw : Nat) (dr : Nat) (rt : Nat) (sc : Nat) (I1 : Nat → Int32) (A7 : Nat → Nat → Int32) (x9 : Int32) (I10 : Nat → Int32) (x12 : Int32) (out : Option Value × tw_S) : ∀ (n : Nat) (v1_1 : Int32) (v1_2 : Int32) (v1_3 : Int32) (I_1 : Nat → Int32) (A_1 : Nat → Nat → Int32) (ex : (Int32 × (Nat → Int32) × (Nat → Nat → Int32))), g_X10_nurse_L1 n v1_1 v1_2 v1_3 I_1 A_1 = some ex → tw_ME 269 (46, [none, none, some (.int (ex.1)), none, none], [], ((ex.2.1), L, tw_P tw dr rt sc, (ex.2.2), J, 57)) out → tw_ME 269 (19, [some (.ref 44), some (.int v1_1), some (.int v1_2), some (.int v1_3), none], [], (I_1, L, tw_P tw dr rt sc, A_1, J, 57)) out := by
  intro n
  induction n with
  | zero =>
    intro v1_1 v1_2 v1_3 I_1 A_1 ex h _
    cases h
  | succ n ih =>
    intro v1_1 v1_2 v1_3 I_1 A_1 ex h K
    rw [g_X10_nurse_L1] at h
    refine tw_blk (cd := tw_c269) rfl 1 (c1 := (20, [some (.ref 44), some (.int v1_1), some (.int v1_2), some (.int v1_3), none], [.int v1_3], (I_1, L, tw_P tw dr rt sc, A_1, J, 57))) rfl ?_
    refine tw_blk (cd := tw_c269) rfl 3 (c1 := (23, [some (.ref 44), some (.int v1_1), some (.int v1_2), some (.int v1_3), none], [.int 3, .ref 47, .int v1_3], (I_1, L, tw_P tw dr rt sc, A_1, J, 57))) rfl ?_
    obtain ⟨x18, hx17, h⟩ := tw_bindE h
    refine tw_iald (cd := tw_c269) (N := 241) rfl rfl rfl rfl hx17 ?_
    by_cases hc19 : x18 ≤ v1_3
    · rw [if_pos hc19] at h
      refine tw_br (cd := tw_c269) rfl rfl rfl (by exact if_pos hc19) ?_
      refine tw_forget (ls2 := [none, none, some (.int v1_2), none, none]) ⟨rfl, trivial⟩ ?_
      have h := Option.some.inj h
      subst h
      exact K
    · rw [if_neg hc19] at h
      refine tw_br (cd := tw_c269) rfl rfl rfl (by exact if_neg hc19) ?_
      refine tw_blk (cd := tw_c269) rfl 1 (c1 := (26, [some (.ref 44), some (.int v1_1), some (.int v1_2), some (.int v1_3), none], [.ref 44], (I_1, L, tw_P tw dr rt sc, A_1, J, 57))) rfl ?_
      obtain ⟨A20, hx21, h⟩ := tw_bindE h
      refine tw_callE (cd := tw_c269) rfl rfl rfl rfl rfl (e_X10_asNow I_1 L A_1 J tw dr rt sc _ hx21) (by exact Or.inl rfl) ?_
      refine tw_blk (cd := tw_c269) rfl 4 (c1 := (31, [some (.ref 44), some (.int v1_1), some (.int v1_2), some (.int v1_3), none], [.int 2, .int v1_3, .ref 54], (I_1, L, tw_P tw dr rt sc, A20, J, 57))) rfl ?_
      obtain ⟨w23, hx22, h⟩ := tw_bindE h
      refine tw_iast (cd := tw_c269) (N := 6) rfl rfl rfl rfl hx22 ?_
      refine tw_blk (cd := tw_c269) rfl 1 (c1 := (33, [some (.ref 44), some (.int v1_1), some (.int v1_2), some (.int v1_3), none], [.ref 44], (I_1, L, tw_P tw dr rt sc, (va_up A20 54 w23), J, 57))) rfl ?_
      obtain ⟨⟨x24, I25⟩, hx26, h⟩ := tw_bindE h
      dsimp only at h
      refine tw_callE (cd := tw_c269) rfl rfl rfl rfl rfl (e_X10_stopped I_1 L (va_up A20 54 w23) J tw dr rt sc _ hx26) (by exact Or.inl rfl) ?_
      obtain ⟨x27, hx28, h⟩ := tw_bindE h
      refine tw_callE (cd := tw_c269) rfl rfl rfl rfl rfl (e_X10_ones I25 L (va_up A20 54 w23) J tw dr rt sc x24 _ hx28) (by exact Or.inl rfl) ?_
      refine tw_blk (cd := tw_c269) rfl 3 (c1 := (38, [some (.ref 44), some (.int v1_1), some (.int v1_2), some (.int v1_3), some (.int x27)], [.int v1_1, .int x27], (I25, L, tw_P tw dr rt sc, (va_up A20 54 w23), J, 57))) rfl ?_
      obtain ⟨⟨x30, x31⟩, hj32, h⟩ := tw_bindE h
      dsimp only at h
      have K : tw_ME 269 (44, [some (.ref 44), some (.int x30), some (.int x31), some (.int v1_3), none], [], (I25, L, tw_P tw dr rt sc, (va_up A20 54 w23), J, 57)) out := by
        refine tw_blk (cd := tw_c269) rfl 2 (c1 := (19, [some (.ref 44), some (.int x30), some (.int x31), some (.int (v1_3 + (1 : Int32))), none], [], (I25, L, tw_P tw dr rt sc, (va_up A20 54 w23), J, 57))) rfl ?_
        exact ih x30 x31 (v1_3 + (1 : Int32)) I25 (va_up A20 54 w23) _ h K
      by_cases hc29 : v1_1 < x27
      · rw [if_pos hc29] at hj32
        refine tw_br (cd := tw_c269) rfl rfl rfl (by exact if_pos hc29) ?_
        refine tw_blk (cd := tw_c269) rfl 4 (c1 := (44, [some (.ref 44), some (.int x27), some (.int v1_3), some (.int v1_3), some (.int x27)], [], (I25, L, tw_P tw dr rt sc, (va_up A20 54 w23), J, 57))) rfl ?_
        refine tw_forget (ls2 := [some (.ref 44), some (.int x27), some (.int v1_3), some (.int v1_3), none]) ⟨rfl, rfl, rfl, rfl, trivial⟩ ?_
        have hj32s := Option.some.inj hj32
        obtain ⟨hj32_0, hj32r0⟩ := Prod.mk.inj hj32s
        subst hj32_0
        subst hj32r0
        exact K
      · rw [if_neg hc29] at hj32
        refine tw_br (cd := tw_c269) rfl rfl rfl (by exact if_neg hc29) ?_
        refine tw_blk (cd := tw_c269) rfl 1 (c1 := (44, [some (.ref 44), some (.int v1_1), some (.int v1_2), some (.int v1_3), some (.int x27)], [], (I25, L, tw_P tw dr rt sc, (va_up A20 54 w23), J, 57))) rfl ?_
        refine tw_forget (ls2 := [some (.ref 44), some (.int v1_1), some (.int v1_2), some (.int v1_3), none]) ⟨rfl, rfl, rfl, rfl, trivial⟩ ?_
        have hj32s := Option.some.inj hj32
        obtain ⟨hj32_0, hj32r0⟩ := Prod.mk.inj hj32s
        subst hj32_0
        subst hj32r0
        exact K
theorem e_X10_nurse (I : Nat → Int32) (L : Nat → Int64) (A : Nat → Nat → Int32) (J : Nat → Nat → Int64) (tw dr : Nat) (rt : Nat) (sc : Nat) : ∀ r : (Int32 × (Nat → Int32) × (Nat → Nat → Int32)), g_X10_nurse I A = some r → tw_ME 269 (0, [some (.ref 44), none, none, none, none], [], (I, L, tw_P tw dr rt sc, A, J, 57)) (some (.int r.1), ((r.2.1), L, tw_P tw dr rt sc, (r.2.2), J, 57)) := by
  intro r h
  unfold g_X10_nurse at h
  refine tw_blk (cd := tw_c269) rfl 1 (c1 := (1, [some (.ref 44), none, none, none, none], [.ref 44], (I, L, tw_P tw dr rt sc, A, J, 57))) rfl ?_
  obtain ⟨I1, hx2, h⟩ := tw_letE h
  refine tw_callE (cd := tw_c269) rfl rfl rfl rfl rfl (e_X10_good I L A J tw dr rt sc _ hx2) (by exact Or.inl rfl) ?_
  refine tw_blk (cd := tw_c269) rfl 2 (c1 := (4, [some (.ref 44), none, none, none, none], [.int (I1 4414)], (I1, L, tw_P tw dr rt sc, A, J, 57))) rfl ?_
  by_cases hc3 : (I1 4414) = 0
  · rw [if_pos hc3] at h
    refine tw_br (cd := tw_c269) rfl rfl rfl (by exact if_pos hc3) ?_
    refine tw_blk (cd := tw_c269) rfl 2 (c1 := (7, [some (.ref 44), none, none, none, none], [.int 1, .ref 44], (I1, L, tw_P tw dr rt sc, A, J, 57))) rfl ?_
    obtain ⟨⟨x4, I5⟩, hx6, h⟩ := tw_letE h
    dsimp only at h
    refine tw_callE (cd := tw_c269) rfl rfl rfl rfl rfl (e_X10_no I1 L A J tw dr rt sc (1 : Int32) _ hx6) (by exact Or.inl rfl) ?_
    have h := Option.some.inj h
    subst h
    exact tw_retE (cd := tw_c269) rfl rfl rfl rfl
  · rw [if_neg hc3] at h
    refine tw_br (cd := tw_c269) rfl rfl rfl (by exact if_neg hc3) ?_
    refine tw_blk (cd := tw_c269) rfl 1 (c1 := (10, [some (.ref 44), none, none, none, none], [.ref 44], (I1, L, tw_P tw dr rt sc, A, J, 57))) rfl ?_
    obtain ⟨A7, hx8, h⟩ := tw_bindE h
    refine tw_callE (cd := tw_c269) rfl rfl rfl rfl rfl (e_X10_asNow I1 L A J tw dr rt sc _ hx8) (by exact Or.inl rfl) ?_
    refine tw_blk (cd := tw_c269) rfl 1 (c1 := (12, [some (.ref 44), none, none, none, none], [.ref 44], (I1, L, tw_P tw dr rt sc, A7, J, 57))) rfl ?_
    obtain ⟨⟨x9, I10⟩, hx11, h⟩ := tw_bindE h
    dsimp only at h
    refine tw_callE (cd := tw_c269) rfl rfl rfl rfl rfl (e_X10_stopped I1 L A7 J tw dr rt sc _ hx11) (by exact Or.inl rfl) ?_
    obtain ⟨x12, hx13, h⟩ := tw_bindE h
    refine tw_callE (cd := tw_c269) rfl rfl rfl rfl rfl (e_X10_ones I10 L A7 J tw dr rt sc x9 _ hx13) (by exact Or.inl rfl) ?_
    refine tw_blk (cd := tw_c269) rfl 5 (c1 := (19, [some (.ref 44), some (.int x12), some (.int (-2)), some (.int 0), none], [], (I10, L, tw_P tw dr rt sc, A7, J, 57))) rfl ?_
    obtain ⟨⟨x14, I15, A16⟩, hx33, h⟩ := tw_bindE h
    dsimp only at h
    refine g_X10_nurse_L1_ok I L A J tw dr rt sc I1 A7 x9 I10 x12 _ 4096 x12 (-2 : Int32) (0 : Int32) I10 A7 _ hx33 ?_
    refine tw_blk (cd := tw_c269) rfl 1 (c1 := (47, [none, none, some (.int x14), none, none], [.int x14], (I15, L, tw_P tw dr rt sc, A16, J, 57))) rfl ?_
    have h := Option.some.inj h
    subst h
    exact tw_retE (cd := tw_c269) rfl rfl rfl rfl
theorem e_X9_endsIf (I : Nat → Int32) (L : Nat → Int64) (A : Nat → Nat → Int32) (J : Nat → Nat → Int64) (rt : Nat) (sc : Nat) (a1 : Int32) (a2 : Int32) (a3 : Int32) : ∀ r : (Int32 × (Nat → Int32) × (Nat → Nat → Int32) × Nat), g_X9_endsIf I A sc a1 a2 a3 = some r → tw_ME 133 (0, [some (.ref 0), some (.int a1), some (.int a2), some (.int a3)], [], (I, L, tw_P 2 14 rt sc, A, J, 57)) (some (.int r.1), ((r.2.1), L, tw_P 2 14 rt (r.2.2.2), (r.2.2.1), J, 57)) := by
  intro r h
  unfold g_X9_endsIf at h
  refine tw_blk (cd := tw_c133) rfl 2 (c1 := (2, [some (.ref 0), some (.int a1), some (.int a2), some (.int a3)], [.int a1, .ref 0], (I, L, tw_P 2 14 rt sc, A, J, 57))) rfl ?_
  refine tw_callE (cd := tw_c133) rfl rfl rfl rfl rfl (e_X9_isQuarrel I L A J rt sc a1 _ rfl) (by exact Or.inl rfl) ?_
  by_cases hc1 : (g_X9_isQuarrel A a1) = true
  · rw [if_pos hc1] at h
    refine tw_br (cd := tw_c133) rfl rfl rfl (by exact if_neg (tw_b_t hc1)) ?_
    refine tw_blk (cd := tw_c133) rfl 2 (c1 := (6, [some (.ref 0), some (.int a1), some (.int a2), some (.int a3)], [.int a2, .ref 0], (I, L, tw_P 2 14 rt sc, A, J, 57))) rfl ?_
    refine tw_callE (cd := tw_c133) rfl rfl rfl rfl rfl (e_X9_isPlace I L A J rt sc a2 _ rfl) (by exact Or.inl rfl) ?_
    by_cases hc2 : (g_X9_isPlace A a2) = true
    · rw [if_pos hc2] at h
      refine tw_br (cd := tw_c133) rfl rfl rfl (by exact if_neg (tw_b_t hc2)) ?_
      refine tw_blk (cd := tw_c133) rfl 1 (c1 := (13, [some (.ref 0), some (.int a1), some (.int a2), some (.int a3)], [.int a3], (I, L, tw_P 2 14 rt sc, A, J, 57))) rfl ?_
      refine tw_callE (cd := tw_c133) rfl rfl rfl rfl rfl (e_X9_isMinute I L A J 2 14 rt sc a3 _ rfl) (by exact Or.inl rfl) ?_
      by_cases hc3 : (g_X9_isMinute a3) = true
      · rw [if_pos hc3] at h
        refine tw_br (cd := tw_c133) rfl rfl rfl (by exact if_neg (tw_b_t hc3)) ?_
        refine tw_blk (cd := tw_c133) rfl 1 (c1 := (20, [some (.ref 0), some (.int a1), some (.int a2), some (.int a3)], [.ref 0], (I, L, tw_P 2 14 rt sc, A, J, 57))) rfl ?_
        obtain ⟨⟨I4, A5⟩, hx6, h⟩ := tw_bindE h
        dsimp only at h
        refine tw_callE (cd := tw_c133) rfl rfl rfl rfl rfl (e_X9_showNow I L A J rt sc _ hx6) (by exact Or.inl rfl) ?_
        refine tw_blk (cd := tw_c133) rfl 5 (c1 := (26, [some (.ref 0), some (.int a1), some (.int a2), some (.int a3)], [.int a3, .int a2, .int a1, .ref 39], (I4, L, tw_P 2 14 rt 2, A5, J, 57))) rfl ?_
        obtain ⟨⟨I7, A8⟩, hx9, h⟩ := tw_bindE h
        dsimp only at h
        refine tw_callE (cd := tw_c133) rfl rfl rfl rfl rfl (e_X1_run I4 L A5 J 2 14 rt a1 a2 a3 _ hx9) (by exact Or.inl rfl) ?_
        refine tw_blk (cd := tw_c133) rfl 4 (c1 := (31, [some (.ref 0), some (.int a1), some (.int a2), some (.int a3)], [.int (I7 3902), .ref 0], (I7, L, tw_P 2 14 rt 2, A8, J, 57))) rfl ?_
        obtain ⟨⟨x10, I11⟩, hx12, h⟩ := tw_letE h
        dsimp only at h
        refine tw_callE (cd := tw_c133) rfl rfl rfl rfl rfl (e_X9_grant I7 L A8 J 2 14 rt 2 (I7 3902) _ hx12) (by exact Or.inl rfl) ?_
        have h := Option.some.inj h
        subst h
        exact tw_retE (cd := tw_c133) rfl rfl rfl rfl
      · rw [if_neg hc3] at h
        refine tw_br (cd := tw_c133) rfl rfl rfl (by exact if_pos (tw_b_f hc3)) ?_
        refine tw_blk (cd := tw_c133) rfl 2 (c1 := (17, [some (.ref 0), some (.int a1), some (.int a2), some (.int a3)], [.int 2, .ref 0], (I, L, tw_P 2 14 rt sc, A, J, 57))) rfl ?_
        obtain ⟨⟨x13, I14⟩, hx15, h⟩ := tw_letE h
        dsimp only at h
        refine tw_callE (cd := tw_c133) rfl rfl rfl rfl rfl (e_X9_refuse I L A J 2 14 rt sc (2 : Int32) _ hx15) (by exact Or.inl rfl) ?_
        have h := Option.some.inj h
        subst h
        exact tw_retE (cd := tw_c133) rfl rfl rfl rfl
    · rw [if_neg hc2] at h
      refine tw_br (cd := tw_c133) rfl rfl rfl (by exact if_pos (tw_b_f hc2)) ?_
      refine tw_blk (cd := tw_c133) rfl 2 (c1 := (10, [some (.ref 0), some (.int a1), some (.int a2), some (.int a3)], [.int 1, .ref 0], (I, L, tw_P 2 14 rt sc, A, J, 57))) rfl ?_
      obtain ⟨⟨x16, I17⟩, hx18, h⟩ := tw_letE h
      dsimp only at h
      refine tw_callE (cd := tw_c133) rfl rfl rfl rfl rfl (e_X9_refuse I L A J 2 14 rt sc (1 : Int32) _ hx18) (by exact Or.inl rfl) ?_
      have h := Option.some.inj h
      subst h
      exact tw_retE (cd := tw_c133) rfl rfl rfl rfl
  · rw [if_neg hc1] at h
    refine tw_br (cd := tw_c133) rfl rfl rfl (by exact if_pos (tw_b_f hc1)) ?_
    refine tw_blk (cd := tw_c133) rfl 2 (c1 := (10, [some (.ref 0), some (.int a1), some (.int a2), some (.int a3)], [.int 1, .ref 0], (I, L, tw_P 2 14 rt sc, A, J, 57))) rfl ?_
    obtain ⟨⟨x19, I20⟩, hx21, h⟩ := tw_letE h
    dsimp only at h
    refine tw_callE (cd := tw_c133) rfl rfl rfl rfl rfl (e_X9_refuse I L A J 2 14 rt sc (1 : Int32) _ hx21) (by exact Or.inl rfl) ?_
    have h := Option.some.inj h
    subst h
    exact tw_retE (cd := tw_c133) rfl rfl rfl rfl
theorem e_X10_endsIf (I : Nat → Int32) (L : Nat → Int64) (A : Nat → Nat → Int32) (J : Nat → Nat → Int64) (tw dr : Nat) (rt : Nat) (sc : Nat) (a1 : Int32) (a2 : Int32) (a3 : Int32) : ∀ r : (Int32 × (Nat → Int32) × (Nat → Nat → Int32)), g_X10_endsIf I A a1 a2 a3 = some r → tw_ME 270 (0, [some (.ref 44), some (.int a1), some (.int a2), some (.int a3), none], [], (I, L, tw_P tw dr rt sc, A, J, 57)) (some (.int r.1), ((r.2.1), L, tw_P tw dr rt sc, (r.2.2), J, 57)) := by
  intro r h
  unfold g_X10_endsIf at h
  refine tw_blk (cd := tw_c270) rfl 1 (c1 := (1, [some (.ref 44), some (.int a1), some (.int a2), some (.int a3), none], [.ref 44], (I, L, tw_P tw dr rt sc, A, J, 57))) rfl ?_
  obtain ⟨I1, hx2, h⟩ := tw_letE h
  refine tw_callE (cd := tw_c270) rfl rfl rfl rfl rfl (e_X10_good I L A J tw dr rt sc _ hx2) (by exact Or.inl rfl) ?_
  refine tw_blk (cd := tw_c270) rfl 3 (c1 := (5, [some (.ref 44), some (.int a1), some (.int a2), some (.int a3), none], [.int a1, .ref 44, .ref 44], (I1, L, tw_P tw dr rt sc, A, J, 57))) rfl ?_
  obtain ⟨c3, hx4, h⟩ := tw_bindE h
  refine tw_callE (cd := tw_c270) rfl rfl rfl rfl rfl (e_X10_isQuarrel I1 L A J tw dr rt sc a1 _ hx4) (by exact Or.inl rfl) ?_
  obtain ⟨x6, hj7, h⟩ := tw_bindE h
  have K : tw_ME 270 (14, [some (.ref 44), some (.int a1), some (.int a2), some (.int a3), none], [.int x6, .ref 44], (I1, L, tw_P tw dr rt sc, A, J, 57)) (some (.int r.1), ((r.2.1), L, tw_P tw dr rt sc, (r.2.2), J, 57)) := by
    refine tw_blk (cd := tw_c270) rfl 2 (c1 := (16, [some (.ref 44), some (.int a1), some (.int a2), some (.int a3), none], [.int a3, .ref 44, .int x6, .ref 44], (I1, L, tw_P tw dr rt sc, A, J, 57))) rfl ?_
    refine tw_callE (cd := tw_c270) rfl rfl rfl rfl rfl (e_X10_isMinute I1 L A J tw dr rt sc a3 _ rfl) (by exact Or.inl rfl) ?_
    refine tw_callE (cd := tw_c270) rfl rfl rfl rfl rfl (e_X10_why I1 L A J tw dr rt sc x6 (tw_b (g_X10_isMinute a3)) _ rfl) (by exact Or.inl rfl) ?_
    refine tw_blk (cd := tw_c270) rfl 2 (c1 := (20, [some (.ref 44), some (.int a1), some (.int a2), some (.int a3), some (.int (g_X10_why x6 (tw_b (g_X10_isMinute a3))))], [.int (g_X10_why x6 (tw_b (g_X10_isMinute a3)))], (I1, L, tw_P tw dr rt sc, A, J, 57))) rfl ?_
    by_cases hc11 : (g_X10_why x6 (tw_b (g_X10_isMinute a3))) = 0
    · rw [if_pos hc11] at h
      refine tw_br (cd := tw_c270) rfl rfl rfl (by exact if_pos hc11) ?_
      refine tw_blk (cd := tw_c270) rfl 1 (c1 := (26, [some (.ref 44), some (.int a1), some (.int a2), some (.int a3), some (.int (g_X10_why x6 (tw_b (g_X10_isMinute a3))))], [.ref 44], (I1, L, tw_P tw dr rt sc, A, J, 57))) rfl ?_
      obtain ⟨A12, hx13, h⟩ := tw_bindE h
      refine tw_callE (cd := tw_c270) rfl rfl rfl rfl rfl (e_X10_asNow I1 L A J tw dr rt sc _ hx13) (by exact Or.inl rfl) ?_
      refine tw_blk (cd := tw_c270) rfl 5 (c1 := (32, [some (.ref 44), some (.int a1), some (.int a2), some (.int a3), some (.int (g_X10_why x6 (tw_b (g_X10_isMinute a3))))], [.int 0, .int a3, .int a2, .int a1, .ref 44], (I1, L, tw_P tw dr rt sc, A12, J, 57))) rfl ?_
      obtain ⟨I14, hx15, h⟩ := tw_bindE h
      refine tw_callE (cd := tw_c270) rfl rfl rfl rfl rfl (e_X10_run I1 L A12 J tw dr rt sc a1 a2 a3 (0 : Int32) _ hx15) (by exact Or.inl rfl) ?_
      refine tw_blk (cd := tw_c270) rfl 2 (c1 := (35, [some (.ref 44), some (.int a1), some (.int a2), some (.int a3), some (.int (g_X10_why x6 (tw_b (g_X10_isMinute a3))))], [.int (I14 4425)], (I14, L, tw_P tw dr rt sc, A12, J, 57))) rfl ?_
      have h := Option.some.inj h
      subst h
      exact tw_retE (cd := tw_c270) rfl rfl rfl rfl
    · rw [if_neg hc11] at h
      refine tw_br (cd := tw_c270) rfl rfl rfl (by exact if_neg hc11) ?_
      refine tw_blk (cd := tw_c270) rfl 2 (c1 := (23, [some (.ref 44), some (.int a1), some (.int a2), some (.int a3), some (.int (g_X10_why x6 (tw_b (g_X10_isMinute a3))))], [.int (g_X10_why x6 (tw_b (g_X10_isMinute a3))), .ref 44], (I1, L, tw_P tw dr rt sc, A, J, 57))) rfl ?_
      obtain ⟨⟨x16, I17⟩, hx18, h⟩ := tw_letE h
      dsimp only at h
      refine tw_callE (cd := tw_c270) rfl rfl rfl rfl rfl (e_X10_no I1 L A J tw dr rt sc (g_X10_why x6 (tw_b (g_X10_isMinute a3))) _ hx18) (by exact Or.inl rfl) ?_
      have h := Option.some.inj h
      subst h
      exact tw_retE (cd := tw_c270) rfl rfl rfl rfl
  by_cases hc5 : c3 = true
  · rw [if_pos hc5] at hj7
    refine tw_br (cd := tw_c270) rfl rfl rfl (by exact if_neg (tw_b_t hc5)) ?_
    refine tw_blk (cd := tw_c270) rfl 2 (c1 := (9, [some (.ref 44), some (.int a1), some (.int a2), some (.int a3), none], [.int a2, .ref 44, .ref 44], (I1, L, tw_P tw dr rt sc, A, J, 57))) rfl ?_
    obtain ⟨c8, hx9, hj7⟩ := tw_bindE hj7
    refine tw_callE (cd := tw_c270) rfl rfl rfl rfl rfl (e_X10_isPlace I1 L A J tw dr rt sc a2 _ hx9) (by exact Or.inl rfl) ?_
    by_cases hc10 : c8 = true
    · rw [if_pos hc10] at hj7
      refine tw_br (cd := tw_c270) rfl rfl rfl (by exact if_neg (tw_b_t hc10)) ?_
      refine tw_blk (cd := tw_c270) rfl 2 (c1 := (14, [some (.ref 44), some (.int a1), some (.int a2), some (.int a3), none], [.int 1, .ref 44], (I1, L, tw_P tw dr rt sc, A, J, 57))) rfl ?_
      have hj7s := Option.some.inj hj7
      subst hj7s
      exact K
    · rw [if_neg hc10] at hj7
      refine tw_br (cd := tw_c270) rfl rfl rfl (by exact if_pos (tw_b_f hc10)) ?_
      refine tw_blk (cd := tw_c270) rfl 1 (c1 := (14, [some (.ref 44), some (.int a1), some (.int a2), some (.int a3), none], [.int 0, .ref 44], (I1, L, tw_P tw dr rt sc, A, J, 57))) rfl ?_
      have hj7s := Option.some.inj hj7
      subst hj7s
      exact K
  · rw [if_neg hc5] at hj7
    refine tw_br (cd := tw_c270) rfl rfl rfl (by exact if_pos (tw_b_f hc5)) ?_
    refine tw_blk (cd := tw_c270) rfl 1 (c1 := (14, [some (.ref 44), some (.int a1), some (.int a2), some (.int a3), none], [.int 0, .ref 44], (I1, L, tw_P tw dr rt sc, A, J, 57))) rfl ?_
    have hj7s := Option.some.inj hj7
    subst hj7s
    exact K
theorem g_X3_winningPlaces_L1_ok (I : Nat → Int32) (L : Nat → Int64) (A : Nat → Nat → Int32) (J : Nat → Nat → Int64) (tw : Nat) (dr : Nat) (rt : Nat) (a1 : Int32) (out : Option Value × tw_S) : ∀ (n : Nat) (v1_2 : Int32) (v1_3 : Int32) (I_1 : Nat → Int32) (A_1 : Nat → Nat → Int32) (ex : (Int32 × (Nat → Int32) × (Nat → Nat → Int32))), g_X3_winningPlaces_L1 a1 n v1_2 v1_3 I_1 A_1 = some ex → tw_ME 34 (36, [none, none, some (.int (ex.1)), none], [], ((ex.2.1), L, tw_P tw dr rt 2, (ex.2.2), J, 57)) out → tw_ME 34 (4, [some (.ref 41), some (.int a1), some (.int v1_2), some (.int v1_3)], [], (I_1, L, tw_P tw dr rt 2, A_1, J, 57)) out := by
  intro n
  induction n with
  | zero =>
    intro v1_2 v1_3 I_1 A_1 ex h _
    cases h
  | succ n ih =>
    intro v1_2 v1_3 I_1 A_1 ex h K
    rw [g_X3_winningPlaces_L1] at h
    refine tw_blk (cd := tw_c34) rfl 1 (c1 := (5, [some (.ref 41), some (.int a1), some (.int v1_2), some (.int v1_3)], [.int v1_3], (I_1, L, tw_P tw dr rt 2, A_1, J, 57))) rfl ?_
    refine tw_blk (cd := tw_c34) rfl 4 (c1 := (9, [some (.ref 41), some (.int a1), some (.int v1_2), some (.int v1_3)], [.int 1, .ref 2, .int v1_3], (I_1, L, tw_P tw dr rt 2, A_1, J, 57))) rfl ?_
    refine tw_callE (cd := tw_c34) rfl rfl rfl rfl rfl (e_X8_count_2 I_1 L A_1 J tw dr rt 2 (1 : Int32) _ rfl) (by exact Or.inl rfl) ?_
    by_cases hc4 : (g_X8_count_2 A_1 (1 : Int32)) ≤ v1_3
    · rw [if_pos hc4] at h
      refine tw_br (cd := tw_c34) rfl rfl rfl (by exact if_pos hc4) ?_
      refine tw_forget (ls2 := [none, none, some (.int v1_2), none]) ⟨rfl, trivial⟩ ?_
      have h := Option.some.inj h
      subst h
      exact K
    · rw [if_neg hc4] at h
      refine tw_br (cd := tw_c34) rfl rfl rfl (by exact if_neg hc4) ?_
      refine tw_blk (cd := tw_c34) rfl 9 (c1 := (20, [some (.ref 41), some (.int a1), some (.int v1_2), some (.int v1_3)], [.int 3, .int a1, .ref 2, .int v1_3, .int a1, .ref 39], (I_1, L, tw_P tw dr rt 2, A_1, J, 57))) rfl ?_
      refine tw_callE (cd := tw_c34) rfl rfl rfl rfl rfl (e_X8_fact_2 I_1 L A_1 J tw dr rt 2 a1 (3 : Int32) _ rfl) (by exact Or.inl rfl) ?_
      obtain ⟨⟨I5, A6⟩, hx7, h⟩ := tw_bindE h
      dsimp only at h
      refine tw_callE (cd := tw_c34) rfl rfl rfl rfl rfl (e_X1_run I_1 L A_1 J tw dr rt a1 v1_3 (g_X8_fact_2 A_1 a1 (3 : Int32)) _ hx7) (by exact Or.inl rfl) ?_
      refine tw_blk (cd := tw_c34) rfl 3 (c1 := (25, [some (.ref 41), some (.int a1), some (.int v1_2), some (.int v1_3)], [.ref 39, .int v1_2], (I5, L, tw_P tw dr rt 2, A6, J, 57))) rfl ?_
      refine tw_callE (cd := tw_c34) rfl rfl rfl rfl rfl (e_X1_isWon I5 L A6 J tw dr rt _ rfl) (by exact Or.inl rfl) ?_
      obtain ⟨x9, hj10, h⟩ := tw_bindE h
      have K : tw_ME 34 (32, [some (.ref 41), some (.int a1), none, some (.int v1_3)], [.int x9, .int v1_2], (I5, L, tw_P tw dr rt 2, A6, J, 57)) out := by
        refine tw_blk (cd := tw_c34) rfl 4 (c1 := (4, [some (.ref 41), some (.int a1), some (.int (v1_2 ||| x9)), some (.int (v1_3 + (1 : Int32)))], [], (I5, L, tw_P tw dr rt 2, A6, J, 57))) rfl ?_
        exact ih (v1_2 ||| x9) (v1_3 + (1 : Int32)) I5 A6 _ h K
      by_cases hc8 : (g_X1_isWon I5) = true
      · rw [if_pos hc8] at hj10
        refine tw_br (cd := tw_c34) rfl rfl rfl (by exact if_neg (tw_b_t hc8)) ?_
        refine tw_blk (cd := tw_c34) rfl 4 (c1 := (32, [some (.ref 41), some (.int a1), some (.int v1_2), some (.int v1_3)], [.int ((1 : Int32) <<< (v1_3 &&& 31)), .int v1_2], (I5, L, tw_P tw dr rt 2, A6, J, 57))) rfl ?_
        refine tw_forget (ls2 := [some (.ref 41), some (.int a1), none, some (.int v1_3)]) ⟨rfl, rfl, rfl, trivial⟩ ?_
        have hj10s := Option.some.inj hj10
        subst hj10s
        exact K
      · rw [if_neg hc8] at hj10
        refine tw_br (cd := tw_c34) rfl rfl rfl (by exact if_pos (tw_b_f hc8)) ?_
        refine tw_blk (cd := tw_c34) rfl 1 (c1 := (32, [some (.ref 41), some (.int a1), some (.int v1_2), some (.int v1_3)], [.int 0, .int v1_2], (I5, L, tw_P tw dr rt 2, A6, J, 57))) rfl ?_
        refine tw_forget (ls2 := [some (.ref 41), some (.int a1), none, some (.int v1_3)]) ⟨rfl, rfl, rfl, trivial⟩ ?_
        have hj10s := Option.some.inj hj10
        subst hj10s
        exact K
theorem e_X3_winningPlaces (I : Nat → Int32) (L : Nat → Int64) (A : Nat → Nat → Int32) (J : Nat → Nat → Int64) (tw dr : Nat) (rt : Nat) (a1 : Int32) : ∀ r : (Int32 × (Nat → Int32) × (Nat → Nat → Int32)), g_X3_winningPlaces I A a1 = some r → tw_ME 34 (0, [some (.ref 41), some (.int a1), none, none], [], (I, L, tw_P tw dr rt 2, A, J, 57)) (some (.int r.1), ((r.2.1), L, tw_P tw dr rt 2, (r.2.2), J, 57)) := by
  intro r h
  unfold g_X3_winningPlaces at h
  refine tw_blk (cd := tw_c34) rfl 4 (c1 := (4, [some (.ref 41), some (.int a1), some (.int 0), some (.int 0)], [], (I, L, tw_P tw dr rt 2, A, J, 57))) rfl ?_
  obtain ⟨⟨x1, I2, A3⟩, hx11, h⟩ := tw_bindE h
  dsimp only at h
  refine g_X3_winningPlaces_L1_ok I L A J tw dr rt a1 _ 4096 (0 : Int32) (0 : Int32) I A _ hx11 ?_
  refine tw_blk (cd := tw_c34) rfl 1 (c1 := (37, [none, none, some (.int x1), none], [.int x1], (I2, L, tw_P tw dr rt 2, A3, J, 57))) rfl ?_
  have h := Option.some.inj h
  subst h
  exact tw_retE (cd := tw_c34) rfl rfl rfl rfl
