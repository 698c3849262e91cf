/-! the machine does what the functions say -/
theorem g_X2_whomToAsk_L1_ok (I : Nat → Int32) (L : Nat → Int64) (A : Nat → Nat → Int32) (J : Nat → Nat → Int64) (rt : Nat) (out : Option Value × tw_S) : ∀ (n : Nat) (v1_1 : Int32) (v1_2 : Int32) (v1_3 : Int32) (ex : Int32), g_X2_whomToAsk_L1 I A n v1_1 v1_2 v1_3 = some ex → tw_ME 28 (32, [none, some (.int ex), none, none], [], (I, L, tw_P 2 14 rt 2, A, J, 57)) out → tw_ME 28 (9, [some (.ref 42), some (.int v1_1), some (.int v1_2), some (.int v1_3)], [], (I, L, tw_P 2 14 rt 2, A, J, 57)) out := by
  intro n
  induction n with
  | zero =>
    intro v1_1 v1_2 v1_3 ex h _
    cases h
  | succ n ih =>
    intro v1_1 v1_2 v1_3 ex h K
    rw [g_X2_whomToAsk_L1] at h
    refine tw_blk (cd := tw_c28) rfl 1 (c1 := (10, [some (.ref 42), some (.int v1_1), some (.int v1_2), some (.int v1_3)], [.int v1_3], (I, L, tw_P 2 14 rt 2, A, J, 57))) rfl ?_
    refine tw_blk (cd := tw_c28) rfl 4 (c1 := (14, [some (.ref 42), some (.int v1_1), some (.int v1_2), some (.int v1_3)], [.int 7, .ref 2, .int v1_3], (I, L, tw_P 2 14 rt 2, A, J, 57))) rfl ?_
    refine tw_callE (cd := tw_c28) rfl rfl rfl rfl rfl (e_X8_count_2 I L A J rt 2 (7 : Int32) _ rfl) (by exact Or.inl rfl) ?_
    by_cases hc2 : (g_X8_count_2 A (7 : Int32)) ≤ v1_3
    · rw [if_pos hc2] at h
      refine tw_br (cd := tw_c28) rfl rfl rfl (by exact if_pos hc2) ?_
      refine tw_forget (ls2 := [none, some (.int v1_1), none, none]) ⟨rfl, trivial⟩ ?_
      have h := Option.some.inj h
      subst h
      exact K
    · rw [if_neg hc2] at h
      refine tw_br (cd := tw_c28) rfl rfl rfl (by exact if_neg hc2) ?_
      refine tw_blk (cd := tw_c28) rfl 2 (c1 := (18, [some (.ref 42), some (.int v1_1), some (.int v1_2), some (.int v1_3)], [.int (I 4203)], (I, L, tw_P 2 14 rt 2, A, J, 57))) rfl ?_
      by_cases hc3 : (I 4203) ≤ 0
      · rw [if_pos hc3] at h
        refine tw_br (cd := tw_c28) rfl rfl rfl (by exact if_pos hc3) ?_
        refine tw_forget (ls2 := [none, some (.int v1_1), none, none]) ⟨rfl, trivial⟩ ?_
        have h := Option.some.inj h
        subst h
        exact K
      · rw [if_neg hc3] at h
        refine tw_br (cd := tw_c28) rfl rfl rfl (by exact if_neg hc3) ?_
        refine tw_blk (cd := tw_c28) rfl 2 (c1 := (21, [some (.ref 42), some (.int v1_1), some (.int v1_2), some (.int v1_3)], [.int v1_3, .ref 42], (I, L, tw_P 2 14 rt 2, A, J, 57))) rfl ?_
        obtain ⟨x4, hx5, h⟩ := tw_bindE h
        refine tw_callE (cd := tw_c28) rfl rfl rfl rfl rfl (e_X2_leftBy I L A J rt v1_3 _ hx5) (by exact Or.inl rfl) ?_
        refine tw_blk (cd := tw_c28) rfl 1 (c1 := (23, [some (.ref 42), some (.int v1_1), some (.int v1_2), some (.int v1_3)], [.int v1_2, .int x4], (I, L, tw_P 2 14 rt 2, A, J, 57))) rfl ?_
        obtain ⟨⟨x7, x8⟩, hj9, h⟩ := tw_bindE h
        dsimp only at h
        have K : tw_ME 28 (30, [some (.ref 42), some (.int x7), some (.int x8), some (.int v1_3)], [], (I, L, tw_P 2 14 rt 2, A, J, 57)) out := by
          refine tw_blk (cd := tw_c28) rfl 2 (c1 := (9, [some (.ref 42), some (.int x7), some (.int x8), some (.int (v1_3 + (1 : Int32)))], [], (I, L, tw_P 2 14 rt 2, A, J, 57))) rfl ?_
          exact ih x7 x8 (v1_3 + (1 : Int32)) _ h K
        by_cases hc6 : v1_2 ≤ x4
        · rw [if_pos hc6] at hj9
          refine tw_br (cd := tw_c28) rfl rfl rfl (by exact if_pos hc6) ?_
          have hj9s := Option.some.inj hj9
          obtain ⟨hj9_0, hj9r0⟩ := Prod.mk.inj hj9s
          subst hj9_0
          subst hj9r0
          exact K
        · rw [if_neg hc6] at hj9
          refine tw_br (cd := tw_c28) rfl rfl rfl (by exact if_neg hc6) ?_
          refine tw_blk (cd := tw_c28) rfl 2 (c1 := (26, [some (.ref 42), some (.int v1_1), some (.int v1_2), some (.int v1_3)], [.int v1_3, .ref 42], (I, L, tw_P 2 14 rt 2, A, J, 57))) rfl ?_
          obtain ⟨x10, hx11, hj9⟩ := tw_bindE hj9
          refine tw_callE (cd := tw_c28) rfl rfl rfl rfl rfl (e_X2_leftBy I L A J rt v1_3 _ hx11) (by exact Or.inl rfl) ?_
          refine tw_blk (cd := tw_c28) rfl 3 (c1 := (30, [some (.ref 42), some (.int v1_3), some (.int x10), some (.int v1_3)], [], (I, L, tw_P 2 14 rt 2, A, J, 57))) rfl ?_
          have hj9s := Option.some.inj hj9
          obtain ⟨hj9_0, hj9r0⟩ := Prod.mk.inj hj9s
          subst hj9_0
          subst hj9r0
          exact K
theorem e_X2_whomToAsk (I : Nat → Int32) (L : Nat → Int64) (A : Nat → Nat → Int32) (J : Nat → Nat → Int64) (rt : Nat) : ∀ r : Int32, g_X2_whomToAsk I A = some r → tw_ME 28 (0, [some (.ref 42), none, none, none], [], (I, L, tw_P 2 14 rt 2, A, J, 57)) (some (.int r), (I, L, tw_P 2 14 rt 2, A, J, 57)) := by
  intro r h
  unfold g_X2_whomToAsk at h
  refine tw_blk (cd := tw_c28) rfl 9 (c1 := (9, [some (.ref 42), some (.int (-2)), some (.int ((I 4203) + (1 : Int32))), some (.int 0)], [], (I, L, tw_P 2 14 rt 2, A, J, 57))) rfl ?_
  obtain ⟨x1, hx12, h⟩ := tw_bindE h
  refine g_X2_whomToAsk_L1_ok I L A J rt _ 4096 (-2 : Int32) ((I 4203) + (1 : Int32)) (0 : Int32) _ hx12 ?_
  refine tw_blk (cd := tw_c28) rfl 1 (c1 := (33, [none, some (.int x1), none, none], [.int x1], (I, L, tw_P 2 14 rt 2, A, J, 57))) rfl ?_
  have h := Option.some.inj h
  subst h
  exact tw_retE (cd := tw_c28) rfl rfl rfl rfl
theorem e_X9_ask (I : Nat → Int32) (L : Nat → Int64) (A : Nat → Nat → Int32) (J : Nat → Nat → Int64) (rt : Nat) (sc : Nat) : ∀ r : (Int32 × (Nat → Int32) × (Nat → Nat → Int32) × Nat), g_X9_ask I A sc = some r → tw_ME 147 (0, [some (.ref 0)], [], (I, L, tw_P 2 14 rt sc, A, J, 57)) (some (.int r.1), ((r.2.1), L, tw_P 2 14 rt (r.2.2.2), (r.2.2.1), J, 57)) := by
  intro r h
  unfold g_X9_ask at h
  refine tw_blk (cd := tw_c147) rfl 1 (c1 := (1, [some (.ref 0)], [.ref 0], (I, L, tw_P 2 14 rt sc, A, J, 57))) rfl ?_
  obtain ⟨⟨c1, I2, A3⟩, hx4, h⟩ := tw_bindE h
  dsimp only at h
  refine tw_callE (cd := tw_c147) rfl rfl rfl rfl rfl (e_X9_doubtsNow I L A J rt sc _ hx4) (by exact Or.inl rfl) ?_
  by_cases hc5 : c1 = true
  · subst hc5
    rw [if_pos rfl] at h
    refine tw_br (cd := tw_c147) rfl rfl rfl (by exact rfl) ?_
    refine tw_blk (cd := tw_c147) rfl 3 (c1 := (6, [some (.ref 0)], [.ref 42, .ref 0], (I2, L, tw_P 2 14 rt 2, A3, J, 57))) rfl ?_
    obtain ⟨x6, hx7, h⟩ := tw_bindE h
    refine tw_callE (cd := tw_c147) rfl rfl rfl rfl rfl (e_X2_whomToAsk I2 L A3 J rt _ hx7) (by exact Or.inl rfl) ?_
    obtain ⟨⟨x8, I9⟩, hx10, h⟩ := tw_letE h
    dsimp only at h
    refine tw_callE (cd := tw_c147) rfl rfl rfl rfl rfl (e_X9_grant I2 L A3 J rt 2 x6 _ hx10) (by exact Or.inl rfl) ?_
    refine tw_blk (cd := tw_c147) rfl 1 (c1 := (10, [some (.ref 0)], [.int x8], (I9, L, tw_P 2 14 rt 2, A3, J, 57))) rfl ?_
    have h := Option.some.inj h
    subst h
    exact tw_retE (cd := tw_c147) rfl rfl rfl rfl
  · have hc5 := Bool.eq_false_iff.mpr hc5
    subst hc5
    rw [if_neg (by decide)] at h
    refine tw_br (cd := tw_c147) rfl rfl rfl (by exact rfl) ?_
    refine tw_blk (cd := tw_c147) rfl 1 (c1 := (10, [some (.ref 0)], [.int (-1)], (I2, L, tw_P 2 14 rt sc, A3, J, 57))) rfl ?_
    have h := Option.some.inj h
    subst h
    exact tw_retE (cd := tw_c147) rfl rfl rfl rfl
theorem e_X10_leavesOf (I : Nat → Int32) (L : Nat → Int64) (A : Nat → Nat → Int32) (J : Nat → Nat → Int64) (rt : Nat) (sc : Nat) (a1 : Int32) : ∀ r : Int32, g_X10_leavesOf I A a1 = some r → tw_ME 290 (0, [some (.ref 44), some (.int a1)], [], (I, L, tw_P 2 14 rt sc, A, J, 57)) (some (.int r), (I, L, tw_P 2 14 rt sc, A, J, 57)) := by
  intro r h
  unfold g_X10_leavesOf at h
  refine tw_blk (cd := tw_c290) rfl 3 (c1 := (3, [some (.ref 44), some (.int a1)], [.int a1, .ref 55], (I, L, tw_P 2 14 rt sc, A, J, 57))) rfl ?_
  obtain ⟨x2, hx1, h⟩ := tw_bindE h
  refine tw_iald (cd := tw_c290) (N := 4) rfl rfl rfl rfl hx1 ?_
  refine tw_blk (cd := tw_c290) rfl 5 (c1 := (9, [some (.ref 44), some (.int a1)], [.int a1, .ref 55, .int (I 4433), .int x2], (I, L, tw_P 2 14 rt sc, A, J, 57))) rfl ?_
  obtain ⟨x4, hx3, h⟩ := tw_bindE h
  refine tw_iald (cd := tw_c290) (N := 4) rfl rfl rfl rfl hx3 ?_
  refine tw_blk (cd := tw_c290) rfl 1 (c1 := (11, [some (.ref 44), some (.int a1)], [.int ((I 4433) - x4), .int x2], (I, L, tw_P 2 14 rt sc, A, J, 57))) rfl ?_
  by_cases hc5 : x2 ≤ ((I 4433) - x4)
  · rw [if_pos hc5] at h
    refine tw_br (cd := tw_c290) rfl rfl rfl (by exact if_pos hc5) ?_
    refine tw_blk (cd := tw_c290) rfl 5 (c1 := (22, [some (.ref 44), some (.int a1)], [.int a1, .ref 55, .int (I 4433)], (I, L, tw_P 2 14 rt sc, A, J, 57))) rfl ?_
    obtain ⟨x7, hx6, h⟩ := tw_bindE h
    refine tw_iald (cd := tw_c290) (N := 4) rfl rfl rfl rfl hx6 ?_
    refine tw_blk (cd := tw_c290) rfl 1 (c1 := (24, [some (.ref 44), some (.int a1)], [.int ((I 4433) - x7)], (I, L, tw_P 2 14 rt sc, A, J, 57))) rfl ?_
    have h := Option.some.inj h
    subst h
    exact tw_retE (cd := tw_c290) rfl rfl rfl rfl
  · rw [if_neg hc5] at h
    refine tw_br (cd := tw_c290) rfl rfl rfl (by exact if_neg hc5) ?_
    refine tw_blk (cd := tw_c290) rfl 3 (c1 := (15, [some (.ref 44), some (.int a1)], [.int a1, .ref 55], (I, L, tw_P 2 14 rt sc, A, J, 57))) rfl ?_
    obtain ⟨x9, hx8, h⟩ := tw_bindE h
    refine tw_iald (cd := tw_c290) (N := 4) rfl rfl rfl rfl hx8 ?_
    refine tw_blk (cd := tw_c290) rfl 1 (c1 := (24, [some (.ref 44), some (.int a1)], [.int x9], (I, L, tw_P 2 14 rt sc, A, J, 57))) rfl ?_
    have h := Option.some.inj h
    subst h
    exact tw_retE (cd := tw_c290) rfl rfl rfl rfl
theorem g_X10_askOf_L1_ok (I : Nat → Int32) (L : Nat → Int64) (A : Nat → Nat → Int32) (J : Nat → Nat → Int64) (rt : Nat) (sc : Nat) (x1 : Int32) (I2 : Nat → Int32) (A3 : Nat → Nat → Int32) (out : Option Value × tw_S) : ∀ (n : Nat) (v1_1 : Int32) (v1_2 : Int32) (ex : Int32), g_X10_askOf_L1 I2 A3 n v1_1 v1_2 = some ex → tw_ME 291 (30, [none, some (.int ex), none], [], (I2, L, tw_P 2 14 rt sc, A3, J, 57)) out → tw_ME 291 (8, [some (.ref 44), some (.int v1_1), some (.int v1_2)], [], (I2, L, tw_P 2 14 rt sc, A3, J, 57)) out := by
  intro n
  induction n with
  | zero =>
    intro v1_1 v1_2 ex h _
    cases h
  | succ n ih =>
    intro v1_1 v1_2 ex h K
    rw [g_X10_askOf_L1] at h
    refine tw_blk (cd := tw_c291) rfl 1 (c1 := (9, [some (.ref 44), some (.int v1_1), some (.int v1_2)], [.int v1_2], (I2, L, tw_P 2 14 rt sc, A3, J, 57))) rfl ?_
    refine tw_blk (cd := tw_c291) rfl 3 (c1 := (12, [some (.ref 44), some (.int v1_1), some (.int v1_2)], [.int 7, .ref 47, .int v1_2], (I2, L, tw_P 2 14 rt sc, A3, J, 57))) rfl ?_
    obtain ⟨x7, hx6, h⟩ := tw_bindE h
    refine tw_iald (cd := tw_c291) (N := 241) rfl rfl rfl rfl hx6 ?_
    by_cases hc8 : x7 ≤ v1_2
    · rw [if_pos hc8] at h
      refine tw_br (cd := tw_c291) rfl rfl rfl (by exact if_pos hc8) ?_
      refine tw_forget (ls2 := [none, some (.int v1_1), none]) ⟨rfl, trivial⟩ ?_
      have h := Option.some.inj h
      subst h
      exact K
    · rw [if_neg hc8] at h
      refine tw_br (cd := tw_c291) rfl rfl rfl (by exact if_neg hc8) ?_
      refine tw_blk (cd := tw_c291) rfl 2 (c1 := (16, [some (.ref 44), some (.int v1_1), some (.int v1_2)], [.int (I2 4433)], (I2, L, tw_P 2 14 rt sc, A3, J, 57))) rfl ?_
      by_cases hc9 : (I2 4433) ≤ 0
      · rw [if_pos hc9] at h
        refine tw_br (cd := tw_c291) rfl rfl rfl (by exact if_pos hc9) ?_
        refine tw_forget (ls2 := [none, some (.int v1_1), none]) ⟨rfl, trivial⟩ ?_
        have h := Option.some.inj h
        subst h
        exact K
      · rw [if_neg hc9] at h
        refine tw_br (cd := tw_c291) rfl rfl rfl (by exact if_neg hc9) ?_
        refine tw_blk (cd := tw_c291) rfl 1 (c1 := (18, [some (.ref 44), some (.int v1_1), some (.int v1_2)], [.int v1_1], (I2, L, tw_P 2 14 rt sc, A3, J, 57))) rfl ?_
        obtain ⟨x11, hj12, h⟩ := tw_bindE h
        have K : tw_ME 291 (28, [some (.ref 44), some (.int x11), some (.int v1_2)], [], (I2, L, tw_P 2 14 rt sc, A3, J, 57)) out := by
          refine tw_blk (cd := tw_c291) rfl 2 (c1 := (8, [some (.ref 44), some (.int x11), some (.int (v1_2 + (1 : Int32)))], [], (I2, L, tw_P 2 14 rt sc, A3, J, 57))) rfl ?_
          exact ih x11 (v1_2 + (1 : Int32)) _ h K
        by_cases hc10 : v1_1 < 0
        · rw [if_pos hc10] at hj12
          refine tw_br (cd := tw_c291) rfl rfl rfl (by exact if_pos hc10) ?_
          refine tw_blk (cd := tw_c291) rfl 2 (c1 := (28, [some (.ref 44), some (.int v1_2), some (.int v1_2)], [], (I2, L, tw_P 2 14 rt sc, A3, J, 57))) rfl ?_
          have hj12s := Option.some.inj hj12
          subst hj12s
          exact K
        · rw [if_neg hc10] at hj12
          refine tw_br (cd := tw_c291) rfl rfl rfl (by exact if_neg hc10) ?_
          refine tw_blk (cd := tw_c291) rfl 2 (c1 := (21, [some (.ref 44), some (.int v1_1), some (.int v1_2)], [.int v1_2, .ref 44], (I2, L, tw_P 2 14 rt sc, A3, J, 57))) rfl ?_
          obtain ⟨x13, hx14, hj12⟩ := tw_bindE hj12
          refine tw_callE (cd := tw_c291) rfl rfl rfl rfl rfl (e_X10_leavesOf I2 L A3 J rt sc v1_2 _ hx14) (by exact Or.inl rfl) ?_
          refine tw_blk (cd := tw_c291) rfl 2 (c1 := (24, [some (.ref 44), some (.int v1_1), some (.int v1_2)], [.int v1_1, .ref 44, .int x13], (I2, L, tw_P 2 14 rt sc, A3, J, 57))) rfl ?_
          obtain ⟨x15, hx16, hj12⟩ := tw_bindE hj12
          refine tw_callE (cd := tw_c291) rfl rfl rfl rfl rfl (e_X10_leavesOf I2 L A3 J rt sc v1_1 _ hx16) (by exact Or.inl rfl) ?_
          by_cases hc17 : x15 ≤ x13
          · rw [if_pos hc17] at hj12
            refine tw_br (cd := tw_c291) rfl rfl rfl (by exact if_pos hc17) ?_
            have hj12s := Option.some.inj hj12
            subst hj12s
            exact K
          · rw [if_neg hc17] at hj12
            refine tw_br (cd := tw_c291) rfl rfl rfl (by exact if_neg hc17) ?_
            refine tw_blk (cd := tw_c291) rfl 2 (c1 := (28, [some (.ref 44), some (.int v1_2), some (.int v1_2)], [], (I2, L, tw_P 2 14 rt sc, A3, J, 57))) rfl ?_
            have hj12s := Option.some.inj hj12
            subst hj12s
            exact K
theorem e_X10_askOf (I : Nat → Int32) (L : Nat → Int64) (A : Nat → Nat → Int32) (J : Nat → Nat → Int64) (rt : Nat) (sc : Nat) : ∀ r : (Int32 × (Nat → Int32) × (Nat → Nat → Int32)), g_X10_askOf I A = some r → tw_ME 291 (0, [some (.ref 44), none, none], [], (I, L, tw_P 2 14 rt sc, A, J, 57)) (some (.int r.1), ((r.2.1), L, tw_P 2 14 rt sc, (r.2.2), J, 57)) := by
  intro r h
  unfold g_X10_askOf at h
  refine tw_blk (cd := tw_c291) rfl 2 (c1 := (2, [some (.ref 44), none, none], [.int (-1), .ref 44], (I, L, tw_P 2 14 rt sc, A, J, 57))) rfl ?_
  obtain ⟨⟨x1, I2, A3⟩, hx4, h⟩ := tw_bindE h
  dsimp only at h
  refine tw_callE (cd := tw_c291) rfl rfl rfl rfl rfl (e_X10_seekSets I L A J rt sc (-1 : Int32) _ hx4) (by exact Or.inl rfl) ?_
  refine tw_blk (cd := tw_c291) rfl 5 (c1 := (8, [some (.ref 44), some (.int (-2)), some (.int 0)], [], (I2, L, tw_P 2 14 rt sc, A3, J, 57))) rfl ?_
  obtain ⟨x5, hx18, h⟩ := tw_bindE h
  refine g_X10_askOf_L1_ok I L A J rt sc x1 I2 A3 _ 4096 (-2 : Int32) (0 : Int32) _ hx18 ?_
  refine tw_blk (cd := tw_c291) rfl 1 (c1 := (31, [none, some (.int x5), none], [.int x5], (I2, L, tw_P 2 14 rt sc, A3, J, 57))) rfl ?_
  have h := Option.some.inj h
  subst h
  exact tw_retE (cd := tw_c291) rfl rfl rfl rfl
theorem e_X10_ask (I : Nat → Int32) (L : Nat → Int64) (A : Nat → Nat → Int32) (J : Nat → Nat → Int64) (rt : Nat) (sc : Nat) : ∀ r : (Int32 × (Nat → Int32) × (Nat → Nat → Int32)), g_X10_ask I A = some r → tw_ME 292 (0, [some (.ref 44)], [], (I, L, tw_P 2 14 rt sc, A, J, 57)) (some (.int r.1), ((r.2.1), L, tw_P 2 14 rt sc, (r.2.2), J, 57)) := by
  intro r h
  unfold g_X10_ask at h
  refine tw_blk (cd := tw_c292) rfl 1 (c1 := (1, [some (.ref 44)], [.ref 44], (I, L, tw_P 2 14 rt sc, A, J, 57))) rfl ?_
  obtain ⟨I1, hx2, h⟩ := tw_letE h
  refine tw_callE (cd := tw_c292) rfl rfl rfl rfl rfl (e_X10_good I L A J rt sc _ hx2) (by exact Or.inl rfl) ?_
  refine tw_blk (cd := tw_c292) rfl 2 (c1 := (4, [some (.ref 44)], [.int (I1 4414)], (I1, L, tw_P 2 14 rt sc, A, J, 57))) rfl ?_
  by_cases hc3 : (I1 4414) = 0
  · rw [if_pos hc3] at h
    refine tw_br (cd := tw_c292) rfl rfl rfl (by exact if_pos hc3) ?_
    refine tw_blk (cd := tw_c292) rfl 2 (c1 := (10, [some (.ref 44)], [.int 1, .ref 44], (I1, L, tw_P 2 14 rt sc, A, J, 57))) rfl ?_
    obtain ⟨⟨x4, I5⟩, hx6, h⟩ := tw_letE h
    dsimp only at h
    refine tw_callE (cd := tw_c292) rfl rfl rfl rfl rfl (e_X10_no I1 L A J rt sc (1 : Int32) _ hx6) (by exact Or.inl rfl) ?_
    have h := Option.some.inj h
    subst h
    exact tw_retE (cd := tw_c292) rfl rfl rfl rfl
  · rw [if_neg hc3] at h
    refine tw_br (cd := tw_c292) rfl rfl rfl (by exact if_neg hc3) ?_
    refine tw_blk (cd := tw_c292) rfl 1 (c1 := (6, [some (.ref 44)], [.ref 44], (I1, L, tw_P 2 14 rt sc, A, J, 57))) rfl ?_
    obtain ⟨⟨x7, I8, A9⟩, hx10, h⟩ := tw_bindE h
    dsimp only at h
    refine tw_callE (cd := tw_c292) rfl rfl rfl rfl rfl (e_X10_askOf I1 L A J rt sc _ hx10) (by exact Or.inl rfl) ?_
    refine tw_blk (cd := tw_c292) rfl 1 (c1 := (11, [some (.ref 44)], [.int x7], (I8, L, tw_P 2 14 rt sc, A9, J, 57))) rfl ?_
    have h := Option.some.inj h
    subst h
    exact tw_retE (cd := tw_c292) rfl rfl rfl rfl
theorem e_X9_askLeaves (I : Nat → Int32) (L : Nat → Int64) (A : Nat → Nat → Int32) (J : Nat → Nat → Int64) (rt : Nat) (sc : Nat) : ∀ r : (Int32 × (Nat → Int32) × (Nat → Nat → Int32) × Nat), g_X9_askLeaves I A sc = some r → tw_ME 148 (0, [some (.ref 0), none], [], (I, L, tw_P 2 14 rt sc, A, J, 57)) (some (.int r.1), ((r.2.1), L, tw_P 2 14 rt (r.2.2.2), (r.2.2.1), J, 57)) := by
  intro r h
  unfold g_X9_askLeaves at h
  refine tw_blk (cd := tw_c148) rfl 1 (c1 := (1, [some (.ref 0), none], [.ref 0], (I, L, tw_P 2 14 rt sc, A, J, 57))) rfl ?_
  obtain ⟨⟨c1, I2, A3⟩, hx4, h⟩ := tw_bindE h
  dsimp only at h
  refine tw_callE (cd := tw_c148) rfl rfl rfl rfl rfl (e_X9_doubtsNow I L A J rt sc _ hx4) (by exact Or.inl rfl) ?_
  by_cases hc5 : c1 = true
  · subst hc5
    rw [if_pos rfl] at h
    refine tw_br (cd := tw_c148) rfl rfl rfl (by exact rfl) ?_
    refine tw_blk (cd := tw_c148) rfl 2 (c1 := (7, [some (.ref 0), none], [.ref 42], (I2, L, tw_P 2 14 rt 2, A3, J, 57))) rfl ?_
    obtain ⟨x6, hx7, h⟩ := tw_bindE h
    refine tw_callE (cd := tw_c148) rfl rfl rfl rfl rfl (e_X2_whomToAsk I2 L A3 J rt _ hx7) (by exact Or.inl rfl) ?_
    refine tw_blk (cd := tw_c148) rfl 4 (c1 := (12, [some (.ref 0), some (.int x6)], [.int (-2), .int x6, .ref 0], (I2, L, tw_P 2 14 rt 2, A3, J, 57))) rfl ?_
    obtain ⟨x9, hj10, h⟩ := tw_bindE h
    have K : tw_ME 148 (19, [none, none], [.int x9, .ref 0], (I2, L, tw_P 2 14 rt 2, A3, J, 57)) (some (.int r.1), ((r.2.1), L, tw_P 2 14 rt (r.2.2.2), (r.2.2.1), J, 57)) := by
      obtain ⟨⟨x13, I14⟩, hx15, h⟩ := tw_letE h
      dsimp only at h
      refine tw_callE (cd := tw_c148) rfl rfl rfl rfl rfl (e_X9_grant I2 L A3 J rt 2 x9 _ hx15) (by exact Or.inl rfl) ?_
      have h := Option.some.inj h
      subst h
      exact tw_retE (cd := tw_c148) rfl rfl rfl rfl
    by_cases hc8 : x6 = (-2 : Int32)
    · rw [if_pos hc8] at hj10
      refine tw_br (cd := tw_c148) rfl rfl rfl (by exact if_pos hc8) ?_
      refine tw_blk (cd := tw_c148) rfl 2 (c1 := (19, [some (.ref 0), some (.int x6)], [.int (-2), .ref 0], (I2, L, tw_P 2 14 rt 2, A3, J, 57))) rfl ?_
      refine tw_forget (ls2 := [none, none]) trivial ?_
      have hj10s := Option.some.inj hj10
      subst hj10s
      exact K
    · rw [if_neg hc8] at hj10
      refine tw_br (cd := tw_c148) rfl rfl rfl (by exact if_neg hc8) ?_
      refine tw_blk (cd := tw_c148) rfl 3 (c1 := (18, [some (.ref 0), some (.int x6)], [.int x6, .ref 42, .ref 0], (I2, L, tw_P 2 14 rt 2, A3, J, 57))) rfl ?_
      obtain ⟨x11, hx12, hj10⟩ := tw_bindE hj10
      refine tw_callE (cd := tw_c148) rfl rfl rfl rfl rfl (e_X2_leftBy I2 L A3 J rt x6 _ hx12) (by exact Or.inl rfl) ?_
      refine tw_forget (ls2 := [none, none]) trivial ?_
      have hj10s := Option.some.inj hj10
      subst hj10s
      exact K
  · have hc5 := Bool.eq_false_iff.mpr hc5
    subst hc5
    rw [if_neg (by decide)] at h
    refine tw_br (cd := tw_c148) rfl rfl rfl (by exact rfl) ?_
    refine tw_blk (cd := tw_c148) rfl 1 (c1 := (4, [some (.ref 0), none], [.int (-1)], (I2, L, tw_P 2 14 rt sc, A3, J, 57))) rfl ?_
    have h := Option.some.inj h
    subst h
    exact tw_retE (cd := tw_c148) rfl rfl rfl rfl
theorem e_X10_askLeaves (I : Nat → Int32) (L : Nat → Int64) (A : Nat → Nat → Int32) (J : Nat → Nat → Int64) (rt : Nat) (sc : Nat) : ∀ r : (Int32 × (Nat → Int32) × (Nat → Nat → Int32)), g_X10_askLeaves I A = some r → tw_ME 293 (0, [some (.ref 44), none], [], (I, L, tw_P 2 14 rt sc, A, J, 57)) (some (.int r.1), ((r.2.1), L, tw_P 2 14 rt sc, (r.2.2), J, 57)) := by
  intro r h
  unfold g_X10_askLeaves at h
  refine tw_blk (cd := tw_c293) rfl 1 (c1 := (1, [some (.ref 44), none], [.ref 44], (I, L, tw_P 2 14 rt sc, A, J, 57))) rfl ?_
  obtain ⟨I1, hx2, h⟩ := tw_letE h
  refine tw_callE (cd := tw_c293) rfl rfl rfl rfl rfl (e_X10_good I L A J rt sc _ hx2) (by exact Or.inl rfl) ?_
  refine tw_blk (cd := tw_c293) rfl 2 (c1 := (4, [some (.ref 44), none], [.int (I1 4414)], (I1, L, tw_P 2 14 rt sc, A, J, 57))) rfl ?_
  by_cases hc3 : (I1 4414) = 0
  · rw [if_pos hc3] at h
    refine tw_br (cd := tw_c293) rfl rfl rfl (by exact if_pos hc3) ?_
    refine tw_blk (cd := tw_c293) rfl 2 (c1 := (7, [some (.ref 44), none], [.int 1, .ref 44], (I1, L, tw_P 2 14 rt sc, A, J, 57))) rfl ?_
    obtain ⟨⟨x4, I5⟩, hx6, h⟩ := tw_letE h
    dsimp only at h
    refine tw_callE (cd := tw_c293) rfl rfl rfl rfl rfl (e_X10_no I1 L A J rt sc (1 : Int32) _ hx6) (by exact Or.inl rfl) ?_
    have h := Option.some.inj h
    subst h
    exact tw_retE (cd := tw_c293) rfl rfl rfl rfl
  · rw [if_neg hc3] at h
    refine tw_br (cd := tw_c293) rfl rfl rfl (by exact if_neg hc3) ?_
    refine tw_blk (cd := tw_c293) rfl 1 (c1 := (10, [some (.ref 44), none], [.ref 44], (I1, L, tw_P 2 14 rt sc, A, J, 57))) rfl ?_
    obtain ⟨⟨x7, I8, A9⟩, hx10, h⟩ := tw_bindE h
    dsimp only at h
    refine tw_callE (cd := tw_c293) rfl rfl rfl rfl rfl (e_X10_askOf I1 L A J rt sc _ hx10) (by exact Or.inl rfl) ?_
    refine tw_blk (cd := tw_c293) rfl 2 (c1 := (13, [some (.ref 44), some (.int x7)], [.int x7], (I8, L, tw_P 2 14 rt sc, A9, J, 57))) rfl ?_
    by_cases hc11 : 0 ≤ x7
    · rw [if_pos hc11] at h
      refine tw_br (cd := tw_c293) rfl rfl rfl (by exact if_pos hc11) ?_
      refine tw_blk (cd := tw_c293) rfl 2 (c1 := (18, [some (.ref 44), some (.int x7)], [.int x7, .ref 44], (I8, L, tw_P 2 14 rt sc, A9, J, 57))) rfl ?_
      obtain ⟨x12, hx13, h⟩ := tw_bindE h
      refine tw_callE (cd := tw_c293) rfl rfl rfl rfl rfl (e_X10_leavesOf I8 L A9 J rt sc x7 _ hx13) (by exact Or.inl rfl) ?_
      have h := Option.some.inj h
      subst h
      exact tw_retE (cd := tw_c293) rfl rfl rfl rfl
    · rw [if_neg hc11] at h
      refine tw_br (cd := tw_c293) rfl rfl rfl (by exact if_neg hc11) ?_
      refine tw_blk (cd := tw_c293) rfl 2 (c1 := (19, [some (.ref 44), some (.int x7)], [.int (-2)], (I8, L, tw_P 2 14 rt sc, A9, J, 57))) rfl ?_
      have h := Option.some.inj h
      subst h
      exact tw_retE (cd := tw_c293) rfl rfl rfl rfl
theorem e_X9_judge (I : Nat → Int32) (L : Nat → Int64) (A : Nat → Nat → Int32) (J : Nat → Nat → Int64) (rt : Nat) (sc : Nat) : ∀ r : (Int32 × (Nat → Int32) × (Nat → Nat → Int32) × Nat), g_X9_judge I A sc = some r → tw_ME 149 (0, [some (.ref 0)], [], (I, L, tw_P 2 14 rt sc, A, J, 57)) (some (.int r.1), ((r.2.1), L, tw_P 2 14 rt (r.2.2.2), (r.2.2.1), J, 57)) := by
  intro r h
  unfold g_X9_judge at h
  refine tw_blk (cd := tw_c149) rfl 1 (c1 := (1, [some (.ref 0)], [.ref 0], (I, L, tw_P 2 14 rt sc, A, J, 57))) rfl ?_
  refine tw_callE (cd := tw_c149) rfl rfl rfl rfl rfl (e_X9_hasTown I L A J rt sc _ rfl) (by exact Or.inl rfl) ?_
  by_cases hc1 : (g_X9_hasTown A) = true
  · rw [if_pos hc1] at h
    refine tw_br (cd := tw_c149) rfl rfl rfl (by exact if_neg (tw_b_t hc1)) ?_
    refine tw_blk (cd := tw_c149) rfl 1 (c1 := (8, [some (.ref 0)], [.ref 0], (I, L, tw_P 2 14 rt sc, A, J, 57))) rfl ?_
    obtain ⟨⟨I2, A3⟩, hx4, h⟩ := tw_bindE h
    dsimp only at h
    refine tw_callE (cd := tw_c149) rfl rfl rfl rfl rfl (e_X9_showTold I L A J rt sc _ hx4) (by exact Or.inl rfl) ?_
    refine tw_blk (cd := tw_c149) rfl 3 (c1 := (12, [some (.ref 0)], [.ref 42, .ref 0], (I2, L, tw_P 2 14 rt 2, A3, J, 57))) rfl ?_
    obtain ⟨⟨x5, I6, A7⟩, hx8, h⟩ := tw_bindE h
    dsimp only at h
    refine tw_callE (cd := tw_c149) rfl rfl rfl rfl rfl (e_X2_firstOtherwise I2 L A3 J rt _ hx8) (by exact Or.inl rfl) ?_
    obtain ⟨⟨x9, I10⟩, hx11, h⟩ := tw_letE h
    dsimp only at h
    refine tw_callE (cd := tw_c149) rfl rfl rfl rfl rfl (e_X9_grant I6 L A7 J rt 2 x5 _ hx11) (by exact Or.inl rfl) ?_
    have h := Option.some.inj h
    subst h
    exact tw_retE (cd := tw_c149) rfl rfl rfl rfl
  · rw [if_neg hc1] at h
    refine tw_br (cd := tw_c149) rfl rfl rfl (by exact if_pos (tw_b_f hc1)) ?_
    refine tw_blk (cd := tw_c149) rfl 2 (c1 := (5, [some (.ref 0)], [.int 1, .ref 0], (I, L, tw_P 2 14 rt sc, A, J, 57))) rfl ?_
    obtain ⟨⟨x12, I13⟩, hx14, h⟩ := tw_letE h
    dsimp only at h
    refine tw_callE (cd := tw_c149) rfl rfl rfl rfl rfl (e_X9_refuse I L A J rt sc (1 : Int32) _ hx14) (by exact Or.inl rfl) ?_
    have h := Option.some.inj h
    subst h
    exact tw_retE (cd := tw_c149) rfl rfl rfl rfl
theorem e_X10_judge (I : Nat → Int32) (L : Nat → Int64) (A : Nat → Nat → Int32) (J : Nat → Nat → Int64) (rt : Nat) (sc : Nat) : ∀ r : (Int32 × (Nat → Int32) × (Nat → Nat → Int32)), g_X10_judge I A = some r → tw_ME 294 (0, [some (.ref 44)], [], (I, L, tw_P 2 14 rt sc, A, J, 57)) (some (.int r.1), ((r.2.1), L, tw_P 2 14 rt sc, (r.2.2), J, 57)) := by
  intro r h
  unfold g_X10_judge at h
  refine tw_blk (cd := tw_c294) rfl 1 (c1 := (1, [some (.ref 44)], [.ref 44], (I, L, tw_P 2 14 rt sc, A, J, 57))) rfl ?_
  obtain ⟨I1, hx2, h⟩ := tw_letE h
  refine tw_callE (cd := tw_c294) rfl rfl rfl rfl rfl (e_X10_good I L A J rt sc _ hx2) (by exact Or.inl rfl) ?_
  refine tw_blk (cd := tw_c294) rfl 2 (c1 := (4, [some (.ref 44)], [.int (I1 4414)], (I1, L, tw_P 2 14 rt sc, A, J, 57))) rfl ?_
  by_cases hc3 : (I1 4414) = 0
  · rw [if_pos hc3] at h
    refine tw_br (cd := tw_c294) rfl rfl rfl (by exact if_pos hc3) ?_
    refine tw_blk (cd := tw_c294) rfl 2 (c1 := (11, [some (.ref 44)], [.int 1, .ref 44], (I1, L, tw_P 2 14 rt sc, A, J, 57))) rfl ?_
    obtain ⟨⟨x4, I5⟩, hx6, h⟩ := tw_letE h
    dsimp only at h
    refine tw_callE (cd := tw_c294) rfl rfl rfl rfl rfl (e_X10_no I1 L A J rt sc (1 : Int32) _ hx6) (by exact Or.inl rfl) ?_
    have h := Option.some.inj h
    subst h
    exact tw_retE (cd := tw_c294) rfl rfl rfl rfl
  · rw [if_neg hc3] at h
    refine tw_br (cd := tw_c294) rfl rfl rfl (by exact if_neg hc3) ?_
    refine tw_blk (cd := tw_c294) rfl 2 (c1 := (7, [some (.ref 44)], [.int 0, .ref 44], (I1, L, tw_P 2 14 rt sc, A, J, 57))) rfl ?_
    obtain ⟨⟨x7, I8, A9⟩, hx10, h⟩ := tw_bindE h
    dsimp only at h
    refine tw_callE (cd := tw_c294) rfl rfl rfl rfl rfl (e_X10_wrongBy I1 L A J rt sc (0 : Int32) _ hx10) (by exact Or.inl rfl) ?_
    refine tw_blk (cd := tw_c294) rfl 1 (c1 := (12, [some (.ref 44)], [.int x7], (I8, L, tw_P 2 14 rt sc, A9, J, 57))) rfl ?_
    have h := Option.some.inj h
    subst h
    exact tw_retE (cd := tw_c294) rfl rfl rfl rfl
theorem g_X9_inLowestTerms_L1_ok (I : Nat → Int32) (L : Nat → Int64) (A : Nat → Nat → Int32) (J : Nat → Nat → Int64) (rt : Nat) (sc : Nat) (a0 : Int64) (a1 : Int64) (a2 : Int32) (out : Option Value × tw_S) : ∀ (n : Nat) (v1_5 : Int64) (v1_7 : Int64) (v1_9 : Int32) (ex : Int64), g_X9_inLowestTerms_L1 n v1_5 v1_7 v1_9 = some ex → tw_ME 190 (23, [some (.long a0), none, some (.long a1), none, some (.int a2), none, none, some (.long ex), none, none, none, none], [], (I, L, tw_P 2 14 rt sc, A, J, 57)) out → tw_ME 190 (6, [some (.long a0), none, some (.long a1), none, some (.int a2), some (.long v1_5), none, some (.long v1_7), none, some (.int v1_9), none, none], [], (I, L, tw_P 2 14 rt sc, A, J, 57)) out := by
  intro n
  induction n with
  | zero =>
    intro v1_5 v1_7 v1_9 ex h _
    cases h
  | succ n ih =>
    intro v1_5 v1_7 v1_9 ex h K
    rw [g_X9_inLowestTerms_L1] at h
    refine tw_blk (cd := tw_c190) rfl 1 (c1 := (7, [some (.long a0), none, some (.long a1), none, some (.int a2), some (.long v1_5), none, some (.long v1_7), none, some (.int v1_9), none, none], [.int v1_9], (I, L, tw_P 2 14 rt sc, A, J, 57))) rfl ?_
    refine tw_blk (cd := tw_c190) rfl 1 (c1 := (8, [some (.long a0), none, some (.long a1), none, some (.int a2), some (.long v1_5), none, some (.long v1_7), none, some (.int v1_9), none, none], [.int 200, .int v1_9], (I, L, tw_P 2 14 rt sc, A, J, 57))) rfl ?_
    by_cases hc2 : (200 : Int32) ≤ v1_9
    · rw [if_pos hc2] at h
      refine tw_br (cd := tw_c190) rfl rfl rfl (by exact if_pos hc2) ?_
      refine tw_forget (ls2 := [some (.long a0), none, some (.long a1), none, some (.int a2), none, none, some (.long v1_7), none, none, none, none]) ⟨rfl, rfl, rfl, rfl, trivial⟩ ?_
      have h := Option.some.inj h
      subst h
      exact K
    · rw [if_neg hc2] at h
      refine tw_br (cd := tw_c190) rfl rfl rfl (by exact if_neg hc2) ?_
      refine tw_blk (cd := tw_c190) rfl 3 (c1 := (12, [some (.long a0), none, some (.long a1), none, some (.int a2), some (.long v1_5), none, some (.long v1_7), none, some (.int v1_9), none, none], [.int (lg_cmp v1_5 (0 : Int64))], (I, L, tw_P 2 14 rt sc, A, J, 57))) rfl ?_
      by_cases hc3 : (lg_cmp v1_5 (0 : Int64)) ≤ 0
      · rw [if_pos hc3] at h
        refine tw_br (cd := tw_c190) rfl rfl rfl (by exact if_pos hc3) ?_
        refine tw_forget (ls2 := [some (.long a0), none, some (.long a1), none, some (.int a2), none, none, some (.long v1_7), none, none, none, none]) ⟨rfl, rfl, rfl, rfl, trivial⟩ ?_
        have h := Option.some.inj h
        subst h
        exact K
      · rw [if_neg hc3] at h
        refine tw_br (cd := tw_c190) rfl rfl rfl (by exact if_neg hc3) ?_
        refine tw_blk (cd := tw_c190) rfl 2 (c1 := (15, [some (.long a0), none, some (.long a1), none, some (.int a2), some (.long v1_5), none, some (.long v1_7), none, some (.int v1_9), none, none], [.long v1_5, .long v1_7], (I, L, tw_P 2 14 rt sc, A, J, 57))) rfl ?_
        by_cases hz4 : v1_5 = 0
        · rw [if_pos hz4] at h; cases h
        · rw [if_neg hz4] at h
          refine tw_br (cd := tw_c190) rfl rfl rfl (by exact if_neg hz4) ?_
          refine tw_blk (cd := tw_c190) rfl 7 (c1 := (6, [some (.long a0), none, some (.long a1), none, some (.int a2), some (.long (v1_7 - v1_7 / v1_5 * v1_5)), none, some (.long v1_5), none, some (.int (v1_9 + (1 : Int32))), some (.long (v1_7 - v1_7 / v1_5 * v1_5)), none], [], (I, L, tw_P 2 14 rt sc, A, J, 57))) rfl ?_
          refine tw_forget (ls2 := [some (.long a0), none, some (.long a1), none, some (.int a2), some (.long (v1_7 - v1_7 / v1_5 * v1_5)), none, some (.long v1_5), none, some (.int (v1_9 + (1 : Int32))), none, none]) ⟨rfl, rfl, rfl, rfl, rfl, rfl, trivial⟩ ?_
          exact ih (v1_7 - v1_7 / v1_5 * v1_5) v1_5 (v1_9 + (1 : Int32)) _ h K
theorem e_X9_inLowestTerms (I : Nat → Int32) (L : Nat → Int64) (A : Nat → Nat → Int32) (J : Nat → Nat → Int64) (rt : Nat) (sc : Nat) (a0 : Int64) (a1 : Int64) (a2 : Int32) : ∀ r : Int64, g_X9_inLowestTerms a0 a1 a2 = some r → tw_ME 190 (0, [some (.long a0), none, some (.long a1), none, some (.int a2), none, none, none, none, none, none, none], [], (I, L, tw_P 2 14 rt sc, A, J, 57)) (some (.long r), (I, L, tw_P 2 14 rt sc, A, J, 57)) := by
  intro r h
  unfold g_X9_inLowestTerms at h
  refine tw_blk (cd := tw_c190) rfl 6 (c1 := (6, [some (.long a0), none, some (.long a1), none, some (.int a2), some (.long a0), none, some (.long a1), none, some (.int 0), none, none], [], (I, L, tw_P 2 14 rt sc, A, J, 57))) rfl ?_
  obtain ⟨y1, hx10, h⟩ := tw_bindE h
  refine g_X9_inLowestTerms_L1_ok I L A J rt sc a0 a1 a2 _ 4096 a0 a1 (0 : Int32) _ hx10 ?_
  refine tw_blk (cd := tw_c190) rfl 1 (c1 := (24, [some (.long a0), none, some (.long a1), none, some (.int a2), none, none, some (.long y1), none, none, none, none], [.int a2], (I, L, tw_P 2 14 rt sc, A, J, 57))) rfl ?_
  obtain ⟨y6, hj7, h⟩ := tw_bindE h
  have K : tw_ME 190 (28, [none, none, none, none, none, none, none, some (.long y1), none, none, none, none], [.long y6], (I, L, tw_P 2 14 rt sc, A, J, 57)) (some (.long r), (I, L, tw_P 2 14 rt sc, A, J, 57)) := by
    refine tw_blk (cd := tw_c190) rfl 4 (c1 := (32, [none, none, none, none, none, none, none, some (.long y1), none, some (.long y6), none, none], [.int (lg_cmp y1 (0 : Int64))], (I, L, tw_P 2 14 rt sc, A, J, 57))) rfl ?_
    by_cases hc8 : (lg_cmp y1 (0 : Int64)) ≤ 0
    · rw [if_pos hc8] at h
      refine tw_br (cd := tw_c190) rfl rfl rfl (by exact if_pos hc8) ?_
      refine tw_blk (cd := tw_c190) rfl 1 (c1 := (38, [none, none, none, none, none, none, none, some (.long y1), none, some (.long y6), none, none], [.long y6], (I, L, tw_P 2 14 rt sc, A, J, 57))) rfl ?_
      have h := Option.some.inj h
      subst h
      exact tw_retE (cd := tw_c190) rfl rfl rfl rfl
    · rw [if_neg hc8] at h
      refine tw_br (cd := tw_c190) rfl rfl rfl (by exact if_neg hc8) ?_
      refine tw_blk (cd := tw_c190) rfl 2 (c1 := (35, [none, none, none, none, none, none, none, some (.long y1), none, some (.long y6), none, none], [.long y1, .long y6], (I, L, tw_P 2 14 rt sc, A, J, 57))) rfl ?_
      by_cases hz9 : y1 = 0
      · rw [if_pos hz9] at h; cases h
      · rw [if_neg hz9] at h
        refine tw_br (cd := tw_c190) rfl rfl rfl (by exact if_neg hz9) ?_
        refine tw_blk (cd := tw_c190) rfl 1 (c1 := (38, [none, none, none, none, none, none, none, some (.long y1), none, some (.long y6), none, none], [.long (y6 / y1)], (I, L, tw_P 2 14 rt sc, A, J, 57))) rfl ?_
        have h := Option.some.inj h
        subst h
        exact tw_retE (cd := tw_c190) rfl rfl rfl rfl
  by_cases hc5 : a2 = 0
  · rw [if_pos hc5] at hj7
    refine tw_br (cd := tw_c190) rfl rfl rfl (by exact if_pos hc5) ?_
    refine tw_blk (cd := tw_c190) rfl 1 (c1 := (28, [some (.long a0), none, some (.long a1), none, some (.int a2), none, none, some (.long y1), none, none, none, none], [.long a0], (I, L, tw_P 2 14 rt sc, A, J, 57))) rfl ?_
    refine tw_forget (ls2 := [none, none, none, none, none, none, none, some (.long y1), none, none, none, none]) ⟨rfl, trivial⟩ ?_
    have hj7s := Option.some.inj hj7
    subst hj7s
    exact K
  · rw [if_neg hc5] at hj7
    refine tw_br (cd := tw_c190) rfl rfl rfl (by exact if_neg hc5) ?_
    refine tw_blk (cd := tw_c190) rfl 2 (c1 := (28, [some (.long a0), none, some (.long a1), none, some (.int a2), none, none, some (.long y1), none, none, none, none], [.long a1], (I, L, tw_P 2 14 rt sc, A, J, 57))) rfl ?_
    refine tw_forget (ls2 := [none, none, none, none, none, none, none, some (.long y1), none, none, none, none]) ⟨rfl, trivial⟩ ?_
    have hj7s := Option.some.inj hj7
    subst hj7s
    exact K
theorem g_X9_swings_L1_ok (I : Nat → Int32) (L : Nat → Int64) (A : Nat → Nat → Int32) (J : Nat → Nat → Int64) (rt : Nat) (sc : Nat) (a1 : Int32) (a2 : Int32) (a3 : Int32) (a4 : Int32) (I4 : Nat → Int32) (A5 : Nat → Nat → Int32) (x7 : Int32) (x10 : Int32) (out : Option Value × tw_S) : ∀ (n : Nat) (v1_8 : Int32) (v1_9 : Int32) (ex : Int32), g_X9_swings_L1 a1 A5 x7 x10 n v1_8 v1_9 = some ex → tw_ME 150 (81, [some (.ref 0), none, none, none, some (.int a4), none, some (.int (x7 &&& (((1 : Int32) <<< (a1 &&& 31)) ^^^ (-1 : Int32)))), none, some (.int ex), none, none], [], (I4, L, tw_P 2 14 rt 2, A5, J, 57)) out → tw_ME 150 (56, [some (.ref 0), none, none, none, some (.int a4), none, some (.int (x7 &&& (((1 : Int32) <<< (a1 &&& 31)) ^^^ (-1 : Int32)))), some (.int x10), some (.int v1_8), some (.int v1_9), none], [], (I4, L, tw_P 2 14 rt 2, A5, J, 57)) out := by
  intro n
  induction n with
  | zero =>
    intro v1_8 v1_9 ex h _
    cases h
  | succ n ih =>
    intro v1_8 v1_9 ex h K
    rw [g_X9_swings_L1] at h
    refine tw_blk (cd := tw_c150) rfl 1 (c1 := (57, [some (.ref 0), none, none, none, some (.int a4), none, some (.int (x7 &&& (((1 : Int32) <<< (a1 &&& 31)) ^^^ (-1 : Int32)))), some (.int x10), some (.int v1_8), some (.int v1_9), none], [.int v1_9], (I4, L, tw_P 2 14 rt 2, A5, J, 57))) rfl ?_
    refine tw_blk (cd := tw_c150) rfl 1 (c1 := (58, [some (.ref 0), none, none, none, some (.int a4), none, some (.int (x7 &&& (((1 : Int32) <<< (a1 &&& 31)) ^^^ (-1 : Int32)))), some (.int x10), some (.int v1_8), some (.int v1_9), none], [.int (x7 &&& (((1 : Int32) <<< (a1 &&& 31)) ^^^ (-1 : Int32))), .int v1_9], (I4, L, tw_P 2 14 rt 2, A5, J, 57))) rfl ?_
    by_cases hc15 : (x7 &&& (((1 : Int32) <<< (a1 &&& 31)) ^^^ (-1 : Int32))) < v1_9
    · rw [if_pos hc15] at h
      refine tw_br (cd := tw_c150) rfl rfl rfl (by exact if_pos hc15) ?_
      refine tw_forget (ls2 := [some (.ref 0), none, none, none, some (.int a4), none, some (.int (x7 &&& (((1 : Int32) <<< (a1 &&& 31)) ^^^ (-1 : Int32)))), none, some (.int v1_8), none, none]) ⟨rfl, rfl, rfl, rfl, trivial⟩ ?_
      have h := Option.some.inj h
      subst h
      exact K
    · rw [if_neg hc15] at h
      refine tw_br (cd := tw_c150) rfl rfl rfl (by exact if_neg hc15) ?_
      refine tw_blk (cd := tw_c150) rfl 3 (c1 := (62, [some (.ref 0), none, none, none, some (.int a4), none, some (.int (x7 &&& (((1 : Int32) <<< (a1 &&& 31)) ^^^ (-1 : Int32)))), some (.int x10), some (.int v1_8), some (.int v1_9), none], [.int v1_9, .ref 36], (I4, L, tw_P 2 14 rt 2, A5, J, 57))) rfl ?_
      obtain ⟨x16, hx17, h⟩ := tw_bindE h
      refine tw_callE (cd := tw_c150) rfl rfl rfl rfl rfl (e_X6_eyesOf I4 L A5 J rt v1_9 _ hx17) (by exact Or.inl rfl) ?_
      refine tw_blk (cd := tw_c150) rfl 6 (c1 := (69, [some (.ref 0), none, none, none, some (.int a4), none, some (.int (x7 &&& (((1 : Int32) <<< (a1 &&& 31)) ^^^ (-1 : Int32)))), some (.int x10), some (.int v1_8), some (.int v1_9), some (.int x16)], [.int (v1_9 &&& ((x7 &&& (((1 : Int32) <<< (a1 &&& 31)) ^^^ (-1 : Int32))) ^^^ (-1 : Int32)))], (I4, L, tw_P 2 14 rt 2, A5, J, 57))) rfl ?_
      obtain ⟨x19, hj20, h⟩ := tw_bindE h
      have K : tw_ME 150 (79, [some (.ref 0), none, none, none, some (.int a4), none, some (.int (x7 &&& (((1 : Int32) <<< (a1 &&& 31)) ^^^ (-1 : Int32)))), some (.int x10), some (.int x19), some (.int v1_9), none], [], (I4, L, tw_P 2 14 rt 2, A5, J, 57)) out := by
        refine tw_blk (cd := tw_c150) rfl 2 (c1 := (56, [some (.ref 0), none, none, none, some (.int a4), none, some (.int (x7 &&& (((1 : Int32) <<< (a1 &&& 31)) ^^^ (-1 : Int32)))), some (.int x10), some (.int x19), some (.int (v1_9 + (1 : Int32))), none], [], (I4, L, tw_P 2 14 rt 2, A5, J, 57))) rfl ?_
        exact ih x19 (v1_9 + (1 : Int32)) _ h K
      by_cases hc18 : (v1_9 &&& ((x7 &&& (((1 : Int32) <<< (a1 &&& 31)) ^^^ (-1 : Int32))) ^^^ (-1 : Int32))) = 0
      · rw [if_pos hc18] at hj20
        refine tw_br (cd := tw_c150) rfl rfl rfl (by exact if_pos hc18) ?_
        refine tw_blk (cd := tw_c150) rfl 2 (c1 := (72, [some (.ref 0), none, none, none, some (.int a4), none, some (.int (x7 &&& (((1 : Int32) <<< (a1 &&& 31)) ^^^ (-1 : Int32)))), some (.int x10), some (.int v1_8), some (.int v1_9), some (.int x16)], [.int 6, .int x16], (I4, L, tw_P 2 14 rt 2, A5, J, 57))) rfl ?_
        by_cases hc21 : (6 : Int32) ≤ x16
        · rw [if_pos hc21] at hj20
          refine tw_br (cd := tw_c150) rfl rfl rfl (by exact if_pos hc21) ?_
          refine tw_forget (ls2 := [some (.ref 0), none, none, none, some (.int a4), none, some (.int (x7 &&& (((1 : Int32) <<< (a1 &&& 31)) ^^^ (-1 : Int32)))), some (.int x10), some (.int v1_8), some (.int v1_9), none]) ⟨rfl, rfl, rfl, rfl, rfl, rfl, trivial⟩ ?_
          have hj20s := Option.some.inj hj20
          subst hj20s
          exact K
        · rw [if_neg hc21] at hj20
          refine tw_br (cd := tw_c150) rfl rfl rfl (by exact if_neg hc21) ?_
          refine tw_blk (cd := tw_c150) rfl 4 (c1 := (77, [some (.ref 0), none, none, none, some (.int a4), none, some (.int (x7 &&& (((1 : Int32) <<< (a1 &&& 31)) ^^^ (-1 : Int32)))), some (.int x10), some (.int v1_8), some (.int v1_9), some (.int x16)], [.int 6, .int (x16 + x10)], (I4, L, tw_P 2 14 rt 2, A5, J, 57))) rfl ?_
          by_cases hc22 : (x16 + x10) < (6 : Int32)
          · rw [if_pos hc22] at hj20
            refine tw_br (cd := tw_c150) rfl rfl rfl (by exact if_pos hc22) ?_
            refine tw_forget (ls2 := [some (.ref 0), none, none, none, some (.int a4), none, some (.int (x7 &&& (((1 : Int32) <<< (a1 &&& 31)) ^^^ (-1 : Int32)))), some (.int x10), some (.int v1_8), some (.int v1_9), none]) ⟨rfl, rfl, rfl, rfl, rfl, rfl, trivial⟩ ?_
            have hj20s := Option.some.inj hj20
            subst hj20s
            exact K
          · rw [if_neg hc22] at hj20
            refine tw_br (cd := tw_c150) rfl rfl rfl (by exact if_neg hc22) ?_
            refine tw_blk (cd := tw_c150) rfl 1 (c1 := (79, [some (.ref 0), none, none, none, some (.int a4), none, some (.int (x7 &&& (((1 : Int32) <<< (a1 &&& 31)) ^^^ (-1 : Int32)))), some (.int x10), some (.int (v1_8 + (1 : Int32))), some (.int v1_9), some (.int x16)], [], (I4, L, tw_P 2 14 rt 2, A5, J, 57))) rfl ?_
            refine tw_forget (ls2 := [some (.ref 0), none, none, none, some (.int a4), none, some (.int (x7 &&& (((1 : Int32) <<< (a1 &&& 31)) ^^^ (-1 : Int32)))), some (.int x10), some (.int (v1_8 + (1 : Int32))), some (.int v1_9), none]) ⟨rfl, rfl, rfl, rfl, rfl, rfl, trivial⟩ ?_
            have hj20s := Option.some.inj hj20
            subst hj20s
            exact K
      · rw [if_neg hc18] at hj20
        refine tw_br (cd := tw_c150) rfl rfl rfl (by exact if_neg hc18) ?_
        refine tw_forget (ls2 := [some (.ref 0), none, none, none, some (.int a4), none, some (.int (x7 &&& (((1 : Int32) <<< (a1 &&& 31)) ^^^ (-1 : Int32)))), some (.int x10), some (.int v1_8), some (.int v1_9), none]) ⟨rfl, rfl, rfl, rfl, rfl, rfl, trivial⟩ ?_
        have hj20s := Option.some.inj hj20
        subst hj20s
        exact K
theorem e_X9_swings (I : Nat → Int32) (L : Nat → Int64) (A : Nat → Nat → Int32) (J : Nat → Nat → Int64) (rt : Nat) (sc : Nat) (a1 : Int32) (a2 : Int32) (a3 : Int32) (a4 : Int32) : ∀ r : (Int64 × (Nat → Int32) × (Nat → Nat → Int32) × Nat), g_X9_swings I A sc a1 a2 a3 a4 = some r → tw_ME 150 (0, [some (.ref 0), some (.int a1), some (.int a2), some (.int a3), some (.int a4), none, none, none, none, none, none], [], (I, L, tw_P 2 14 rt sc, A, J, 57)) (some (.long r.1), ((r.2.1), L, tw_P 2 14 rt (r.2.2.2), (r.2.2.1), J, 57)) := by
  intro r h
  unfold g_X9_swings at h
  refine tw_blk (cd := tw_c150) rfl 2 (c1 := (2, [some (.ref 0), some (.int a1), some (.int a2), some (.int a3), some (.int a4), none, none, none, none, none, none], [.int a1, .ref 0], (I, L, tw_P 2 14 rt sc, A, J, 57))) rfl ?_
  refine tw_callE (cd := tw_c150) rfl rfl rfl rfl rfl (e_X9_isPerson I L A J rt sc a1 _ rfl) (by exact Or.inl rfl) ?_
  by_cases hc1 : (g_X9_isPerson A a1) = true
  · rw [if_pos hc1] at h
    refine tw_br (cd := tw_c150) rfl rfl rfl (by exact if_neg (tw_b_t hc1)) ?_
    refine tw_blk (cd := tw_c150) rfl 2 (c1 := (6, [some (.ref 0), some (.int a1), some (.int a2), some (.int a3), some (.int a4), none, none, none, none, none, none], [.int a2, .ref 0], (I, L, tw_P 2 14 rt sc, A, J, 57))) rfl ?_
    refine tw_callE (cd := tw_c150) rfl rfl rfl rfl rfl (e_X9_isPlace I L A J rt sc a2 _ rfl) (by exact Or.inl rfl) ?_
    by_cases hc2 : (g_X9_isPlace A a2) = true
    · rw [if_pos hc2] at h
      refine tw_br (cd := tw_c150) rfl rfl rfl (by exact if_neg (tw_b_t hc2)) ?_
      refine tw_blk (cd := tw_c150) rfl 1 (c1 := (14, [some (.ref 0), some (.int a1), some (.int a2), some (.int a3), some (.int a4), none, none, none, none, none, none], [.int a3], (I, L, tw_P 2 14 rt sc, A, J, 57))) rfl ?_
      refine tw_callE (cd := tw_c150) rfl rfl rfl rfl rfl (e_X9_isMinute I L A J rt sc a3 _ rfl) (by exact Or.inl rfl) ?_
      by_cases hc3 : (g_X9_isMinute a3) = true
      · rw [if_pos hc3] at h
        refine tw_br (cd := tw_c150) rfl rfl rfl (by exact if_neg (tw_b_t hc3)) ?_
        refine tw_blk (cd := tw_c150) rfl 1 (c1 := (22, [some (.ref 0), some (.int a1), some (.int a2), some (.int a3), some (.int a4), none, none, none, none, none, none], [.ref 0], (I, L, tw_P 2 14 rt sc, A, J, 57))) rfl ?_
        obtain ⟨⟨I4, A5⟩, hx6, h⟩ := tw_bindE h
        dsimp only at h
        refine tw_callE (cd := tw_c150) rfl rfl rfl rfl rfl (e_X9_showNow I L A J rt sc _ hx6) (by exact Or.inl rfl) ?_
        refine tw_blk (cd := tw_c150) rfl 4 (c1 := (27, [some (.ref 0), some (.int a1), some (.int a2), some (.int a3), some (.int a4), none, none, none, none, none, none], [.int a3, .int a2, .ref 36], (I4, L, tw_P 2 14 rt 2, A5, J, 57))) rfl ?_
        obtain ⟨x7, hx8, h⟩ := tw_bindE h
        refine tw_callE (cd := tw_c150) rfl rfl rfl rfl rfl (e_X6_seers I4 L A5 J rt a2 a3 _ hx8) (by exact Or.inl rfl) ?_
        refine tw_blk (cd := tw_c150) rfl 14 (c1 := (42, [some (.ref 0), some (.int a1), some (.int a2), some (.int a3), some (.int a4), some (.int x7), some (.int (x7 &&& (((1 : Int32) <<< (a1 &&& 31)) ^^^ (-1 : Int32)))), none, none, none, none], [.int ((x7 >>> (a1 &&& 31)) &&& (1 : Int32))], (I4, L, tw_P 2 14 rt 2, A5, J, 57))) rfl ?_
        obtain ⟨x10, hj11, h⟩ := tw_bindE h
        have K : tw_ME 150 (51, [some (.ref 0), none, none, none, some (.int a4), none, some (.int (x7 &&& (((1 : Int32) <<< (a1 &&& 31)) ^^^ (-1 : Int32)))), none, none, none, none], [.int x10], (I4, L, tw_P 2 14 rt 2, A5, J, 57)) (some (.long r.1), ((r.2.1), L, tw_P 2 14 rt (r.2.2.2), (r.2.2.1), J, 57)) := by
          refine tw_blk (cd := tw_c150) rfl 5 (c1 := (56, [some (.ref 0), none, none, none, some (.int a4), none, some (.int (x7 &&& (((1 : Int32) <<< (a1 &&& 31)) ^^^ (-1 : Int32)))), some (.int x10), some (.int 0), some (.int 0), none], [], (I4, L, tw_P 2 14 rt 2, A5, J, 57))) rfl ?_
          obtain ⟨x14, hx25, h⟩ := tw_bindE h
          refine g_X9_swings_L1_ok I L A J rt sc a1 a2 a3 a4 I4 A5 x7 x10 _ 4096 (0 : Int32) (0 : Int32) _ hx25 ?_
          refine tw_blk (cd := tw_c150) rfl 7 (c1 := (88, [some (.ref 0), none, none, none, some (.int a4), none, some (.int (x7 &&& (((1 : Int32) <<< (a1 &&& 31)) ^^^ (-1 : Int32)))), none, some (.int x14), none, none], [.int (x7 &&& (((1 : Int32) <<< (a1 &&& 31)) ^^^ (-1 : Int32))), .long 1, .long ((x14).toInt64)], ((upd I4 12 (0 : Int32)), L, tw_P 2 14 rt 2, A5, J, 57))) rfl ?_
          refine tw_callE (cd := tw_c150) rfl rfl rfl rfl rfl (e_J6_bitCount_0f7a4 (upd I4 12 (0 : Int32)) L A5 J rt 2 (x7 &&& (((1 : Int32) <<< (a1 &&& 31)) ^^^ (-1 : Int32))) _ rfl) (by exact Or.inl rfl) ?_
          refine tw_blk (cd := tw_c150) rfl 2 (c1 := (91, [some (.ref 0), none, none, none, some (.int a4), none, some (.int (x7 &&& (((1 : Int32) <<< (a1 &&& 31)) ^^^ (-1 : Int32)))), none, some (.int x14), none, none], [.int a4, .long ((1 : Int64) <<< ((g_J6_bitCount_0f7a4 (x7 &&& (((1 : Int32) <<< (a1 &&& 31)) ^^^ (-1 : Int32)))).toInt64 &&& 63)), .long ((x14).toInt64)], ((upd I4 12 (0 : Int32)), L, tw_P 2 14 rt 2, A5, J, 57))) rfl ?_
          obtain ⟨y23, hx24, h⟩ := tw_bindE h
          refine tw_callE (cd := tw_c150) rfl rfl rfl rfl rfl (e_X9_inLowestTerms (upd I4 12 (0 : Int32)) L A5 J rt 2 ((x14).toInt64) ((1 : Int64) <<< ((g_J6_bitCount_0f7a4 (x7 &&& (((1 : Int32) <<< (a1 &&& 31)) ^^^ (-1 : Int32)))).toInt64 &&& 63)) a4 _ hx24) (by exact Or.inl rfl) ?_
          have h := Option.some.inj h
          subst h
          exact tw_retE (cd := tw_c150) rfl rfl rfl rfl
        by_cases hc9 : ((x7 >>> (a1 &&& 31)) &&& (1 : Int32)) = 0
        · rw [if_pos hc9] at hj11
          refine tw_br (cd := tw_c150) rfl rfl rfl (by exact if_pos hc9) ?_
          refine tw_blk (cd := tw_c150) rfl 1 (c1 := (51, [some (.ref 0), some (.int a1), some (.int a2), some (.int a3), some (.int a4), some (.int x7), some (.int (x7 &&& (((1 : Int32) <<< (a1 &&& 31)) ^^^ (-1 : Int32)))), none, none, none, none], [.int 0], (I4, L, tw_P 2 14 rt 2, A5, J, 57))) rfl ?_
          refine tw_forget (ls2 := [some (.ref 0), none, none, none, some (.int a4), none, some (.int (x7 &&& (((1 : Int32) <<< (a1 &&& 31)) ^^^ (-1 : Int32)))), none, none, none, none]) ⟨rfl, rfl, rfl, trivial⟩ ?_
          have hj11s := Option.some.inj hj11
          subst hj11s
          exact K
        · rw [if_neg hc9] at hj11
          refine tw_br (cd := tw_c150) rfl rfl rfl (by exact if_neg hc9) ?_
          refine tw_blk (cd := tw_c150) rfl 5 (c1 := (48, [some (.ref 0), some (.int a1), some (.int a2), some (.int a3), some (.int a4), some (.int x7), some (.int (x7 &&& (((1 : Int32) <<< (a1 &&& 31)) ^^^ (-1 : Int32)))), none, none, none, none], [.int ((1 : Int32) <<< (a1 &&& 31)), .ref 36], (I4, L, tw_P 2 14 rt 2, A5, J, 57))) rfl ?_
          obtain ⟨x12, hx13, hj11⟩ := tw_bindE hj11
          refine tw_callE (cd := tw_c150) rfl rfl rfl rfl rfl (e_X6_eyesOf I4 L A5 J rt ((1 : Int32) <<< (a1 &&& 31)) _ hx13) (by exact Or.inl rfl) ?_
          refine tw_blk (cd := tw_c150) rfl 1 (c1 := (51, [some (.ref 0), some (.int a1), some (.int a2), some (.int a3), some (.int a4), some (.int x7), some (.int (x7 &&& (((1 : Int32) <<< (a1 &&& 31)) ^^^ (-1 : Int32)))), none, none, none, none], [.int x12], (I4, L, tw_P 2 14 rt 2, A5, J, 57))) rfl ?_
          refine tw_forget (ls2 := [some (.ref 0), none, none, none, some (.int a4), none, some (.int (x7 &&& (((1 : Int32) <<< (a1 &&& 31)) ^^^ (-1 : Int32)))), none, none, none, none]) ⟨rfl, rfl, rfl, trivial⟩ ?_
          have hj11s := Option.some.inj hj11
          subst hj11s
          exact K
      · rw [if_neg hc3] at h
        refine tw_br (cd := tw_c150) rfl rfl rfl (by exact if_pos (tw_b_f hc3)) ?_
        refine tw_blk (cd := tw_c150) rfl 2 (c1 := (18, [some (.ref 0), some (.int a1), some (.int a2), some (.int a3), some (.int a4), none, none, none, none, none, none], [.int 2, .ref 0], (I, L, tw_P 2 14 rt sc, A, J, 57))) rfl ?_
        obtain ⟨⟨x26, I27⟩, hx28, h⟩ := tw_letE h
        dsimp only at h
        refine tw_callE (cd := tw_c150) rfl rfl rfl rfl rfl (e_X9_refuse I L A J rt sc (2 : Int32) _ hx28) (by exact Or.inl rfl) ?_
        refine tw_blk (cd := tw_c150) rfl 1 (c1 := (20, [some (.ref 0), some (.int a1), some (.int a2), some (.int a3), some (.int a4), none, none, none, none, none, none], [.long ((x26).toInt64)], (I27, L, tw_P 2 14 rt sc, A, J, 57))) rfl ?_
        have h := Option.some.inj h
        subst h
        exact tw_retE (cd := tw_c150) rfl rfl rfl rfl
    · rw [if_neg hc2] at h
      refine tw_br (cd := tw_c150) rfl rfl rfl (by exact if_pos (tw_b_f hc2)) ?_
      refine tw_blk (cd := tw_c150) rfl 2 (c1 := (10, [some (.ref 0), some (.int a1), some (.int a2), some (.int a3), some (.int a4), none, none, none, none, none, none], [.int 1, .ref 0], (I, L, tw_P 2 14 rt sc, A, J, 57))) rfl ?_
      obtain ⟨⟨x29, I30⟩, hx31, h⟩ := tw_letE h
      dsimp only at h
      refine tw_callE (cd := tw_c150) rfl rfl rfl rfl rfl (e_X9_refuse I L A J rt sc (1 : Int32) _ hx31) (by exact Or.inl rfl) ?_
      refine tw_blk (cd := tw_c150) rfl 1 (c1 := (12, [some (.ref 0), some (.int a1), some (.int a2), some (.int a3), some (.int a4), none, none, none, none, none, none], [.long ((x29).toInt64)], (I30, L, tw_P 2 14 rt sc, A, J, 57))) rfl ?_
      have h := Option.some.inj h
      subst h
      exact tw_retE (cd := tw_c150) rfl rfl rfl rfl
  · rw [if_neg hc1] at h
    refine tw_br (cd := tw_c150) rfl rfl rfl (by exact if_pos (tw_b_f hc1)) ?_
    refine tw_blk (cd := tw_c150) rfl 2 (c1 := (10, [some (.ref 0), some (.int a1), some (.int a2), some (.int a3), some (.int a4), none, none, none, none, none, none], [.int 1, .ref 0], (I, L, tw_P 2 14 rt sc, A, J, 57))) rfl ?_
    obtain ⟨⟨x32, I33⟩, hx34, h⟩ := tw_letE h
    dsimp only at h
    refine tw_callE (cd := tw_c150) rfl rfl rfl rfl rfl (e_X9_refuse I L A J rt sc (1 : Int32) _ hx34) (by exact Or.inl rfl) ?_
    refine tw_blk (cd := tw_c150) rfl 1 (c1 := (12, [some (.ref 0), some (.int a1), some (.int a2), some (.int a3), some (.int a4), none, none, none, none, none, none], [.long ((x32).toInt64)], (I33, L, tw_P 2 14 rt sc, A, J, 57))) rfl ?_
    have h := Option.some.inj h
    subst h
    exact tw_retE (cd := tw_c150) rfl rfl rfl rfl
theorem g_X10_lowest_L1_ok (I : Nat → Int32) (L : Nat → Int64) (A : Nat → Nat → Int32) (J : Nat → Nat → Int64) (rt : Nat) (sc : Nat) (a0 : Int64) (a1 : Int64) (a2 : Int32) (out : Option Value × tw_S) : ∀ (n : Nat) (v1_5 : Int64) (v1_7 : Int64) (ex : Int64), g_X10_lowest_L1 n v1_5 v1_7 = some ex → tw_ME 200 (17, [some (.long a0), none, some (.long a1), none, some (.int a2), some (.long ex), none, none, none, none, none], [], (I, L, tw_P 2 14 rt sc, A, J, 57)) out → tw_ME 200 (4, [some (.long a0), none, some (.long a1), none, some (.int a2), some (.long v1_5), none, some (.long v1_7), none, none, none], [], (I, L, tw_P 2 14 rt sc, A, J, 57)) out := by
  intro n
  induction n with
  | zero =>
    intro v1_5 v1_7 ex h _
    cases h
  | succ n ih =>
    intro v1_5 v1_7 ex h K
    rw [g_X10_lowest_L1] at h
    refine tw_blk (cd := tw_c200) rfl 1 (c1 := (5, [some (.long a0), none, some (.long a1), none, some (.int a2), some (.long v1_5), none, some (.long v1_7), none, none, none], [.long v1_7], (I, L, tw_P 2 14 rt sc, A, J, 57))) rfl ?_
    refine tw_blk (cd := tw_c200) rfl 2 (c1 := (7, [some (.long a0), none, some (.long a1), none, some (.int a2), some (.long v1_5), none, some (.long v1_7), none, none, none], [.int (lg_cmp v1_7 (0 : Int64))], (I, L, tw_P 2 14 rt sc, A, J, 57))) rfl ?_
    by_cases hc2 : (lg_cmp v1_7 (0 : Int64)) = 0
    · rw [if_pos hc2] at h
      refine tw_br (cd := tw_c200) rfl rfl rfl (by exact if_pos hc2) ?_
      refine tw_forget (ls2 := [some (.long a0), none, some (.long a1), none, some (.int a2), some (.long v1_5), none, none, none, none, none]) ⟨rfl, rfl, rfl, rfl, trivial⟩ ?_
      have h := Option.some.inj h
      subst h
      exact K
    · rw [if_neg hc2] at h
      refine tw_br (cd := tw_c200) rfl rfl rfl (by exact if_neg hc2) ?_
      refine tw_blk (cd := tw_c200) rfl 2 (c1 := (10, [some (.long a0), none, some (.long a1), none, some (.int a2), some (.long v1_5), none, some (.long v1_7), none, none, none], [.long v1_7, .long v1_5], (I, L, tw_P 2 14 rt sc, A, J, 57))) rfl ?_
      by_cases hz3 : v1_7 = 0
      · rw [if_pos hz3] at h; cases h
      · rw [if_neg hz3] at h
        refine tw_br (cd := tw_c200) rfl rfl rfl (by exact if_neg hz3) ?_
        refine tw_blk (cd := tw_c200) rfl 6 (c1 := (4, [some (.long a0), none, some (.long a1), none, some (.int a2), some (.long v1_7), none, some (.long (v1_5 - v1_5 / v1_7 * v1_7)), none, some (.long (v1_5 - v1_5 / v1_7 * v1_7)), none], [], (I, L, tw_P 2 14 rt sc, A, J, 57))) rfl ?_
        refine tw_forget (ls2 := [some (.long a0), none, some (.long a1), none, some (.int a2), some (.long v1_7), none, some (.long (v1_5 - v1_5 / v1_7 * v1_7)), none, none, none]) ⟨rfl, rfl, rfl, rfl, rfl, trivial⟩ ?_
        exact ih v1_7 (v1_5 - v1_5 / v1_7 * v1_7) _ h K
theorem e_X10_lowest (I : Nat → Int32) (L : Nat → Int64) (A : Nat → Nat → Int32) (J : Nat → Nat → Int64) (rt : Nat) (sc : Nat) (a0 : Int64) (a1 : Int64) (a2 : Int32) : ∀ r : Int64, g_X10_lowest a0 a1 a2 = some r → tw_ME 200 (0, [some (.long a0), none, some (.long a1), none, some (.int a2), none, none, none, none, none, none], [], (I, L, tw_P 2 14 rt sc, A, J, 57)) (some (.long r), (I, L, tw_P 2 14 rt sc, A, J, 57)) := by
  intro r h
  unfold g_X10_lowest at h
  refine tw_blk (cd := tw_c200) rfl 4 (c1 := (4, [some (.long a0), none, some (.long a1), none, some (.int a2), some (.long a1), none, some (.long a0), none, none, none], [], (I, L, tw_P 2 14 rt sc, A, J, 57))) rfl ?_
  obtain ⟨y1, hx8, h⟩ := tw_bindE h
  refine g_X10_lowest_L1_ok I L A J rt sc a0 a1 a2 _ 4096 a1 a0 _ hx8 ?_
  refine tw_blk (cd := tw_c200) rfl 1 (c1 := (18, [some (.long a0), none, some (.long a1), none, some (.int a2), some (.long y1), none, none, none, none, none], [.int a2], (I, L, tw_P 2 14 rt sc, A, J, 57))) rfl ?_
  obtain ⟨y5, hj6, h⟩ := tw_bindE h
  have K : tw_ME 200 (22, [none, none, none, none, none, some (.long y1), none, none, none, none, none], [.long y5], (I, L, tw_P 2 14 rt sc, A, J, 57)) (some (.long r), (I, L, tw_P 2 14 rt sc, A, J, 57)) := by
    refine tw_blk (cd := tw_c200) rfl 1 (c1 := (23, [none, none, none, none, none, some (.long y1), none, none, none, none, none], [.long y1, .long y5], (I, L, tw_P 2 14 rt sc, A, J, 57))) rfl ?_
    by_cases hz7 : y1 = 0
    · rw [if_pos hz7] at h; cases h
    · rw [if_neg hz7] at h
      refine tw_br (cd := tw_c200) rfl rfl rfl (by exact if_neg hz7) ?_
      have h := Option.some.inj h
      subst h
      exact tw_retE (cd := tw_c200) rfl rfl rfl rfl
  by_cases hc4 : a2 = 0
  · rw [if_pos hc4] at hj6
    refine tw_br (cd := tw_c200) rfl rfl rfl (by exact if_pos hc4) ?_
    refine tw_blk (cd := tw_c200) rfl 1 (c1 := (22, [some (.long a0), none, some (.long a1), none, some (.int a2), some (.long y1), none, none, none, none, none], [.long a0], (I, L, tw_P 2 14 rt sc, A, J, 57))) rfl ?_
    refine tw_forget (ls2 := [none, none, none, none, none, some (.long y1), none, none, none, none, none]) ⟨rfl, trivial⟩ ?_
    have hj6s := Option.some.inj hj6
    subst hj6s
    exact K
  · rw [if_neg hc4] at hj6
    refine tw_br (cd := tw_c200) rfl rfl rfl (by exact if_neg hc4) ?_
    refine tw_blk (cd := tw_c200) rfl 2 (c1 := (22, [some (.long a0), none, some (.long a1), none, some (.int a2), some (.long y1), none, none, none, none, none], [.long a1], (I, L, tw_P 2 14 rt sc, A, J, 57))) rfl ?_
    refine tw_forget (ls2 := [none, none, none, none, none, some (.long y1), none, none, none, none, none]) ⟨rfl, trivial⟩ ?_
    have hj6s := Option.some.inj hj6
    subst hj6s
    exact K
theorem g_X10_swings_L1_ok (I : Nat → Int32) (L : Nat → Int64) (A : Nat → Nat → Int32) (J : Nat → Nat → Int64) (rt : Nat) (sc : Nat) (a1 : Int32) (a2 : Int32) (a3 : Int32) (a4 : Int32) (I1 : Nat → Int32) (c3 : Bool) (x6 : Int32) (A12 : Nat → Nat → Int32) (x14 : Int32) (out : Option Value × tw_S) : ∀ (n : Nat) (v1_8 : Int32) (v1_9 : Int32) (v1_10 : Int32) (ex : (Int32 × Int32)), g_X10_swings_L1 a1 A12 x14 n v1_8 v1_9 v1_10 = some ex → tw_ME 295 (95, [none, none, none, none, some (.int a4), none, none, none, some (.int (ex.1)), some (.int (ex.2)), none], [], (I1, L, tw_P 2 14 rt sc, A12, J, 57)) out → tw_ME 295 (56, [some (.ref 44), some (.int a1), none, none, some (.int a4), none, none, some (.int (x14 &&& (((1 : Int32) <<< (a1 &&& 31)) ^^^ (-1 : Int32)))), some (.int v1_8), some (.int v1_9), some (.int v1_10)], [], (I1, L, tw_P 2 14 rt sc, A12, J, 57)) out := by
  intro n
  induction n with
  | zero =>
    intro v1_8 v1_9 v1_10 ex h _
    cases h
  | succ n ih =>
    intro v1_8 v1_9 v1_10 ex h K
    rw [g_X10_swings_L1] at h
    refine tw_blk (cd := tw_c295) rfl 1 (c1 := (57, [some (.ref 44), some (.int a1), none, none, some (.int a4), none, none, some (.int (x14 &&& (((1 : Int32) <<< (a1 &&& 31)) ^^^ (-1 : Int32)))), some (.int v1_8), some (.int v1_9), some (.int v1_10)], [.int v1_10], (I1, L, tw_P 2 14 rt sc, A12, J, 57))) rfl ?_
    refine tw_blk (cd := tw_c295) rfl 4 (c1 := (61, [some (.ref 44), some (.int a1), none, none, some (.int a4), none, none, some (.int (x14 &&& (((1 : Int32) <<< (a1 &&& 31)) ^^^ (-1 : Int32)))), some (.int v1_8), some (.int v1_9), some (.int v1_10)], [.int 3, .ref 47, .int 1, .int v1_10], (I1, L, tw_P 2 14 rt sc, A12, J, 57))) rfl ?_
    obtain ⟨x20, hx19, h⟩ := tw_bindE h
    refine tw_iald (cd := tw_c295) (N := 241) rfl rfl rfl rfl hx19 ?_
    refine tw_blk (cd := tw_c295) rfl 1 (c1 := (63, [some (.ref 44), some (.int a1), none, none, some (.int a4), none, none, some (.int (x14 &&& (((1 : Int32) <<< (a1 &&& 31)) ^^^ (-1 : Int32)))), some (.int v1_8), some (.int v1_9), some (.int v1_10)], [.int ((1 : Int32) <<< (x20 &&& 31)), .int v1_10], (I1, L, tw_P 2 14 rt sc, A12, J, 57))) rfl ?_
    by_cases hc21 : ((1 : Int32) <<< (x20 &&& 31)) ≤ v1_10
    · rw [if_pos hc21] at h
      refine tw_br (cd := tw_c295) rfl rfl rfl (by exact if_pos hc21) ?_
      refine tw_forget (ls2 := [none, none, none, none, some (.int a4), none, none, none, some (.int v1_8), some (.int v1_9), none]) ⟨rfl, rfl, rfl, trivial⟩ ?_
      have h := Option.some.inj h
      subst h
      exact K
    · rw [if_neg hc21] at h
      refine tw_br (cd := tw_c295) rfl rfl rfl (by exact if_neg hc21) ?_
      refine tw_blk (cd := tw_c295) rfl 5 (c1 := (69, [some (.ref 44), some (.int a1), none, none, some (.int a4), none, none, some (.int (x14 &&& (((1 : Int32) <<< (a1 &&& 31)) ^^^ (-1 : Int32)))), some (.int v1_8), some (.int v1_9), some (.int v1_10)], [.int (v1_10 &&& ((x14 &&& (((1 : Int32) <<< (a1 &&& 31)) ^^^ (-1 : Int32))) ^^^ (-1 : Int32)))], (I1, L, tw_P 2 14 rt sc, A12, J, 57))) rfl ?_
      obtain ⟨⟨x23, x24⟩, hj25, h⟩ := tw_bindE h
      dsimp only at h
      have K : tw_ME 295 (93, [some (.ref 44), some (.int a1), none, none, some (.int a4), none, none, some (.int (x14 &&& (((1 : Int32) <<< (a1 &&& 31)) ^^^ (-1 : Int32)))), some (.int x23), some (.int x24), some (.int v1_10)], [], (I1, L, tw_P 2 14 rt sc, A12, J, 57)) out := by
        refine tw_blk (cd := tw_c295) rfl 2 (c1 := (56, [some (.ref 44), some (.int a1), none, none, some (.int a4), none, none, some (.int (x14 &&& (((1 : Int32) <<< (a1 &&& 31)) ^^^ (-1 : Int32)))), some (.int x23), some (.int x24), some (.int (v1_10 + (1 : Int32)))], [], (I1, L, tw_P 2 14 rt sc, A12, J, 57))) rfl ?_
        exact ih x23 x24 (v1_10 + (1 : Int32)) _ h K
      by_cases hc22 : (v1_10 &&& ((x14 &&& (((1 : Int32) <<< (a1 &&& 31)) ^^^ (-1 : Int32))) ^^^ (-1 : Int32))) = 0
      · rw [if_pos hc22] at hj25
        refine tw_br (cd := tw_c295) rfl rfl rfl (by exact if_pos hc22) ?_
        refine tw_blk (cd := tw_c295) rfl 4 (c1 := (75, [some (.ref 44), some (.int a1), none, none, some (.int a4), none, none, some (.int (x14 &&& (((1 : Int32) <<< (a1 &&& 31)) ^^^ (-1 : Int32)))), some (.int (v1_8 + (1 : Int32))), some (.int v1_9), some (.int v1_10)], [.int v1_10, .ref 44, .int v1_9], (I1, L, tw_P 2 14 rt sc, A12, J, 57))) rfl ?_
        obtain ⟨x26, hx27, hj25⟩ := tw_bindE hj25
        refine tw_callE (cd := tw_c295) rfl rfl rfl rfl rfl (e_X10_eyesOf I1 L A12 J rt sc v1_10 _ hx27) (by exact Or.inl rfl) ?_
        refine tw_blk (cd := tw_c295) rfl 1 (c1 := (77, [some (.ref 44), some (.int a1), none, none, some (.int a4), none, none, some (.int (x14 &&& (((1 : Int32) <<< (a1 &&& 31)) ^^^ (-1 : Int32)))), some (.int (v1_8 + (1 : Int32))), some (.int v1_9), some (.int v1_10)], [.int 6, .int x26, .int v1_9], (I1, L, tw_P 2 14 rt sc, A12, J, 57))) rfl ?_
        obtain ⟨x29, hj30, hj25⟩ := tw_bindE hj25
        have K : tw_ME 295 (91, [some (.ref 44), some (.int a1), none, none, some (.int a4), none, none, some (.int (x14 &&& (((1 : Int32) <<< (a1 &&& 31)) ^^^ (-1 : Int32)))), some (.int (v1_8 + (1 : Int32))), none, some (.int v1_10)], [.int x29, .int v1_9], (I1, L, tw_P 2 14 rt sc, A12, J, 57)) (some (.long r.1), ((r.2.1), L, tw_P 2 14 rt sc, (r.2.2), J, 57)) := by
          refine tw_blk (cd := tw_c295) rfl 2 (c1 := (93, [some (.ref 44), some (.int a1), none, none, some (.int a4), none, none, some (.int (x14 &&& (((1 : Int32) <<< (a1 &&& 31)) ^^^ (-1 : Int32)))), some (.int (v1_8 + (1 : Int32))), some (.int (v1_9 + x29)), some (.int v1_10)], [], (I1, L, tw_P 2 14 rt sc, A12, J, 57))) rfl ?_
          have hj25s := Option.some.inj hj25
          obtain ⟨hj25_0, hj25r0⟩ := Prod.mk.inj hj25s
          subst hj25_0
          subst hj25r0
          exact K
        by_cases hc28 : (6 : Int32) ≤ x26
        · rw [if_pos hc28] at hj30
          refine tw_br (cd := tw_c295) rfl rfl rfl (by exact if_pos hc28) ?_
          refine tw_blk (cd := tw_c295) rfl 1 (c1 := (91, [some (.ref 44), some (.int a1), none, none, some (.int a4), none, none, some (.int (x14 &&& (((1 : Int32) <<< (a1 &&& 31)) ^^^ (-1 : Int32)))), some (.int (v1_8 + (1 : Int32))), some (.int v1_9), some (.int v1_10)], [.int 0, .int v1_9], (I1, L, tw_P 2 14 rt sc, A12, J, 57))) rfl ?_
          refine tw_forget (ls2 := [some (.ref 44), some (.int a1), none, none, some (.int a4), none, none, some (.int (x14 &&& (((1 : Int32) <<< (a1 &&& 31)) ^^^ (-1 : Int32)))), some (.int (v1_8 + (1 : Int32))), none, some (.int v1_10)]) ⟨rfl, rfl, rfl, rfl, rfl, rfl, trivial⟩ ?_
          have hj30s := Option.some.inj hj30
          subst hj30s
          exact K
        · rw [if_neg hc28] at hj30
          refine tw_br (cd := tw_c295) rfl rfl rfl (by exact if_neg hc28) ?_
          refine tw_blk (cd := tw_c295) rfl 2 (c1 := (80, [some (.ref 44), some (.int a1), none, none, some (.int a4), none, none, some (.int (x14 &&& (((1 : Int32) <<< (a1 &&& 31)) ^^^ (-1 : Int32)))), some (.int (v1_8 + (1 : Int32))), some (.int v1_9), some (.int v1_10)], [.int v1_10, .ref 44, .int v1_9], (I1, L, tw_P 2 14 rt sc, A12, J, 57))) rfl ?_
          obtain ⟨x31, hx32, hj30⟩ := tw_bindE hj30
          refine tw_callE (cd := tw_c295) rfl rfl rfl rfl rfl (e_X10_eyesOf I1 L A12 J rt sc v1_10 _ hx32) (by exact Or.inl rfl) ?_
          refine tw_blk (cd := tw_c295) rfl 3 (c1 := (84, [some (.ref 44), some (.int a1), none, none, some (.int a4), none, none, some (.int (x14 &&& (((1 : Int32) <<< (a1 &&& 31)) ^^^ (-1 : Int32)))), some (.int (v1_8 + (1 : Int32))), some (.int v1_9), some (.int v1_10)], [.int a1, .ref 54, .int x31, .int v1_9], (I1, L, tw_P 2 14 rt sc, A12, J, 57))) rfl ?_
          obtain ⟨x34, hx33, hj30⟩ := tw_bindE hj30
          refine tw_iald (cd := tw_c295) (N := 6) rfl rfl rfl rfl hx33 ?_
          refine tw_blk (cd := tw_c295) rfl 2 (c1 := (87, [some (.ref 44), some (.int a1), none, none, some (.int a4), none, none, some (.int (x14 &&& (((1 : Int32) <<< (a1 &&& 31)) ^^^ (-1 : Int32)))), some (.int (v1_8 + (1 : Int32))), some (.int v1_9), some (.int v1_10)], [.int 6, .int (x31 + x34), .int v1_9], (I1, L, tw_P 2 14 rt sc, A12, J, 57))) rfl ?_
          by_cases hc35 : (x31 + x34) < (6 : Int32)
          · rw [if_pos hc35] at hj30
            refine tw_br (cd := tw_c295) rfl rfl rfl (by exact if_pos hc35) ?_
            refine tw_blk (cd := tw_c295) rfl 1 (c1 := (91, [some (.ref 44), some (.int a1), none, none, some (.int a4), none, none, some (.int (x14 &&& (((1 : Int32) <<< (a1 &&& 31)) ^^^ (-1 : Int32)))), some (.int (v1_8 + (1 : Int32))), some (.int v1_9), some (.int v1_10)], [.int 0, .int v1_9], (I1, L, tw_P 2 14 rt sc, A12, J, 57))) rfl ?_
            refine tw_forget (ls2 := [some (.ref 44), some (.int a1), none, none, some (.int a4), none, none, some (.int (x14 &&& (((1 : Int32) <<< (a1 &&& 31)) ^^^ (-1 : Int32)))), some (.int (v1_8 + (1 : Int32))), none, some (.int v1_10)]) ⟨rfl, rfl, rfl, rfl, rfl, rfl, trivial⟩ ?_
            have hj30s := Option.some.inj hj30
            subst hj30s
            exact K
          · rw [if_neg hc35] at hj30
            refine tw_br (cd := tw_c295) rfl rfl rfl (by exact if_neg hc35) ?_
            refine tw_blk (cd := tw_c295) rfl 2 (c1 := (91, [some (.ref 44), some (.int a1), none, none, some (.int a4), none, none, some (.int (x14 &&& (((1 : Int32) <<< (a1 &&& 31)) ^^^ (-1 : Int32)))), some (.int (v1_8 + (1 : Int32))), some (.int v1_9), some (.int v1_10)], [.int 1, .int v1_9], (I1, L, tw_P 2 14 rt sc, A12, J, 57))) rfl ?_
            refine tw_forget (ls2 := [some (.ref 44), some (.int a1), none, none, some (.int a4), none, none, some (.int (x14 &&& (((1 : Int32) <<< (a1 &&& 31)) ^^^ (-1 : Int32)))), some (.int (v1_8 + (1 : Int32))), none, some (.int v1_10)]) ⟨rfl, rfl, rfl, rfl, rfl, rfl, trivial⟩ ?_
            have hj30s := Option.some.inj hj30
            subst hj30s
            exact K
      · rw [if_neg hc22] at hj25
        refine tw_br (cd := tw_c295) rfl rfl rfl (by exact if_neg hc22) ?_
        refine tw_blk (cd := tw_c295) rfl 1 (c1 := (93, [some (.ref 44), some (.int a1), none, none, some (.int a4), none, none, some (.int (x14 &&& (((1 : Int32) <<< (a1 &&& 31)) ^^^ (-1 : Int32)))), some (.int v1_8), some (.int v1_9), some (.int v1_10)], [], (I1, L, tw_P 2 14 rt sc, A12, J, 57))) rfl ?_
        have hj25s := Option.some.inj hj25
        obtain ⟨hj25_0, hj25r0⟩ := Prod.mk.inj hj25s
        subst hj25_0
        subst hj25r0
        exact K
theorem e_X10_swings (I : Nat → Int32) (L : Nat → Int64) (A : Nat → Nat → Int32) (J : Nat → Nat → Int64) (rt : Nat) (sc : Nat) (a1 : Int32) (a2 : Int32) (a3 : Int32) (a4 : Int32) : ∀ r : (Int64 × (Nat → Int32) × (Nat → Nat → Int32)), g_X10_swings I A a1 a2 a3 a4 = some r → tw_ME 295 (0, [some (.ref 44), some (.int a1), some (.int a2), some (.int a3), some (.int a4), none, none, none, none, none, none], [], (I, L, tw_P 2 14 rt sc, A, J, 57)) (some (.long r.1), ((r.2.1), L, tw_P 2 14 rt sc, (r.2.2), J, 57)) := by
  intro r h
  unfold g_X10_swings at h
  refine tw_blk (cd := tw_c295) rfl 1 (c1 := (1, [some (.ref 44), some (.int a1), some (.int a2), some (.int a3), some (.int a4), none, none, none, none, none, none], [.ref 44], (I, L, tw_P 2 14 rt sc, A, J, 57))) rfl ?_
  obtain ⟨I1, hx2, h⟩ := tw_letE h
  refine tw_callE (cd := tw_c295) rfl rfl rfl rfl rfl (e_X10_good I L A J rt sc _ hx2) (by exact Or.inl rfl) ?_
  refine tw_blk (cd := tw_c295) rfl 3 (c1 := (5, [some (.ref 44), some (.int a1), some (.int a2), some (.int a3), some (.int a4), none, none, none, none, none, none], [.int a1, .ref 44, .ref 44], (I1, L, tw_P 2 14 rt sc, A, J, 57))) rfl ?_
  obtain ⟨c3, hx4, h⟩ := tw_bindE h
  refine tw_callE (cd := tw_c295) rfl rfl rfl rfl rfl (e_X10_isPerson I1 L A J rt sc a1 _ hx4) (by exact Or.inl rfl) ?_
  obtain ⟨x6, hj7, h⟩ := tw_bindE h
  have K : tw_ME 295 (14, [some (.ref 44), some (.int a1), some (.int a2), some (.int a3), some (.int a4), none, none, none, none, none, none], [.int x6, .ref 44], (I1, L, tw_P 2 14 rt sc, A, J, 57)) (some (.long r.1), ((r.2.1), L, tw_P 2 14 rt sc, (r.2.2), J, 57)) := by
    refine tw_blk (cd := tw_c295) rfl 2 (c1 := (16, [some (.ref 44), some (.int a1), some (.int a2), some (.int a3), some (.int a4), none, none, none, none, none, none], [.int a3, .ref 44, .int x6, .ref 44], (I1, L, tw_P 2 14 rt sc, A, J, 57))) rfl ?_
    refine tw_callE (cd := tw_c295) rfl rfl rfl rfl rfl (e_X10_isMinute I1 L A J rt sc a3 _ rfl) (by exact Or.inl rfl) ?_
    refine tw_callE (cd := tw_c295) rfl rfl rfl rfl rfl (e_X10_why I1 L A J rt sc x6 (tw_b (g_X10_isMinute a3)) _ rfl) (by exact Or.inl rfl) ?_
    refine tw_blk (cd := tw_c295) rfl 2 (c1 := (20, [some (.ref 44), some (.int a1), some (.int a2), some (.int a3), some (.int a4), some (.int (g_X10_why x6 (tw_b (g_X10_isMinute a3)))), none, none, none, none, none], [.int (g_X10_why x6 (tw_b (g_X10_isMinute a3)))], (I1, L, tw_P 2 14 rt sc, A, J, 57))) rfl ?_
    by_cases hc11 : (g_X10_why x6 (tw_b (g_X10_isMinute a3))) = 0
    · rw [if_pos hc11] at h
      refine tw_br (cd := tw_c295) rfl rfl rfl (by exact if_pos hc11) ?_
      refine tw_blk (cd := tw_c295) rfl 1 (c1 := (27, [some (.ref 44), some (.int a1), some (.int a2), some (.int a3), some (.int a4), some (.int (g_X10_why x6 (tw_b (g_X10_isMinute a3)))), none, none, none, none, none], [.ref 44], (I1, L, tw_P 2 14 rt sc, A, J, 57))) rfl ?_
      obtain ⟨A12, hx13, h⟩ := tw_bindE h
      refine tw_callE (cd := tw_c295) rfl rfl rfl rfl rfl (e_X10_asNow I1 L A J rt sc _ hx13) (by exact Or.inl rfl) ?_
      refine tw_blk (cd := tw_c295) rfl 3 (c1 := (31, [some (.ref 44), some (.int a1), some (.int a2), some (.int a3), some (.int a4), some (.int (g_X10_why x6 (tw_b (g_X10_isMinute a3)))), none, none, none, none, none], [.int a3, .int a2, .ref 44], (I1, L, tw_P 2 14 rt sc, A12, J, 57))) rfl ?_
      obtain ⟨x14, hx15, h⟩ := tw_bindE h
      refine tw_callE (cd := tw_c295) rfl rfl rfl rfl rfl (e_X10_watchersOf I1 L A12 J rt sc a2 a3 _ hx15) (by exact Or.inl rfl) ?_
      refine tw_blk (cd := tw_c295) rfl 3 (c1 := (35, [some (.ref 44), some (.int a1), some (.int a2), some (.int a3), some (.int a4), some (.int (g_X10_why x6 (tw_b (g_X10_isMinute a3)))), some (.int x14), none, none, none, none], [.int a1, .int x14], (I1, L, tw_P 2 14 rt sc, A12, J, 57))) rfl ?_
      refine tw_callE (cd := tw_c295) rfl rfl rfl rfl rfl (e_X10_hasBit I1 L A12 J rt sc x14 a1 _ rfl) (by exact Or.inl rfl) ?_
      by_cases hc16 : (g_X10_hasBit x14 a1) = true
      · rw [if_pos hc16] at h
        refine tw_br (cd := tw_c295) rfl rfl rfl (by exact if_neg (tw_b_t hc16)) ?_
        refine tw_blk (cd := tw_c295) rfl 14 (c1 := (56, [some (.ref 44), some (.int a1), some (.int a2), some (.int a3), some (.int a4), some (.int (g_X10_why x6 (tw_b (g_X10_isMinute a3)))), some (.int x14), some (.int (x14 &&& (((1 : Int32) <<< (a1 &&& 31)) ^^^ (-1 : Int32)))), some (.int 0), some (.int 0), some (.int 0)], [], (I1, L, tw_P 2 14 rt sc, A12, J, 57))) rfl ?_
        obtain ⟨⟨x17, x18⟩, hx38, h⟩ := tw_bindE h
        dsimp only at h
        refine tw_forget (ls2 := [some (.ref 44), some (.int a1), none, none, some (.int a4), none, none, some (.int (x14 &&& (((1 : Int32) <<< (a1 &&& 31)) ^^^ (-1 : Int32)))), some (.int 0), some (.int 0), some (.int 0)]) ⟨rfl, rfl, rfl, rfl, rfl, rfl, rfl, trivial⟩ ?_
        refine g_X10_swings_L1_ok I L A J rt sc a1 a2 a3 a4 I1 c3 x6 A12 x14 _ 4096 (0 : Int32) (0 : Int32) (0 : Int32) _ hx38 ?_
        refine tw_blk (cd := tw_c295) rfl 5 (c1 := (100, [none, none, none, none, some (.int a4), none, none, none, some (.int x17), some (.int x18), none], [.int a4, .long ((x17).toInt64), .long ((x18).toInt64)], (I1, L, tw_P 2 14 rt sc, A12, J, 57))) rfl ?_
        obtain ⟨y36, hx37, h⟩ := tw_bindE h
        refine tw_callE (cd := tw_c295) rfl rfl rfl rfl rfl (e_X10_lowest I1 L A12 J rt sc ((x18).toInt64) ((x17).toInt64) a4 _ hx37) (by exact Or.inl rfl) ?_
        have h := Option.some.inj h
        subst h
        exact tw_retE (cd := tw_c295) rfl rfl rfl rfl
      · rw [if_neg hc16] at h
        refine tw_br (cd := tw_c295) rfl rfl rfl (by exact if_pos (tw_b_f hc16)) ?_
        refine tw_blk (cd := tw_c295) rfl 3 (c1 := (40, [some (.ref 44), some (.int a1), some (.int a2), some (.int a3), some (.int a4), some (.int (g_X10_why x6 (tw_b (g_X10_isMinute a3)))), some (.int x14), none, none, none, none], [.int a4, .long 1, .long 0], (I1, L, tw_P 2 14 rt sc, A12, J, 57))) rfl ?_
        obtain ⟨y39, hx40, h⟩ := tw_bindE h
        refine tw_callE (cd := tw_c295) rfl rfl rfl rfl rfl (e_X10_lowest I1 L A12 J rt sc (0 : Int64) (1 : Int64) a4 _ hx40) (by exact Or.inl rfl) ?_
        have h := Option.some.inj h
        subst h
        exact tw_retE (cd := tw_c295) rfl rfl rfl rfl
    · rw [if_neg hc11] at h
      refine tw_br (cd := tw_c295) rfl rfl rfl (by exact if_neg hc11) ?_
      refine tw_blk (cd := tw_c295) rfl 2 (c1 := (23, [some (.ref 44), some (.int a1), some (.int a2), some (.int a3), some (.int a4), some (.int (g_X10_why x6 (tw_b (g_X10_isMinute a3)))), none, none, none, none, none], [.int (g_X10_why x6 (tw_b (g_X10_isMinute a3))), .ref 44], (I1, L, tw_P 2 14 rt sc, A, J, 57))) rfl ?_
      obtain ⟨⟨x41, I42⟩, hx43, h⟩ := tw_letE h
      dsimp only at h
      refine tw_callE (cd := tw_c295) rfl rfl rfl rfl rfl (e_X10_no I1 L A J rt sc (g_X10_why x6 (tw_b (g_X10_isMinute a3))) _ hx43) (by exact Or.inl rfl) ?_
      refine tw_blk (cd := tw_c295) rfl 1 (c1 := (25, [some (.ref 44), some (.int a1), some (.int a2), some (.int a3), some (.int a4), some (.int (g_X10_why x6 (tw_b (g_X10_isMinute a3)))), none, none, none, none, none], [.long ((x41).toInt64)], (I42, L, tw_P 2 14 rt sc, A, J, 57))) rfl ?_
      have h := Option.some.inj h
      subst h
      exact tw_retE (cd := tw_c295) rfl rfl rfl rfl
  by_cases hc5 : c3 = true
  · rw [if_pos hc5] at hj7
    refine tw_br (cd := tw_c295) rfl rfl rfl (by exact if_neg (tw_b_t hc5)) ?_
    refine tw_blk (cd := tw_c295) rfl 2 (c1 := (9, [some (.ref 44), some (.int a1), some (.int a2), some (.int a3), some (.int a4), none, none, none, none, none, none], [.int a2, .ref 44, .ref 44], (I1, L, tw_P 2 14 rt sc, A, J, 57))) rfl ?_
    obtain ⟨c8, hx9, hj7⟩ := tw_bindE hj7
    refine tw_callE (cd := tw_c295) rfl rfl rfl rfl rfl (e_X10_isPlace I1 L A J rt sc a2 _ hx9) (by exact Or.inl rfl) ?_
    by_cases hc10 : c8 = true
    · rw [if_pos hc10] at hj7
      refine tw_br (cd := tw_c295) rfl rfl rfl (by exact if_neg (tw_b_t hc10)) ?_
      refine tw_blk (cd := tw_c295) rfl 2 (c1 := (14, [some (.ref 44), some (.int a1), some (.int a2), some (.int a3), some (.int a4), none, none, none, none, none, none], [.int 1, .ref 44], (I1, L, tw_P 2 14 rt sc, A, J, 57))) rfl ?_
      have hj7s := Option.some.inj hj7
      subst hj7s
      exact K
    · rw [if_neg hc10] at hj7
      refine tw_br (cd := tw_c295) rfl rfl rfl (by exact if_pos (tw_b_f hc10)) ?_
      refine tw_blk (cd := tw_c295) rfl 1 (c1 := (14, [some (.ref 44), some (.int a1), some (.int a2), some (.int a3), some (.int a4), none, none, none, none, none, none], [.int 0, .ref 44], (I1, L, tw_P 2 14 rt sc, A, J, 57))) rfl ?_
      have hj7s := Option.some.inj hj7
      subst hj7s
      exact K
  · rw [if_neg hc5] at hj7
    refine tw_br (cd := tw_c295) rfl rfl rfl (by exact if_pos (tw_b_f hc5)) ?_
    refine tw_blk (cd := tw_c295) rfl 1 (c1 := (14, [some (.ref 44), some (.int a1), some (.int a2), some (.int a3), some (.int a4), none, none, none, none, none, none], [.int 0, .ref 44], (I1, L, tw_P 2 14 rt sc, A, J, 57))) rfl ?_
    have hj7s := Option.some.inj hj7
    subst hj7s
    exact K
