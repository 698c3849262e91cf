/-! the machine does what the functions say -/
set_option maxRecDepth 16000
theorem e_X9_cellars (I : Nat → Int32) (L : Nat → Int64) (A : Nat → Nat → Int32) (J : Nat → Nat → Int64) (rt : Nat) (sc : Nat) (a1 : Int32) : ∀ r : (Int32 × (Nat → Int32) × (Nat → Nat → Int32) × Nat), g_X9_cellars I A sc a1 = some r → tw_ME 134 (0, [some (.ref 0), some (.int a1)], [], (I, L, tw_P 2 14 rt sc, A, J, 57)) (some (.int r.1), ((r.2.1), L, tw_P 2 14 rt (r.2.2.2), (r.2.2.1), J, 57)) := by
  intro r h
  unfold g_X9_cellars at h
  refine tw_blk (cd := tw_c134) rfl 2 (c1 := (2, [some (.ref 0), some (.int a1)], [.int a1, .ref 0], (I, L, tw_P 2 14 rt sc, A, J, 57))) rfl ?_
  refine tw_callE (cd := tw_c134) rfl rfl rfl rfl rfl (e_X9_isQuarrel I L A J rt sc a1 _ rfl) (by exact Or.inl rfl) ?_
  by_cases hc1 : (g_X9_isQuarrel A a1) = true
  · rw [if_pos hc1] at h
    refine tw_br (cd := tw_c134) rfl rfl rfl (by exact if_neg (tw_b_t hc1)) ?_
    refine tw_blk (cd := tw_c134) rfl 1 (c1 := (9, [some (.ref 0), some (.int a1)], [.ref 0], (I, L, tw_P 2 14 rt sc, A, J, 57))) rfl ?_
    obtain ⟨⟨I2, A3⟩, hx4, h⟩ := tw_bindE h
    dsimp only at h
    refine tw_callE (cd := tw_c134) rfl rfl rfl rfl rfl (e_X9_showNow I L A J rt sc _ hx4) (by exact Or.inl rfl) ?_
    refine tw_blk (cd := tw_c134) rfl 4 (c1 := (14, [some (.ref 0), some (.int a1)], [.int a1, .ref 41, .ref 0], (I2, L, tw_P 2 14 rt 2, A3, J, 57))) rfl ?_
    obtain ⟨⟨x5, I6, A7⟩, hx8, h⟩ := tw_bindE h
    dsimp only at h
    refine tw_callE (cd := tw_c134) rfl rfl rfl rfl rfl (e_X3_winningPlaces I2 L A3 J 2 14 rt a1 _ hx8) (by exact Or.inl rfl) ?_
    obtain ⟨⟨x9, I10⟩, hx11, h⟩ := tw_letE h
    dsimp only at h
    refine tw_callE (cd := tw_c134) rfl rfl rfl rfl rfl (e_X9_grant I6 L A7 J 2 14 rt 2 x5 _ hx11) (by exact Or.inl rfl) ?_
    have h := Option.some.inj h
    subst h
    exact tw_retE (cd := tw_c134) rfl rfl rfl rfl
  · rw [if_neg hc1] at h
    refine tw_br (cd := tw_c134) rfl rfl rfl (by exact if_pos (tw_b_f hc1)) ?_
    refine tw_blk (cd := tw_c134) rfl 2 (c1 := (6, [some (.ref 0), some (.int a1)], [.int 1, .ref 0], (I, L, tw_P 2 14 rt sc, A, J, 57))) rfl ?_
    obtain ⟨⟨x12, I13⟩, hx14, h⟩ := tw_letE h
    dsimp only at h
    refine tw_callE (cd := tw_c134) rfl rfl rfl rfl rfl (e_X9_refuse I L A J 2 14 rt sc (1 : Int32) _ hx14) (by exact Or.inl rfl) ?_
    have h := Option.some.inj h
    subst h
    exact tw_retE (cd := tw_c134) rfl rfl rfl rfl
theorem g_X10_cellars_L1_ok (I : Nat → Int32) (L : Nat → Int64) (A : Nat → Nat → Int32) (J : Nat → Nat → Int64) (tw : Nat) (dr : Nat) (rt : Nat) (sc : Nat) (a1 : Int32) (I1 : Nat → Int32) (c3 : Bool) (A6 : Nat → Nat → Int32) (out : Option Value × tw_S) : ∀ (n : Nat) (v1_2 : Int32) (v1_3 : Int32) (I_1 : Nat → Int32) (ex : (Int32 × (Nat → Int32))), g_X10_cellars_L1 a1 A6 n v1_2 v1_3 I_1 = some ex → tw_ME 271 (50, [none, none, some (.int (ex.1)), none], [], ((ex.2), L, tw_P tw dr rt sc, A6, J, 57)) out → tw_ME 271 (16, [some (.ref 44), some (.int a1), some (.int v1_2), some (.int v1_3)], [], (I_1, L, tw_P tw dr rt sc, A6, J, 57)) out := by
  intro n
  induction n with
  | zero =>
    intro v1_2 v1_3 I_1 ex h _
    cases h
  | succ n ih =>
    intro v1_2 v1_3 I_1 ex h K
    rw [g_X10_cellars_L1] at h
    refine tw_blk (cd := tw_c271) rfl 1 (c1 := (17, [some (.ref 44), some (.int a1), some (.int v1_2), some (.int v1_3)], [.int v1_3], (I_1, L, tw_P tw dr rt sc, A6, J, 57))) rfl ?_
    refine tw_blk (cd := tw_c271) rfl 3 (c1 := (20, [some (.ref 44), some (.int a1), some (.int v1_2), some (.int v1_3)], [.int 1, .ref 47, .int v1_3], (I_1, L, tw_P tw dr rt sc, A6, J, 57))) rfl ?_
    obtain ⟨x11, hx10, h⟩ := tw_bindE h
    refine tw_iald (cd := tw_c271) (N := 241) rfl rfl rfl rfl hx10 ?_
    by_cases hc12 : x11 ≤ v1_3
    · rw [if_pos hc12] at h
      refine tw_br (cd := tw_c271) rfl rfl rfl (by exact if_pos hc12) ?_
      refine tw_forget (ls2 := [none, none, some (.int v1_2), none]) ⟨rfl, trivial⟩ ?_
      have h := Option.some.inj h
      subst h
      exact K
    · rw [if_neg hc12] at h
      refine tw_br (cd := tw_c271) rfl rfl rfl (by exact if_neg hc12) ?_
      refine tw_blk (cd := tw_c271) rfl 12 (c1 := (34, [some (.ref 44), some (.int a1), some (.int v1_2), some (.int v1_3)], [.int (((80 : Int32) + ((5 : Int32) * a1)) + (3 : Int32)), .ref 47, .int v1_3, .int a1, .ref 44], (I_1, L, tw_P tw dr rt sc, A6, J, 57))) rfl ?_
      obtain ⟨x14, hx13, h⟩ := tw_bindE h
      refine tw_iald (cd := tw_c271) (N := 241) rfl rfl rfl rfl hx13 ?_
      refine tw_blk (cd := tw_c271) rfl 1 (c1 := (36, [some (.ref 44), some (.int a1), some (.int v1_2), some (.int v1_3)], [.int 0, .int x14, .int v1_3, .int a1, .ref 44], (I_1, L, tw_P tw dr rt sc, A6, J, 57))) rfl ?_
      obtain ⟨I15, hx16, h⟩ := tw_bindE h
      refine tw_callE (cd := tw_c271) rfl rfl rfl rfl rfl (e_X10_run I_1 L A6 J tw dr rt sc a1 v1_3 x14 (0 : Int32) _ hx16) (by exact Or.inl rfl) ?_
      refine tw_blk (cd := tw_c271) rfl 3 (c1 := (40, [some (.ref 44), some (.int a1), some (.int v1_2), some (.int v1_3)], [.int (I15 4425), .int v1_2], (I15, L, tw_P tw dr rt sc, A6, J, 57))) rfl ?_
      obtain ⟨x18, hj19, h⟩ := tw_bindE h
      have K : tw_ME 271 (46, [some (.ref 44), some (.int a1), none, some (.int v1_3)], [.int x18, .int v1_2], (I15, L, tw_P tw dr rt sc, A6, J, 57)) out := by
        refine tw_blk (cd := tw_c271) rfl 4 (c1 := (16, [some (.ref 44), some (.int a1), some (.int (v1_2 ||| x18)), some (.int (v1_3 + (1 : Int32)))], [], (I15, L, tw_P tw dr rt sc, A6, J, 57))) rfl ?_
        exact ih (v1_2 ||| x18) (v1_3 + (1 : Int32)) I15 _ h K
      by_cases hc17 : (I15 4425) ≤ 0
      · rw [if_pos hc17] at hj19
        refine tw_br (cd := tw_c271) rfl rfl rfl (by exact if_pos hc17) ?_
        refine tw_blk (cd := tw_c271) rfl 1 (c1 := (46, [some (.ref 44), some (.int a1), some (.int v1_2), some (.int v1_3)], [.int 0, .int v1_2], (I15, L, tw_P tw dr rt sc, A6, J, 57))) rfl ?_
        refine tw_forget (ls2 := [some (.ref 44), some (.int a1), none, some (.int v1_3)]) ⟨rfl, rfl, rfl, trivial⟩ ?_
        have hj19s := Option.some.inj hj19
        subst hj19s
        exact K
      · rw [if_neg hc17] at hj19
        refine tw_br (cd := tw_c271) rfl rfl rfl (by exact if_neg hc17) ?_
        refine tw_blk (cd := tw_c271) rfl 4 (c1 := (46, [some (.ref 44), some (.int a1), some (.int v1_2), some (.int v1_3)], [.int ((1 : Int32) <<< (v1_3 &&& 31)), .int v1_2], (I15, L, tw_P tw dr rt sc, A6, J, 57))) rfl ?_
        refine tw_forget (ls2 := [some (.ref 44), some (.int a1), none, some (.int v1_3)]) ⟨rfl, rfl, rfl, trivial⟩ ?_
        have hj19s := Option.some.inj hj19
        subst hj19s
        exact K
theorem e_X10_cellars (I : Nat → Int32) (L : Nat → Int64) (A : Nat → Nat → Int32) (J : Nat → Nat → Int64) (tw dr : Nat) (rt : Nat) (sc : Nat) (a1 : Int32) : ∀ r : (Int32 × (Nat → Int32) × (Nat → Nat → Int32)), g_X10_cellars I A a1 = some r → tw_ME 271 (0, [some (.ref 44), some (.int a1), none, none], [], (I, L, tw_P tw dr rt sc, A, J, 57)) (some (.int r.1), ((r.2.1), L, tw_P tw dr rt sc, (r.2.2), J, 57)) := by
  intro r h
  unfold g_X10_cellars at h
  refine tw_blk (cd := tw_c271) rfl 1 (c1 := (1, [some (.ref 44), some (.int a1), none, none], [.ref 44], (I, L, tw_P tw dr rt sc, A, J, 57))) rfl ?_
  obtain ⟨I1, hx2, h⟩ := tw_letE h
  refine tw_callE (cd := tw_c271) rfl rfl rfl rfl rfl (e_X10_good I L A J tw dr rt sc _ hx2) (by exact Or.inl rfl) ?_
  refine tw_blk (cd := tw_c271) rfl 2 (c1 := (4, [some (.ref 44), some (.int a1), none, none], [.int a1, .ref 44], (I1, L, tw_P tw dr rt sc, A, J, 57))) rfl ?_
  obtain ⟨c3, hx4, h⟩ := tw_bindE h
  refine tw_callE (cd := tw_c271) rfl rfl rfl rfl rfl (e_X10_isQuarrel I1 L A J tw dr rt sc a1 _ hx4) (by exact Or.inl rfl) ?_
  by_cases hc5 : c3 = true
  · rw [if_pos hc5] at h
    refine tw_br (cd := tw_c271) rfl rfl rfl (by exact if_neg (tw_b_t hc5)) ?_
    refine tw_blk (cd := tw_c271) rfl 1 (c1 := (11, [some (.ref 44), some (.int a1), none, none], [.ref 44], (I1, L, tw_P tw dr rt sc, A, J, 57))) rfl ?_
    obtain ⟨A6, hx7, h⟩ := tw_bindE h
    refine tw_callE (cd := tw_c271) rfl rfl rfl rfl rfl (e_X10_asNow I1 L A J tw dr rt sc _ hx7) (by exact Or.inl rfl) ?_
    refine tw_blk (cd := tw_c271) rfl 4 (c1 := (16, [some (.ref 44), some (.int a1), some (.int 0), some (.int 0)], [], (I1, L, tw_P tw dr rt sc, A6, J, 57))) rfl ?_
    obtain ⟨⟨x8, I9⟩, hx20, h⟩ := tw_bindE h
    dsimp only at h
    refine g_X10_cellars_L1_ok I L A J tw dr rt sc a1 I1 c3 A6 _ 4096 (0 : Int32) (0 : Int32) I1 _ hx20 ?_
    refine tw_blk (cd := tw_c271) rfl 1 (c1 := (51, [none, none, some (.int x8), none], [.int x8], (I9, L, tw_P tw dr rt sc, A6, J, 57))) rfl ?_
    have h := Option.some.inj h
    subst h
    exact tw_retE (cd := tw_c271) rfl rfl rfl rfl
  · rw [if_neg hc5] at h
    refine tw_br (cd := tw_c271) rfl rfl rfl (by exact if_pos (tw_b_f hc5)) ?_
    refine tw_blk (cd := tw_c271) rfl 2 (c1 := (8, [some (.ref 44), some (.int a1), none, none], [.int 1, .ref 44], (I1, L, tw_P tw dr rt sc, A, J, 57))) rfl ?_
    obtain ⟨⟨x21, I22⟩, hx23, h⟩ := tw_letE h
    dsimp only at h
    refine tw_callE (cd := tw_c271) rfl rfl rfl rfl rfl (e_X10_no I1 L A J tw dr rt sc (1 : Int32) _ hx23) (by exact Or.inl rfl) ?_
    have h := Option.some.inj h
    subst h
    exact tw_retE (cd := tw_c271) rfl rfl rfl rfl
theorem g_X3_winningMinute_L1_ok (I : Nat → Int32) (L : Nat → Int64) (A : Nat → Nat → Int32) (J : Nat → Nat → Int64) (tw : Nat) (dr : Nat) (rt : Nat) (a1 : Int32) (a2 : Int32) (a3 : Int32) (A1 : Nat → Nat → Int32) (kont : (Nat → Int32) → Option (Int32 × (Nat → Int32) × (Nat → Nat → Int32))) (r : (Int32 × (Nat → Int32) × (Nat → Nat → Int32))) : ∀ (n : Nat) (v1_4 : Int32) (I_1 : Nat → Int32), g_X3_winningMinute_L1 a1 a3 A1 kont n v1_4 I_1 = some r → (∀ ex : Nat → Int32, kont ex = some r → tw_ME 35 (26, [none, none, none, none, none], [], (ex, L, tw_P tw dr rt 2, A1, J, 57)) (some (.int r.1), ((r.2.1), L, tw_P tw dr rt 2, (r.2.2), J, 57))) → tw_ME 35 (6, [some (.ref 41), some (.int a1), none, some (.int a3), some (.int v1_4)], [], (I_1, L, tw_P tw dr rt 2, A1, J, 57)) (some (.int r.1), ((r.2.1), L, tw_P tw dr rt 2, (r.2.2), J, 57)) := by
  intro n
  induction n with
  | zero =>
    intro v1_4 I_1 h _
    cases h
  | succ n ih =>
    intro v1_4 I_1 h K
    rw [g_X3_winningMinute_L1] at h
    refine tw_blk (cd := tw_c35) rfl 1 (c1 := (7, [some (.ref 41), some (.int a1), none, some (.int a3), some (.int v1_4)], [.int v1_4], (I_1, L, tw_P tw dr rt 2, A1, J, 57))) rfl ?_
    refine tw_blk (cd := tw_c35) rfl 1 (c1 := (8, [some (.ref 41), some (.int a1), none, some (.int a3), some (.int v1_4)], [.int 60, .int v1_4], (I_1, L, tw_P tw dr rt 2, A1, J, 57))) rfl ?_
    by_cases hc4 : (60 : Int32) ≤ v1_4
    · rw [if_pos hc4] at h
      refine tw_br (cd := tw_c35) rfl rfl rfl (by exact if_pos hc4) ?_
      refine tw_forget (ls2 := [none, none, none, none, none]) trivial ?_
      exact K _ h
    · rw [if_neg hc4] at h
      refine tw_br (cd := tw_c35) rfl rfl rfl (by exact if_neg hc4) ?_
      refine tw_blk (cd := tw_c35) rfl 2 (c1 := (11, [some (.ref 41), some (.int a1), none, some (.int a3), some (.int v1_4)], [.int a3, .int v1_4], (I_1, L, tw_P tw dr rt 2, A1, J, 57))) rfl ?_
      by_cases hc5 : a3 ≤ v1_4
      · rw [if_pos hc5] at h
        refine tw_br (cd := tw_c35) rfl rfl rfl (by exact if_pos hc5) ?_
        refine tw_forget (ls2 := [none, none, none, none, none]) trivial ?_
        exact K _ h
      · rw [if_neg hc5] at h
        refine tw_br (cd := tw_c35) rfl rfl rfl (by exact if_neg hc5) ?_
        refine tw_blk (cd := tw_c35) rfl 5 (c1 := (17, [some (.ref 41), some (.int a1), none, some (.int a3), some (.int v1_4)], [.int 0, .int v1_4, .int a1, .ref 39], (I_1, L, tw_P tw dr rt 2, A1, J, 57))) rfl ?_
        obtain ⟨I6, hx7, h⟩ := tw_bindE h
        refine tw_callE (cd := tw_c35) rfl rfl rfl rfl rfl (e_X1_go I_1 L A1 J tw dr rt a1 v1_4 (0 : Int32) _ hx7) (by exact Or.inl rfl) ?_
        refine tw_blk (cd := tw_c35) rfl 2 (c1 := (20, [some (.ref 41), some (.int a1), none, some (.int a3), some (.int v1_4)], [.ref 39], (I6, L, tw_P tw dr rt 2, A1, J, 57))) rfl ?_
        refine tw_callE (cd := tw_c35) rfl rfl rfl rfl rfl (e_X1_isWon I6 L A1 J tw dr rt _ rfl) (by exact Or.inl rfl) ?_
        by_cases hc8 : (g_X1_isWon I6) = true
        · rw [if_pos hc8] at h
          refine tw_br (cd := tw_c35) rfl rfl rfl (by exact if_neg (tw_b_t hc8)) ?_
          refine tw_blk (cd := tw_c35) rfl 1 (c1 := (23, [some (.ref 41), some (.int a1), none, some (.int a3), some (.int v1_4)], [.int v1_4], (I6, L, tw_P tw dr rt 2, A1, J, 57))) rfl ?_
          have h := Option.some.inj h
          subst h
          exact tw_retE (cd := tw_c35) rfl rfl rfl rfl
        · rw [if_neg hc8] at h
          refine tw_br (cd := tw_c35) rfl rfl rfl (by exact if_pos (tw_b_f hc8)) ?_
          refine tw_blk (cd := tw_c35) rfl 2 (c1 := (6, [some (.ref 41), some (.int a1), none, some (.int a3), some (.int (v1_4 + (1 : Int32)))], [], (I6, L, tw_P tw dr rt 2, A1, J, 57))) rfl ?_
          exact ih (v1_4 + (1 : Int32)) I6 h K
theorem e_X3_winningMinute (I : Nat → Int32) (L : Nat → Int64) (A : Nat → Nat → Int32) (J : Nat → Nat → Int64) (tw dr : Nat) (rt : Nat) (a1 : Int32) (a2 : Int32) (a3 : Int32) : ∀ r : (Int32 × (Nat → Int32) × (Nat → Nat → Int32)), g_X3_winningMinute I A a1 a2 a3 = some r → tw_ME 35 (0, [some (.ref 41), some (.int a1), some (.int a2), some (.int a3), none], [], (I, L, tw_P tw dr rt 2, A, J, 57)) (some (.int r.1), ((r.2.1), L, tw_P tw dr rt 2, (r.2.2), J, 57)) := by
  intro r h
  unfold g_X3_winningMinute at h
  refine tw_blk (cd := tw_c35) rfl 3 (c1 := (3, [some (.ref 41), some (.int a1), some (.int a2), some (.int a3), none], [.int a2, .ref 39], (I, L, tw_P tw dr rt 2, A, J, 57))) rfl ?_
  obtain ⟨A1, hx2, h⟩ := tw_bindE h
  refine tw_callE (cd := tw_c35) rfl rfl rfl rfl rfl (e_X1_watch I L A J tw dr rt a2 _ hx2) (by exact Or.inl rfl) ?_
  refine tw_blk (cd := tw_c35) rfl 2 (c1 := (6, [some (.ref 41), some (.int a1), some (.int a2), some (.int a3), some (.int 0)], [], (I, L, tw_P tw dr rt 2, A1, J, 57))) rfl ?_
  refine tw_forget (ls2 := [some (.ref 41), some (.int a1), none, some (.int a3), some (.int 0)]) ⟨rfl, rfl, rfl, rfl, trivial⟩ ?_
  refine g_X3_winningMinute_L1_ok I L A J tw dr rt a1 a2 a3 A1 _ r 4096 (0 : Int32) I h (fun ex h => ?_)
  obtain ⟨I3, rfl⟩ : ∃ z, z = ex := ⟨ex, rfl⟩
  refine tw_blk (cd := tw_c35) rfl 1 (c1 := (27, [none, none, none, none, none], [.int (-2)], (I3, L, tw_P tw dr rt 2, A1, J, 57))) rfl ?_
  have h := Option.some.inj h
  subst h
  exact tw_retE (cd := tw_c35) rfl rfl rfl rfl
theorem e_X9_hour (I : Nat → Int32) (L : Nat → Int64) (A : Nat → Nat → Int32) (J : Nat → Nat → Int64) (rt : Nat) (sc : Nat) (a1 : Int32) : ∀ r : (Int32 × (Nat → Int32) × (Nat → Nat → Int32) × Nat), g_X9_hour I A sc a1 = some r → tw_ME 135 (0, [some (.ref 0), some (.int a1)], [], (I, L, tw_P 2 14 rt sc, A, J, 57)) (some (.int r.1), ((r.2.1), L, tw_P 2 14 rt (r.2.2.2), (r.2.2.1), J, 57)) := by
  intro r h
  unfold g_X9_hour at h
  refine tw_blk (cd := tw_c135) rfl 2 (c1 := (2, [some (.ref 0), some (.int a1)], [.int a1, .ref 0], (I, L, tw_P 2 14 rt sc, A, J, 57))) rfl ?_
  refine tw_callE (cd := tw_c135) rfl rfl rfl rfl rfl (e_X9_isQuarrel I L A J rt sc a1 _ rfl) (by exact Or.inl rfl) ?_
  by_cases hc1 : (g_X9_isQuarrel A a1) = true
  · rw [if_pos hc1] at h
    refine tw_br (cd := tw_c135) rfl rfl rfl (by exact if_neg (tw_b_t hc1)) ?_
    refine tw_blk (cd := tw_c135) rfl 1 (c1 := (9, [some (.ref 0), some (.int a1)], [.ref 0], (I, L, tw_P 2 14 rt sc, A, J, 57))) rfl ?_
    obtain ⟨⟨I2, A3⟩, hx4, h⟩ := tw_bindE h
    dsimp only at h
    refine tw_callE (cd := tw_c135) rfl rfl rfl rfl rfl (e_X9_showNow I L A J rt sc _ hx4) (by exact Or.inl rfl) ?_
    refine tw_blk (cd := tw_c135) rfl 8 (c1 := (18, [some (.ref 0), some (.int a1)], [.int 2, .int a1, .ref 2, .int a1, .ref 41, .ref 0], (I2, L, tw_P 2 14 rt 2, A3, J, 57))) rfl ?_
    refine tw_callE (cd := tw_c135) rfl rfl rfl rfl rfl (e_X8_fact_2 I2 L A3 J 2 14 rt 2 a1 (2 : Int32) _ rfl) (by exact Or.inl rfl) ?_
    refine tw_blk (cd := tw_c135) rfl 1 (c1 := (20, [some (.ref 0), some (.int a1)], [.int 60, .int (g_X8_fact_2 A3 a1 (2 : Int32)), .int a1, .ref 41, .ref 0], (I2, L, tw_P 2 14 rt 2, A3, J, 57))) rfl ?_
    obtain ⟨⟨x5, I6, A7⟩, hx8, h⟩ := tw_bindE h
    dsimp only at h
    refine tw_callE (cd := tw_c135) rfl rfl rfl rfl rfl (e_X3_winningMinute I2 L A3 J 2 14 rt a1 (g_X8_fact_2 A3 a1 (2 : Int32)) (60 : Int32) _ hx8) (by exact Or.inl rfl) ?_
    obtain ⟨⟨x9, I10⟩, hx11, h⟩ := tw_letE h
    dsimp only at h
    refine tw_callE (cd := tw_c135) rfl rfl rfl rfl rfl (e_X9_grant I6 L A7 J 2 14 rt 2 x5 _ hx11) (by exact Or.inl rfl) ?_
    have h := Option.some.inj h
    subst h
    exact tw_retE (cd := tw_c135) rfl rfl rfl rfl
  · rw [if_neg hc1] at h
    refine tw_br (cd := tw_c135) rfl rfl rfl (by exact if_pos (tw_b_f hc1)) ?_
    refine tw_blk (cd := tw_c135) rfl 2 (c1 := (6, [some (.ref 0), some (.int a1)], [.int 1, .ref 0], (I, L, tw_P 2 14 rt sc, A, J, 57))) rfl ?_
    obtain ⟨⟨x12, I13⟩, hx14, h⟩ := tw_letE h
    dsimp only at h
    refine tw_callE (cd := tw_c135) rfl rfl rfl rfl rfl (e_X9_refuse I L A J 2 14 rt sc (1 : Int32) _ hx14) (by exact Or.inl rfl) ?_
    have h := Option.some.inj h
    subst h
    exact tw_retE (cd := tw_c135) rfl rfl rfl rfl
theorem g_X10_hour_L1_ok (I : Nat → Int32) (L : Nat → Int64) (A : Nat → Nat → Int32) (J : Nat → Nat → Int64) (tw : Nat) (dr : Nat) (rt : Nat) (sc : Nat) (a1 : Int32) (I1 : Nat → Int32) (c3 : Bool) (A6 : Nat → Nat → Int32) (kont : (Nat → Int32) → Option (Int32 × (Nat → Int32) × (Nat → Nat → Int32))) (r : (Int32 × (Nat → Int32) × (Nat → Nat → Int32))) : ∀ (n : Nat) (v1_2 : Int32) (I_1 : Nat → Int32), g_X10_hour_L1 a1 A6 kont n v1_2 I_1 = some r → (∀ ex : Nat → Int32, kont ex = some r → tw_ME 272 (39, [none, none, none], [], (ex, L, tw_P tw dr rt sc, A6, J, 57)) (some (.int r.1), ((r.2.1), L, tw_P tw dr rt sc, (r.2.2), J, 57))) → tw_ME 272 (14, [some (.ref 44), some (.int a1), some (.int v1_2)], [], (I_1, L, tw_P tw dr rt sc, A6, J, 57)) (some (.int r.1), ((r.2.1), L, tw_P tw dr rt sc, (r.2.2), J, 57)) := by
  intro n
  induction n with
  | zero =>
    intro v1_2 I_1 h _
    cases h
  | succ n ih =>
    intro v1_2 I_1 h K
    rw [g_X10_hour_L1] at h
    refine tw_blk (cd := tw_c272) rfl 1 (c1 := (15, [some (.ref 44), some (.int a1), some (.int v1_2)], [.int v1_2], (I_1, L, tw_P tw dr rt sc, A6, J, 57))) rfl ?_
    refine tw_blk (cd := tw_c272) rfl 1 (c1 := (16, [some (.ref 44), some (.int a1), some (.int v1_2)], [.int 59, .int v1_2], (I_1, L, tw_P tw dr rt sc, A6, J, 57))) rfl ?_
    by_cases hc9 : (59 : Int32) < v1_2
    · rw [if_pos hc9] at h
      refine tw_br (cd := tw_c272) rfl rfl rfl (by exact if_pos hc9) ?_
      refine tw_forget (ls2 := [none, none, none]) trivial ?_
      exact K _ h
    · rw [if_neg hc9] at h
      refine tw_br (cd := tw_c272) rfl rfl rfl (by exact if_neg hc9) ?_
      refine tw_blk (cd := tw_c272) rfl 11 (c1 := (28, [some (.ref 44), some (.int a1), some (.int v1_2)], [.int (((80 : Int32) + ((5 : Int32) * a1)) + (2 : Int32)), .ref 47, .int a1, .ref 44], (I_1, L, tw_P tw dr rt sc, A6, J, 57))) rfl ?_
      obtain ⟨x11, hx10, h⟩ := tw_bindE h
      refine tw_iald (cd := tw_c272) (N := 241) rfl rfl rfl rfl hx10 ?_
      refine tw_blk (cd := tw_c272) rfl 2 (c1 := (31, [some (.ref 44), some (.int a1), some (.int v1_2)], [.int 0, .int v1_2, .int x11, .int a1, .ref 44], (I_1, L, tw_P tw dr rt sc, A6, J, 57))) rfl ?_
      obtain ⟨I12, hx13, h⟩ := tw_bindE h
      refine tw_callE (cd := tw_c272) rfl rfl rfl rfl rfl (e_X10_run I_1 L A6 J tw dr rt sc a1 x11 v1_2 (0 : Int32) _ hx13) (by exact Or.inl rfl) ?_
      refine tw_blk (cd := tw_c272) rfl 2 (c1 := (34, [some (.ref 44), some (.int a1), some (.int v1_2)], [.int (I12 4425)], (I12, L, tw_P tw dr rt sc, A6, J, 57))) rfl ?_
      by_cases hc14 : (I12 4425) ≤ 0
      · rw [if_pos hc14] at h
        refine tw_br (cd := tw_c272) rfl rfl rfl (by exact if_pos hc14) ?_
        refine tw_blk (cd := tw_c272) rfl 2 (c1 := (14, [some (.ref 44), some (.int a1), some (.int (v1_2 + (1 : Int32)))], [], (I12, L, tw_P tw dr rt sc, A6, J, 57))) rfl ?_
        exact ih (v1_2 + (1 : Int32)) I12 h K
      · rw [if_neg hc14] at h
        refine tw_br (cd := tw_c272) rfl rfl rfl (by exact if_neg hc14) ?_
        refine tw_blk (cd := tw_c272) rfl 1 (c1 := (36, [some (.ref 44), some (.int a1), some (.int v1_2)], [.int v1_2], (I12, L, tw_P tw dr rt sc, A6, J, 57))) rfl ?_
        have h := Option.some.inj h
        subst h
        exact tw_retE (cd := tw_c272) rfl rfl rfl rfl
theorem e_X10_hour (I : Nat → Int32) (L : Nat → Int64) (A : Nat → Nat → Int32) (J : Nat → Nat → Int64) (tw dr : Nat) (rt : Nat) (sc : Nat) (a1 : Int32) : ∀ r : (Int32 × (Nat → Int32) × (Nat → Nat → Int32)), g_X10_hour I A a1 = some r → tw_ME 272 (0, [some (.ref 44), some (.int a1), none], [], (I, L, tw_P tw dr rt sc, A, J, 57)) (some (.int r.1), ((r.2.1), L, tw_P tw dr rt sc, (r.2.2), J, 57)) := by
  intro r h
  unfold g_X10_hour at h
  refine tw_blk (cd := tw_c272) rfl 1 (c1 := (1, [some (.ref 44), some (.int a1), none], [.ref 44], (I, L, tw_P tw dr rt sc, A, J, 57))) rfl ?_
  obtain ⟨I1, hx2, h⟩ := tw_letE h
  refine tw_callE (cd := tw_c272) rfl rfl rfl rfl rfl (e_X10_good I L A J tw dr rt sc _ hx2) (by exact Or.inl rfl) ?_
  refine tw_blk (cd := tw_c272) rfl 2 (c1 := (4, [some (.ref 44), some (.int a1), none], [.int a1, .ref 44], (I1, L, tw_P tw dr rt sc, A, J, 57))) rfl ?_
  obtain ⟨c3, hx4, h⟩ := tw_bindE h
  refine tw_callE (cd := tw_c272) rfl rfl rfl rfl rfl (e_X10_isQuarrel I1 L A J tw dr rt sc a1 _ hx4) (by exact Or.inl rfl) ?_
  by_cases hc5 : c3 = true
  · rw [if_pos hc5] at h
    refine tw_br (cd := tw_c272) rfl rfl rfl (by exact if_neg (tw_b_t hc5)) ?_
    refine tw_blk (cd := tw_c272) rfl 1 (c1 := (11, [some (.ref 44), some (.int a1), none], [.ref 44], (I1, L, tw_P tw dr rt sc, A, J, 57))) rfl ?_
    obtain ⟨A6, hx7, h⟩ := tw_bindE h
    refine tw_callE (cd := tw_c272) rfl rfl rfl rfl rfl (e_X10_asNow I1 L A J tw dr rt sc _ hx7) (by exact Or.inl rfl) ?_
    refine tw_blk (cd := tw_c272) rfl 2 (c1 := (14, [some (.ref 44), some (.int a1), some (.int 0)], [], (I1, L, tw_P tw dr rt sc, A6, J, 57))) rfl ?_
    refine g_X10_hour_L1_ok I L A J tw dr rt sc a1 I1 c3 A6 _ r 4096 (0 : Int32) I1 h (fun ex h => ?_)
    obtain ⟨I8, rfl⟩ : ∃ z, z = ex := ⟨ex, rfl⟩
    refine tw_blk (cd := tw_c272) rfl 1 (c1 := (40, [none, none, none], [.int (-2)], (I8, L, tw_P tw dr rt sc, A6, J, 57))) rfl ?_
    have h := Option.some.inj h
    subst h
    exact tw_retE (cd := tw_c272) rfl rfl rfl rfl
  · rw [if_neg hc5] at h
    refine tw_br (cd := tw_c272) rfl rfl rfl (by exact if_pos (tw_b_f hc5)) ?_
    refine tw_blk (cd := tw_c272) rfl 2 (c1 := (8, [some (.ref 44), some (.int a1), none], [.int 1, .ref 44], (I1, L, tw_P tw dr rt sc, A, J, 57))) rfl ?_
    obtain ⟨⟨x15, I16⟩, hx17, h⟩ := tw_letE h
    dsimp only at h
    refine tw_callE (cd := tw_c272) rfl rfl rfl rfl rfl (e_X10_no I1 L A J tw dr rt sc (1 : Int32) _ hx17) (by exact Or.inl rfl) ?_
    have h := Option.some.inj h
    subst h
    exact tw_retE (cd := tw_c272) rfl rfl rfl rfl
theorem g_X3_latestPlace_L1_ok (I : Nat → Int32) (L : Nat → Int64) (A : Nat → Nat → Int32) (J : Nat → Nat → Int64) (tw : Nat) (dr : Nat) (rt : Nat) (a1 : Int32) (out : Option Value × tw_S) : ∀ (n : Nat) (v1_2 : Int32) (v1_3 : Int32) (v1_4 : Int32) (I_1 : Nat → Int32) (A_1 : Nat → Nat → Int32) (ex : (Int32 × (Nat → Int32) × (Nat → Nat → Int32))), g_X3_latestPlace_L1 a1 n v1_2 v1_3 v1_4 I_1 A_1 = some ex → tw_ME 37 (44, [none, none, some (.int (ex.1)), none, none, none], [], ((ex.2.1), L, tw_P tw dr rt 2, (ex.2.2), J, 57)) out → tw_ME 37 (6, [some (.ref 41), some (.int a1), some (.int v1_2), some (.int v1_3), some (.int v1_4), none], [], (I_1, L, tw_P tw dr rt 2, A_1, J, 57)) out := by
  intro n
  induction n with
  | zero =>
    intro v1_2 v1_3 v1_4 I_1 A_1 ex h _
    cases h
  | succ n ih =>
    intro v1_2 v1_3 v1_4 I_1 A_1 ex h K
    rw [g_X3_latestPlace_L1] at h
    refine tw_blk (cd := tw_c37) rfl 1 (c1 := (7, [some (.ref 41), some (.int a1), some (.int v1_2), some (.int v1_3), some (.int v1_4), none], [.int v1_4], (I_1, L, tw_P tw dr rt 2, A_1, J, 57))) rfl ?_
    refine tw_blk (cd := tw_c37) rfl 4 (c1 := (11, [some (.ref 41), some (.int a1), some (.int v1_2), some (.int v1_3), some (.int v1_4), none], [.int 1, .ref 2, .int v1_4], (I_1, L, tw_P tw dr rt 2, A_1, J, 57))) rfl ?_
    refine tw_callE (cd := tw_c37) rfl rfl rfl rfl rfl (e_X8_count_2 I_1 L A_1 J tw dr rt 2 (1 : Int32) _ rfl) (by exact Or.inl rfl) ?_
    by_cases hc4 : (g_X8_count_2 A_1 (1 : Int32)) ≤ v1_4
    · rw [if_pos hc4] at h
      refine tw_br (cd := tw_c37) rfl rfl rfl (by exact if_pos hc4) ?_
      refine tw_forget (ls2 := [none, none, some (.int v1_2), none, none, none]) ⟨rfl, trivial⟩ ?_
      have h := Option.some.inj h
      subst h
      exact K
    · rw [if_neg hc4] at h
      refine tw_br (cd := tw_c37) rfl rfl rfl (by exact if_neg hc4) ?_
      refine tw_blk (cd := tw_c37) rfl 9 (c1 := (22, [some (.ref 41), some (.int a1), some (.int v1_2), some (.int v1_3), some (.int v1_4), none], [.int 3, .int a1, .ref 2, .int v1_4, .int a1, .ref 39], (I_1, L, tw_P tw dr rt 2, A_1, J, 57))) rfl ?_
      refine tw_callE (cd := tw_c37) rfl rfl rfl rfl rfl (e_X8_fact_2 I_1 L A_1 J tw dr rt 2 a1 (3 : Int32) _ rfl) (by exact Or.inl rfl) ?_
      obtain ⟨⟨I5, A6⟩, hx7, h⟩ := tw_bindE h
      dsimp only at h
      refine tw_callE (cd := tw_c37) rfl rfl rfl rfl rfl (e_X1_run I_1 L A_1 J tw dr rt a1 v1_4 (g_X8_fact_2 A_1 a1 (3 : Int32)) _ hx7) (by exact Or.inl rfl) ?_
      refine tw_blk (cd := tw_c37) rfl 4 (c1 := (28, [some (.ref 41), some (.int a1), some (.int v1_2), some (.int v1_3), some (.int v1_4), none], [.int (-2), .int (I5 3902)], (I5, L, tw_P tw dr rt 2, A6, J, 57))) rfl ?_
      obtain ⟨x9, hj10, h⟩ := tw_bindE h
      have K : tw_ME 37 (34, [some (.ref 41), some (.int a1), some (.int v1_2), some (.int v1_3), some (.int v1_4), none], [.int x9], (I5, L, tw_P tw dr rt 2, A6, J, 57)) out := by
        refine tw_blk (cd := tw_c37) rfl 3 (c1 := (37, [some (.ref 41), some (.int a1), some (.int v1_2), some (.int v1_3), some (.int v1_4), some (.int x9)], [.int v1_3, .int x9], (I5, L, tw_P tw dr rt 2, A6, J, 57))) rfl ?_
        obtain ⟨⟨x12, x13⟩, hj14, h⟩ := tw_bindE h
        dsimp only at h
        have K : tw_ME 37 (42, [some (.ref 41), some (.int a1), some (.int x12), some (.int x13), some (.int v1_4), none], [], (I5, L, tw_P tw dr rt 2, A6, J, 57)) out := by
          refine tw_blk (cd := tw_c37) rfl 2 (c1 := (6, [some (.ref 41), some (.int a1), some (.int x12), some (.int x13), some (.int (v1_4 + (1 : Int32))), none], [], (I5, L, tw_P tw dr rt 2, A6, J, 57))) rfl ?_
          exact ih x12 x13 (v1_4 + (1 : Int32)) I5 A6 _ h K
        by_cases hc11 : x9 ≤ v1_3
        · rw [if_pos hc11] at hj14
          refine tw_br (cd := tw_c37) rfl rfl rfl (by exact if_pos hc11) ?_
          refine tw_forget (ls2 := [some (.ref 41), some (.int a1), some (.int v1_2), some (.int v1_3), some (.int v1_4), none]) ⟨rfl, rfl, rfl, rfl, rfl, trivial⟩ ?_
          have hj14s := Option.some.inj hj14
          obtain ⟨hj14_0, hj14r0⟩ := Prod.mk.inj hj14s
          subst hj14_0
          subst hj14r0
          exact K
        · rw [if_neg hc11] at hj14
          refine tw_br (cd := tw_c37) rfl rfl rfl (by exact if_neg hc11) ?_
          refine tw_blk (cd := tw_c37) rfl 4 (c1 := (42, [some (.ref 41), some (.int a1), some (.int v1_4), some (.int x9), some (.int v1_4), some (.int x9)], [], (I5, L, tw_P tw dr rt 2, A6, J, 57))) rfl ?_
          refine tw_forget (ls2 := [some (.ref 41), some (.int a1), some (.int v1_4), some (.int x9), some (.int v1_4), none]) ⟨rfl, rfl, rfl, rfl, rfl, trivial⟩ ?_
          have hj14s := Option.some.inj hj14
          obtain ⟨hj14_0, hj14r0⟩ := Prod.mk.inj hj14s
          subst hj14_0
          subst hj14r0
          exact K
      by_cases hc8 : (I5 3902) = (-2 : Int32)
      · rw [if_pos hc8] at hj10
        refine tw_br (cd := tw_c37) rfl rfl rfl (by exact if_pos hc8) ?_
        refine tw_blk (cd := tw_c37) rfl 2 (c1 := (34, [some (.ref 41), some (.int a1), some (.int v1_2), some (.int v1_3), some (.int v1_4), none], [.int 60], (I5, L, tw_P tw dr rt 2, A6, J, 57))) rfl ?_
        have hj10s := Option.some.inj hj10
        subst hj10s
        exact K
      · rw [if_neg hc8] at hj10
        refine tw_br (cd := tw_c37) rfl rfl rfl (by exact if_neg hc8) ?_
        refine tw_blk (cd := tw_c37) rfl 3 (c1 := (34, [some (.ref 41), some (.int a1), some (.int v1_2), some (.int v1_3), some (.int v1_4), none], [.int (I5 3903)], (I5, L, tw_P tw dr rt 2, A6, J, 57))) rfl ?_
        have hj10s := Option.some.inj hj10
        subst hj10s
        exact K
theorem e_X3_latestPlace (I : Nat → Int32) (L : Nat → Int64) (A : Nat → Nat → Int32) (J : Nat → Nat → Int64) (tw dr : Nat) (rt : Nat) (a1 : Int32) : ∀ r : (Int32 × (Nat → Int32) × (Nat → Nat → Int32)), g_X3_latestPlace I A a1 = some r → tw_ME 37 (0, [some (.ref 41), some (.int a1), none, none, none, none], [], (I, L, tw_P tw dr rt 2, A, J, 57)) (some (.int r.1), ((r.2.1), L, tw_P tw dr rt 2, (r.2.2), J, 57)) := by
  intro r h
  unfold g_X3_latestPlace at h
  refine tw_blk (cd := tw_c37) rfl 6 (c1 := (6, [some (.ref 41), some (.int a1), some (.int 0), some (.int (-1)), some (.int 0), none], [], (I, L, tw_P tw dr rt 2, A, J, 57))) rfl ?_
  obtain ⟨⟨x1, I2, A3⟩, hx15, h⟩ := tw_bindE h
  dsimp only at h
  refine g_X3_latestPlace_L1_ok I L A J tw dr rt a1 _ 4096 (0 : Int32) (-1 : Int32) (0 : Int32) I A _ hx15 ?_
  refine tw_blk (cd := tw_c37) rfl 1 (c1 := (45, [none, none, some (.int x1), none, none, none], [.int x1], (I2, L, tw_P tw dr rt 2, A3, J, 57))) rfl ?_
  have h := Option.some.inj h
  subst h
  exact tw_retE (cd := tw_c37) rfl rfl rfl rfl
theorem e_X9_longest (I : Nat → Int32) (L : Nat → Int64) (A : Nat → Nat → Int32) (J : Nat → Nat → Int64) (rt : Nat) (sc : Nat) (a1 : Int32) : ∀ r : (Int32 × (Nat → Int32) × (Nat → Nat → Int32) × Nat), g_X9_longest I A sc a1 = some r → tw_ME 136 (0, [some (.ref 0), some (.int a1)], [], (I, L, tw_P 2 14 rt sc, A, J, 57)) (some (.int r.1), ((r.2.1), L, tw_P 2 14 rt (r.2.2.2), (r.2.2.1), J, 57)) := by
  intro r h
  unfold g_X9_longest at h
  refine tw_blk (cd := tw_c136) rfl 2 (c1 := (2, [some (.ref 0), some (.int a1)], [.int a1, .ref 0], (I, L, tw_P 2 14 rt sc, A, J, 57))) rfl ?_
  refine tw_callE (cd := tw_c136) rfl rfl rfl rfl rfl (e_X9_isQuarrel I L A J rt sc a1 _ rfl) (by exact Or.inl rfl) ?_
  by_cases hc1 : (g_X9_isQuarrel A a1) = true
  · rw [if_pos hc1] at h
    refine tw_br (cd := tw_c136) rfl rfl rfl (by exact if_neg (tw_b_t hc1)) ?_
    refine tw_blk (cd := tw_c136) rfl 1 (c1 := (9, [some (.ref 0), some (.int a1)], [.ref 0], (I, L, tw_P 2 14 rt sc, A, J, 57))) rfl ?_
    obtain ⟨⟨I2, A3⟩, hx4, h⟩ := tw_bindE h
    dsimp only at h
    refine tw_callE (cd := tw_c136) rfl rfl rfl rfl rfl (e_X9_showNow I L A J rt sc _ hx4) (by exact Or.inl rfl) ?_
    refine tw_blk (cd := tw_c136) rfl 4 (c1 := (14, [some (.ref 0), some (.int a1)], [.int a1, .ref 41, .ref 0], (I2, L, tw_P 2 14 rt 2, A3, J, 57))) rfl ?_
    obtain ⟨⟨x5, I6, A7⟩, hx8, h⟩ := tw_bindE h
    dsimp only at h
    refine tw_callE (cd := tw_c136) rfl rfl rfl rfl rfl (e_X3_latestPlace I2 L A3 J 2 14 rt a1 _ hx8) (by exact Or.inl rfl) ?_
    obtain ⟨⟨x9, I10⟩, hx11, h⟩ := tw_letE h
    dsimp only at h
    refine tw_callE (cd := tw_c136) rfl rfl rfl rfl rfl (e_X9_grant I6 L A7 J 2 14 rt 2 x5 _ hx11) (by exact Or.inl rfl) ?_
    have h := Option.some.inj h
    subst h
    exact tw_retE (cd := tw_c136) rfl rfl rfl rfl
  · rw [if_neg hc1] at h
    refine tw_br (cd := tw_c136) rfl rfl rfl (by exact if_pos (tw_b_f hc1)) ?_
    refine tw_blk (cd := tw_c136) rfl 2 (c1 := (6, [some (.ref 0), some (.int a1)], [.int 1, .ref 0], (I, L, tw_P 2 14 rt sc, A, J, 57))) rfl ?_
    obtain ⟨⟨x12, I13⟩, hx14, h⟩ := tw_letE h
    dsimp only at h
    refine tw_callE (cd := tw_c136) rfl rfl rfl rfl rfl (e_X9_refuse I L A J 2 14 rt sc (1 : Int32) _ hx14) (by exact Or.inl rfl) ?_
    have h := Option.some.inj h
    subst h
    exact tw_retE (cd := tw_c136) rfl rfl rfl rfl
theorem g_X10_longest_L1_ok (I : Nat → Int32) (L : Nat → Int64) (A : Nat → Nat → Int32) (J : Nat → Nat → Int64) (tw : Nat) (dr : Nat) (rt : Nat) (sc : Nat) (a1 : Int32) (I1 : Nat → Int32) (c3 : Bool) (A6 : Nat → Nat → Int32) (out : Option Value × tw_S) : ∀ (n : Nat) (v1_2 : Int32) (v1_3 : Int32) (v1_4 : Int32) (I_1 : Nat → Int32) (ex : (Int32 × (Nat → Int32))), g_X10_longest_L1 a1 A6 n v1_2 v1_3 v1_4 I_1 = some ex → tw_ME 273 (58, [none, none, some (.int (ex.1)), none, none, none], [], ((ex.2), L, tw_P tw dr rt sc, A6, J, 57)) out → tw_ME 273 (18, [some (.ref 44), some (.int a1), some (.int v1_2), some (.int v1_3), some (.int v1_4), none], [], (I_1, L, tw_P tw dr rt sc, A6, J, 57)) out := by
  intro n
  induction n with
  | zero =>
    intro v1_2 v1_3 v1_4 I_1 ex h _
    cases h
  | succ n ih =>
    intro v1_2 v1_3 v1_4 I_1 ex h K
    rw [g_X10_longest_L1] at h
    refine tw_blk (cd := tw_c273) rfl 1 (c1 := (19, [some (.ref 44), some (.int a1), some (.int v1_2), some (.int v1_3), some (.int v1_4), none], [.int v1_4], (I_1, L, tw_P tw dr rt sc, A6, J, 57))) rfl ?_
    refine tw_blk (cd := tw_c273) rfl 3 (c1 := (22, [some (.ref 44), some (.int a1), some (.int v1_2), some (.int v1_3), some (.int v1_4), none], [.int 1, .ref 47, .int v1_4], (I_1, L, tw_P tw dr rt sc, A6, J, 57))) rfl ?_
    obtain ⟨x11, hx10, h⟩ := tw_bindE h
    refine tw_iald (cd := tw_c273) (N := 241) rfl rfl rfl rfl hx10 ?_
    by_cases hc12 : x11 ≤ v1_4
    · rw [if_pos hc12] at h
      refine tw_br (cd := tw_c273) rfl rfl rfl (by exact if_pos hc12) ?_
      refine tw_forget (ls2 := [none, none, some (.int v1_2), none, none, none]) ⟨rfl, trivial⟩ ?_
      have h := Option.some.inj h
      subst h
      exact K
    · rw [if_neg hc12] at h
      refine tw_br (cd := tw_c273) rfl rfl rfl (by exact if_neg hc12) ?_
      refine tw_blk (cd := tw_c273) rfl 12 (c1 := (36, [some (.ref 44), some (.int a1), some (.int v1_2), some (.int v1_3), some (.int v1_4), none], [.int (((80 : Int32) + ((5 : Int32) * a1)) + (3 : Int32)), .ref 47, .int v1_4, .int a1, .ref 44], (I_1, L, tw_P tw dr rt sc, A6, J, 57))) rfl ?_
      obtain ⟨x14, hx13, h⟩ := tw_bindE h
      refine tw_iald (cd := tw_c273) (N := 241) rfl rfl rfl rfl hx13 ?_
      refine tw_blk (cd := tw_c273) rfl 1 (c1 := (38, [some (.ref 44), some (.int a1), some (.int v1_2), some (.int v1_3), some (.int v1_4), none], [.int 0, .int x14, .int v1_4, .int a1, .ref 44], (I_1, L, tw_P tw dr rt sc, A6, J, 57))) rfl ?_
      obtain ⟨I15, hx16, h⟩ := tw_bindE h
      refine tw_callE (cd := tw_c273) rfl rfl rfl rfl rfl (e_X10_run I_1 L A6 J tw dr rt sc a1 v1_4 x14 (0 : Int32) _ hx16) (by exact Or.inl rfl) ?_
      refine tw_blk (cd := tw_c273) rfl 3 (c1 := (42, [some (.ref 44), some (.int a1), some (.int v1_2), some (.int v1_3), some (.int v1_4), none], [.int (-2), .int (I15 4425)], (I15, L, tw_P tw dr rt sc, A6, J, 57))) rfl ?_
      obtain ⟨x18, hj19, h⟩ := tw_bindE h
      have K : tw_ME 273 (47, [some (.ref 44), some (.int a1), some (.int v1_2), some (.int v1_3), some (.int v1_4), none], [.int x18], (I15, L, tw_P tw dr rt sc, A6, J, 57)) out := by
        refine tw_blk (cd := tw_c273) rfl 3 (c1 := (50, [some (.ref 44), some (.int a1), some (.int v1_2), some (.int v1_3), some (.int v1_4), some (.int x18)], [.int v1_3, .int x18], (I15, L, tw_P tw dr rt sc, A6, J, 57))) rfl ?_
        obtain ⟨⟨x21, x22⟩, hj23, h⟩ := tw_bindE h
        dsimp only at h
        have K : tw_ME 273 (56, [some (.ref 44), some (.int a1), some (.int x21), some (.int x22), some (.int v1_4), none], [], (I15, L, tw_P tw dr rt sc, A6, J, 57)) out := by
          refine tw_blk (cd := tw_c273) rfl 2 (c1 := (18, [some (.ref 44), some (.int a1), some (.int x21), some (.int x22), some (.int (v1_4 + (1 : Int32))), none], [], (I15, L, tw_P tw dr rt sc, A6, J, 57))) rfl ?_
          exact ih x21 x22 (v1_4 + (1 : Int32)) I15 _ h K
        by_cases hc20 : v1_3 < x18
        · rw [if_pos hc20] at hj23
          refine tw_br (cd := tw_c273) rfl rfl rfl (by exact if_pos hc20) ?_
          refine tw_blk (cd := tw_c273) rfl 4 (c1 := (56, [some (.ref 44), some (.int a1), some (.int v1_4), some (.int x18), some (.int v1_4), some (.int x18)], [], (I15, L, tw_P tw dr rt sc, A6, J, 57))) rfl ?_
          refine tw_forget (ls2 := [some (.ref 44), some (.int a1), some (.int v1_4), some (.int x18), some (.int v1_4), none]) ⟨rfl, rfl, rfl, rfl, rfl, trivial⟩ ?_
          have hj23s := Option.some.inj hj23
          obtain ⟨hj23_0, hj23r0⟩ := Prod.mk.inj hj23s
          subst hj23_0
          subst hj23r0
          exact K
        · rw [if_neg hc20] at hj23
          refine tw_br (cd := tw_c273) rfl rfl rfl (by exact if_neg hc20) ?_
          refine tw_blk (cd := tw_c273) rfl 1 (c1 := (56, [some (.ref 44), some (.int a1), some (.int v1_2), some (.int v1_3), some (.int v1_4), some (.int x18)], [], (I15, L, tw_P tw dr rt sc, A6, J, 57))) rfl ?_
          refine tw_forget (ls2 := [some (.ref 44), some (.int a1), some (.int v1_2), some (.int v1_3), some (.int v1_4), none]) ⟨rfl, rfl, rfl, rfl, rfl, trivial⟩ ?_
          have hj23s := Option.some.inj hj23
          obtain ⟨hj23_0, hj23r0⟩ := Prod.mk.inj hj23s
          subst hj23_0
          subst hj23r0
          exact K
      by_cases hc17 : (I15 4425) = (-2 : Int32)
      · rw [if_pos hc17] at hj19
        refine tw_br (cd := tw_c273) rfl rfl rfl (by exact if_pos hc17) ?_
        refine tw_blk (cd := tw_c273) rfl 2 (c1 := (47, [some (.ref 44), some (.int a1), some (.int v1_2), some (.int v1_3), some (.int v1_4), none], [.int 60], (I15, L, tw_P tw dr rt sc, A6, J, 57))) rfl ?_
        have hj19s := Option.some.inj hj19
        subst hj19s
        exact K
      · rw [if_neg hc17] at hj19
        refine tw_br (cd := tw_c273) rfl rfl rfl (by exact if_neg hc17) ?_
        refine tw_blk (cd := tw_c273) rfl 2 (c1 := (47, [some (.ref 44), some (.int a1), some (.int v1_2), some (.int v1_3), some (.int v1_4), none], [.int (I15 4426)], (I15, L, tw_P tw dr rt sc, A6, J, 57))) rfl ?_
        have hj19s := Option.some.inj hj19
        subst hj19s
        exact K
theorem e_X10_longest (I : Nat → Int32) (L : Nat → Int64) (A : Nat → Nat → Int32) (J : Nat → Nat → Int64) (tw dr : Nat) (rt : Nat) (sc : Nat) (a1 : Int32) : ∀ r : (Int32 × (Nat → Int32) × (Nat → Nat → Int32)), g_X10_longest I A a1 = some r → tw_ME 273 (0, [some (.ref 44), some (.int a1), none, none, none, none], [], (I, L, tw_P tw dr rt sc, A, J, 57)) (some (.int r.1), ((r.2.1), L, tw_P tw dr rt sc, (r.2.2), J, 57)) := by
  intro r h
  unfold g_X10_longest at h
  refine tw_blk (cd := tw_c273) rfl 1 (c1 := (1, [some (.ref 44), some (.int a1), none, none, none, none], [.ref 44], (I, L, tw_P tw dr rt sc, A, J, 57))) rfl ?_
  obtain ⟨I1, hx2, h⟩ := tw_letE h
  refine tw_callE (cd := tw_c273) rfl rfl rfl rfl rfl (e_X10_good I L A J tw dr rt sc _ hx2) (by exact Or.inl rfl) ?_
  refine tw_blk (cd := tw_c273) rfl 2 (c1 := (4, [some (.ref 44), some (.int a1), none, none, none, none], [.int a1, .ref 44], (I1, L, tw_P tw dr rt sc, A, J, 57))) rfl ?_
  obtain ⟨c3, hx4, h⟩ := tw_bindE h
  refine tw_callE (cd := tw_c273) rfl rfl rfl rfl rfl (e_X10_isQuarrel I1 L A J tw dr rt sc a1 _ hx4) (by exact Or.inl rfl) ?_
  by_cases hc5 : c3 = true
  · rw [if_pos hc5] at h
    refine tw_br (cd := tw_c273) rfl rfl rfl (by exact if_neg (tw_b_t hc5)) ?_
    refine tw_blk (cd := tw_c273) rfl 1 (c1 := (11, [some (.ref 44), some (.int a1), none, none, none, none], [.ref 44], (I1, L, tw_P tw dr rt sc, A, J, 57))) rfl ?_
    obtain ⟨A6, hx7, h⟩ := tw_bindE h
    refine tw_callE (cd := tw_c273) rfl rfl rfl rfl rfl (e_X10_asNow I1 L A J tw dr rt sc _ hx7) (by exact Or.inl rfl) ?_
    refine tw_blk (cd := tw_c273) rfl 6 (c1 := (18, [some (.ref 44), some (.int a1), some (.int 0), some (.int (-1)), some (.int 0), none], [], (I1, L, tw_P tw dr rt sc, A6, J, 57))) rfl ?_
    obtain ⟨⟨x8, I9⟩, hx24, h⟩ := tw_bindE h
    dsimp only at h
    refine g_X10_longest_L1_ok I L A J tw dr rt sc a1 I1 c3 A6 _ 4096 (0 : Int32) (-1 : Int32) (0 : Int32) I1 _ hx24 ?_
    refine tw_blk (cd := tw_c273) rfl 1 (c1 := (59, [none, none, some (.int x8), none, none, none], [.int x8], (I9, L, tw_P tw dr rt sc, A6, J, 57))) rfl ?_
    have h := Option.some.inj h
    subst h
    exact tw_retE (cd := tw_c273) rfl rfl rfl rfl
  · rw [if_neg hc5] at h
    refine tw_br (cd := tw_c273) rfl rfl rfl (by exact if_pos (tw_b_f hc5)) ?_
    refine tw_blk (cd := tw_c273) rfl 2 (c1 := (8, [some (.ref 44), some (.int a1), none, none, none, none], [.int 1, .ref 44], (I1, L, tw_P tw dr rt sc, A, J, 57))) rfl ?_
    obtain ⟨⟨x25, I26⟩, hx27, h⟩ := tw_letE h
    dsimp only at h
    refine tw_callE (cd := tw_c273) rfl rfl rfl rfl rfl (e_X10_no I1 L A J tw dr rt sc (1 : Int32) _ hx27) (by exact Or.inl rfl) ?_
    have h := Option.some.inj h
    subst h
    exact tw_retE (cd := tw_c273) rfl rfl rfl rfl
theorem g_X3_winningMinuteAndPlace_L1_ok (I : Nat → Int32) (L : Nat → Int64) (A : Nat → Nat → Int32) (J : Nat → Nat → Int64) (tw : Nat) (dr : Nat) (rt : Nat) (a1 : Int32) (out : Option Value × tw_S) : ∀ (n : Nat) (v1_2 : Int32) (v1_3 : Int32) (v1_4 : Int32) (I_1 : Nat → Int32) (A_1 : Nat → Nat → Int32) (ex : (Int32 × (Nat → Int32) × (Nat → Nat → Int32))), g_X3_winningMinuteAndPlace_L1 a1 n v1_2 v1_3 v1_4 I_1 A_1 = some ex → tw_ME 36 (32, [none, none, some (.int (ex.1)), none, none, none], [], ((ex.2.1), L, tw_P tw dr rt 2, (ex.2.2), J, 57)) out → tw_ME 36 (6, [some (.ref 41), some (.int a1), some (.int v1_2), some (.int v1_3), some (.int v1_4), none], [], (I_1, L, tw_P tw dr rt 2, A_1, J, 57)) out := by
  intro n
  induction n with
  | zero =>
    intro v1_2 v1_3 v1_4 I_1 A_1 ex h _
    cases h
  | succ n ih =>
    intro v1_2 v1_3 v1_4 I_1 A_1 ex h K
    rw [g_X3_winningMinuteAndPlace_L1] at h
    refine tw_blk (cd := tw_c36) rfl 1 (c1 := (7, [some (.ref 41), some (.int a1), some (.int v1_2), some (.int v1_3), some (.int v1_4), none], [.int v1_4], (I_1, L, tw_P tw dr rt 2, A_1, J, 57))) rfl ?_
    refine tw_blk (cd := tw_c36) rfl 4 (c1 := (11, [some (.ref 41), some (.int a1), some (.int v1_2), some (.int v1_3), some (.int v1_4), none], [.int 1, .ref 2, .int v1_4], (I_1, L, tw_P tw dr rt 2, A_1, J, 57))) rfl ?_
    refine tw_callE (cd := tw_c36) rfl rfl rfl rfl rfl (e_X8_count_2 I_1 L A_1 J tw dr rt 2 (1 : Int32) _ rfl) (by exact Or.inl rfl) ?_
    by_cases hc4 : (g_X8_count_2 A_1 (1 : Int32)) ≤ v1_4
    · rw [if_pos hc4] at h
      refine tw_br (cd := tw_c36) rfl rfl rfl (by exact if_pos hc4) ?_
      refine tw_forget (ls2 := [none, none, some (.int v1_2), none, none, none]) ⟨rfl, trivial⟩ ?_
      have h := Option.some.inj h
      subst h
      exact K
    · rw [if_neg hc4] at h
      refine tw_br (cd := tw_c36) rfl rfl rfl (by exact if_neg hc4) ?_
      refine tw_blk (cd := tw_c36) rfl 4 (c1 := (17, [some (.ref 41), some (.int a1), some (.int v1_2), some (.int v1_3), some (.int v1_4), none], [.int v1_3, .int v1_4, .int a1, .ref 41], (I_1, L, tw_P tw dr rt 2, A_1, J, 57))) rfl ?_
      obtain ⟨⟨x5, I6, A7⟩, hx8, h⟩ := tw_bindE h
      dsimp only at h
      refine tw_callE (cd := tw_c36) rfl rfl rfl rfl rfl (e_X3_winningMinute I_1 L A_1 J tw dr rt a1 v1_4 v1_3 _ hx8) (by exact Or.inl rfl) ?_
      refine tw_blk (cd := tw_c36) rfl 3 (c1 := (21, [some (.ref 41), some (.int a1), some (.int v1_2), some (.int v1_3), some (.int v1_4), some (.int x5)], [.int (-2), .int x5], (I6, L, tw_P tw dr rt 2, A7, J, 57))) rfl ?_
      obtain ⟨⟨x10, x11⟩, hj12, h⟩ := tw_bindE h
      dsimp only at h
      have K : tw_ME 36 (30, [some (.ref 41), some (.int a1), some (.int x10), some (.int x11), some (.int v1_4), none], [], (I6, L, tw_P tw dr rt 2, A7, J, 57)) out := by
        refine tw_blk (cd := tw_c36) rfl 2 (c1 := (6, [some (.ref 41), some (.int a1), some (.int x10), some (.int x11), some (.int (v1_4 + (1 : Int32))), none], [], (I6, L, tw_P tw dr rt 2, A7, J, 57))) rfl ?_
        exact ih x10 x11 (v1_4 + (1 : Int32)) I6 A7 _ h K
      by_cases hc9 : x5 = (-2 : Int32)
      · rw [if_pos hc9] at hj12
        refine tw_br (cd := tw_c36) rfl rfl rfl (by exact if_pos hc9) ?_
        refine tw_forget (ls2 := [some (.ref 41), some (.int a1), some (.int v1_2), some (.int v1_3), some (.int v1_4), none]) ⟨rfl, rfl, rfl, rfl, rfl, trivial⟩ ?_
        have hj12s := Option.some.inj hj12
        obtain ⟨hj12_0, hj12r0⟩ := Prod.mk.inj hj12s
        subst hj12_0
        subst hj12r0
        exact K
      · rw [if_neg hc9] at hj12
        refine tw_br (cd := tw_c36) rfl rfl rfl (by exact if_neg hc9) ?_
        refine tw_blk (cd := tw_c36) rfl 8 (c1 := (30, [some (.ref 41), some (.int a1), some (.int ((x5 * (10 : Int32)) + v1_4)), some (.int x5), some (.int v1_4), some (.int x5)], [], (I6, L, tw_P tw dr rt 2, A7, J, 57))) rfl ?_
        refine tw_forget (ls2 := [some (.ref 41), some (.int a1), some (.int ((x5 * (10 : Int32)) + v1_4)), some (.int x5), some (.int v1_4), none]) ⟨rfl, rfl, rfl, rfl, rfl, trivial⟩ ?_
        have hj12s := Option.some.inj hj12
        obtain ⟨hj12_0, hj12r0⟩ := Prod.mk.inj hj12s
        subst hj12_0
        subst hj12r0
        exact K
theorem e_X3_winningMinuteAndPlace (I : Nat → Int32) (L : Nat → Int64) (A : Nat → Nat → Int32) (J : Nat → Nat → Int64) (tw dr : Nat) (rt : Nat) (a1 : Int32) : ∀ r : (Int32 × (Nat → Int32) × (Nat → Nat → Int32)), g_X3_winningMinuteAndPlace I A a1 = some r → tw_ME 36 (0, [some (.ref 41), some (.int a1), none, none, none, none], [], (I, L, tw_P tw dr rt 2, A, J, 57)) (some (.int r.1), ((r.2.1), L, tw_P tw dr rt 2, (r.2.2), J, 57)) := by
  intro r h
  unfold g_X3_winningMinuteAndPlace at h
  refine tw_blk (cd := tw_c36) rfl 6 (c1 := (6, [some (.ref 41), some (.int a1), some (.int (-2)), some (.int 60), some (.int 0), none], [], (I, L, tw_P tw dr rt 2, A, J, 57))) rfl ?_
  obtain ⟨⟨x1, I2, A3⟩, hx13, h⟩ := tw_bindE h
  dsimp only at h
  refine g_X3_winningMinuteAndPlace_L1_ok I L A J tw dr rt a1 _ 4096 (-2 : Int32) (60 : Int32) (0 : Int32) I A _ hx13 ?_
  refine tw_blk (cd := tw_c36) rfl 1 (c1 := (33, [none, none, some (.int x1), none, none, none], [.int x1], (I2, L, tw_P tw dr rt 2, A3, J, 57))) rfl ?_
  have h := Option.some.inj h
  subst h
  exact tw_retE (cd := tw_c36) rfl rfl rfl rfl
theorem e_X9_moor (I : Nat → Int32) (L : Nat → Int64) (A : Nat → Nat → Int32) (J : Nat → Nat → Int64) (rt : Nat) (sc : Nat) (a1 : Int32) : ∀ r : (Int32 × (Nat → Int32) × (Nat → Nat → Int32) × Nat), g_X9_moor I A sc a1 = some r → tw_ME 137 (0, [some (.ref 0), some (.int a1)], [], (I, L, tw_P 2 14 rt sc, A, J, 57)) (some (.int r.1), ((r.2.1), L, tw_P 2 14 rt (r.2.2.2), (r.2.2.1), J, 57)) := by
  intro r h
  unfold g_X9_moor at h
  refine tw_blk (cd := tw_c137) rfl 2 (c1 := (2, [some (.ref 0), some (.int a1)], [.int a1, .ref 0], (I, L, tw_P 2 14 rt sc, A, J, 57))) rfl ?_
  refine tw_callE (cd := tw_c137) rfl rfl rfl rfl rfl (e_X9_isQuarrel I L A J rt sc a1 _ rfl) (by exact Or.inl rfl) ?_
  by_cases hc1 : (g_X9_isQuarrel A a1) = true
  · rw [if_pos hc1] at h
    refine tw_br (cd := tw_c137) rfl rfl rfl (by exact if_neg (tw_b_t hc1)) ?_
    refine tw_blk (cd := tw_c137) rfl 1 (c1 := (9, [some (.ref 0), some (.int a1)], [.ref 0], (I, L, tw_P 2 14 rt sc, A, J, 57))) rfl ?_
    obtain ⟨⟨I2, A3⟩, hx4, h⟩ := tw_bindE h
    dsimp only at h
    refine tw_callE (cd := tw_c137) rfl rfl rfl rfl rfl (e_X9_showNow I L A J rt sc _ hx4) (by exact Or.inl rfl) ?_
    refine tw_blk (cd := tw_c137) rfl 4 (c1 := (14, [some (.ref 0), some (.int a1)], [.int a1, .ref 41, .ref 0], (I2, L, tw_P 2 14 rt 2, A3, J, 57))) rfl ?_
    obtain ⟨⟨x5, I6, A7⟩, hx8, h⟩ := tw_bindE h
    dsimp only at h
    refine tw_callE (cd := tw_c137) rfl rfl rfl rfl rfl (e_X3_winningMinuteAndPlace I2 L A3 J 2 14 rt a1 _ hx8) (by exact Or.inl rfl) ?_
    obtain ⟨⟨x9, I10⟩, hx11, h⟩ := tw_letE h
    dsimp only at h
    refine tw_callE (cd := tw_c137) rfl rfl rfl rfl rfl (e_X9_grant I6 L A7 J 2 14 rt 2 x5 _ hx11) (by exact Or.inl rfl) ?_
    have h := Option.some.inj h
    subst h
    exact tw_retE (cd := tw_c137) rfl rfl rfl rfl
  · rw [if_neg hc1] at h
    refine tw_br (cd := tw_c137) rfl rfl rfl (by exact if_pos (tw_b_f hc1)) ?_
    refine tw_blk (cd := tw_c137) rfl 2 (c1 := (6, [some (.ref 0), some (.int a1)], [.int 1, .ref 0], (I, L, tw_P 2 14 rt sc, A, J, 57))) rfl ?_
    obtain ⟨⟨x12, I13⟩, hx14, h⟩ := tw_letE h
    dsimp only at h
    refine tw_callE (cd := tw_c137) rfl rfl rfl rfl rfl (e_X9_refuse I L A J 2 14 rt sc (1 : Int32) _ hx14) (by exact Or.inl rfl) ?_
    have h := Option.some.inj h
    subst h
    exact tw_retE (cd := tw_c137) rfl rfl rfl rfl
theorem g_X10_moor_L2_ok (I : Nat → Int32) (L : Nat → Int64) (A : Nat → Nat → Int32) (J : Nat → Nat → Int64) (tw : Nat) (dr : Nat) (rt : Nat) (sc : Nat) (a1 : Int32) (I1 : Nat → Int32) (c3 : Bool) (A6 : Nat → Nat → Int32) (v1_2 : Int32) (I_1 : Nat → Int32) (kont : (Nat → Int32) → Option (Int32 × (Nat → Int32) × (Nat → Nat → Int32))) (r : (Int32 × (Nat → Int32) × (Nat → Nat → Int32))) : ∀ (n : Nat) (v2_3 : Int32) (I_2 : Nat → Int32), g_X10_moor_L2 a1 A6 v1_2 kont n v2_3 I_2 = some r → (∀ ex : Nat → Int32, kont ex = some r → tw_ME 274 (42, [some (.ref 44), some (.int a1), some (.int v1_2), none], [], (ex, L, tw_P tw dr rt sc, A6, J, 57)) (some (.int r.1), ((r.2.1), L, tw_P tw dr rt sc, (r.2.2), J, 57))) → tw_ME 274 (19, [some (.ref 44), some (.int a1), some (.int v1_2), some (.int v2_3)], [], (I_2, L, tw_P tw dr rt sc, A6, J, 57)) (some (.int r.1), ((r.2.1), L, tw_P tw dr rt sc, (r.2.2), J, 57)) := by
  intro n
  induction n with
  | zero =>
    intro v2_3 I_2 h _
    cases h
  | succ n ih =>
    intro v2_3 I_2 h K
    rw [g_X10_moor_L2] at h
    refine tw_blk (cd := tw_c274) rfl 1 (c1 := (20, [some (.ref 44), some (.int a1), some (.int v1_2), some (.int v2_3)], [.int v2_3], (I_2, L, tw_P tw dr rt sc, A6, J, 57))) rfl ?_
    refine tw_blk (cd := tw_c274) rfl 3 (c1 := (23, [some (.ref 44), some (.int a1), some (.int v1_2), some (.int v2_3)], [.int 1, .ref 47, .int v2_3], (I_2, L, tw_P tw dr rt sc, A6, J, 57))) rfl ?_
    obtain ⟨x12, hx11, h⟩ := tw_bindE h
    refine tw_iald (cd := tw_c274) (N := 241) rfl rfl rfl rfl hx11 ?_
    by_cases hc13 : x12 ≤ v2_3
    · rw [if_pos hc13] at h
      refine tw_br (cd := tw_c274) rfl rfl rfl (by exact if_pos hc13) ?_
      refine tw_forget (ls2 := [some (.ref 44), some (.int a1), some (.int v1_2), none]) ⟨rfl, rfl, rfl, trivial⟩ ?_
      exact K _ h
    · rw [if_neg hc13] at h
      refine tw_br (cd := tw_c274) rfl rfl rfl (by exact if_neg hc13) ?_
      refine tw_blk (cd := tw_c274) rfl 5 (c1 := (30, [some (.ref 44), some (.int a1), some (.int v1_2), some (.int v2_3)], [.int 0, .int v1_2, .int v2_3, .int a1, .ref 44], (I_2, L, tw_P tw dr rt sc, A6, J, 57))) rfl ?_
      obtain ⟨I14, hx15, h⟩ := tw_bindE h
      refine tw_callE (cd := tw_c274) rfl rfl rfl rfl rfl (e_X10_run I_2 L A6 J tw dr rt sc a1 v2_3 v1_2 (0 : Int32) _ hx15) (by exact Or.inl rfl) ?_
      refine tw_blk (cd := tw_c274) rfl 2 (c1 := (33, [some (.ref 44), some (.int a1), some (.int v1_2), some (.int v2_3)], [.int (I14 4425)], (I14, L, tw_P tw dr rt sc, A6, J, 57))) rfl ?_
      by_cases hc16 : (I14 4425) ≤ 0
      · rw [if_pos hc16] at h
        refine tw_br (cd := tw_c274) rfl rfl rfl (by exact if_pos hc16) ?_
        refine tw_blk (cd := tw_c274) rfl 2 (c1 := (19, [some (.ref 44), some (.int a1), some (.int v1_2), some (.int (v2_3 + (1 : Int32)))], [], (I14, L, tw_P tw dr rt sc, A6, J, 57))) rfl ?_
        exact ih (v2_3 + (1 : Int32)) I14 h K
      · rw [if_neg hc16] at h
        refine tw_br (cd := tw_c274) rfl rfl rfl (by exact if_neg hc16) ?_
        refine tw_blk (cd := tw_c274) rfl 5 (c1 := (39, [some (.ref 44), some (.int a1), some (.int v1_2), some (.int v2_3)], [.int (((10 : Int32) * v1_2) + v2_3)], (I14, L, tw_P tw dr rt sc, A6, J, 57))) rfl ?_
        have h := Option.some.inj h
        subst h
        exact tw_retE (cd := tw_c274) rfl rfl rfl rfl
theorem g_X10_moor_L1_ok (I : Nat → Int32) (L : Nat → Int64) (A : Nat → Nat → Int32) (J : Nat → Nat → Int64) (tw : Nat) (dr : Nat) (rt : Nat) (sc : Nat) (a1 : Int32) (I1 : Nat → Int32) (c3 : Bool) (A6 : Nat → Nat → Int32) (kont : (Nat → Int32) → Option (Int32 × (Nat → Int32) × (Nat → Nat → Int32))) (r : (Int32 × (Nat → Int32) × (Nat → Nat → Int32))) : ∀ (n : Nat) (v1_2 : Int32) (I_1 : Nat → Int32), g_X10_moor_L1 a1 A6 kont n v1_2 I_1 = some r → (∀ ex : Nat → Int32, kont ex = some r → tw_ME 274 (44, [none, none, none, none], [], (ex, L, tw_P tw dr rt sc, A6, J, 57)) (some (.int r.1), ((r.2.1), L, tw_P tw dr rt sc, (r.2.2), J, 57))) → tw_ME 274 (14, [some (.ref 44), some (.int a1), some (.int v1_2), none], [], (I_1, L, tw_P tw dr rt sc, A6, J, 57)) (some (.int r.1), ((r.2.1), L, tw_P tw dr rt sc, (r.2.2), J, 57)) := by
  intro n
  induction n with
  | zero =>
    intro v1_2 I_1 h _
    cases h
  | succ n ih =>
    intro v1_2 I_1 h K
    rw [g_X10_moor_L1] at h
    refine tw_blk (cd := tw_c274) rfl 1 (c1 := (15, [some (.ref 44), some (.int a1), some (.int v1_2), none], [.int v1_2], (I_1, L, tw_P tw dr rt sc, A6, J, 57))) rfl ?_
    refine tw_blk (cd := tw_c274) rfl 1 (c1 := (16, [some (.ref 44), some (.int a1), some (.int v1_2), none], [.int 59, .int v1_2], (I_1, L, tw_P tw dr rt sc, A6, J, 57))) rfl ?_
    by_cases hc9 : (59 : Int32) < v1_2
    · rw [if_pos hc9] at h
      refine tw_br (cd := tw_c274) rfl rfl rfl (by exact if_pos hc9) ?_
      refine tw_forget (ls2 := [none, none, none, none]) trivial ?_
      exact K _ h
    · rw [if_neg hc9] at h
      refine tw_br (cd := tw_c274) rfl rfl rfl (by exact if_neg hc9) ?_
      refine tw_blk (cd := tw_c274) rfl 2 (c1 := (19, [some (.ref 44), some (.int a1), some (.int v1_2), some (.int 0)], [], (I_1, L, tw_P tw dr rt sc, A6, J, 57))) rfl ?_
      refine g_X10_moor_L2_ok I L A J tw dr rt sc a1 I1 c3 A6 v1_2 I_1 _ r 4096 (0 : Int32) I_1 h (fun ex h => ?_)
      obtain ⟨I10, rfl⟩ : ∃ z, z = ex := ⟨ex, rfl⟩
      refine tw_blk (cd := tw_c274) rfl 2 (c1 := (14, [some (.ref 44), some (.int a1), some (.int (v1_2 + (1 : Int32))), none], [], (I10, L, tw_P tw dr rt sc, A6, J, 57))) rfl ?_
      exact ih (v1_2 + (1 : Int32)) I10 h K
theorem e_X10_moor (I : Nat → Int32) (L : Nat → Int64) (A : Nat → Nat → Int32) (J : Nat → Nat → Int64) (tw dr : Nat) (rt : Nat) (sc : Nat) (a1 : Int32) : ∀ r : (Int32 × (Nat → Int32) × (Nat → Nat → Int32)), g_X10_moor I A a1 = some r → tw_ME 274 (0, [some (.ref 44), some (.int a1), none, none], [], (I, L, tw_P tw dr rt sc, A, J, 57)) (some (.int r.1), ((r.2.1), L, tw_P tw dr rt sc, (r.2.2), J, 57)) := by
  intro r h
  unfold g_X10_moor at h
  refine tw_blk (cd := tw_c274) rfl 1 (c1 := (1, [some (.ref 44), some (.int a1), none, none], [.ref 44], (I, L, tw_P tw dr rt sc, A, J, 57))) rfl ?_
  obtain ⟨I1, hx2, h⟩ := tw_letE h
  refine tw_callE (cd := tw_c274) rfl rfl rfl rfl rfl (e_X10_good I L A J tw dr rt sc _ hx2) (by exact Or.inl rfl) ?_
  refine tw_blk (cd := tw_c274) rfl 2 (c1 := (4, [some (.ref 44), some (.int a1), none, none], [.int a1, .ref 44], (I1, L, tw_P tw dr rt sc, A, J, 57))) rfl ?_
  obtain ⟨c3, hx4, h⟩ := tw_bindE h
  refine tw_callE (cd := tw_c274) rfl rfl rfl rfl rfl (e_X10_isQuarrel I1 L A J tw dr rt sc a1 _ hx4) (by exact Or.inl rfl) ?_
  by_cases hc5 : c3 = true
  · rw [if_pos hc5] at h
    refine tw_br (cd := tw_c274) rfl rfl rfl (by exact if_neg (tw_b_t hc5)) ?_
    refine tw_blk (cd := tw_c274) rfl 1 (c1 := (11, [some (.ref 44), some (.int a1), none, none], [.ref 44], (I1, L, tw_P tw dr rt sc, A, J, 57))) rfl ?_
    obtain ⟨A6, hx7, h⟩ := tw_bindE h
    refine tw_callE (cd := tw_c274) rfl rfl rfl rfl rfl (e_X10_asNow I1 L A J tw dr rt sc _ hx7) (by exact Or.inl rfl) ?_
    refine tw_blk (cd := tw_c274) rfl 2 (c1 := (14, [some (.ref 44), some (.int a1), some (.int 0), none], [], (I1, L, tw_P tw dr rt sc, A6, J, 57))) rfl ?_
    refine g_X10_moor_L1_ok I L A J tw dr rt sc a1 I1 c3 A6 _ r 4096 (0 : Int32) I1 h (fun ex h => ?_)
    obtain ⟨I8, rfl⟩ : ∃ z, z = ex := ⟨ex, rfl⟩
    refine tw_blk (cd := tw_c274) rfl 1 (c1 := (45, [none, none, none, none], [.int (-2)], (I8, L, tw_P tw dr rt sc, A6, J, 57))) rfl ?_
    have h := Option.some.inj h
    subst h
    exact tw_retE (cd := tw_c274) rfl rfl rfl rfl
  · rw [if_neg hc5] at h
    refine tw_br (cd := tw_c274) rfl rfl rfl (by exact if_pos (tw_b_f hc5)) ?_
    refine tw_blk (cd := tw_c274) rfl 2 (c1 := (8, [some (.ref 44), some (.int a1), none, none], [.int 1, .ref 44], (I1, L, tw_P tw dr rt sc, A, J, 57))) rfl ?_
    obtain ⟨⟨x17, I18⟩, hx19, h⟩ := tw_letE h
    dsimp only at h
    refine tw_callE (cd := tw_c274) rfl rfl rfl rfl rfl (e_X10_no I1 L A J tw dr rt sc (1 : Int32) _ hx19) (by exact Or.inl rfl) ?_
    have h := Option.some.inj h
    subst h
    exact tw_retE (cd := tw_c274) rfl rfl rfl rfl
theorem g_X3_openInto_L1_ok (I : Nat → Int32) (L : Nat → Int64) (A : Nat → Nat → Int32) (J : Nat → Nat → Int64) (tw : Nat) (dr : Nat) (rt : Nat) (a1 : Int32) (out : Option Value × tw_S) : ∀ (n : Nat) (v1_2 : Int32) (v1_3 : Int32) (ex : Int32), g_X3_openInto_L1 A a1 n v1_2 v1_3 = some ex → tw_ME 39 (29, [some (.ref 41), none, some (.int ex), none], [], (I, L, tw_P tw dr rt 2, A, J, 57)) out → tw_ME 39 (4, [some (.ref 41), some (.int a1), some (.int v1_2), some (.int v1_3)], [], (I, L, tw_P tw dr rt 2, A, J, 57)) out := by
  intro n
  induction n with
  | zero =>
    intro v1_2 v1_3 ex h _
    cases h
  | succ n ih =>
    intro v1_2 v1_3 ex h K
    rw [g_X3_openInto_L1] at h
    refine tw_blk (cd := tw_c39) rfl 1 (c1 := (5, [some (.ref 41), some (.int a1), some (.int v1_2), some (.int v1_3)], [.int v1_3], (I, L, tw_P tw dr rt 2, A, J, 57))) rfl ?_
    refine tw_blk (cd := tw_c39) rfl 4 (c1 := (9, [some (.ref 41), some (.int a1), some (.int v1_2), some (.int v1_3)], [.int 2, .ref 2, .int v1_3], (I, L, tw_P tw dr rt 2, A, J, 57))) rfl ?_
    refine tw_callE (cd := tw_c39) rfl rfl rfl rfl rfl (e_X8_count_2 I L A J tw dr rt 2 (2 : Int32) _ rfl) (by exact Or.inl rfl) ?_
    by_cases hc2 : (g_X8_count_2 A (2 : Int32)) ≤ v1_3
    · rw [if_pos hc2] at h
      refine tw_br (cd := tw_c39) rfl rfl rfl (by exact if_pos hc2) ?_
      refine tw_forget (ls2 := [some (.ref 41), none, some (.int v1_2), none]) ⟨rfl, rfl, trivial⟩ ?_
      have h := Option.some.inj h
      subst h
      exact K
    · rw [if_neg hc2] at h
      refine tw_br (cd := tw_c39) rfl rfl rfl (by exact if_neg hc2) ?_
      refine tw_blk (cd := tw_c39) rfl 6 (c1 := (17, [some (.ref 41), some (.int a1), some (.int v1_2), some (.int v1_3)], [.int v1_3, .ref 5, .int v1_2], (I, L, tw_P tw dr rt 2, A, J, 57))) rfl ?_
      refine tw_callE (cd := tw_c39) rfl rfl rfl rfl rfl (tw_e_get I L (tw_P tw dr rt 2) A J (q := 5) (N := 8) rfl rfl (by decide) v1_3) (by exact Or.inl rfl) ?_
      refine tw_blk (cd := tw_c39) rfl 1 (c1 := (19, [some (.ref 41), some (.int a1), some (.int v1_2), some (.int v1_3)], [.int a1, .int (tw_get0 8 (A 5) v1_3), .int v1_2], (I, L, tw_P tw dr rt 2, A, J, 57))) rfl ?_
      obtain ⟨x4, hj5, h⟩ := tw_bindE h
      have K : tw_ME 39 (25, [some (.ref 41), some (.int a1), none, some (.int v1_3)], [.int x4, .int v1_2], (I, L, tw_P tw dr rt 2, A, J, 57)) out := by
        refine tw_blk (cd := tw_c39) rfl 4 (c1 := (4, [some (.ref 41), some (.int a1), some (.int (v1_2 ||| x4)), some (.int (v1_3 + (1 : Int32)))], [], (I, L, tw_P tw dr rt 2, A, J, 57))) rfl ?_
        exact ih (v1_2 ||| x4) (v1_3 + (1 : Int32)) _ h K
      by_cases hc3 : (tw_get0 8 (A 5) v1_3) = a1
      · rw [if_pos hc3] at hj5
        refine tw_br (cd := tw_c39) rfl rfl rfl (by exact if_pos hc3) ?_
        refine tw_blk (cd := tw_c39) rfl 4 (c1 := (25, [some (.ref 41), some (.int a1), some (.int v1_2), some (.int v1_3)], [.int ((1 : Int32) <<< (v1_3 &&& 31)), .int v1_2], (I, L, tw_P tw dr rt 2, A, J, 57))) rfl ?_
        refine tw_forget (ls2 := [some (.ref 41), some (.int a1), none, some (.int v1_3)]) ⟨rfl, rfl, rfl, trivial⟩ ?_
        have hj5s := Option.some.inj hj5
        subst hj5s
        exact K
      · rw [if_neg hc3] at hj5
        refine tw_br (cd := tw_c39) rfl rfl rfl (by exact if_neg hc3) ?_
        refine tw_blk (cd := tw_c39) rfl 1 (c1 := (25, [some (.ref 41), some (.int a1), some (.int v1_2), some (.int v1_3)], [.int 0, .int v1_2], (I, L, tw_P tw dr rt 2, A, J, 57))) rfl ?_
        refine tw_forget (ls2 := [some (.ref 41), some (.int a1), none, some (.int v1_3)]) ⟨rfl, rfl, rfl, trivial⟩ ?_
        have hj5s := Option.some.inj hj5
        subst hj5s
        exact K
theorem e_X3_openInto (I : Nat → Int32) (L : Nat → Int64) (A : Nat → Nat → Int32) (J : Nat → Nat → Int64) (tw dr : Nat) (rt : Nat) (a1 : Int32) : ∀ r : Int32, g_X3_openInto I A a1 = some r → tw_ME 39 (0, [some (.ref 41), some (.int a1), none, none], [], (I, L, tw_P tw dr rt 2, A, J, 57)) (some (.int r), (I, L, tw_P tw dr rt 2, A, J, 57)) := by
  intro r h
  unfold g_X3_openInto at h
  refine tw_blk (cd := tw_c39) rfl 4 (c1 := (4, [some (.ref 41), some (.int a1), some (.int 0), some (.int 0)], [], (I, L, tw_P tw dr rt 2, A, J, 57))) rfl ?_
  obtain ⟨x1, hx6, h⟩ := tw_bindE h
  refine g_X3_openInto_L1_ok I L A J tw dr rt a1 _ 4096 (0 : Int32) (0 : Int32) _ hx6 ?_
  refine tw_blk (cd := tw_c39) rfl 7 (c1 := (36, [some (.ref 41), none, some (.int x1), none], [.int (x1 &&& ((I 3601) ^^^ (-1 : Int32)))], (I, L, tw_P tw dr rt 2, A, J, 57))) rfl ?_
  have h := Option.some.inj h
  subst h
  exact tw_retE (cd := tw_c39) rfl rfl rfl rfl
