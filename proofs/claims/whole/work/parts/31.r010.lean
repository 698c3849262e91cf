/-! the machine does what the functions say -/
set_option maxRecDepth 16000
theorem e_X9_ends (I : Nat → Int32) (L : Nat → Int64) (A : Nat → Nat → Int32) (J : Nat → Nat → Int64) (rt : Nat) (sc : Nat) (a1 : Int32) : ∀ r : (Int32 × (Nat → Int32) × (Nat → Nat → Int32) × Nat), g_X9_ends I A sc a1 = some r → tw_ME 126 (0, [some (.ref 0), some (.int a1)], [], (I, L, tw_P 2 14 rt sc, A, J, 57)) (some (.int r.1), ((r.2.1), L, tw_P 2 14 rt (r.2.2.2), (r.2.2.1), J, 57)) := by
  intro r h
  unfold g_X9_ends at h
  refine tw_blk (cd := tw_c126) rfl 2 (c1 := (2, [some (.ref 0), some (.int a1)], [.int a1, .ref 0], (I, L, tw_P 2 14 rt sc, A, J, 57))) rfl ?_
  obtain ⟨⟨c1, I2, A3⟩, hx4, h⟩ := tw_bindE h
  dsimp only at h
  refine tw_callE (cd := tw_c126) rfl rfl rfl rfl rfl (e_X9_runsNow I L A J rt sc a1 _ hx4) (by exact Or.inl rfl) ?_
  by_cases hc5 : c1 = true
  · subst hc5
    rw [if_pos rfl] at h
    refine tw_br (cd := tw_c126) rfl rfl rfl (by exact rfl) ?_
    refine tw_blk (cd := tw_c126) rfl 4 (c1 := (8, [some (.ref 0), some (.int a1)], [.int (I2 3902), .ref 0], (I2, L, tw_P 2 14 rt 2, A3, J, 57))) rfl ?_
    obtain ⟨⟨x6, I7⟩, hx8, h⟩ := tw_letE h
    dsimp only at h
    refine tw_callE (cd := tw_c126) rfl rfl rfl rfl rfl (e_X9_grant I2 L A3 J 2 14 rt 2 (I2 3902) _ hx8) (by exact Or.inl rfl) ?_
    refine tw_blk (cd := tw_c126) rfl 1 (c1 := (11, [some (.ref 0), some (.int a1)], [.int x6], (I7, L, tw_P 2 14 rt 2, A3, J, 57))) rfl ?_
    have h := Option.some.inj h
    subst h
    exact tw_retE (cd := tw_c126) rfl rfl rfl rfl
  · have hc5 := Bool.eq_false_iff.mpr hc5
    subst hc5
    rw [if_neg (by decide)] at h
    refine tw_br (cd := tw_c126) rfl rfl rfl (by exact rfl) ?_
    refine tw_blk (cd := tw_c126) rfl 1 (c1 := (11, [some (.ref 0), some (.int a1)], [.int (-1)], (I2, L, tw_P 2 14 rt sc, A3, J, 57))) rfl ?_
    have h := Option.some.inj h
    subst h
    exact tw_retE (cd := tw_c126) rfl rfl rfl rfl
theorem e_X10_comesBoy (I : Nat → Int32) (L : Nat → Int64) (A : Nat → Nat → Int32) (J : Nat → Nat → Int64) (tw dr : Nat) (rt : Nat) (sc : Nat) (a1 : Int32) : ∀ r : (Bool × (Nat → Int32)), g_X10_comesBoy I A a1 = some r → tw_ME 245 (0, [some (.ref 44), some (.int a1)], [], (I, L, tw_P tw dr rt sc, A, J, 57)) (some (.int (tw_b r.1)), ((r.2), L, tw_P tw dr rt sc, A, J, 57)) := by
  intro r h
  unfold g_X10_comesBoy at h
  refine tw_blk (cd := tw_c245) rfl 2 (c1 := (2, [some (.ref 44), some (.int a1)], [.int (I 4430)], (I, L, tw_P tw dr rt sc, A, J, 57))) rfl ?_
  by_cases hc1 : (I 4430) < 0
  · rw [if_pos hc1] at h
    refine tw_br (cd := tw_c245) rfl rfl rfl (by exact if_pos hc1) ?_
    refine tw_blk (cd := tw_c245) rfl 8 (c1 := (23, [some (.ref 44), some (.int a1)], [.int 65537, .int (((75 : Int32) * (I 4431)) + (74 : Int32)), .ref 44], (I, L, tw_P tw dr rt sc, A, J, 57))) rfl ?_
    refine tw_br (cd := tw_c245) rfl rfl rfl (by exact rfl) ?_
    refine tw_blk (cd := tw_c245) rfl 4 (c1 := (28, [some (.ref 44), some (.int a1)], [.int 100, .int ((((75 : Int32) * (I 4431)) + (74 : Int32)) - (((75 : Int32) * (I 4431)) + (74 : Int32)) / (65537 : Int32) * (65537 : Int32))], ((upd I 4431 ((((75 : Int32) * (I 4431)) + (74 : Int32)) - (((75 : Int32) * (I 4431)) + (74 : Int32)) / (65537 : Int32) * (65537 : Int32))), L, tw_P tw dr rt sc, A, J, 57))) rfl ?_
    refine tw_br (cd := tw_c245) rfl rfl rfl (by exact rfl) ?_
    refine tw_blk (cd := tw_c245) rfl 3 (c1 := (32, [some (.ref 44), some (.int a1)], [.int 0, .ref 47, .int (((((75 : Int32) * (I 4431)) + (74 : Int32)) - (((75 : Int32) * (I 4431)) + (74 : Int32)) / (65537 : Int32) * (65537 : Int32)) - ((((75 : Int32) * (I 4431)) + (74 : Int32)) - (((75 : Int32) * (I 4431)) + (74 : Int32)) / (65537 : Int32) * (65537 : Int32)) / (100 : Int32) * (100 : Int32))], ((upd I 4431 ((((75 : Int32) * (I 4431)) + (74 : Int32)) - (((75 : Int32) * (I 4431)) + (74 : Int32)) / (65537 : Int32) * (65537 : Int32))), L, tw_P tw dr rt sc, A, J, 57))) rfl ?_
    obtain ⟨x3, hx2, h⟩ := tw_bindE h
    refine tw_iald (cd := tw_c245) (N := 241) rfl rfl rfl rfl hx2 ?_
    by_cases hc4 : x3 ≤ (((((75 : Int32) * (I 4431)) + (74 : Int32)) - (((75 : Int32) * (I 4431)) + (74 : Int32)) / (65537 : Int32) * (65537 : Int32)) - ((((75 : Int32) * (I 4431)) + (74 : Int32)) - (((75 : Int32) * (I 4431)) + (74 : Int32)) / (65537 : Int32) * (65537 : Int32)) / (100 : Int32) * (100 : Int32))
    · rw [if_pos hc4] at h
      refine tw_br (cd := tw_c245) rfl rfl rfl (by exact if_pos hc4) ?_
      refine tw_blk (cd := tw_c245) rfl 1 (c1 := (37, [some (.ref 44), some (.int a1)], [.int 0], ((upd I 4431 ((((75 : Int32) * (I 4431)) + (74 : Int32)) - (((75 : Int32) * (I 4431)) + (74 : Int32)) / (65537 : Int32) * (65537 : Int32))), L, tw_P tw dr rt sc, A, J, 57))) rfl ?_
      have h := Option.some.inj h
      subst h
      exact tw_retZ (cd := tw_c245) (b := false) rfl rfl rfl rfl
    · rw [if_neg hc4] at h
      refine tw_br (cd := tw_c245) rfl rfl rfl (by exact if_neg hc4) ?_
      refine tw_blk (cd := tw_c245) rfl 2 (c1 := (37, [some (.ref 44), some (.int a1)], [.int 1], ((upd I 4431 ((((75 : Int32) * (I 4431)) + (74 : Int32)) - (((75 : Int32) * (I 4431)) + (74 : Int32)) / (65537 : Int32) * (65537 : Int32))), L, tw_P tw dr rt sc, A, J, 57))) rfl ?_
      have h := Option.some.inj h
      subst h
      exact tw_retZ (cd := tw_c245) (b := true) rfl rfl rfl rfl
  · rw [if_neg hc1] at h
    refine tw_br (cd := tw_c245) rfl rfl rfl (by exact if_neg hc1) ?_
    refine tw_blk (cd := tw_c245) rfl 2 (c1 := (5, [some (.ref 44), some (.int a1)], [.int 6, .int a1], (I, L, tw_P tw dr rt sc, A, J, 57))) rfl ?_
    by_cases hc5 : (6 : Int32) ≤ a1
    · rw [if_pos hc5] at h
      refine tw_br (cd := tw_c245) rfl rfl rfl (by exact if_pos hc5) ?_
      refine tw_blk (cd := tw_c245) rfl 1 (c1 := (14, [some (.ref 44), some (.int a1)], [.int 0], (I, L, tw_P tw dr rt sc, A, J, 57))) rfl ?_
      have h := Option.some.inj h
      subst h
      exact tw_retZ (cd := tw_c245) (b := false) rfl rfl rfl rfl
    · rw [if_neg hc5] at h
      refine tw_br (cd := tw_c245) rfl rfl rfl (by exact if_neg hc5) ?_
      refine tw_blk (cd := tw_c245) rfl 3 (c1 := (9, [some (.ref 44), some (.int a1)], [.int a1, .int (I 4430)], (I, L, tw_P tw dr rt sc, A, J, 57))) rfl ?_
      refine tw_callE (cd := tw_c245) rfl rfl rfl rfl rfl (e_X10_hasBit I L A J tw dr rt sc (I 4430) a1 _ rfl) (by exact Or.inl rfl) ?_
      by_cases hc6 : (g_X10_hasBit (I 4430) a1) = true
      · rw [if_pos hc6] at h
        refine tw_br (cd := tw_c245) rfl rfl rfl (by exact if_neg (tw_b_t hc6)) ?_
        refine tw_blk (cd := tw_c245) rfl 2 (c1 := (14, [some (.ref 44), some (.int a1)], [.int 1], (I, L, tw_P tw dr rt sc, A, J, 57))) rfl ?_
        have h := Option.some.inj h
        subst h
        exact tw_retZ (cd := tw_c245) (b := true) rfl rfl rfl rfl
      · rw [if_neg hc6] at h
        refine tw_br (cd := tw_c245) rfl rfl rfl (by exact if_pos (tw_b_f hc6)) ?_
        refine tw_blk (cd := tw_c245) rfl 1 (c1 := (14, [some (.ref 44), some (.int a1)], [.int 0], (I, L, tw_P tw dr rt sc, A, J, 57))) rfl ?_
        have h := Option.some.inj h
        subst h
        exact tw_retZ (cd := tw_c245) (b := false) rfl rfl rfl rfl
theorem g_X10_run_L1_ok (I : Nat → Int32) (L : Nat → Int64) (A : Nat → Nat → Int32) (J : Nat → Nat → Int64) (tw : Nat) (dr : Nat) (rt : Nat) (sc : Nat) (a1 : Int32) (a2 : Int32) (a3 : Int32) (a4 : Int32) (x2 : Int32) (x4 : Int32) (kont : (Nat → Int32) → Option (Nat → Int32)) (r : Nat → Int32) : ∀ (n : Nat) (v1_7 : Int32) (v1_8 : Int32) (I_1 : Nat → Int32), g_X10_run_L1 A a1 a2 a3 a4 x2 x4 kont n v1_7 v1_8 I_1 = some r → (∀ ex : Nat → Int32, kont ex = some r → tw_ME 246 (145, [none, none, none, none, none, none, none, none, none], [], (ex, L, tw_P tw dr rt sc, A, J, 57)) (none, (r, L, tw_P tw dr rt sc, A, J, 57))) → tw_ME 246 (38, [some (.ref 44), none, some (.int a2), some (.int a3), some (.int a4), some (.int ((80 : Int32) + ((5 : Int32) * a1))), some (.int (((1 : Int32) <<< (x2 &&& 31)) ||| ((1 : Int32) <<< (x4 &&& 31)))), some (.int v1_7), some (.int v1_8)], [], (I_1, L, tw_P tw dr rt sc, A, J, 57)) (none, (r, L, tw_P tw dr rt sc, A, J, 57)) := by
  intro n
  induction n with
  | zero =>
    intro v1_7 v1_8 I_1 h _
    cases h
  | succ n ih =>
    intro v1_7 v1_8 I_1 h K
    rw [g_X10_run_L1] at h
    refine tw_blk (cd := tw_c246) rfl 1 (c1 := (39, [some (.ref 44), none, some (.int a2), some (.int a3), some (.int a4), some (.int ((80 : Int32) + ((5 : Int32) * a1))), some (.int (((1 : Int32) <<< (x2 &&& 31)) ||| ((1 : Int32) <<< (x4 &&& 31)))), some (.int v1_7), some (.int v1_8)], [.int v1_8], (I_1, L, tw_P tw dr rt sc, A, J, 57))) rfl ?_
    refine tw_blk (cd := tw_c246) rfl 1 (c1 := (40, [some (.ref 44), none, some (.int a2), some (.int a3), some (.int a4), some (.int ((80 : Int32) + ((5 : Int32) * a1))), some (.int (((1 : Int32) <<< (x2 &&& 31)) ||| ((1 : Int32) <<< (x4 &&& 31)))), some (.int v1_7), some (.int v1_8)], [.int 59, .int v1_8], (I_1, L, tw_P tw dr rt sc, A, J, 57))) rfl ?_
    by_cases hc6 : (59 : Int32) < v1_8
    · rw [if_pos hc6] at h
      refine tw_br (cd := tw_c246) rfl rfl rfl (by exact if_pos hc6) ?_
      refine tw_forget (ls2 := [none, none, none, none, none, none, none, none, none]) trivial ?_
      exact K _ h
    · rw [if_neg hc6] at h
      refine tw_br (cd := tw_c246) rfl rfl rfl (by exact if_neg hc6) ?_
      refine tw_blk (cd := tw_c246) rfl 10 (c1 := (51, [some (.ref 44), none, some (.int a2), some (.int a3), some (.int a4), some (.int ((80 : Int32) + ((5 : Int32) * a1))), some (.int (((1 : Int32) <<< (x2 &&& 31)) ||| ((1 : Int32) <<< (x4 &&& 31)))), some (.int v1_7), some (.int v1_8)], [.int v1_8, .int a2, .ref 44, .int (I_1 4428), .ref 44], ((upd I_1 4429 (I_1 4428)), L, tw_P tw dr rt sc, A, J, 57))) rfl ?_
      obtain ⟨x7, hx8, h⟩ := tw_bindE h
      refine tw_callE (cd := tw_c246) rfl rfl rfl rfl rfl (e_X10_watchersOf (upd I_1 4429 (I_1 4428)) L A J tw dr rt sc a2 v1_8 _ hx8) (by exact Or.inl rfl) ?_
      refine tw_blk (cd := tw_c246) rfl 8 (c1 := (60, [some (.ref 44), none, some (.int a2), some (.int a3), some (.int a4), some (.int ((80 : Int32) + ((5 : Int32) * a1))), some (.int (((1 : Int32) <<< (x2 &&& 31)) ||| ((1 : Int32) <<< (x4 &&& 31)))), some (.int v1_7), some (.int v1_8)], [.int a4, .int v1_7], ((upd (upd I_1 4429 (I_1 4428)) 4428 ((I_1 4428) ||| (x7 &&& ((((1 : Int32) <<< (x2 &&& 31)) ||| ((1 : Int32) <<< (x4 &&& 31))) ^^^ (-1 : Int32))))), L, tw_P tw dr rt sc, A, J, 57))) rfl ?_
      obtain ⟨⟨x10, I11⟩, hj12, h⟩ := tw_bindE h
      dsimp only at h
      have K : tw_ME 246 (70, [some (.ref 44), none, some (.int a2), some (.int a3), some (.int a4), some (.int ((80 : Int32) + ((5 : Int32) * a1))), some (.int (((1 : Int32) <<< (x2 &&& 31)) ||| ((1 : Int32) <<< (x4 &&& 31)))), none, some (.int v1_8)], [.int x10, .int v1_7], (I11, L, tw_P tw dr rt sc, A, J, 57)) (none, (r, L, tw_P tw dr rt sc, A, J, 57)) := by
        refine tw_blk (cd := tw_c246) rfl 5 (c1 := (75, [some (.ref 44), none, some (.int a2), some (.int a3), some (.int a4), some (.int ((80 : Int32) + ((5 : Int32) * a1))), some (.int (((1 : Int32) <<< (x2 &&& 31)) ||| ((1 : Int32) <<< (x4 &&& 31)))), some (.int (v1_7 + x10)), some (.int v1_8)], [.int (I11 4428), .ref 44], (I11, L, tw_P tw dr rt sc, A, J, 57))) rfl ?_
        obtain ⟨x17, hx18, h⟩ := tw_bindE h
        refine tw_callE (cd := tw_c246) rfl rfl rfl rfl rfl (e_X10_eyesOf I11 L A J tw dr rt sc (I11 4428) _ hx18) (by exact Or.inl rfl) ?_
        refine tw_blk (cd := tw_c246) rfl 5 (c1 := (81, [some (.ref 44), none, some (.int a2), some (.int a3), some (.int a4), some (.int ((80 : Int32) + ((5 : Int32) * a1))), some (.int (((1 : Int32) <<< (x2 &&& 31)) ||| ((1 : Int32) <<< (x4 &&& 31)))), some (.int (v1_7 + x10)), some (.int v1_8)], [.int 6, .int (x17 + ((2 : Int32) * (v1_7 + x10)))], (I11, L, tw_P tw dr rt sc, A, J, 57))) rfl ?_
        by_cases hc19 : (x17 + ((2 : Int32) * (v1_7 + x10))) < (6 : Int32)
        · rw [if_pos hc19] at h
          refine tw_br (cd := tw_c246) rfl rfl rfl (by exact if_pos hc19) ?_
          refine tw_blk (cd := tw_c246) rfl 8 (c1 := (97, [some (.ref 44), none, some (.int a2), some (.int a3), some (.int a4), some (.int ((80 : Int32) + ((5 : Int32) * a1))), some (.int (((1 : Int32) <<< (x2 &&& 31)) ||| ((1 : Int32) <<< (x4 &&& 31)))), some (.int (v1_7 + x10)), some (.int v1_8)], [.int ((80 : Int32) + ((5 : Int32) * a1)), .ref 47, .ref 53, .int (I11 4427), .ref 44], (I11, L, tw_P tw dr rt sc, A, J, 57))) rfl ?_
          obtain ⟨x21, hx20, h⟩ := tw_bindE h
          refine tw_iald (cd := tw_c246) (N := 241) rfl rfl rfl rfl hx20 ?_
          obtain ⟨x23, hx22, h⟩ := tw_bindE h
          refine tw_iald (cd := tw_c246) (N := 6) rfl rfl rfl rfl hx22 ?_
          refine tw_blk (cd := tw_c246) rfl 7 (c1 := (106, [some (.ref 44), none, some (.int a2), some (.int a3), some (.int a4), some (.int ((80 : Int32) + ((5 : Int32) * a1))), some (.int (((1 : Int32) <<< (x2 &&& 31)) ||| ((1 : Int32) <<< (x4 &&& 31)))), some (.int (v1_7 + x10)), some (.int v1_8)], [.int (((80 : Int32) + ((5 : Int32) * a1)) + (1 : Int32)), .ref 47, .ref 53, .int x23, .int (I11 4427), .ref 44], (I11, L, tw_P tw dr rt sc, A, J, 57))) rfl ?_
          obtain ⟨x25, hx24, h⟩ := tw_bindE h
          refine tw_iald (cd := tw_c246) (N := 241) rfl rfl rfl rfl hx24 ?_
          obtain ⟨x27, hx26, h⟩ := tw_bindE h
          refine tw_iald (cd := tw_c246) (N := 6) rfl rfl rfl rfl hx26 ?_
          refine tw_blk (cd := tw_c246) rfl 10 (c1 := (118, [some (.ref 44), none, some (.int a2), some (.int a3), some (.int a4), some (.int ((80 : Int32) + ((5 : Int32) * a1))), some (.int (((1 : Int32) <<< (x2 &&& 31)) ||| ((1 : Int32) <<< (x4 &&& 31)))), some (.int (v1_7 + x10)), some (.int v1_8)], [.int (((80 : Int32) + ((5 : Int32) * a1)) + (4 : Int32)), .ref 47, .int ((I11 4427) + (x23 - x27))], ((upd I11 4427 ((I11 4427) + (x23 - x27))), L, tw_P tw dr rt sc, A, J, 57))) rfl ?_
          obtain ⟨x29, hx28, h⟩ := tw_bindE h
          refine tw_iald (cd := tw_c246) (N := 241) rfl rfl rfl rfl hx28 ?_
          by_cases hc30 : x29 ≤ ((I11 4427) + (x23 - x27))
          · rw [if_pos hc30] at h
            refine tw_br (cd := tw_c246) rfl rfl rfl (by exact if_pos hc30) ?_
            refine tw_blk (cd := tw_c246) rfl 3 (c1 := (134, [some (.ref 44), none, some (.int a2), some (.int a3), some (.int a4), some (.int ((80 : Int32) + ((5 : Int32) * a1))), some (.int (((1 : Int32) <<< (x2 &&& 31)) ||| ((1 : Int32) <<< (x4 &&& 31)))), some (.int (v1_7 + x10)), some (.int v1_8)], [.int ((I11 4427) + (x23 - x27)), .ref 44], ((upd I11 4427 ((I11 4427) + (x23 - x27))), L, tw_P tw dr rt sc, A, J, 57))) rfl ?_
            obtain ⟨x32, hj33, h⟩ := tw_bindE h
            have K : tw_ME 246 (138, [some (.ref 44), none, none, none, none, none, none, none, some (.int v1_8)], [.int x32, .ref 44], ((upd I11 4427 ((I11 4427) + (x23 - x27))), L, tw_P tw dr rt sc, A, J, 57)) (none, (r, L, tw_P tw dr rt sc, A, J, 57)) := by
              refine tw_blk (cd := tw_c246) rfl 4 (c1 := (142, [some (.ref 44), none, none, none, none, none, none, none, some (.int v1_8)], [], ((upd (upd (upd I11 4427 ((I11 4427) + (x23 - x27))) 4425 x32) 4426 v1_8), L, tw_P tw dr rt sc, A, J, 57))) rfl ?_
              have h := Option.some.inj h
              subst h
              exact tw_retE (cd := tw_c246) rfl rfl rfl rfl
            by_cases hc31 : ((I11 4427) + (x23 - x27)) ≤ 0
            · rw [if_pos hc31] at hj33
              refine tw_br (cd := tw_c246) rfl rfl rfl (by exact if_pos hc31) ?_
              refine tw_blk (cd := tw_c246) rfl 1 (c1 := (138, [some (.ref 44), none, some (.int a2), some (.int a3), some (.int a4), some (.int ((80 : Int32) + ((5 : Int32) * a1))), some (.int (((1 : Int32) <<< (x2 &&& 31)) ||| ((1 : Int32) <<< (x4 &&& 31)))), some (.int (v1_7 + x10)), some (.int v1_8)], [.int 2, .ref 44], ((upd I11 4427 ((I11 4427) + (x23 - x27))), L, tw_P tw dr rt sc, A, J, 57))) rfl ?_
              refine tw_forget (ls2 := [some (.ref 44), none, none, none, none, none, none, none, some (.int v1_8)]) ⟨rfl, rfl, trivial⟩ ?_
              have hj33s := Option.some.inj hj33
              subst hj33s
              exact K
            · rw [if_neg hc31] at hj33
              refine tw_br (cd := tw_c246) rfl rfl rfl (by exact if_neg hc31) ?_
              refine tw_blk (cd := tw_c246) rfl 2 (c1 := (138, [some (.ref 44), none, some (.int a2), some (.int a3), some (.int a4), some (.int ((80 : Int32) + ((5 : Int32) * a1))), some (.int (((1 : Int32) <<< (x2 &&& 31)) ||| ((1 : Int32) <<< (x4 &&& 31)))), some (.int (v1_7 + x10)), some (.int v1_8)], [.int 1, .ref 44], ((upd I11 4427 ((I11 4427) + (x23 - x27))), L, tw_P tw dr rt sc, A, J, 57))) rfl ?_
              refine tw_forget (ls2 := [some (.ref 44), none, none, none, none, none, none, none, some (.int v1_8)]) ⟨rfl, rfl, trivial⟩ ?_
              have hj33s := Option.some.inj hj33
              subst hj33s
              exact K
          · rw [if_neg hc30] at h
            refine tw_br (cd := tw_c246) rfl rfl rfl (by exact if_neg hc30) ?_
            refine tw_blk (cd := tw_c246) rfl 8 (c1 := (128, [some (.ref 44), none, some (.int a2), some (.int a3), some (.int a4), some (.int ((80 : Int32) + ((5 : Int32) * a1))), some (.int (((1 : Int32) <<< (x2 &&& 31)) ||| ((1 : Int32) <<< (x4 &&& 31)))), some (.int (v1_7 + x10)), some (.int v1_8)], [.int (((80 : Int32) + ((5 : Int32) * a1)) + (4 : Int32)), .ref 47, .int (-((I11 4427) + (x23 - x27)))], ((upd I11 4427 ((I11 4427) + (x23 - x27))), L, tw_P tw dr rt sc, A, J, 57))) rfl ?_
            obtain ⟨x35, hx34, h⟩ := tw_bindE h
            refine tw_iald (cd := tw_c246) (N := 241) rfl rfl rfl rfl hx34 ?_
            by_cases hc36 : x35 ≤ (-((I11 4427) + (x23 - x27)))
            · rw [if_pos hc36] at h
              refine tw_br (cd := tw_c246) rfl rfl rfl (by exact if_pos hc36) ?_
              refine tw_blk (cd := tw_c246) rfl 3 (c1 := (134, [some (.ref 44), none, some (.int a2), some (.int a3), some (.int a4), some (.int ((80 : Int32) + ((5 : Int32) * a1))), some (.int (((1 : Int32) <<< (x2 &&& 31)) ||| ((1 : Int32) <<< (x4 &&& 31)))), some (.int (v1_7 + x10)), some (.int v1_8)], [.int ((I11 4427) + (x23 - x27)), .ref 44], ((upd I11 4427 ((I11 4427) + (x23 - x27))), L, tw_P tw dr rt sc, A, J, 57))) rfl ?_
              obtain ⟨x38, hj39, h⟩ := tw_bindE h
              have K : tw_ME 246 (138, [some (.ref 44), none, none, none, none, none, none, none, some (.int v1_8)], [.int x38, .ref 44], ((upd I11 4427 ((I11 4427) + (x23 - x27))), L, tw_P tw dr rt sc, A, J, 57)) (none, (r, L, tw_P tw dr rt sc, A, J, 57)) := by
                refine tw_blk (cd := tw_c246) rfl 4 (c1 := (142, [some (.ref 44), none, none, none, none, none, none, none, some (.int v1_8)], [], ((upd (upd (upd I11 4427 ((I11 4427) + (x23 - x27))) 4425 x38) 4426 v1_8), L, tw_P tw dr rt sc, A, J, 57))) rfl ?_
                have h := Option.some.inj h
                subst h
                exact tw_retE (cd := tw_c246) rfl rfl rfl rfl
              by_cases hc37 : ((I11 4427) + (x23 - x27)) ≤ 0
              · rw [if_pos hc37] at hj39
                refine tw_br (cd := tw_c246) rfl rfl rfl (by exact if_pos hc37) ?_
                refine tw_blk (cd := tw_c246) rfl 1 (c1 := (138, [some (.ref 44), none, some (.int a2), some (.int a3), some (.int a4), some (.int ((80 : Int32) + ((5 : Int32) * a1))), some (.int (((1 : Int32) <<< (x2 &&& 31)) ||| ((1 : Int32) <<< (x4 &&& 31)))), some (.int (v1_7 + x10)), some (.int v1_8)], [.int 2, .ref 44], ((upd I11 4427 ((I11 4427) + (x23 - x27))), L, tw_P tw dr rt sc, A, J, 57))) rfl ?_
                refine tw_forget (ls2 := [some (.ref 44), none, none, none, none, none, none, none, some (.int v1_8)]) ⟨rfl, rfl, trivial⟩ ?_
                have hj39s := Option.some.inj hj39
                subst hj39s
                exact K
              · rw [if_neg hc37] at hj39
                refine tw_br (cd := tw_c246) rfl rfl rfl (by exact if_neg hc37) ?_
                refine tw_blk (cd := tw_c246) rfl 2 (c1 := (138, [some (.ref 44), none, some (.int a2), some (.int a3), some (.int a4), some (.int ((80 : Int32) + ((5 : Int32) * a1))), some (.int (((1 : Int32) <<< (x2 &&& 31)) ||| ((1 : Int32) <<< (x4 &&& 31)))), some (.int (v1_7 + x10)), some (.int v1_8)], [.int 1, .ref 44], ((upd I11 4427 ((I11 4427) + (x23 - x27))), L, tw_P tw dr rt sc, A, J, 57))) rfl ?_
                refine tw_forget (ls2 := [some (.ref 44), none, none, none, none, none, none, none, some (.int v1_8)]) ⟨rfl, rfl, trivial⟩ ?_
                have hj39s := Option.some.inj hj39
                subst hj39s
                exact K
            · rw [if_neg hc36] at h
              refine tw_br (cd := tw_c246) rfl rfl rfl (by exact if_neg hc36) ?_
              refine tw_blk (cd := tw_c246) rfl 1 (c1 := (143, [some (.ref 44), none, some (.int a2), some (.int a3), some (.int a4), some (.int ((80 : Int32) + ((5 : Int32) * a1))), some (.int (((1 : Int32) <<< (x2 &&& 31)) ||| ((1 : Int32) <<< (x4 &&& 31)))), some (.int (v1_7 + x10)), some (.int v1_8)], [], ((upd I11 4427 ((I11 4427) + (x23 - x27))), L, tw_P tw dr rt sc, A, J, 57))) rfl ?_
              refine tw_blk (cd := tw_c246) rfl 2 (c1 := (38, [some (.ref 44), none, some (.int a2), some (.int a3), some (.int a4), some (.int ((80 : Int32) + ((5 : Int32) * a1))), some (.int (((1 : Int32) <<< (x2 &&& 31)) ||| ((1 : Int32) <<< (x4 &&& 31)))), some (.int (v1_7 + x10)), some (.int (v1_8 + (1 : Int32)))], [], ((upd I11 4427 ((I11 4427) + (x23 - x27))), L, tw_P tw dr rt sc, A, J, 57))) rfl ?_
              exact ih (v1_7 + x10) (v1_8 + (1 : Int32)) (upd I11 4427 ((I11 4427) + (x23 - x27))) h K
        · rw [if_neg hc19] at h
          refine tw_br (cd := tw_c246) rfl rfl rfl (by exact if_neg hc19) ?_
          refine tw_blk (cd := tw_c246) rfl 6 (c1 := (88, [some (.ref 44), none, some (.int a2), some (.int a3), some (.int a4), some (.int ((80 : Int32) + ((5 : Int32) * a1))), some (.int (((1 : Int32) <<< (x2 &&& 31)) ||| ((1 : Int32) <<< (x4 &&& 31)))), some (.int (v1_7 + x10)), some (.int v1_8)], [], ((upd (upd I11 4425 (0 : Int32)) 4426 v1_8), L, tw_P tw dr rt sc, A, J, 57))) rfl ?_
          have h := Option.some.inj h
          subst h
          exact tw_retE (cd := tw_c246) rfl rfl rfl rfl
      by_cases hc9 : a4 = 0
      · rw [if_pos hc9] at hj12
        refine tw_br (cd := tw_c246) rfl rfl rfl (by exact if_pos hc9) ?_
        refine tw_blk (cd := tw_c246) rfl 1 (c1 := (70, [some (.ref 44), none, some (.int a2), some (.int a3), some (.int a4), some (.int ((80 : Int32) + ((5 : Int32) * a1))), some (.int (((1 : Int32) <<< (x2 &&& 31)) ||| ((1 : Int32) <<< (x4 &&& 31)))), some (.int v1_7), some (.int v1_8)], [.int 0, .int v1_7], ((upd (upd I_1 4429 (I_1 4428)) 4428 ((I_1 4428) ||| (x7 &&& ((((1 : Int32) <<< (x2 &&& 31)) ||| ((1 : Int32) <<< (x4 &&& 31))) ^^^ (-1 : Int32))))), L, tw_P tw dr rt sc, A, J, 57))) rfl ?_
        refine tw_forget (ls2 := [some (.ref 44), none, some (.int a2), some (.int a3), some (.int a4), some (.int ((80 : Int32) + ((5 : Int32) * a1))), some (.int (((1 : Int32) <<< (x2 &&& 31)) ||| ((1 : Int32) <<< (x4 &&& 31)))), none, some (.int v1_8)]) ⟨rfl, rfl, rfl, rfl, rfl, rfl, rfl, trivial⟩ ?_
        have hj12s := Option.some.inj hj12
        obtain ⟨hj12_0, hj12r0⟩ := Prod.mk.inj hj12s
        subst hj12_0
        subst hj12r0
        exact K
      · rw [if_neg hc9] at hj12
        refine tw_br (cd := tw_c246) rfl rfl rfl (by exact if_neg hc9) ?_
        refine tw_blk (cd := tw_c246) rfl 4 (c1 := (65, [some (.ref 44), none, some (.int a2), some (.int a3), some (.int a4), some (.int ((80 : Int32) + ((5 : Int32) * a1))), some (.int (((1 : Int32) <<< (x2 &&& 31)) ||| ((1 : Int32) <<< (x4 &&& 31)))), some (.int v1_7), some (.int v1_8)], [.int (v1_8 - a3), .ref 44, .int v1_7], ((upd (upd I_1 4429 (I_1 4428)) 4428 ((I_1 4428) ||| (x7 &&& ((((1 : Int32) <<< (x2 &&& 31)) ||| ((1 : Int32) <<< (x4 &&& 31))) ^^^ (-1 : Int32))))), L, tw_P tw dr rt sc, A, J, 57))) rfl ?_
        obtain ⟨⟨c13, I14⟩, hx15, hj12⟩ := tw_bindE hj12
        dsimp only at hj12
        refine tw_callE (cd := tw_c246) rfl rfl rfl rfl rfl (e_X10_comesBoy (upd (upd I_1 4429 (I_1 4428)) 4428 ((I_1 4428) ||| (x7 &&& ((((1 : Int32) <<< (x2 &&& 31)) ||| ((1 : Int32) <<< (x4 &&& 31))) ^^^ (-1 : Int32))))) L A J tw dr rt sc (v1_8 - a3) _ hx15) (by exact Or.inl rfl) ?_
        by_cases hc16 : c13 = true
        · rw [if_pos hc16] at hj12
          refine tw_br (cd := tw_c246) rfl rfl rfl (by exact if_neg (tw_b_t hc16)) ?_
          refine tw_blk (cd := tw_c246) rfl 2 (c1 := (70, [some (.ref 44), none, some (.int a2), some (.int a3), some (.int a4), some (.int ((80 : Int32) + ((5 : Int32) * a1))), some (.int (((1 : Int32) <<< (x2 &&& 31)) ||| ((1 : Int32) <<< (x4 &&& 31)))), some (.int v1_7), some (.int v1_8)], [.int 1, .int v1_7], (I14, L, tw_P tw dr rt sc, A, J, 57))) rfl ?_
          refine tw_forget (ls2 := [some (.ref 44), none, some (.int a2), some (.int a3), some (.int a4), some (.int ((80 : Int32) + ((5 : Int32) * a1))), some (.int (((1 : Int32) <<< (x2 &&& 31)) ||| ((1 : Int32) <<< (x4 &&& 31)))), none, some (.int v1_8)]) ⟨rfl, rfl, rfl, rfl, rfl, rfl, rfl, trivial⟩ ?_
          have hj12s := Option.some.inj hj12
          obtain ⟨hj12_0, hj12r0⟩ := Prod.mk.inj hj12s
          subst hj12_0
          subst hj12r0
          exact K
        · rw [if_neg hc16] at hj12
          refine tw_br (cd := tw_c246) rfl rfl rfl (by exact if_pos (tw_b_f hc16)) ?_
          refine tw_blk (cd := tw_c246) rfl 1 (c1 := (70, [some (.ref 44), none, some (.int a2), some (.int a3), some (.int a4), some (.int ((80 : Int32) + ((5 : Int32) * a1))), some (.int (((1 : Int32) <<< (x2 &&& 31)) ||| ((1 : Int32) <<< (x4 &&& 31)))), some (.int v1_7), some (.int v1_8)], [.int 0, .int v1_7], (I14, L, tw_P tw dr rt sc, A, J, 57))) rfl ?_
          refine tw_forget (ls2 := [some (.ref 44), none, some (.int a2), some (.int a3), some (.int a4), some (.int ((80 : Int32) + ((5 : Int32) * a1))), some (.int (((1 : Int32) <<< (x2 &&& 31)) ||| ((1 : Int32) <<< (x4 &&& 31)))), none, some (.int v1_8)]) ⟨rfl, rfl, rfl, rfl, rfl, rfl, rfl, trivial⟩ ?_
          have hj12s := Option.some.inj hj12
          obtain ⟨hj12_0, hj12r0⟩ := Prod.mk.inj hj12s
          subst hj12_0
          subst hj12r0
          exact K
theorem e_X10_run (I : Nat → Int32) (L : Nat → Int64) (A : Nat → Nat → Int32) (J : Nat → Nat → Int64) (tw dr : Nat) (rt : Nat) (sc : Nat) (a1 : Int32) (a2 : Int32) (a3 : Int32) (a4 : Int32) : ∀ r : Nat → Int32, g_X10_run I A a1 a2 a3 a4 = some r → tw_ME 246 (0, [some (.ref 44), some (.int a1), some (.int a2), some (.int a3), some (.int a4), none, none, none, none], [], (I, L, tw_P tw dr rt sc, A, J, 57)) (none, (r, L, tw_P tw dr rt sc, A, J, 57)) := by
  intro r h
  unfold g_X10_run at h
  refine tw_blk (cd := tw_c246) rfl 10 (c1 := (10, [some (.ref 44), some (.int a1), some (.int a2), some (.int a3), some (.int a4), some (.int ((80 : Int32) + ((5 : Int32) * a1))), none, none, none], [.int ((80 : Int32) + ((5 : Int32) * a1)), .ref 47, .int 1], (I, L, tw_P tw dr rt sc, A, J, 57))) rfl ?_
  obtain ⟨x2, hx1, h⟩ := tw_bindE h
  refine tw_iald (cd := tw_c246) (N := 241) rfl rfl rfl rfl hx1 ?_
  refine tw_blk (cd := tw_c246) rfl 7 (c1 := (18, [some (.ref 44), some (.int a1), some (.int a2), some (.int a3), some (.int a4), some (.int ((80 : Int32) + ((5 : Int32) * a1))), none, none, none], [.int (((80 : Int32) + ((5 : Int32) * a1)) + (1 : Int32)), .ref 47, .int 1, .int ((1 : Int32) <<< (x2 &&& 31))], (I, L, tw_P tw dr rt sc, A, J, 57))) rfl ?_
  obtain ⟨x4, hx3, h⟩ := tw_bindE h
  refine tw_iald (cd := tw_c246) (N := 241) rfl rfl rfl rfl hx3 ?_
  refine tw_blk (cd := tw_c246) rfl 19 (c1 := (38, [some (.ref 44), some (.int a1), some (.int a2), some (.int a3), some (.int a4), some (.int ((80 : Int32) + ((5 : Int32) * a1))), some (.int (((1 : Int32) <<< (x2 &&& 31)) ||| ((1 : Int32) <<< (x4 &&& 31)))), some (.int 0), some (.int a3)], [], ((upd (upd (upd (upd I 4425 (-2 : Int32)) 4426 (-2 : Int32)) 4427 (0 : Int32)) 4428 (0 : Int32)), L, tw_P tw dr rt sc, A, J, 57))) rfl ?_
  refine tw_forget (ls2 := [some (.ref 44), none, some (.int a2), some (.int a3), some (.int a4), some (.int ((80 : Int32) + ((5 : Int32) * a1))), some (.int (((1 : Int32) <<< (x2 &&& 31)) ||| ((1 : Int32) <<< (x4 &&& 31)))), some (.int 0), some (.int a3)]) ⟨rfl, rfl, rfl, rfl, rfl, rfl, rfl, rfl, trivial⟩ ?_
  refine g_X10_run_L1_ok I L A J tw dr rt sc a1 a2 a3 a4 x2 x4 _ r 4096 (0 : Int32) a3 (upd (upd (upd (upd I 4425 (-2 : Int32)) 4426 (-2 : Int32)) 4427 (0 : Int32)) 4428 (0 : Int32)) h (fun ex h => ?_)
  obtain ⟨I5, rfl⟩ : ∃ z, z = ex := ⟨ex, rfl⟩
  have h := Option.some.inj h
  subst h
  exact tw_retE (cd := tw_c246) rfl rfl rfl rfl
theorem e_X10_runTold (I : Nat → Int32) (L : Nat → Int64) (A : Nat → Nat → Int32) (J : Nat → Nat → Int64) (tw dr : Nat) (rt : Nat) (sc : Nat) (a1 : Int32) : ∀ r : Nat → Int32, g_X10_runTold I A a1 = some r → tw_ME 247 (0, [some (.ref 44), some (.int a1)], [], (I, L, tw_P tw dr rt sc, A, J, 57)) (none, (r, L, tw_P tw dr rt sc, A, J, 57)) := by
  intro r h
  unfold g_X10_runTold at h
  refine tw_blk (cd := tw_c247) rfl 11 (c1 := (11, [some (.ref 44), some (.int a1)], [.int (((80 : Int32) + ((5 : Int32) * a1)) + (2 : Int32)), .ref 47, .int a1, .ref 44], (I, L, tw_P tw dr rt sc, A, J, 57))) rfl ?_
  obtain ⟨x2, hx1, h⟩ := tw_bindE h
  refine tw_iald (cd := tw_c247) (N := 241) rfl rfl rfl rfl hx1 ?_
  refine tw_blk (cd := tw_c247) rfl 9 (c1 := (21, [some (.ref 44), some (.int a1)], [.int (((80 : Int32) + ((5 : Int32) * a1)) + (3 : Int32)), .ref 47, .int x2, .int a1, .ref 44], (I, L, tw_P tw dr rt sc, A, J, 57))) rfl ?_
  obtain ⟨x4, hx3, h⟩ := tw_bindE h
  refine tw_iald (cd := tw_c247) (N := 241) rfl rfl rfl rfl hx3 ?_
  refine tw_blk (cd := tw_c247) rfl 1 (c1 := (23, [some (.ref 44), some (.int a1)], [.int 0, .int x4, .int x2, .int a1, .ref 44], (I, L, tw_P tw dr rt sc, A, J, 57))) rfl ?_
  obtain ⟨I5, hx6, h⟩ := tw_bindE h
  refine tw_callE (cd := tw_c247) rfl rfl rfl rfl rfl (e_X10_run I L A J tw dr rt sc a1 x2 x4 (0 : Int32) _ hx6) (by exact Or.inl rfl) ?_
  have h := Option.some.inj h
  subst h
  exact tw_retE (cd := tw_c247) rfl rfl rfl rfl
theorem e_X10_goOver (I : Nat → Int32) (L : Nat → Int64) (A : Nat → Nat → Int32) (J : Nat → Nat → Int64) (tw dr : Nat) (rt : Nat) (sc : Nat) (a1 : Int32) : ∀ r : (Bool × (Nat → Int32) × (Nat → Nat → Int32)), g_X10_goOver I A a1 = some r → tw_ME 261 (0, [some (.ref 44), some (.int a1)], [], (I, L, tw_P tw dr rt sc, A, J, 57)) (some (.int (tw_b r.1)), ((r.2.1), L, tw_P tw dr rt sc, (r.2.2), J, 57)) := by
  intro r h
  unfold g_X10_goOver at h
  refine tw_blk (cd := tw_c261) rfl 2 (c1 := (2, [some (.ref 44), some (.int a1)], [.int a1, .ref 44], (I, L, tw_P tw dr rt sc, A, J, 57))) rfl ?_
  obtain ⟨c1, hx2, h⟩ := tw_bindE h
  refine tw_callE (cd := tw_c261) rfl rfl rfl rfl rfl (e_X10_isQuarrel I L A J tw dr rt sc a1 _ hx2) (by exact Or.inl rfl) ?_
  by_cases hc3 : c1 = true
  · rw [if_pos hc3] at h
    refine tw_br (cd := tw_c261) rfl rfl rfl (by exact if_neg (tw_b_t hc3)) ?_
    refine tw_blk (cd := tw_c261) rfl 1 (c1 := (7, [some (.ref 44), some (.int a1)], [.ref 44], (I, L, tw_P tw dr rt sc, A, J, 57))) rfl ?_
    obtain ⟨A4, hx5, h⟩ := tw_bindE h
    refine tw_callE (cd := tw_c261) rfl rfl rfl rfl rfl (e_X10_asNow I L A J tw dr rt sc _ hx5) (by exact Or.inl rfl) ?_
    refine tw_blk (cd := tw_c261) rfl 2 (c1 := (10, [some (.ref 44), some (.int a1)], [.int a1, .ref 44], (I, L, tw_P tw dr rt sc, A4, J, 57))) rfl ?_
    obtain ⟨I6, hx7, h⟩ := tw_bindE h
    refine tw_callE (cd := tw_c261) rfl rfl rfl rfl rfl (e_X10_runTold I L A4 J tw dr rt sc a1 _ hx7) (by exact Or.inl rfl) ?_
    refine tw_blk (cd := tw_c261) rfl 1 (c1 := (12, [some (.ref 44), some (.int a1)], [.int 1], (I6, L, tw_P tw dr rt sc, A4, J, 57))) rfl ?_
    have h := Option.some.inj h
    subst h
    exact tw_retZ (cd := tw_c261) (b := true) rfl rfl rfl rfl
  · rw [if_neg hc3] at h
    refine tw_br (cd := tw_c261) rfl rfl rfl (by exact if_pos (tw_b_f hc3)) ?_
    refine tw_blk (cd := tw_c261) rfl 1 (c1 := (5, [some (.ref 44), some (.int a1)], [.int 0], (I, L, tw_P tw dr rt sc, A, J, 57))) rfl ?_
    have h := Option.some.inj h
    subst h
    exact tw_retZ (cd := tw_c261) (b := false) rfl rfl rfl rfl
theorem e_X10_ends (I : Nat → Int32) (L : Nat → Int64) (A : Nat → Nat → Int32) (J : Nat → Nat → Int64) (tw dr : Nat) (rt : Nat) (sc : Nat) (a1 : Int32) : ∀ r : (Int32 × (Nat → Int32) × (Nat → Nat → Int32)), g_X10_ends I A a1 = some r → tw_ME 262 (0, [some (.ref 44), some (.int a1)], [], (I, L, tw_P tw dr rt sc, A, J, 57)) (some (.int r.1), ((r.2.1), L, tw_P tw dr rt sc, (r.2.2), J, 57)) := by
  intro r h
  unfold g_X10_ends at h
  refine tw_blk (cd := tw_c262) rfl 1 (c1 := (1, [some (.ref 44), some (.int a1)], [.ref 44], (I, L, tw_P tw dr rt sc, A, J, 57))) rfl ?_
  obtain ⟨I1, hx2, h⟩ := tw_letE h
  refine tw_callE (cd := tw_c262) rfl rfl rfl rfl rfl (e_X10_good I L A J tw dr rt sc _ hx2) (by exact Or.inl rfl) ?_
  refine tw_blk (cd := tw_c262) rfl 2 (c1 := (4, [some (.ref 44), some (.int a1)], [.int a1, .ref 44], (I1, L, tw_P tw dr rt sc, A, J, 57))) rfl ?_
  obtain ⟨⟨c3, I4, A5⟩, hx6, h⟩ := tw_bindE h
  dsimp only at h
  refine tw_callE (cd := tw_c262) rfl rfl rfl rfl rfl (e_X10_goOver I1 L A J tw dr rt sc a1 _ hx6) (by exact Or.inl rfl) ?_
  by_cases hc7 : c3 = true
  · rw [if_pos hc7] at h
    refine tw_br (cd := tw_c262) rfl rfl rfl (by exact if_neg (tw_b_t hc7)) ?_
    refine tw_blk (cd := tw_c262) rfl 3 (c1 := (12, [some (.ref 44), some (.int a1)], [.int (I4 4425)], (I4, L, tw_P tw dr rt sc, A5, J, 57))) rfl ?_
    have h := Option.some.inj h
    subst h
    exact tw_retE (cd := tw_c262) rfl rfl rfl rfl
  · rw [if_neg hc7] at h
    refine tw_br (cd := tw_c262) rfl rfl rfl (by exact if_pos (tw_b_f hc7)) ?_
    refine tw_blk (cd := tw_c262) rfl 2 (c1 := (11, [some (.ref 44), some (.int a1)], [.int 1, .ref 44], (I4, L, tw_P tw dr rt sc, A5, J, 57))) rfl ?_
    obtain ⟨⟨x8, I9⟩, hx10, h⟩ := tw_letE h
    dsimp only at h
    refine tw_callE (cd := tw_c262) rfl rfl rfl rfl rfl (e_X10_no I4 L A5 J tw dr rt sc (1 : Int32) _ hx10) (by exact Or.inl rfl) ?_
    have h := Option.some.inj h
    subst h
    exact tw_retE (cd := tw_c262) rfl rfl rfl rfl
theorem e_X9_endsAt (I : Nat → Int32) (L : Nat → Int64) (A : Nat → Nat → Int32) (J : Nat → Nat → Int64) (rt : Nat) (sc : Nat) (a1 : Int32) : ∀ r : (Int32 × (Nat → Int32) × (Nat → Nat → Int32) × Nat), g_X9_endsAt I A sc a1 = some r → tw_ME 127 (0, [some (.ref 0), some (.int a1)], [], (I, L, tw_P 2 14 rt sc, A, J, 57)) (some (.int r.1), ((r.2.1), L, tw_P 2 14 rt (r.2.2.2), (r.2.2.1), J, 57)) := by
  intro r h
  unfold g_X9_endsAt at h
  refine tw_blk (cd := tw_c127) rfl 2 (c1 := (2, [some (.ref 0), some (.int a1)], [.int a1, .ref 0], (I, L, tw_P 2 14 rt sc, A, J, 57))) rfl ?_
  obtain ⟨⟨c1, I2, A3⟩, hx4, h⟩ := tw_bindE h
  dsimp only at h
  refine tw_callE (cd := tw_c127) rfl rfl rfl rfl rfl (e_X9_runsNow I L A J rt sc a1 _ hx4) (by exact Or.inl rfl) ?_
  by_cases hc5 : c1 = true
  · subst hc5
    rw [if_pos rfl] at h
    refine tw_br (cd := tw_c127) rfl rfl rfl (by exact rfl) ?_
    refine tw_blk (cd := tw_c127) rfl 4 (c1 := (8, [some (.ref 0), some (.int a1)], [.int (I2 3903), .ref 0], (I2, L, tw_P 2 14 rt 2, A3, J, 57))) rfl ?_
    obtain ⟨⟨x6, I7⟩, hx8, h⟩ := tw_letE h
    dsimp only at h
    refine tw_callE (cd := tw_c127) rfl rfl rfl rfl rfl (e_X9_grant I2 L A3 J 2 14 rt 2 (I2 3903) _ hx8) (by exact Or.inl rfl) ?_
    refine tw_blk (cd := tw_c127) rfl 1 (c1 := (11, [some (.ref 0), some (.int a1)], [.int x6], (I7, L, tw_P 2 14 rt 2, A3, J, 57))) rfl ?_
    have h := Option.some.inj h
    subst h
    exact tw_retE (cd := tw_c127) rfl rfl rfl rfl
  · have hc5 := Bool.eq_false_iff.mpr hc5
    subst hc5
    rw [if_neg (by decide)] at h
    refine tw_br (cd := tw_c127) rfl rfl rfl (by exact rfl) ?_
    refine tw_blk (cd := tw_c127) rfl 1 (c1 := (11, [some (.ref 0), some (.int a1)], [.int (-1)], (I2, L, tw_P 2 14 rt sc, A3, J, 57))) rfl ?_
    have h := Option.some.inj h
    subst h
    exact tw_retE (cd := tw_c127) rfl rfl rfl rfl
theorem e_X10_endsAt (I : Nat → Int32) (L : Nat → Int64) (A : Nat → Nat → Int32) (J : Nat → Nat → Int64) (tw dr : Nat) (rt : Nat) (sc : Nat) (a1 : Int32) : ∀ r : (Int32 × (Nat → Int32) × (Nat → Nat → Int32)), g_X10_endsAt I A a1 = some r → tw_ME 263 (0, [some (.ref 44), some (.int a1)], [], (I, L, tw_P tw dr rt sc, A, J, 57)) (some (.int r.1), ((r.2.1), L, tw_P tw dr rt sc, (r.2.2), J, 57)) := by
  intro r h
  unfold g_X10_endsAt at h
  refine tw_blk (cd := tw_c263) rfl 1 (c1 := (1, [some (.ref 44), some (.int a1)], [.ref 44], (I, L, tw_P tw dr rt sc, A, J, 57))) rfl ?_
  obtain ⟨I1, hx2, h⟩ := tw_letE h
  refine tw_callE (cd := tw_c263) rfl rfl rfl rfl rfl (e_X10_good I L A J tw dr rt sc _ hx2) (by exact Or.inl rfl) ?_
  refine tw_blk (cd := tw_c263) rfl 2 (c1 := (4, [some (.ref 44), some (.int a1)], [.int a1, .ref 44], (I1, L, tw_P tw dr rt sc, A, J, 57))) rfl ?_
  obtain ⟨⟨c3, I4, A5⟩, hx6, h⟩ := tw_bindE h
  dsimp only at h
  refine tw_callE (cd := tw_c263) rfl rfl rfl rfl rfl (e_X10_goOver I1 L A J tw dr rt sc a1 _ hx6) (by exact Or.inl rfl) ?_
  by_cases hc7 : c3 = true
  · rw [if_pos hc7] at h
    refine tw_br (cd := tw_c263) rfl rfl rfl (by exact if_neg (tw_b_t hc7)) ?_
    refine tw_blk (cd := tw_c263) rfl 3 (c1 := (12, [some (.ref 44), some (.int a1)], [.int (I4 4426)], (I4, L, tw_P tw dr rt sc, A5, J, 57))) rfl ?_
    have h := Option.some.inj h
    subst h
    exact tw_retE (cd := tw_c263) rfl rfl rfl rfl
  · rw [if_neg hc7] at h
    refine tw_br (cd := tw_c263) rfl rfl rfl (by exact if_pos (tw_b_f hc7)) ?_
    refine tw_blk (cd := tw_c263) rfl 2 (c1 := (11, [some (.ref 44), some (.int a1)], [.int 1, .ref 44], (I4, L, tw_P tw dr rt sc, A5, J, 57))) rfl ?_
    obtain ⟨⟨x8, I9⟩, hx10, h⟩ := tw_letE h
    dsimp only at h
    refine tw_callE (cd := tw_c263) rfl rfl rfl rfl rfl (e_X10_no I4 L A5 J tw dr rt sc (1 : Int32) _ hx10) (by exact Or.inl rfl) ?_
    have h := Option.some.inj h
    subst h
    exact tw_retE (cd := tw_c263) rfl rfl rfl rfl
theorem e_X9_lead (I : Nat → Int32) (L : Nat → Int64) (A : Nat → Nat → Int32) (J : Nat → Nat → Int64) (rt : Nat) (sc : Nat) (a1 : Int32) : ∀ r : (Int32 × (Nat → Int32) × (Nat → Nat → Int32) × Nat), g_X9_lead I A sc a1 = some r → tw_ME 128 (0, [some (.ref 0), some (.int a1)], [], (I, L, tw_P 2 14 rt sc, A, J, 57)) (some (.int r.1), ((r.2.1), L, tw_P 2 14 rt (r.2.2.2), (r.2.2.1), J, 57)) := by
  intro r h
  unfold g_X9_lead at h
  refine tw_blk (cd := tw_c128) rfl 2 (c1 := (2, [some (.ref 0), some (.int a1)], [.int a1, .ref 0], (I, L, tw_P 2 14 rt sc, A, J, 57))) rfl ?_
  obtain ⟨⟨c1, I2, A3⟩, hx4, h⟩ := tw_bindE h
  dsimp only at h
  refine tw_callE (cd := tw_c128) rfl rfl rfl rfl rfl (e_X9_runsNow I L A J rt sc a1 _ hx4) (by exact Or.inl rfl) ?_
  by_cases hc5 : c1 = true
  · subst hc5
    rw [if_pos rfl] at h
    refine tw_br (cd := tw_c128) rfl rfl rfl (by exact rfl) ?_
    refine tw_blk (cd := tw_c128) rfl 6 (c1 := (10, [some (.ref 0), some (.int a1)], [.int ((I2 3904) + (1000 : Int32)), .ref 0], (I2, L, tw_P 2 14 rt 2, A3, J, 57))) rfl ?_
    obtain ⟨⟨x6, I7⟩, hx8, h⟩ := tw_letE h
    dsimp only at h
    refine tw_callE (cd := tw_c128) rfl rfl rfl rfl rfl (e_X9_grant I2 L A3 J 2 14 rt 2 ((I2 3904) + (1000 : Int32)) _ hx8) (by exact Or.inl rfl) ?_
    refine tw_blk (cd := tw_c128) rfl 1 (c1 := (13, [some (.ref 0), some (.int a1)], [.int x6], (I7, L, tw_P 2 14 rt 2, A3, J, 57))) rfl ?_
    have h := Option.some.inj h
    subst h
    exact tw_retE (cd := tw_c128) rfl rfl rfl rfl
  · have hc5 := Bool.eq_false_iff.mpr hc5
    subst hc5
    rw [if_neg (by decide)] at h
    refine tw_br (cd := tw_c128) rfl rfl rfl (by exact rfl) ?_
    refine tw_blk (cd := tw_c128) rfl 1 (c1 := (13, [some (.ref 0), some (.int a1)], [.int (-1)], (I2, L, tw_P 2 14 rt sc, A3, J, 57))) rfl ?_
    have h := Option.some.inj h
    subst h
    exact tw_retE (cd := tw_c128) rfl rfl rfl rfl
theorem e_X10_lead (I : Nat → Int32) (L : Nat → Int64) (A : Nat → Nat → Int32) (J : Nat → Nat → Int64) (tw dr : Nat) (rt : Nat) (sc : Nat) (a1 : Int32) : ∀ r : (Int32 × (Nat → Int32) × (Nat → Nat → Int32)), g_X10_lead I A a1 = some r → tw_ME 264 (0, [some (.ref 44), some (.int a1)], [], (I, L, tw_P tw dr rt sc, A, J, 57)) (some (.int r.1), ((r.2.1), L, tw_P tw dr rt sc, (r.2.2), J, 57)) := by
  intro r h
  unfold g_X10_lead at h
  refine tw_blk (cd := tw_c264) rfl 1 (c1 := (1, [some (.ref 44), some (.int a1)], [.ref 44], (I, L, tw_P tw dr rt sc, A, J, 57))) rfl ?_
  obtain ⟨I1, hx2, h⟩ := tw_letE h
  refine tw_callE (cd := tw_c264) rfl rfl rfl rfl rfl (e_X10_good I L A J tw dr rt sc _ hx2) (by exact Or.inl rfl) ?_
  refine tw_blk (cd := tw_c264) rfl 2 (c1 := (4, [some (.ref 44), some (.int a1)], [.int a1, .ref 44], (I1, L, tw_P tw dr rt sc, A, J, 57))) rfl ?_
  obtain ⟨⟨c3, I4, A5⟩, hx6, h⟩ := tw_bindE h
  dsimp only at h
  refine tw_callE (cd := tw_c264) rfl rfl rfl rfl rfl (e_X10_goOver I1 L A J tw dr rt sc a1 _ hx6) (by exact Or.inl rfl) ?_
  by_cases hc7 : c3 = true
  · rw [if_pos hc7] at h
    refine tw_br (cd := tw_c264) rfl rfl rfl (by exact if_neg (tw_b_t hc7)) ?_
    refine tw_blk (cd := tw_c264) rfl 5 (c1 := (14, [some (.ref 44), some (.int a1)], [.int ((I4 4427) + (1000 : Int32))], (I4, L, tw_P tw dr rt sc, A5, J, 57))) rfl ?_
    have h := Option.some.inj h
    subst h
    exact tw_retE (cd := tw_c264) rfl rfl rfl rfl
  · rw [if_neg hc7] at h
    refine tw_br (cd := tw_c264) rfl rfl rfl (by exact if_pos (tw_b_f hc7)) ?_
    refine tw_blk (cd := tw_c264) rfl 2 (c1 := (13, [some (.ref 44), some (.int a1)], [.int 1, .ref 44], (I4, L, tw_P tw dr rt sc, A5, J, 57))) rfl ?_
    obtain ⟨⟨x8, I9⟩, hx10, h⟩ := tw_letE h
    dsimp only at h
    refine tw_callE (cd := tw_c264) rfl rfl rfl rfl rfl (e_X10_no I4 L A5 J tw dr rt sc (1 : Int32) _ hx10) (by exact Or.inl rfl) ?_
    have h := Option.some.inj h
    subst h
    exact tw_retE (cd := tw_c264) rfl rfl rfl rfl
theorem e_X9_seen (I : Nat → Int32) (L : Nat → Int64) (A : Nat → Nat → Int32) (J : Nat → Nat → Int64) (rt : Nat) (sc : Nat) (a1 : Int32) : ∀ r : (Int32 × (Nat → Int32) × (Nat → Nat → Int32) × Nat), g_X9_seen I A sc a1 = some r → tw_ME 129 (0, [some (.ref 0), some (.int a1)], [], (I, L, tw_P 2 14 rt sc, A, J, 57)) (some (.int r.1), ((r.2.1), L, tw_P 2 14 rt (r.2.2.2), (r.2.2.1), J, 57)) := by
  intro r h
  unfold g_X9_seen at h
  refine tw_blk (cd := tw_c129) rfl 2 (c1 := (2, [some (.ref 0), some (.int a1)], [.int a1, .ref 0], (I, L, tw_P 2 14 rt sc, A, J, 57))) rfl ?_
  obtain ⟨⟨c1, I2, A3⟩, hx4, h⟩ := tw_bindE h
  dsimp only at h
  refine tw_callE (cd := tw_c129) rfl rfl rfl rfl rfl (e_X9_runsNow I L A J rt sc a1 _ hx4) (by exact Or.inl rfl) ?_
  by_cases hc5 : c1 = true
  · subst hc5
    rw [if_pos rfl] at h
    refine tw_br (cd := tw_c129) rfl rfl rfl (by exact rfl) ?_
    refine tw_blk (cd := tw_c129) rfl 4 (c1 := (8, [some (.ref 0), some (.int a1)], [.int (I2 3905), .ref 0], (I2, L, tw_P 2 14 rt 2, A3, J, 57))) rfl ?_
    obtain ⟨⟨x6, I7⟩, hx8, h⟩ := tw_letE h
    dsimp only at h
    refine tw_callE (cd := tw_c129) rfl rfl rfl rfl rfl (e_X9_grant I2 L A3 J 2 14 rt 2 (I2 3905) _ hx8) (by exact Or.inl rfl) ?_
    refine tw_blk (cd := tw_c129) rfl 1 (c1 := (11, [some (.ref 0), some (.int a1)], [.int x6], (I7, L, tw_P 2 14 rt 2, A3, J, 57))) rfl ?_
    have h := Option.some.inj h
    subst h
    exact tw_retE (cd := tw_c129) rfl rfl rfl rfl
  · have hc5 := Bool.eq_false_iff.mpr hc5
    subst hc5
    rw [if_neg (by decide)] at h
    refine tw_br (cd := tw_c129) rfl rfl rfl (by exact rfl) ?_
    refine tw_blk (cd := tw_c129) rfl 1 (c1 := (11, [some (.ref 0), some (.int a1)], [.int (-1)], (I2, L, tw_P 2 14 rt sc, A3, J, 57))) rfl ?_
    have h := Option.some.inj h
    subst h
    exact tw_retE (cd := tw_c129) rfl rfl rfl rfl
theorem e_X10_seen (I : Nat → Int32) (L : Nat → Int64) (A : Nat → Nat → Int32) (J : Nat → Nat → Int64) (tw dr : Nat) (rt : Nat) (sc : Nat) (a1 : Int32) : ∀ r : (Int32 × (Nat → Int32) × (Nat → Nat → Int32)), g_X10_seen I A a1 = some r → tw_ME 265 (0, [some (.ref 44), some (.int a1)], [], (I, L, tw_P tw dr rt sc, A, J, 57)) (some (.int r.1), ((r.2.1), L, tw_P tw dr rt sc, (r.2.2), J, 57)) := by
  intro r h
  unfold g_X10_seen at h
  refine tw_blk (cd := tw_c265) rfl 1 (c1 := (1, [some (.ref 44), some (.int a1)], [.ref 44], (I, L, tw_P tw dr rt sc, A, J, 57))) rfl ?_
  obtain ⟨I1, hx2, h⟩ := tw_letE h
  refine tw_callE (cd := tw_c265) rfl rfl rfl rfl rfl (e_X10_good I L A J tw dr rt sc _ hx2) (by exact Or.inl rfl) ?_
  refine tw_blk (cd := tw_c265) rfl 2 (c1 := (4, [some (.ref 44), some (.int a1)], [.int a1, .ref 44], (I1, L, tw_P tw dr rt sc, A, J, 57))) rfl ?_
  obtain ⟨⟨c3, I4, A5⟩, hx6, h⟩ := tw_bindE h
  dsimp only at h
  refine tw_callE (cd := tw_c265) rfl rfl rfl rfl rfl (e_X10_goOver I1 L A J tw dr rt sc a1 _ hx6) (by exact Or.inl rfl) ?_
  by_cases hc7 : c3 = true
  · rw [if_pos hc7] at h
    refine tw_br (cd := tw_c265) rfl rfl rfl (by exact if_neg (tw_b_t hc7)) ?_
    refine tw_blk (cd := tw_c265) rfl 3 (c1 := (12, [some (.ref 44), some (.int a1)], [.int (I4 4428)], (I4, L, tw_P tw dr rt sc, A5, J, 57))) rfl ?_
    have h := Option.some.inj h
    subst h
    exact tw_retE (cd := tw_c265) rfl rfl rfl rfl
  · rw [if_neg hc7] at h
    refine tw_br (cd := tw_c265) rfl rfl rfl (by exact if_pos (tw_b_f hc7)) ?_
    refine tw_blk (cd := tw_c265) rfl 2 (c1 := (11, [some (.ref 44), some (.int a1)], [.int 1, .ref 44], (I4, L, tw_P tw dr rt sc, A5, J, 57))) rfl ?_
    obtain ⟨⟨x8, I9⟩, hx10, h⟩ := tw_letE h
    dsimp only at h
    refine tw_callE (cd := tw_c265) rfl rfl rfl rfl rfl (e_X10_no I4 L A5 J tw dr rt sc (1 : Int32) _ hx10) (by exact Or.inl rfl) ?_
    have h := Option.some.inj h
    subst h
    exact tw_retE (cd := tw_c265) rfl rfl rfl rfl
theorem g_X9_lowestBit_L1_ok (I : Nat → Int32) (L : Nat → Int64) (A : Nat → Nat → Int32) (J : Nat → Nat → Int64) (tw : Nat) (dr : Nat) (rt : Nat) (sc : Nat) (a0 : Int32) (kont : Unit → Option Int32) (r : Int32) : ∀ (n : Nat) (v1_1 : Int32), g_X9_lowestBit_L1 a0 kont n v1_1 = some r → (∀ ex : Unit, kont ex = some r → tw_ME 189 (15, [none, none], [], (I, L, tw_P tw dr rt sc, A, J, 57)) (some (.int r), (I, L, tw_P tw dr rt sc, A, J, 57))) → tw_ME 189 (2, [some (.int a0), some (.int v1_1)], [], (I, L, tw_P tw dr rt sc, A, J, 57)) (some (.int r), (I, L, tw_P tw dr rt sc, A, J, 57)) := by
  intro n
  induction n with
  | zero =>
    intro v1_1 h _
    cases h
  | succ n ih =>
    intro v1_1 h K
    rw [g_X9_lowestBit_L1] at h
    refine tw_blk (cd := tw_c189) rfl 1 (c1 := (3, [some (.int a0), some (.int v1_1)], [.int v1_1], (I, L, tw_P tw dr rt sc, A, J, 57))) rfl ?_
    refine tw_blk (cd := tw_c189) rfl 1 (c1 := (4, [some (.int a0), some (.int v1_1)], [.int 32, .int v1_1], (I, L, tw_P tw dr rt sc, A, J, 57))) rfl ?_
    by_cases hc1 : (32 : Int32) ≤ v1_1
    · rw [if_pos hc1] at h
      refine tw_br (cd := tw_c189) rfl rfl rfl (by exact if_pos hc1) ?_
      refine tw_forget (ls2 := [none, none]) trivial ?_
      exact K _ h
    · rw [if_neg hc1] at h
      refine tw_br (cd := tw_c189) rfl rfl rfl (by exact if_neg hc1) ?_
      refine tw_blk (cd := tw_c189) rfl 5 (c1 := (10, [some (.int a0), some (.int v1_1)], [.int ((a0 >>> (v1_1 &&& 31)) &&& (1 : Int32))], (I, L, tw_P tw dr rt sc, A, J, 57))) rfl ?_
      by_cases hc2 : ((a0 >>> (v1_1 &&& 31)) &&& (1 : Int32)) = 0
      · rw [if_pos hc2] at h
        refine tw_br (cd := tw_c189) rfl rfl rfl (by exact if_pos hc2) ?_
        refine tw_blk (cd := tw_c189) rfl 2 (c1 := (2, [some (.int a0), some (.int (v1_1 + (1 : Int32)))], [], (I, L, tw_P tw dr rt sc, A, J, 57))) rfl ?_
        exact ih (v1_1 + (1 : Int32)) h K
      · rw [if_neg hc2] at h
        refine tw_br (cd := tw_c189) rfl rfl rfl (by exact if_neg hc2) ?_
        refine tw_blk (cd := tw_c189) rfl 1 (c1 := (12, [some (.int a0), some (.int v1_1)], [.int v1_1], (I, L, tw_P tw dr rt sc, A, J, 57))) rfl ?_
        have h := Option.some.inj h
        subst h
        exact tw_retE (cd := tw_c189) rfl rfl rfl rfl
theorem e_X9_lowestBit (I : Nat → Int32) (L : Nat → Int64) (A : Nat → Nat → Int32) (J : Nat → Nat → Int64) (tw dr : Nat) (rt : Nat) (sc : Nat) (a0 : Int32) : ∀ r : Int32, g_X9_lowestBit a0 = some r → tw_ME 189 (0, [some (.int a0), none], [], (I, L, tw_P tw dr rt sc, A, J, 57)) (some (.int r), (I, L, tw_P tw dr rt sc, A, J, 57)) := by
  intro r h
  unfold g_X9_lowestBit at h
  refine tw_blk (cd := tw_c189) rfl 2 (c1 := (2, [some (.int a0), some (.int 0)], [], (I, L, tw_P tw dr rt sc, A, J, 57))) rfl ?_
  refine g_X9_lowestBit_L1_ok I L A J tw dr rt sc a0 _ r 4096 (0 : Int32) h (fun ex h => ?_)
  refine tw_blk (cd := tw_c189) rfl 1 (c1 := (16, [none, none], [.int (-2)], (I, L, tw_P tw dr rt sc, A, J, 57))) rfl ?_
  have h := Option.some.inj h
  subst h
  exact tw_retE (cd := tw_c189) rfl rfl rfl rfl
theorem e_X9_third (I : Nat → Int32) (L : Nat → Int64) (A : Nat → Nat → Int32) (J : Nat → Nat → Int64) (rt : Nat) (sc : Nat) (a1 : Int32) : ∀ r : (Int32 × (Nat → Int32) × (Nat → Nat → Int32) × Nat), g_X9_third I A sc a1 = some r → tw_ME 130 (0, [some (.ref 0), some (.int a1)], [], (I, L, tw_P 2 14 rt sc, A, J, 57)) (some (.int r.1), ((r.2.1), L, tw_P 2 14 rt (r.2.2.2), (r.2.2.1), J, 57)) := by
  intro r h
  unfold g_X9_third at h
  refine tw_blk (cd := tw_c130) rfl 2 (c1 := (2, [some (.ref 0), some (.int a1)], [.int a1, .ref 0], (I, L, tw_P 2 14 rt sc, A, J, 57))) rfl ?_
  obtain ⟨⟨c1, I2, A3⟩, hx4, h⟩ := tw_bindE h
  dsimp only at h
  refine tw_callE (cd := tw_c130) rfl rfl rfl rfl rfl (e_X9_runsNow I L A J rt sc a1 _ hx4) (by exact Or.inl rfl) ?_
  by_cases hc5 : c1 = true
  · subst hc5
    rw [if_pos rfl] at h
    refine tw_br (cd := tw_c130) rfl rfl rfl (by exact rfl) ?_
    refine tw_blk (cd := tw_c130) rfl 4 (c1 := (8, [some (.ref 0), some (.int a1)], [.int (I2 3906), .ref 0], (I2, L, tw_P 2 14 rt 2, A3, J, 57))) rfl ?_
    obtain ⟨x6, hx7, h⟩ := tw_bindE h
    refine tw_callE (cd := tw_c130) rfl rfl rfl rfl rfl (e_X9_lowestBit I2 L A3 J 2 14 rt 2 (I2 3906) _ hx7) (by exact Or.inl rfl) ?_
    obtain ⟨⟨x8, I9⟩, hx10, h⟩ := tw_letE h
    dsimp only at h
    refine tw_callE (cd := tw_c130) rfl rfl rfl rfl rfl (e_X9_grant I2 L A3 J 2 14 rt 2 x6 _ hx10) (by exact Or.inl rfl) ?_
    refine tw_blk (cd := tw_c130) rfl 1 (c1 := (12, [some (.ref 0), some (.int a1)], [.int x8], (I9, L, tw_P 2 14 rt 2, A3, J, 57))) rfl ?_
    have h := Option.some.inj h
    subst h
    exact tw_retE (cd := tw_c130) rfl rfl rfl rfl
  · have hc5 := Bool.eq_false_iff.mpr hc5
    subst hc5
    rw [if_neg (by decide)] at h
    refine tw_br (cd := tw_c130) rfl rfl rfl (by exact rfl) ?_
    refine tw_blk (cd := tw_c130) rfl 1 (c1 := (12, [some (.ref 0), some (.int a1)], [.int (-1)], (I2, L, tw_P 2 14 rt sc, A3, J, 57))) rfl ?_
    have h := Option.some.inj h
    subst h
    exact tw_retE (cd := tw_c130) rfl rfl rfl rfl
theorem g_X10_third_L1_ok (I : Nat → Int32) (L : Nat → Int64) (A : Nat → Nat → Int32) (J : Nat → Nat → Int64) (tw : Nat) (dr : Nat) (rt : Nat) (sc : Nat) (a1 : Int32) (I1 : Nat → Int32) (c3 : Bool) (I4 : Nat → Int32) (A5 : Nat → Nat → Int32) (kont : Unit → Option (Int32 × (Nat → Int32) × (Nat → Nat → Int32))) (r : (Int32 × (Nat → Int32) × (Nat → Nat → Int32))) : ∀ (n : Nat) (v1_2 : Int32), g_X10_third_L1 I4 A5 kont n v1_2 = some r → (∀ ex : Unit, kont ex = some r → tw_ME 266 (35, [none, none, none], [], (I4, L, tw_P tw dr rt sc, A5, J, 57)) (some (.int r.1), ((r.2.1), L, tw_P tw dr rt sc, (r.2.2), J, 57))) → tw_ME 266 (12, [some (.ref 44), none, some (.int v1_2)], [], (I4, L, tw_P tw dr rt sc, A5, J, 57)) (some (.int r.1), ((r.2.1), L, tw_P tw dr rt sc, (r.2.2), J, 57)) := by
  intro n
  induction n with
  | zero =>
    intro v1_2 h _
    cases h
  | succ n ih =>
    intro v1_2 h K
    rw [g_X10_third_L1] at h
    refine tw_blk (cd := tw_c266) rfl 1 (c1 := (13, [some (.ref 44), none, some (.int v1_2)], [.int v1_2], (I4, L, tw_P tw dr rt sc, A5, J, 57))) rfl ?_
    refine tw_blk (cd := tw_c266) rfl 3 (c1 := (16, [some (.ref 44), none, some (.int v1_2)], [.int 3, .ref 47, .int v1_2], (I4, L, tw_P tw dr rt sc, A5, J, 57))) rfl ?_
    obtain ⟨x9, hx8, h⟩ := tw_bindE h
    refine tw_iald (cd := tw_c266) (N := 241) rfl rfl rfl rfl hx8 ?_
    by_cases hc10 : x9 ≤ v1_2
    · rw [if_pos hc10] at h
      refine tw_br (cd := tw_c266) rfl rfl rfl (by exact if_pos hc10) ?_
      refine tw_forget (ls2 := [none, none, none]) trivial ?_
      exact K _ h
    · rw [if_neg hc10] at h
      refine tw_br (cd := tw_c266) rfl rfl rfl (by exact if_neg hc10) ?_
      refine tw_blk (cd := tw_c266) rfl 2 (c1 := (20, [some (.ref 44), none, some (.int v1_2)], [.int (I4 4425)], (I4, L, tw_P tw dr rt sc, A5, J, 57))) rfl ?_
      by_cases hc11 : (I4 4425) = 0
      · rw [if_pos hc11] at h
        refine tw_br (cd := tw_c266) rfl rfl rfl (by exact if_pos hc11) ?_
        refine tw_blk (cd := tw_c266) rfl 8 (c1 := (29, [some (.ref 44), none, some (.int v1_2)], [.int v1_2, .int ((I4 4428) &&& ((I4 4429) ^^^ (-1 : Int32)))], (I4, L, tw_P tw dr rt sc, A5, J, 57))) rfl ?_
        refine tw_callE (cd := tw_c266) rfl rfl rfl rfl rfl (e_X10_hasBit I4 L A5 J tw dr rt sc ((I4 4428) &&& ((I4 4429) ^^^ (-1 : Int32))) v1_2 _ rfl) (by exact Or.inl rfl) ?_
        by_cases hc12 : (g_X10_hasBit ((I4 4428) &&& ((I4 4429) ^^^ (-1 : Int32))) v1_2) = true
        · rw [if_pos hc12] at h
          refine tw_br (cd := tw_c266) rfl rfl rfl (by exact if_neg (tw_b_t hc12)) ?_
          refine tw_blk (cd := tw_c266) rfl 1 (c1 := (32, [some (.ref 44), none, some (.int v1_2)], [.int v1_2], (I4, L, tw_P tw dr rt sc, A5, J, 57))) rfl ?_
          have h := Option.some.inj h
          subst h
          exact tw_retE (cd := tw_c266) rfl rfl rfl rfl
        · rw [if_neg hc12] at h
          refine tw_br (cd := tw_c266) rfl rfl rfl (by exact if_pos (tw_b_f hc12)) ?_
          refine tw_blk (cd := tw_c266) rfl 2 (c1 := (12, [some (.ref 44), none, some (.int (v1_2 + (1 : Int32)))], [], (I4, L, tw_P tw dr rt sc, A5, J, 57))) rfl ?_
          exact ih (v1_2 + (1 : Int32)) h K
      · rw [if_neg hc11] at h
        refine tw_br (cd := tw_c266) rfl rfl rfl (by exact if_neg hc11) ?_
        refine tw_forget (ls2 := [none, none, none]) trivial ?_
        exact K _ h
theorem e_X10_third (I : Nat → Int32) (L : Nat → Int64) (A : Nat → Nat → Int32) (J : Nat → Nat → Int64) (tw dr : Nat) (rt : Nat) (sc : Nat) (a1 : Int32) : ∀ r : (Int32 × (Nat → Int32) × (Nat → Nat → Int32)), g_X10_third I A a1 = some r → tw_ME 266 (0, [some (.ref 44), some (.int a1), none], [], (I, L, tw_P tw dr rt sc, A, J, 57)) (some (.int r.1), ((r.2.1), L, tw_P tw dr rt sc, (r.2.2), J, 57)) := by
  intro r h
  unfold g_X10_third at h
  refine tw_blk (cd := tw_c266) rfl 1 (c1 := (1, [some (.ref 44), some (.int a1), none], [.ref 44], (I, L, tw_P tw dr rt sc, A, J, 57))) rfl ?_
  obtain ⟨I1, hx2, h⟩ := tw_letE h
  refine tw_callE (cd := tw_c266) rfl rfl rfl rfl rfl (e_X10_good I L A J tw dr rt sc _ hx2) (by exact Or.inl rfl) ?_
  refine tw_blk (cd := tw_c266) rfl 2 (c1 := (4, [some (.ref 44), some (.int a1), none], [.int a1, .ref 44], (I1, L, tw_P tw dr rt sc, A, J, 57))) rfl ?_
  obtain ⟨⟨c3, I4, A5⟩, hx6, h⟩ := tw_bindE h
  dsimp only at h
  refine tw_callE (cd := tw_c266) rfl rfl rfl rfl rfl (e_X10_goOver I1 L A J tw dr rt sc a1 _ hx6) (by exact Or.inl rfl) ?_
  by_cases hc7 : c3 = true
  · rw [if_pos hc7] at h
    refine tw_br (cd := tw_c266) rfl rfl rfl (by exact if_neg (tw_b_t hc7)) ?_
    refine tw_blk (cd := tw_c266) rfl 2 (c1 := (12, [some (.ref 44), some (.int a1), some (.int 0)], [], (I4, L, tw_P tw dr rt sc, A5, J, 57))) rfl ?_
    refine tw_forget (ls2 := [some (.ref 44), none, some (.int 0)]) ⟨rfl, rfl, trivial⟩ ?_
    refine g_X10_third_L1_ok I L A J tw dr rt sc a1 I1 c3 I4 A5 _ r 4096 (0 : Int32) h (fun ex h => ?_)
    refine tw_blk (cd := tw_c266) rfl 1 (c1 := (36, [none, none, none], [.int (-2)], (I4, L, tw_P tw dr rt sc, A5, J, 57))) rfl ?_
    have h := Option.some.inj h
    subst h
    exact tw_retE (cd := tw_c266) rfl rfl rfl rfl
  · rw [if_neg hc7] at h
    refine tw_br (cd := tw_c266) rfl rfl rfl (by exact if_pos (tw_b_f hc7)) ?_
    refine tw_blk (cd := tw_c266) rfl 2 (c1 := (8, [some (.ref 44), some (.int a1), none], [.int 1, .ref 44], (I4, L, tw_P tw dr rt sc, A5, J, 57))) rfl ?_
    obtain ⟨⟨x13, I14⟩, hx15, h⟩ := tw_letE h
    dsimp only at h
    refine tw_callE (cd := tw_c266) rfl rfl rfl rfl rfl (e_X10_no I4 L A5 J tw dr rt sc (1 : Int32) _ hx15) (by exact Or.inl rfl) ?_
    have h := Option.some.inj h
    subst h
    exact tw_retE (cd := tw_c266) rfl rfl rfl rfl
theorem e_X1_isWon (I : Nat → Int32) (L : Nat → Int64) (A : Nat → Nat → Int32) (J : Nat → Nat → Int64) (tw dr : Nat) (rt : Nat) : ∀ r : Bool, g_X1_isWon I = r → tw_ME 15 (0, [some (.ref 39)], [], (I, L, tw_P tw dr rt 2, A, J, 57)) (some (.int (tw_b r)), (I, L, tw_P tw dr rt 2, A, J, 57)) := by
  intro r h
  unfold g_X1_isWon at h
  refine tw_blk (cd := tw_c15) rfl 3 (c1 := (3, [some (.ref 39)], [.int 1, .int (I 3902)], (I, L, tw_P tw dr rt 2, A, J, 57))) rfl ?_
  by_cases hc1 : (I 3902) = (1 : Int32)
  · rw [if_pos hc1] at h
    refine tw_br (cd := tw_c15) rfl rfl rfl (by exact if_pos hc1) ?_
    refine tw_blk (cd := tw_c15) rfl 2 (c1 := (11, [some (.ref 39)], [.int 1], (I, L, tw_P tw dr rt 2, A, J, 57))) rfl ?_
    subst h
    exact tw_retZ (cd := tw_c15) (b := true) rfl rfl rfl rfl
  · rw [if_neg hc1] at h
    refine tw_br (cd := tw_c15) rfl rfl rfl (by exact if_neg hc1) ?_
    refine tw_blk (cd := tw_c15) rfl 3 (c1 := (7, [some (.ref 39)], [.int 2, .int (I 3902)], (I, L, tw_P tw dr rt 2, A, J, 57))) rfl ?_
    by_cases hc2 : (I 3902) = (2 : Int32)
    · rw [if_pos hc2] at h
      refine tw_br (cd := tw_c15) rfl rfl rfl (by exact if_pos hc2) ?_
      refine tw_blk (cd := tw_c15) rfl 2 (c1 := (11, [some (.ref 39)], [.int 1], (I, L, tw_P tw dr rt 2, A, J, 57))) rfl ?_
      subst h
      exact tw_retZ (cd := tw_c15) (b := true) rfl rfl rfl rfl
    · rw [if_neg hc2] at h
      refine tw_br (cd := tw_c15) rfl rfl rfl (by exact if_neg hc2) ?_
      refine tw_blk (cd := tw_c15) rfl 1 (c1 := (11, [some (.ref 39)], [.int 0], (I, L, tw_P tw dr rt 2, A, J, 57))) rfl ?_
      subst h
      exact tw_retZ (cd := tw_c15) (b := false) rfl rfl rfl rfl
theorem g_X3_wonOnes_L1_ok (I : Nat → Int32) (L : Nat → Int64) (A : Nat → Nat → Int32) (J : Nat → Nat → Int64) (tw : Nat) (dr : Nat) (rt : Nat) (out : Option Value × tw_S) : ∀ (n : Nat) (v1_1 : Int32) (v1_2 : Int32) (I_1 : Nat → Int32) (A_1 : Nat → Nat → Int32) (ex : (Int32 × (Nat → Int32) × (Nat → Nat → Int32))), g_X3_wonOnes_L1 n v1_1 v1_2 I_1 A_1 = some ex → tw_ME 31 (29, [none, some (.int (ex.1)), none], [], ((ex.2.1), L, tw_P tw dr rt 2, (ex.2.2), J, 57)) out → tw_ME 31 (4, [some (.ref 41), some (.int v1_1), some (.int v1_2)], [], (I_1, L, tw_P tw dr rt 2, A_1, J, 57)) out := by
  intro n
  induction n with
  | zero =>
    intro v1_1 v1_2 I_1 A_1 ex h _
    cases h
  | succ n ih =>
    intro v1_1 v1_2 I_1 A_1 ex h K
    rw [g_X3_wonOnes_L1] at h
    refine tw_blk (cd := tw_c31) rfl 1 (c1 := (5, [some (.ref 41), some (.int v1_1), some (.int v1_2)], [.int v1_2], (I_1, L, tw_P tw dr rt 2, A_1, J, 57))) rfl ?_
    refine tw_blk (cd := tw_c31) rfl 4 (c1 := (9, [some (.ref 41), some (.int v1_1), some (.int v1_2)], [.int 5, .ref 2, .int v1_2], (I_1, L, tw_P tw dr rt 2, A_1, J, 57))) rfl ?_
    refine tw_callE (cd := tw_c31) rfl rfl rfl rfl rfl (e_X8_count_2 I_1 L A_1 J tw dr rt 2 (5 : Int32) _ rfl) (by exact Or.inl rfl) ?_
    by_cases hc4 : (g_X8_count_2 A_1 (5 : Int32)) ≤ v1_2
    · rw [if_pos hc4] at h
      refine tw_br (cd := tw_c31) rfl rfl rfl (by exact if_pos hc4) ?_
      refine tw_forget (ls2 := [none, some (.int v1_1), none]) ⟨rfl, trivial⟩ ?_
      have h := Option.some.inj h
      subst h
      exact K
    · rw [if_neg hc4] at h
      refine tw_br (cd := tw_c31) rfl rfl rfl (by exact if_neg hc4) ?_
      refine tw_blk (cd := tw_c31) rfl 3 (c1 := (14, [some (.ref 41), some (.int v1_1), some (.int v1_2)], [.int v1_2, .ref 39], (I_1, L, tw_P tw dr rt 2, A_1, J, 57))) rfl ?_
      obtain ⟨⟨I5, A6⟩, hx7, h⟩ := tw_bindE h
      dsimp only at h
      refine tw_callE (cd := tw_c31) rfl rfl rfl rfl rfl (e_X1_runAsTold I_1 L A_1 J tw dr rt v1_2 _ hx7) (by exact Or.inl rfl) ?_
      refine tw_blk (cd := tw_c31) rfl 3 (c1 := (18, [some (.ref 41), some (.int v1_1), some (.int v1_2)], [.ref 39, .int v1_1], (I5, L, tw_P tw dr rt 2, A6, J, 57))) rfl ?_
      refine tw_callE (cd := tw_c31) rfl rfl rfl rfl rfl (e_X1_isWon I5 L A6 J tw dr rt _ rfl) (by exact Or.inl rfl) ?_
      obtain ⟨x9, hj10, h⟩ := tw_bindE h
      have K : tw_ME 31 (25, [some (.ref 41), none, some (.int v1_2)], [.int x9, .int v1_1], (I5, L, tw_P tw dr rt 2, A6, J, 57)) out := by
        refine tw_blk (cd := tw_c31) rfl 4 (c1 := (4, [some (.ref 41), some (.int (v1_1 ||| x9)), some (.int (v1_2 + (1 : Int32)))], [], (I5, L, tw_P tw dr rt 2, A6, J, 57))) rfl ?_
        exact ih (v1_1 ||| x9) (v1_2 + (1 : Int32)) I5 A6 _ h K
      by_cases hc8 : (g_X1_isWon I5) = true
      · rw [if_pos hc8] at hj10
        refine tw_br (cd := tw_c31) rfl rfl rfl (by exact if_neg (tw_b_t hc8)) ?_
        refine tw_blk (cd := tw_c31) rfl 4 (c1 := (25, [some (.ref 41), some (.int v1_1), some (.int v1_2)], [.int ((1 : Int32) <<< (v1_2 &&& 31)), .int v1_1], (I5, L, tw_P tw dr rt 2, A6, J, 57))) rfl ?_
        refine tw_forget (ls2 := [some (.ref 41), none, some (.int v1_2)]) ⟨rfl, rfl, trivial⟩ ?_
        have hj10s := Option.some.inj hj10
        subst hj10s
        exact K
      · rw [if_neg hc8] at hj10
        refine tw_br (cd := tw_c31) rfl rfl rfl (by exact if_pos (tw_b_f hc8)) ?_
        refine tw_blk (cd := tw_c31) rfl 1 (c1 := (25, [some (.ref 41), some (.int v1_1), some (.int v1_2)], [.int 0, .int v1_1], (I5, L, tw_P tw dr rt 2, A6, J, 57))) rfl ?_
        refine tw_forget (ls2 := [some (.ref 41), none, some (.int v1_2)]) ⟨rfl, rfl, trivial⟩ ?_
        have hj10s := Option.some.inj hj10
        subst hj10s
        exact K
theorem e_X3_wonOnes (I : Nat → Int32) (L : Nat → Int64) (A : Nat → Nat → Int32) (J : Nat → Nat → Int64) (tw dr : Nat) (rt : Nat) : ∀ r : (Int32 × (Nat → Int32) × (Nat → Nat → Int32)), g_X3_wonOnes I A = some r → tw_ME 31 (0, [some (.ref 41), none, none], [], (I, L, tw_P tw dr rt 2, A, J, 57)) (some (.int r.1), ((r.2.1), L, tw_P tw dr rt 2, (r.2.2), J, 57)) := by
  intro r h
  unfold g_X3_wonOnes at h
  refine tw_blk (cd := tw_c31) rfl 4 (c1 := (4, [some (.ref 41), some (.int 0), some (.int 0)], [], (I, L, tw_P tw dr rt 2, A, J, 57))) rfl ?_
  obtain ⟨⟨x1, I2, A3⟩, hx11, h⟩ := tw_bindE h
  dsimp only at h
  refine g_X3_wonOnes_L1_ok I L A J tw dr rt _ 4096 (0 : Int32) (0 : Int32) I A _ hx11 ?_
  refine tw_blk (cd := tw_c31) rfl 1 (c1 := (30, [none, some (.int x1), none], [.int x1], (I2, L, tw_P tw dr rt 2, A3, J, 57))) rfl ?_
  have h := Option.some.inj h
  subst h
  exact tw_retE (cd := tw_c31) rfl rfl rfl rfl
