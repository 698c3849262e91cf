/-! the machine does what the functions say -/
set_option maxRecDepth 16000
theorem e_X10_image (I : Nat → Int32) (L : Nat → Int64) (A : Nat → Nat → Int32) (J : Nat → Nat → Int64) (tw dr : Nat) (rt : Nat) (sc : Nat) : ∀ r : (Int32 × (Nat → Int32) × (Nat → Nat → Int32)), g_X10_image I A = some r → tw_ME 316 (0, [some (.ref 44)], [], (I, L, tw_P tw dr rt sc, A, J, 57)) (some (.int r.1), ((r.2.1), L, tw_P tw dr rt sc, (r.2.2), J, 57)) := by
  intro r h
  unfold g_X10_image at h
  refine tw_blk (cd := tw_c316) rfl 1 (c1 := (1, [some (.ref 44)], [.ref 44], (I, L, tw_P tw dr rt sc, A, J, 57))) rfl ?_
  obtain ⟨I1, hx2, h⟩ := tw_letE h
  refine tw_callE (cd := tw_c316) rfl rfl rfl rfl rfl (e_X10_good I L A J tw dr rt sc _ hx2) (by exact Or.inl rfl) ?_
  refine tw_blk (cd := tw_c316) rfl 2 (c1 := (4, [some (.ref 44)], [.int (I1 4414)], (I1, L, tw_P tw dr rt sc, A, J, 57))) rfl ?_
  by_cases hc3 : (I1 4414) = 0
  · rw [if_pos hc3] at h
    refine tw_br (cd := tw_c316) rfl rfl rfl (by exact if_pos hc3) ?_
    refine tw_blk (cd := tw_c316) rfl 2 (c1 := (7, [some (.ref 44)], [.int 1, .ref 44], (I1, L, tw_P tw dr rt sc, A, J, 57))) rfl ?_
    obtain ⟨⟨x4, I5⟩, hx6, h⟩ := tw_letE h
    dsimp only at h
    refine tw_callE (cd := tw_c316) rfl rfl rfl rfl rfl (e_X10_no I1 L A J tw dr rt sc (1 : Int32) _ hx6) (by exact Or.inl rfl) ?_
    have h := Option.some.inj h
    subst h
    exact tw_retE (cd := tw_c316) rfl rfl rfl rfl
  · rw [if_neg hc3] at h
    refine tw_br (cd := tw_c316) rfl rfl rfl (by exact if_neg hc3) ?_
    refine tw_blk (cd := tw_c316) rfl 3 (c1 := (12, [some (.ref 44)], [.int 3, .int (I1 4421)], (I1, L, tw_P tw dr rt sc, A, J, 57))) rfl ?_
    by_cases hc7 : (I1 4421) = (3 : Int32)
    · rw [if_pos hc7] at h
      refine tw_br (cd := tw_c316) rfl rfl rfl (by exact if_pos hc7) ?_
      refine tw_blk (cd := tw_c316) rfl 2 (c1 := (15, [some (.ref 44)], [.int 3, .ref 44], (I1, L, tw_P tw dr rt sc, A, J, 57))) rfl ?_
      obtain ⟨⟨x8, I9⟩, hx10, h⟩ := tw_letE h
      dsimp only at h
      refine tw_callE (cd := tw_c316) rfl rfl rfl rfl rfl (e_X10_no I1 L A J tw dr rt sc (3 : Int32) _ hx10) (by exact Or.inl rfl) ?_
      have h := Option.some.inj h
      subst h
      exact tw_retE (cd := tw_c316) rfl rfl rfl rfl
    · rw [if_neg hc7] at h
      refine tw_br (cd := tw_c316) rfl rfl rfl (by exact if_neg hc7) ?_
      refine tw_blk (cd := tw_c316) rfl 10 (c1 := (27, [some (.ref 44)], [.int 8, .int ((8 : Int32) * (I1 4421)), .ref 51, .int 0, .ref 49], (I1, L, tw_P tw dr rt sc, A, J, 57))) rfl ?_
      obtain ⟨w11, hw12, h⟩ := tw_bindE h
      refine tw_callE (cd := tw_c316) rfl rfl rfl rfl rfl (tw_e_copy I1 L (tw_P tw dr rt sc) A J (q1 := 49) (q2 := 51) (N1 := 8) (N2 := 24) rfl rfl rfl rfl (by decide) (0 : Int32) ((8 : Int32) * (I1 4421)) (8 : Int32) w11 hw12) (by exact Or.inl rfl) ?_
      refine tw_blk (cd := tw_c316) rfl 10 (c1 := (38, [some (.ref 44)], [.int (((I1 4421) + (1 : Int32)) - (1 : Int32))], ((upd I1 4421 ((I1 4421) + (1 : Int32))), L, tw_P tw dr rt sc, (va_up A 51 w11), J, 57))) rfl ?_
      have h := Option.some.inj h
      subst h
      exact tw_retE (cd := tw_c316) rfl rfl rfl rfl
theorem e_X0_become_33_35 (I : Nat → Int32) (L : Nat → Int64) (A : Nat → Nat → Int32) (J : Nat → Nat → Int64) (tw dr : Nat) (rt : Nat) (sc : Nat) (a2 : Int32) : ∀ r : Nat → Int32, g_X0_become_33_35 I A a2 = r → tw_ME 10 (0, [some (.ref 33), some (.ref 35), some (.int a2)], [], (I, L, tw_P tw dr rt sc, A, J, 57)) (none, (r, L, tw_P tw dr rt sc, A, J, 57)) := by
  intro r h
  unfold g_X0_become_33_35 at h
  refine tw_blk (cd := tw_c10) rfl 5 (c1 := (5, [some (.ref 33), some (.ref 35), some (.int a2)], [.int (a2 * (3 : Int32)), .ref 35, .ref 33], (I, L, tw_P tw dr rt sc, A, J, 57))) rfl ?_
  refine tw_callE (cd := tw_c10) rfl rfl rfl rfl rfl (tw_e_get I L (tw_P tw dr rt sc) A J (q := 35) (N := 9) rfl rfl (by decide) (a2 * (3 : Int32))) (by exact Or.inl rfl) ?_
  refine tw_blk (cd := tw_c10) rfl 8 (c1 := (14, [some (.ref 33), some (.ref 35), some (.int a2)], [.int ((a2 * (3 : Int32)) + (1 : Int32)), .ref 35, .ref 33], ((upd I 3300 (tw_get0 9 (A 35) (a2 * (3 : Int32)))), L, tw_P tw dr rt sc, A, J, 57))) rfl ?_
  refine tw_callE (cd := tw_c10) rfl rfl rfl rfl rfl (tw_e_get (upd I 3300 (tw_get0 9 (A 35) (a2 * (3 : Int32)))) L (tw_P tw dr rt sc) A J (q := 35) (N := 9) rfl rfl (by decide) ((a2 * (3 : Int32)) + (1 : Int32))) (by exact Or.inl rfl) ?_
  refine tw_blk (cd := tw_c10) rfl 8 (c1 := (23, [some (.ref 33), some (.ref 35), some (.int a2)], [.int ((a2 * (3 : Int32)) + (2 : Int32)), .ref 35, .ref 33], ((upd (upd I 3300 (tw_get0 9 (A 35) (a2 * (3 : Int32)))) 3301 (tw_get0 9 (A 35) ((a2 * (3 : Int32)) + (1 : Int32)))), L, tw_P tw dr rt sc, A, J, 57))) rfl ?_
  refine tw_callE (cd := tw_c10) rfl rfl rfl rfl rfl (tw_e_get (upd (upd I 3300 (tw_get0 9 (A 35) (a2 * (3 : Int32)))) 3301 (tw_get0 9 (A 35) ((a2 * (3 : Int32)) + (1 : Int32)))) L (tw_P tw dr rt sc) A J (q := 35) (N := 9) rfl rfl (by decide) ((a2 * (3 : Int32)) + (2 : Int32))) (by exact Or.inl rfl) ?_
  refine tw_blk (cd := tw_c10) rfl 1 (c1 := (25, [some (.ref 33), some (.ref 35), some (.int a2)], [], ((upd (upd (upd I 3300 (tw_get0 9 (A 35) (a2 * (3 : Int32)))) 3301 (tw_get0 9 (A 35) ((a2 * (3 : Int32)) + (1 : Int32)))) 3302 (tw_get0 9 (A 35) ((a2 * (3 : Int32)) + (2 : Int32)))), L, tw_P tw dr rt sc, A, J, 57))) rfl ?_
  subst h
  exact tw_retE (cd := tw_c10) rfl rfl rfl rfl
theorem e_X0_becomeAs (I : Nat → Int32) (L : Nat → Int64) (A : Nat → Nat → Int32) (J : Nat → Nat → Int64) (tw dr : Nat) (rt : Nat) (sc : Nat) (a1 : Int32) : ∀ r : (Bool × (Nat → Int32)), g_X0_becomeAs I A a1 = r → tw_ME 8 (0, [some (.ref 33), some (.int a1)], [], (I, L, tw_P tw dr rt sc, A, J, 57)) (some (.int (tw_b r.1)), ((r.2), L, tw_P tw dr rt sc, A, J, 57)) := by
  intro r h
  unfold g_X0_becomeAs at h
  refine tw_blk (cd := tw_c8) rfl 1 (c1 := (1, [some (.ref 33), some (.int a1)], [.int a1], (I, L, tw_P tw dr rt sc, A, J, 57))) rfl ?_
  by_cases hc1 : a1 < 0
  · rw [if_pos hc1] at h
    refine tw_br (cd := tw_c8) rfl rfl rfl (by exact if_pos hc1) ?_
    refine tw_blk (cd := tw_c8) rfl 1 (c1 := (7, [some (.ref 33), some (.int a1)], [.int 0], (I, L, tw_P tw dr rt sc, A, J, 57))) rfl ?_
    subst h
    exact tw_retZ (cd := tw_c8) (b := false) rfl rfl rfl rfl
  · rw [if_neg hc1] at h
    refine tw_br (cd := tw_c8) rfl rfl rfl (by exact if_neg hc1) ?_
    refine tw_blk (cd := tw_c8) rfl 3 (c1 := (5, [some (.ref 33), some (.int a1)], [.int (I 3306), .int a1], (I, L, tw_P tw dr rt sc, A, J, 57))) rfl ?_
    by_cases hc2 : a1 < (I 3306)
    · rw [if_pos hc2] at h
      refine tw_br (cd := tw_c8) rfl rfl rfl (by exact if_pos hc2) ?_
      refine tw_blk (cd := tw_c8) rfl 4 (c1 := (12, [some (.ref 33), some (.int a1)], [.int a1, .ref 35, .ref 33], (I, L, tw_P tw dr rt sc, A, J, 57))) rfl ?_
      obtain ⟨I3, hx4, h⟩ := tw_letE h
      refine tw_callE (cd := tw_c8) rfl rfl rfl rfl rfl (e_X0_become_33_35 I L A J tw dr rt sc a1 _ hx4) (by exact Or.inl rfl) ?_
      refine tw_blk (cd := tw_c8) rfl 4 (c1 := (17, [some (.ref 33), some (.int a1)], [.int 1], ((upd I3 3304 (0 : Int32)), L, tw_P tw dr rt sc, A, J, 57))) rfl ?_
      subst h
      exact tw_retZ (cd := tw_c8) (b := true) rfl rfl rfl rfl
    · rw [if_neg hc2] at h
      refine tw_br (cd := tw_c8) rfl rfl rfl (by exact if_neg hc2) ?_
      refine tw_blk (cd := tw_c8) rfl 1 (c1 := (7, [some (.ref 33), some (.int a1)], [.int 0], (I, L, tw_P tw dr rt sc, A, J, 57))) rfl ?_
      subst h
      exact tw_retZ (cd := tw_c8) (b := false) rfl rfl rfl rfl
theorem e_X9_back (I : Nat → Int32) (L : Nat → Int64) (A : Nat → Nat → Int32) (J : Nat → Nat → Int64) (tw dr : Nat) (rt : Nat) (sc : Nat) (a1 : Int32) : ∀ r : (Bool × (Nat → Int32)), g_X9_back I A a1 = r → tw_ME 169 (0, [some (.ref 0), some (.int a1)], [], (I, L, tw_P tw dr rt sc, A, J, 57)) (some (.int (tw_b r.1)), ((r.2), L, tw_P tw dr rt sc, A, J, 57)) := by
  intro r h
  unfold g_X9_back at h
  refine tw_blk (cd := tw_c169) rfl 3 (c1 := (3, [some (.ref 0), some (.int a1)], [.int a1, .ref 33], (I, L, tw_P tw dr rt sc, A, J, 57))) rfl ?_
  obtain ⟨⟨c1, I2⟩, hx3, h⟩ := tw_letE h
  dsimp only at h
  refine tw_callE (cd := tw_c169) rfl rfl rfl rfl rfl (e_X0_becomeAs I L A J tw dr rt sc a1 _ hx3) (by exact Or.inl rfl) ?_
  by_cases hc4 : c1 = true
  · rw [if_pos hc4] at h
    refine tw_br (cd := tw_c169) rfl rfl rfl (by exact if_neg (tw_b_t hc4)) ?_
    refine tw_blk (cd := tw_c169) rfl 1 (c1 := (6, [some (.ref 0), some (.int a1)], [.ref 0], (I2, L, tw_P tw dr rt sc, A, J, 57))) rfl ?_
    obtain ⟨⟨c5, I6⟩, hx7, h⟩ := tw_letE h
    dsimp only at h
    refine tw_callE (cd := tw_c169) rfl rfl rfl rfl rfl (e_X9_allow I2 L A J tw dr rt sc _ hx7) (by exact Or.inl rfl) ?_
    refine tw_blk (cd := tw_c169) rfl 1 (c1 := (11, [some (.ref 0), some (.int a1)], [.int (tw_b c5)], (I6, L, tw_P tw dr rt sc, A, J, 57))) rfl ?_
    subst h
    exact tw_retZ (cd := tw_c169) (b := c5) rfl rfl rfl rfl
  · rw [if_neg hc4] at h
    refine tw_br (cd := tw_c169) rfl rfl rfl (by exact if_pos (tw_b_f hc4)) ?_
    refine tw_blk (cd := tw_c169) rfl 2 (c1 := (10, [some (.ref 0), some (.int a1)], [.int 1, .ref 0], (I2, L, tw_P tw dr rt sc, A, J, 57))) rfl ?_
    obtain ⟨⟨c8, I9⟩, hx10, h⟩ := tw_letE h
    dsimp only at h
    refine tw_callE (cd := tw_c169) rfl rfl rfl rfl rfl (e_X9_deny I2 L A J tw dr rt sc (1 : Int32) _ hx10) (by exact Or.inl rfl) ?_
    subst h
    exact tw_retZ (cd := tw_c169) (b := c8) rfl rfl rfl rfl
theorem e_X10_back (I : Nat → Int32) (L : Nat → Int64) (A : Nat → Nat → Int32) (J : Nat → Nat → Int64) (tw dr : Nat) (rt : Nat) (sc : Nat) (a1 : Int32) : ∀ r : (Bool × (Nat → Int32) × (Nat → Nat → Int32)), g_X10_back I A a1 = some r → tw_ME 317 (0, [some (.ref 44), some (.int a1)], [], (I, L, tw_P tw dr rt sc, A, J, 57)) (some (.int (tw_b r.1)), ((r.2.1), L, tw_P tw dr rt sc, (r.2.2), J, 57)) := by
  intro r h
  unfold g_X10_back at h
  refine tw_blk (cd := tw_c317) rfl 1 (c1 := (1, [some (.ref 44), some (.int a1)], [.ref 44], (I, L, tw_P tw dr rt sc, A, J, 57))) rfl ?_
  obtain ⟨I1, hx2, h⟩ := tw_letE h
  refine tw_callE (cd := tw_c317) rfl rfl rfl rfl rfl (e_X10_good I L A J tw dr rt sc _ hx2) (by exact Or.inl rfl) ?_
  refine tw_blk (cd := tw_c317) rfl 6 (c1 := (8, [some (.ref 44), some (.int a1)], [.int ((I1 4421) - (1 : Int32)), .int 0, .int a1], (I1, L, tw_P tw dr rt sc, A, J, 57))) rfl ?_
  refine tw_callE (cd := tw_c317) rfl rfl rfl rfl rfl (e_X10_in I1 L A J tw dr rt sc a1 (0 : Int32) ((I1 4421) - (1 : Int32)) _ rfl) (by exact Or.inl rfl) ?_
  by_cases hc3 : (g_X10_in a1 (0 : Int32) ((I1 4421) - (1 : Int32))) = true
  · rw [if_pos hc3] at h
    refine tw_br (cd := tw_c317) rfl rfl rfl (by exact if_neg (tw_b_t hc3)) ?_
    refine tw_blk (cd := tw_c317) rfl 9 (c1 := (23, [some (.ref 44), some (.int a1)], [.int 8, .int 0, .ref 49, .int ((8 : Int32) * a1), .ref 51], (I1, L, tw_P tw dr rt sc, A, J, 57))) rfl ?_
    obtain ⟨w4, hw5, h⟩ := tw_bindE h
    refine tw_callE (cd := tw_c317) rfl rfl rfl rfl rfl (tw_e_copy I1 L (tw_P tw dr rt sc) A J (q1 := 51) (q2 := 49) (N1 := 24) (N2 := 8) rfl rfl rfl rfl (by decide) ((8 : Int32) * a1) (0 : Int32) (8 : Int32) w4 hw5) (by exact Or.inl rfl) ?_
    refine tw_blk (cd := tw_c317) rfl 4 (c1 := (28, [some (.ref 44), some (.int a1)], [.int 1], ((upd I1 4420 (0 : Int32)), L, tw_P tw dr rt sc, (va_up A 49 w4), J, 57))) rfl ?_
    have h := Option.some.inj h
    subst h
    exact tw_retZ (cd := tw_c317) (b := true) rfl rfl rfl rfl
  · rw [if_neg hc3] at h
    refine tw_br (cd := tw_c317) rfl rfl rfl (by exact if_pos (tw_b_f hc3)) ?_
    refine tw_blk (cd := tw_c317) rfl 2 (c1 := (12, [some (.ref 44), some (.int a1)], [.int 1, .ref 44], (I1, L, tw_P tw dr rt sc, A, J, 57))) rfl ?_
    obtain ⟨⟨c6, I7⟩, hx8, h⟩ := tw_letE h
    dsimp only at h
    refine tw_callE (cd := tw_c317) rfl rfl rfl rfl rfl (e_X10_isNot I1 L A J tw dr rt sc (1 : Int32) _ hx8) (by exact Or.inl rfl) ?_
    have h := Option.some.inj h
    subst h
    exact tw_retZ (cd := tw_c317) (b := c6) rfl rfl rfl rfl
theorem g_X10_led_L1_ok (I : Nat → Int32) (L : Nat → Int64) (A : Nat → Nat → Int32) (J : Nat → Nat → Int64) (tw : Nat) (dr : Nat) (rt : Nat) (sc : Nat) (a1 : Int32) (kont : ((Nat → Int32) × (Nat → Nat → Int32)) → Option (Int32 × (Nat → Int32) × (Nat → Nat → Int32))) (r : (Int32 × (Nat → Int32) × (Nat → Nat → Int32))) : ∀ (n : Nat) (v1_2 : Int32) (v1_3 : Int32) (I_1 : Nat → Int32) (A_1 : Nat → Nat → Int32), g_X10_led_L1 a1 kont n v1_2 v1_3 I_1 A_1 = some r → (∀ ex : ((Nat → Int32) × (Nat → Nat → Int32)), kont ex = some r → tw_ME 318 (33, [some (.ref 44), none, none, none], [], ((ex.1), L, tw_P tw dr rt sc, (ex.2), J, 57)) (some (.int r.1), ((r.2.1), L, tw_P tw dr rt sc, (r.2.2), J, 57))) → tw_ME 318 (4, [some (.ref 44), some (.int a1), some (.int v1_2), some (.int v1_3)], [], (I_1, L, tw_P tw dr rt sc, A_1, J, 57)) (some (.int r.1), ((r.2.1), L, tw_P tw dr rt sc, (r.2.2), J, 57)) := by
  intro n
  induction n with
  | zero =>
    intro v1_2 v1_3 I_1 A_1 h _
    cases h
  | succ n ih =>
    intro v1_2 v1_3 I_1 A_1 h K
    rw [g_X10_led_L1] at h
    refine tw_blk (cd := tw_c318) rfl 1 (c1 := (5, [some (.ref 44), some (.int a1), some (.int v1_2), some (.int v1_3)], [.ref 44], (I_1, L, tw_P tw dr rt sc, A_1, J, 57))) rfl ?_
    refine tw_blk (cd := tw_c318) rfl 1 (c1 := (6, [some (.ref 44), some (.int a1), some (.int v1_2), some (.int v1_3)], [.int (I_1 4414)], (I_1, L, tw_P tw dr rt sc, A_1, J, 57))) rfl ?_
    by_cases hc3 : (I_1 4414) = 0
    · rw [if_pos hc3] at h
      refine tw_br (cd := tw_c318) rfl rfl rfl (by exact if_pos hc3) ?_
      refine tw_forget (ls2 := [some (.ref 44), none, none, none]) ⟨rfl, trivial⟩ ?_
      exact K _ h
    · rw [if_neg hc3] at h
      refine tw_br (cd := tw_c318) rfl rfl rfl (by exact if_neg hc3) ?_
      refine tw_blk (cd := tw_c318) rfl 4 (c1 := (11, [some (.ref 44), some (.int a1), some (.int v1_2), some (.int v1_3)], [.int 5, .ref 47, .int v1_3], (I_1, L, tw_P tw dr rt sc, A_1, J, 57))) rfl ?_
      obtain ⟨x5, hx4, h⟩ := tw_bindE h
      refine tw_iald (cd := tw_c318) (N := 241) rfl rfl rfl rfl hx4 ?_
      by_cases hc6 : x5 ≤ v1_3
      · rw [if_pos hc6] at h
        refine tw_br (cd := tw_c318) rfl rfl rfl (by exact if_pos hc6) ?_
        refine tw_forget (ls2 := [some (.ref 44), none, none, none]) ⟨rfl, trivial⟩ ?_
        exact K _ h
      · rw [if_neg hc6] at h
        refine tw_br (cd := tw_c318) rfl rfl rfl (by exact if_neg hc6) ?_
        refine tw_blk (cd := tw_c318) rfl 2 (c1 := (15, [some (.ref 44), some (.int a1), some (.int v1_2), some (.int v1_3)], [.int v1_3, .ref 44], (I_1, L, tw_P tw dr rt sc, A_1, J, 57))) rfl ?_
        obtain ⟨⟨c7, I8, A9⟩, hx10, h⟩ := tw_bindE h
        dsimp only at h
        refine tw_callE (cd := tw_c318) rfl rfl rfl rfl rfl (e_X10_goOver I_1 L A_1 J tw dr rt sc v1_3 _ hx10) (by exact Or.inl rfl) ?_
        refine tw_blk (cd := tw_c318) rfl 4 (c1 := (20, [some (.ref 44), some (.int a1), some (.int v1_2), some (.int v1_3)], [.int (-2), .int (I8 4425)], (I8, L, tw_P tw dr rt sc, A9, J, 57))) rfl ?_
        by_cases hc11 : (I8 4425) = (-2 : Int32)
        · rw [if_pos hc11] at h
          refine tw_br (cd := tw_c318) rfl rfl rfl (by exact if_pos hc11) ?_
          refine tw_blk (cd := tw_c318) rfl 2 (c1 := (24, [some (.ref 44), some (.int a1), some (.int v1_2), some (.int v1_3)], [.int a1, .int v1_2], (I8, L, tw_P tw dr rt sc, A9, J, 57))) rfl ?_
          by_cases hc12 : v1_2 = a1
          · rw [if_pos hc12] at h
            refine tw_br (cd := tw_c318) rfl rfl rfl (by exact if_pos hc12) ?_
            refine tw_blk (cd := tw_c318) rfl 4 (c1 := (29, [some (.ref 44), some (.int a1), some (.int v1_2), some (.int v1_3)], [.int v1_3], ((upd I8 4400 (0 : Int32)), L, tw_P tw dr rt sc, A9, J, 57))) rfl ?_
            have h := Option.some.inj h
            subst h
            exact tw_retE (cd := tw_c318) rfl rfl rfl rfl
          · rw [if_neg hc12] at h
            refine tw_br (cd := tw_c318) rfl rfl rfl (by exact if_neg hc12) ?_
            refine tw_blk (cd := tw_c318) rfl 3 (c1 := (4, [some (.ref 44), some (.int a1), some (.int (v1_2 + (1 : Int32))), some (.int (v1_3 + (1 : Int32)))], [], (I8, L, tw_P tw dr rt sc, A9, J, 57))) rfl ?_
            exact ih (v1_2 + (1 : Int32)) (v1_3 + (1 : Int32)) I8 A9 h K
        · rw [if_neg hc11] at h
          refine tw_br (cd := tw_c318) rfl rfl rfl (by exact if_neg hc11) ?_
          refine tw_blk (cd := tw_c318) rfl 1 (c1 := (31, [some (.ref 44), some (.int a1), some (.int v1_2), some (.int v1_3)], [], (I8, L, tw_P tw dr rt sc, A9, J, 57))) rfl ?_
          refine tw_blk (cd := tw_c318) rfl 2 (c1 := (4, [some (.ref 44), some (.int a1), some (.int v1_2), some (.int (v1_3 + (1 : Int32)))], [], (I8, L, tw_P tw dr rt sc, A9, J, 57))) rfl ?_
          exact ih v1_2 (v1_3 + (1 : Int32)) I8 A9 h K
theorem e_X10_led (I : Nat → Int32) (L : Nat → Int64) (A : Nat → Nat → Int32) (J : Nat → Nat → Int64) (tw dr : Nat) (rt : Nat) (sc : Nat) (a1 : Int32) : ∀ r : (Int32 × (Nat → Int32) × (Nat → Nat → Int32)), g_X10_led I A a1 = some r → tw_ME 318 (0, [some (.ref 44), some (.int a1), none, none], [], (I, L, tw_P tw dr rt sc, A, J, 57)) (some (.int r.1), ((r.2.1), L, tw_P tw dr rt sc, (r.2.2), J, 57)) := by
  intro r h
  unfold g_X10_led at h
  refine tw_blk (cd := tw_c318) rfl 4 (c1 := (4, [some (.ref 44), some (.int a1), some (.int 0), some (.int 0)], [], (I, L, tw_P tw dr rt sc, A, J, 57))) rfl ?_
  refine g_X10_led_L1_ok I L A J tw dr rt sc a1 _ r 4096 (0 : Int32) (0 : Int32) I A h (fun ex h => ?_)
  obtain ⟨I1, A2⟩ := ex
  dsimp only at h
  refine tw_blk (cd := tw_c318) rfl 4 (c1 := (37, [some (.ref 44), none, none, none], [.int 0], ((upd I1 4400 (1 : Int32)), L, tw_P tw dr rt sc, A2, J, 57))) rfl ?_
  have h := Option.some.inj h
  subst h
  exact tw_retE (cd := tw_c318) rfl rfl rfl rfl
theorem e_X10_thrown (I : Nat → Int32) (L : Nat → Int64) (A : Nat → Nat → Int32) (J : Nat → Nat → Int64) (tw dr : Nat) (rt : Nat) (sc : Nat) : ∀ r : Int32, g_X10_thrown I = r → tw_ME 192 (0, [some (.ref 44)], [], (I, L, tw_P tw dr rt sc, A, J, 57)) (some (.int r), (I, L, tw_P tw dr rt sc, A, J, 57)) := by
  intro r h
  unfold g_X10_thrown at h
  refine tw_blk (cd := tw_c192) rfl 2 (c1 := (2, [some (.ref 44)], [.int (I 4400)], (I, L, tw_P tw dr rt sc, A, J, 57))) rfl ?_
  subst h
  exact tw_retE (cd := tw_c192) rfl rfl rfl rfl
theorem e_X9_size (I : Nat → Int32) (L : Nat → Int64) (A : Nat → Nat → Int32) (J : Nat → Nat → Int64) (rt : Nat) (sc : Nat) (a1 : Int32) : ∀ r : Int32, g_X9_size I A a1 = r → tw_ME 171 (0, [some (.ref 0), some (.int a1)], [], (I, L, tw_P 2 14 rt sc, A, J, 57)) (some (.int r), (I, L, tw_P 2 14 rt sc, A, J, 57)) := by
  intro r h
  unfold g_X9_size at h
  refine tw_blk (cd := tw_c171) rfl 1 (c1 := (1, [some (.ref 0), some (.int a1)], [.int a1], (I, L, tw_P 2 14 rt sc, A, J, 57))) rfl ?_
  by_cases hc1 : a1 < 0
  · rw [if_pos hc1] at h
    refine tw_br (cd := tw_c171) rfl rfl rfl (by exact if_pos hc1) ?_
    refine tw_blk (cd := tw_c171) rfl 1 (c1 := (11, [some (.ref 0), some (.int a1)], [.int a1], (I, L, tw_P 2 14 rt sc, A, J, 57))) rfl ?_
    by_cases hs2 : a1 = 9
    · rw [if_pos hs2] at h
      refine tw_swE (cd := tw_c171) rfl rfl rfl hs2 (by exact rfl) ?_
      refine tw_blk (cd := tw_c171) rfl 3 (c1 := (15, [some (.ref 0), some (.int a1)], [.int (I 3304)], (I, L, tw_P 2 14 rt sc, A, J, 57))) rfl ?_
      subst h
      exact tw_retE (cd := tw_c171) rfl rfl rfl rfl
    · rw [if_neg hs2] at h
      by_cases hs3 : a1 = 10
      · rw [if_pos hs3] at h
        refine tw_swE (cd := tw_c171) rfl rfl rfl hs3 (by exact rfl) ?_
        refine tw_blk (cd := tw_c171) rfl 3 (c1 := (19, [some (.ref 0), some (.int a1)], [.int (I 3306)], (I, L, tw_P 2 14 rt sc, A, J, 57))) rfl ?_
        subst h
        exact tw_retE (cd := tw_c171) rfl rfl rfl rfl
      · rw [if_neg hs3] at h
        by_cases hs4 : a1 = 11
        · rw [if_pos hs4] at h
          refine tw_swE (cd := tw_c171) rfl rfl rfl hs4 (by exact rfl) ?_
          refine tw_blk (cd := tw_c171) rfl 2 (c1 := (22, [some (.ref 0), some (.int a1)], [.int (I 1)], (I, L, tw_P 2 14 rt sc, A, J, 57))) rfl ?_
          subst h
          exact tw_retE (cd := tw_c171) rfl rfl rfl rfl
        · rw [if_neg hs4] at h
          refine tw_tsD (cd := tw_c171) rfl rfl ?_ rfl ?_
          · by_cases h8 : (a1).toInt < 9
            · exact Or.inl h8
            · by_cases h9 : 11 < (a1).toInt
              · exact Or.inr h9
              · exfalso
                have h7 : (a1).toInt = 9 ∨ (a1).toInt = 10 ∨ (a1).toInt = 11 := by omega
                rcases h7 with h7 | h7 | h7
                · exact (fun e9 => hs2 (Int32.toInt_inj.mp (e9.trans (by decide)))) h7
                · exact (fun e9 => hs3 (Int32.toInt_inj.mp (e9.trans (by decide)))) h7
                · exact (fun e9 => hs4 (Int32.toInt_inj.mp (e9.trans (by decide)))) h7
          refine tw_blk (cd := tw_c171) rfl 1 (c1 := (24, [some (.ref 0), some (.int a1)], [.int (-1)], (I, L, tw_P 2 14 rt sc, A, J, 57))) rfl ?_
          subst h
          exact tw_retE (cd := tw_c171) rfl rfl rfl rfl
  · rw [if_neg hc1] at h
    refine tw_br (cd := tw_c171) rfl rfl rfl (by exact if_neg hc1) ?_
    refine tw_blk (cd := tw_c171) rfl 2 (c1 := (4, [some (.ref 0), some (.int a1)], [.int 9, .int a1], (I, L, tw_P 2 14 rt sc, A, J, 57))) rfl ?_
    by_cases hc5 : (9 : Int32) ≤ a1
    · rw [if_pos hc5] at h
      refine tw_br (cd := tw_c171) rfl rfl rfl (by exact if_pos hc5) ?_
      refine tw_blk (cd := tw_c171) rfl 1 (c1 := (11, [some (.ref 0), some (.int a1)], [.int a1], (I, L, tw_P 2 14 rt sc, A, J, 57))) rfl ?_
      by_cases hs6 : a1 = 9
      · rw [if_pos hs6] at h
        refine tw_swE (cd := tw_c171) rfl rfl rfl hs6 (by exact rfl) ?_
        refine tw_blk (cd := tw_c171) rfl 3 (c1 := (15, [some (.ref 0), some (.int a1)], [.int (I 3304)], (I, L, tw_P 2 14 rt sc, A, J, 57))) rfl ?_
        subst h
        exact tw_retE (cd := tw_c171) rfl rfl rfl rfl
      · rw [if_neg hs6] at h
        by_cases hs7 : a1 = 10
        · rw [if_pos hs7] at h
          refine tw_swE (cd := tw_c171) rfl rfl rfl hs7 (by exact rfl) ?_
          refine tw_blk (cd := tw_c171) rfl 3 (c1 := (19, [some (.ref 0), some (.int a1)], [.int (I 3306)], (I, L, tw_P 2 14 rt sc, A, J, 57))) rfl ?_
          subst h
          exact tw_retE (cd := tw_c171) rfl rfl rfl rfl
        · rw [if_neg hs7] at h
          by_cases hs8 : a1 = 11
          · rw [if_pos hs8] at h
            refine tw_swE (cd := tw_c171) rfl rfl rfl hs8 (by exact rfl) ?_
            refine tw_blk (cd := tw_c171) rfl 2 (c1 := (22, [some (.ref 0), some (.int a1)], [.int (I 1)], (I, L, tw_P 2 14 rt sc, A, J, 57))) rfl ?_
            subst h
            exact tw_retE (cd := tw_c171) rfl rfl rfl rfl
          · rw [if_neg hs8] at h
            refine tw_tsD (cd := tw_c171) rfl rfl ?_ rfl ?_
            · by_cases h8 : (a1).toInt < 9
              · exact Or.inl h8
              · by_cases h9 : 11 < (a1).toInt
                · exact Or.inr h9
                · exfalso
                  have h7 : (a1).toInt = 9 ∨ (a1).toInt = 10 ∨ (a1).toInt = 11 := by omega
                  rcases h7 with h7 | h7 | h7
                  · exact (fun e9 => hs6 (Int32.toInt_inj.mp (e9.trans (by decide)))) h7
                  · exact (fun e9 => hs7 (Int32.toInt_inj.mp (e9.trans (by decide)))) h7
                  · exact (fun e9 => hs8 (Int32.toInt_inj.mp (e9.trans (by decide)))) h7
            refine tw_blk (cd := tw_c171) rfl 1 (c1 := (24, [some (.ref 0), some (.int a1)], [.int (-1)], (I, L, tw_P 2 14 rt sc, A, J, 57))) rfl ?_
            subst h
            exact tw_retE (cd := tw_c171) rfl rfl rfl rfl
    · rw [if_neg hc5] at h
      refine tw_br (cd := tw_c171) rfl rfl rfl (by exact if_neg hc5) ?_
      refine tw_blk (cd := tw_c171) rfl 3 (c1 := (8, [some (.ref 0), some (.int a1)], [.int a1, .ref 2], (I, L, tw_P 2 14 rt sc, A, J, 57))) rfl ?_
      refine tw_callE (cd := tw_c171) rfl rfl rfl rfl rfl (e_X8_count_2 I L A J 2 14 rt sc a1 _ rfl) (by exact Or.inl rfl) ?_
      subst h
      exact tw_retE (cd := tw_c171) rfl rfl rfl rfl
theorem e_X10_size (I : Nat → Int32) (L : Nat → Int64) (A : Nat → Nat → Int32) (J : Nat → Nat → Int64) (tw dr : Nat) (rt : Nat) (sc : Nat) (a1 : Int32) : ∀ r : (Int32 × (Nat → Int32)), g_X10_size I A a1 = some r → tw_ME 319 (0, [some (.ref 44), some (.int a1)], [], (I, L, tw_P tw dr rt sc, A, J, 57)) (some (.int r.1), ((r.2), L, tw_P tw dr rt sc, A, J, 57)) := by
  intro r h
  unfold g_X10_size at h
  refine tw_blk (cd := tw_c319) rfl 5 (c1 := (5, [some (.ref 44), some (.int a1)], [.int 11, .int a1], ((upd I 4400 (0 : Int32)), L, tw_P tw dr rt sc, A, J, 57))) rfl ?_
  by_cases hc1 : a1 = (11 : Int32)
  · rw [if_pos hc1] at h
    refine tw_br (cd := tw_c319) rfl rfl rfl (by exact if_pos hc1) ?_
    refine tw_blk (cd := tw_c319) rfl 2 (c1 := (8, [some (.ref 44), some (.int a1)], [.int (I 4402)], ((upd I 4400 (0 : Int32)), L, tw_P tw dr rt sc, A, J, 57))) rfl ?_
    have h := Option.some.inj h
    subst h
    exact tw_retE (cd := tw_c319) rfl rfl rfl rfl
  · rw [if_neg hc1] at h
    refine tw_br (cd := tw_c319) rfl rfl rfl (by exact if_neg hc1) ?_
    refine tw_blk (cd := tw_c319) rfl 2 (c1 := (11, [some (.ref 44), some (.int a1)], [.int (I 4414)], ((upd I 4400 (0 : Int32)), L, tw_P tw dr rt sc, A, J, 57))) rfl ?_
    by_cases hc2 : (I 4414) = 0
    · rw [if_pos hc2] at h
      refine tw_br (cd := tw_c319) rfl rfl rfl (by exact if_pos hc2) ?_
      refine tw_blk (cd := tw_c319) rfl 3 (c1 := (15, [some (.ref 44), some (.int a1)], [.int 10, .int 0, .int a1], ((upd I 4400 (0 : Int32)), L, tw_P tw dr rt sc, A, J, 57))) rfl ?_
      refine tw_callE (cd := tw_c319) rfl rfl rfl rfl rfl (e_X10_in (upd I 4400 (0 : Int32)) L A J tw dr rt sc a1 (0 : Int32) (10 : Int32) _ rfl) (by exact Or.inl rfl) ?_
      by_cases hc3 : (g_X10_in a1 (0 : Int32) (10 : Int32)) = true
      · rw [if_pos hc3] at h
        refine tw_br (cd := tw_c319) rfl rfl rfl (by exact if_neg (tw_b_t hc3)) ?_
        refine tw_blk (cd := tw_c319) rfl 2 (c1 := (20, [some (.ref 44), some (.int a1)], [.int 0], ((upd I 4400 (0 : Int32)), L, tw_P tw dr rt sc, A, J, 57))) rfl ?_
        have h := Option.some.inj h
        subst h
        exact tw_retE (cd := tw_c319) rfl rfl rfl rfl
      · rw [if_neg hc3] at h
        refine tw_br (cd := tw_c319) rfl rfl rfl (by exact if_pos (tw_b_f hc3)) ?_
        refine tw_blk (cd := tw_c319) rfl 1 (c1 := (20, [some (.ref 44), some (.int a1)], [.int (-1)], ((upd I 4400 (0 : Int32)), L, tw_P tw dr rt sc, A, J, 57))) rfl ?_
        have h := Option.some.inj h
        subst h
        exact tw_retE (cd := tw_c319) rfl rfl rfl rfl
    · rw [if_neg hc2] at h
      refine tw_br (cd := tw_c319) rfl rfl rfl (by exact if_neg hc2) ?_
      refine tw_blk (cd := tw_c319) rfl 3 (c1 := (24, [some (.ref 44), some (.int a1)], [.int 8, .int 0, .int a1], ((upd I 4400 (0 : Int32)), L, tw_P tw dr rt sc, A, J, 57))) rfl ?_
      refine tw_callE (cd := tw_c319) rfl rfl rfl rfl rfl (e_X10_in (upd I 4400 (0 : Int32)) L A J tw dr rt sc a1 (0 : Int32) (8 : Int32) _ rfl) (by exact Or.inl rfl) ?_
      by_cases hc4 : (g_X10_in a1 (0 : Int32) (8 : Int32)) = true
      · rw [if_pos hc4] at h
        refine tw_br (cd := tw_c319) rfl rfl rfl (by exact if_neg (tw_b_t hc4)) ?_
        refine tw_blk (cd := tw_c319) rfl 3 (c1 := (29, [some (.ref 44), some (.int a1)], [.int a1, .ref 47], ((upd I 4400 (0 : Int32)), L, tw_P tw dr rt sc, A, J, 57))) rfl ?_
        obtain ⟨x6, hx5, h⟩ := tw_bindE h
        refine tw_iald (cd := tw_c319) (N := 241) rfl rfl rfl rfl hx5 ?_
        have h := Option.some.inj h
        subst h
        exact tw_retE (cd := tw_c319) rfl rfl rfl rfl
      · rw [if_neg hc4] at h
        refine tw_br (cd := tw_c319) rfl rfl rfl (by exact if_pos (tw_b_f hc4)) ?_
        refine tw_blk (cd := tw_c319) rfl 2 (c1 := (33, [some (.ref 44), some (.int a1)], [.int 9, .int a1], ((upd I 4400 (0 : Int32)), L, tw_P tw dr rt sc, A, J, 57))) rfl ?_
        by_cases hc7 : a1 = (9 : Int32)
        · rw [if_pos hc7] at h
          refine tw_br (cd := tw_c319) rfl rfl rfl (by exact if_pos hc7) ?_
          refine tw_blk (cd := tw_c319) rfl 3 (c1 := (44, [some (.ref 44), some (.int a1)], [.int (I 4420)], ((upd I 4400 (0 : Int32)), L, tw_P tw dr rt sc, A, J, 57))) rfl ?_
          have h := Option.some.inj h
          subst h
          exact tw_retE (cd := tw_c319) rfl rfl rfl rfl
        · rw [if_neg hc7] at h
          refine tw_br (cd := tw_c319) rfl rfl rfl (by exact if_neg hc7) ?_
          refine tw_blk (cd := tw_c319) rfl 2 (c1 := (39, [some (.ref 44), some (.int a1)], [.int 10, .int a1], ((upd I 4400 (0 : Int32)), L, tw_P tw dr rt sc, A, J, 57))) rfl ?_
          by_cases hc8 : a1 = (10 : Int32)
          · rw [if_pos hc8] at h
            refine tw_br (cd := tw_c319) rfl rfl rfl (by exact if_pos hc8) ?_
            refine tw_blk (cd := tw_c319) rfl 3 (c1 := (44, [some (.ref 44), some (.int a1)], [.int (I 4421)], ((upd I 4400 (0 : Int32)), L, tw_P tw dr rt sc, A, J, 57))) rfl ?_
            have h := Option.some.inj h
            subst h
            exact tw_retE (cd := tw_c319) rfl rfl rfl rfl
          · rw [if_neg hc8] at h
            refine tw_br (cd := tw_c319) rfl rfl rfl (by exact if_neg hc8) ?_
            refine tw_blk (cd := tw_c319) rfl 1 (c1 := (44, [some (.ref 44), some (.int a1)], [.int (-1)], ((upd I 4400 (0 : Int32)), L, tw_P tw dr rt sc, A, J, 57))) rfl ?_
            have h := Option.some.inj h
            subst h
            exact tw_retE (cd := tw_c319) rfl rfl rfl rfl
theorem e_X9_trouble (I : Nat → Int32) (L : Nat → Int64) (A : Nat → Nat → Int32) (J : Nat → Nat → Int64) (tw dr : Nat) (rt : Nat) (sc : Nat) : ∀ r : Int32, g_X9_trouble I = r → tw_ME 172 (0, [some (.ref 0)], [], (I, L, tw_P tw dr rt sc, A, J, 57)) (some (.int r), (I, L, tw_P tw dr rt sc, A, J, 57)) := by
  intro r h
  unfold g_X9_trouble at h
  refine tw_blk (cd := tw_c172) rfl 2 (c1 := (2, [some (.ref 0)], [.int (I 12)], (I, L, tw_P tw dr rt sc, A, J, 57))) rfl ?_
  subst h
  exact tw_retE (cd := tw_c172) rfl rfl rfl rfl
theorem e_X10_trouble (I : Nat → Int32) (L : Nat → Int64) (A : Nat → Nat → Int32) (J : Nat → Nat → Int64) (tw dr : Nat) (rt : Nat) (sc : Nat) : ∀ r : (Int32 × (Nat → Int32)), g_X10_trouble I = r → tw_ME 320 (0, [some (.ref 44)], [], (I, L, tw_P tw dr rt sc, A, J, 57)) (some (.int r.1), ((r.2), L, tw_P tw dr rt sc, A, J, 57)) := by
  intro r h
  unfold g_X10_trouble at h
  refine tw_blk (cd := tw_c320) rfl 5 (c1 := (5, [some (.ref 44)], [.int (I 4411)], ((upd I 4400 (0 : Int32)), L, tw_P tw dr rt sc, A, J, 57))) rfl ?_
  subst h
  exact tw_retE (cd := tw_c320) rfl rfl rfl rfl
