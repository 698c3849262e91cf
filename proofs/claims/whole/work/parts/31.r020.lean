/-! the machine does what the functions say -/
set_option maxRecDepth 16000
theorem e_X0_write_33_34 (I : Nat → Int32) (L : Nat → Int64) (A : Nat → Nat → Int32) (J : Nat → Nat → Int64) (tw dr : Nat) (rt : Nat) (sc : Nat) (a2 : Int32) : ∀ r : Nat → Nat → Int32, g_X0_write_33_34 I A a2 = r → tw_ME 9 (0, [some (.ref 33), some (.ref 34), some (.int a2)], [], (I, L, tw_P tw dr rt sc, A, J, 57)) (none, (I, L, tw_P tw dr rt sc, r, J, 57)) := by
  intro r h
  unfold g_X0_write_33_34 at h
  refine tw_blk (cd := tw_c9) rfl 6 (c1 := (6, [some (.ref 33), some (.ref 34), some (.int a2)], [.int (I 3300), .int (a2 * (3 : Int32)), .ref 34], (I, L, tw_P tw dr rt sc, A, J, 57))) rfl ?_
  obtain ⟨w1, hw2, h⟩ := tw_letE h
  refine tw_callE (cd := tw_c9) rfl rfl rfl rfl rfl (tw_e_put I L (tw_P tw dr rt sc) A J (q := 34) (N := 48) rfl rfl (by decide) (a2 * (3 : Int32)) (I 3300) w1 hw2) (by exact Or.inl rfl) ?_
  refine tw_blk (cd := tw_c9) rfl 8 (c1 := (15, [some (.ref 33), some (.ref 34), some (.int a2)], [.int (I 3301), .int ((a2 * (3 : Int32)) + (1 : Int32)), .ref 34], (I, L, tw_P tw dr rt sc, (va_up A 34 w1), J, 57))) rfl ?_
  obtain ⟨w3, hw4, h⟩ := tw_letE h
  refine tw_callE (cd := tw_c9) rfl rfl rfl rfl rfl (tw_e_put I L (tw_P tw dr rt sc) (va_up A 34 w1) J (q := 34) (N := 48) rfl rfl (by decide) ((a2 * (3 : Int32)) + (1 : Int32)) (I 3301) w3 hw4) (by exact Or.inl rfl) ?_
  refine tw_blk (cd := tw_c9) rfl 8 (c1 := (24, [some (.ref 33), some (.ref 34), some (.int a2)], [.int (I 3302), .int ((a2 * (3 : Int32)) + (2 : Int32)), .ref 34], (I, L, tw_P tw dr rt sc, (va_up (va_up A 34 w1) 34 w3), J, 57))) rfl ?_
  obtain ⟨w5, hw6, h⟩ := tw_letE h
  refine tw_callE (cd := tw_c9) rfl rfl rfl rfl rfl (tw_e_put I L (tw_P tw dr rt sc) (va_up (va_up A 34 w1) 34 w3) J (q := 34) (N := 48) rfl rfl (by decide) ((a2 * (3 : Int32)) + (2 : Int32)) (I 3302) w5 hw6) (by exact Or.inl rfl) ?_
  subst h
  exact tw_retE (cd := tw_c9) rfl rfl rfl rfl
theorem e_X0_keep (I : Nat → Int32) (L : Nat → Int64) (A : Nat → Nat → Int32) (J : Nat → Nat → Int64) (tw dr : Nat) (rt : Nat) (sc : Nat) : ∀ r : ((Nat → Int32) × (Nat → Nat → Int32)), g_X0_keep I A = r → tw_ME 5 (0, [some (.ref 33)], [], (I, L, tw_P tw dr rt sc, A, J, 57)) (none, ((r.1), L, tw_P tw dr rt sc, (r.2), J, 57)) := by
  intro r h
  unfold g_X0_keep at h
  refine tw_blk (cd := tw_c5) rfl 3 (c1 := (3, [some (.ref 33)], [.int 16, .int (I 3304)], (I, L, tw_P tw dr rt sc, A, J, 57))) rfl ?_
  obtain ⟨⟨I2, A3⟩, hj4, h⟩ := tw_letE h
  dsimp only at h
  have K : tw_ME 5 (19, [some (.ref 33)], [], (I2, L, tw_P tw dr rt sc, A3, J, 57)) (none, ((r.1), L, tw_P tw dr rt sc, (r.2), J, 57)) := by
    refine tw_blk (cd := tw_c5) rfl 5 (c1 := (24, [some (.ref 33)], [.int (I2 3304), .ref 34, .ref 33], (I2, L, tw_P tw dr rt sc, A3, J, 57))) rfl ?_
    obtain ⟨A7, hx8, h⟩ := tw_letE h
    refine tw_callE (cd := tw_c5) rfl rfl rfl rfl rfl (e_X0_write_33_34 I2 L A3 J tw dr rt sc (I2 3304) _ hx8) (by exact Or.inl rfl) ?_
    refine tw_blk (cd := tw_c5) rfl 6 (c1 := (31, [some (.ref 33)], [], ((upd I2 3304 ((I2 3304) + (1 : Int32))), L, tw_P tw dr rt sc, A7, J, 57))) rfl ?_
    subst h
    exact tw_retE (cd := tw_c5) rfl rfl rfl rfl
  by_cases hc1 : (I 3304) < (16 : Int32)
  · rw [if_pos hc1] at hj4
    refine tw_br (cd := tw_c5) rfl rfl rfl (by exact if_pos hc1) ?_
    obtain ⟨hj4_0, hj4r0⟩ := Prod.mk.inj hj4
    subst hj4_0
    subst hj4r0
    exact K
  · rw [if_neg hc1] at hj4
    refine tw_br (cd := tw_c5) rfl rfl rfl (by exact if_neg hc1) ?_
    refine tw_blk (cd := tw_c5) rfl 11 (c1 := (15, [some (.ref 33)], [.int 45, .int 0, .ref 34, .int 3, .ref 34], (I, L, tw_P tw dr rt sc, A, J, 57))) rfl ?_
    obtain ⟨w5, hw6, hj4⟩ := tw_letE hj4
    refine tw_acp (cd := tw_c5) (N1 := 48) (N2 := 48) rfl rfl rfl ⟨rfl, by decide⟩ ⟨rfl, by decide⟩ ⟨by decide, by decide, by decide⟩ ⟨by decide, by decide⟩ hw6 ?_
    refine tw_blk (cd := tw_c5) rfl 3 (c1 := (19, [some (.ref 33)], [], ((upd I 3304 (15 : Int32)), L, tw_P tw dr rt sc, (va_up A 34 w5), J, 57))) rfl ?_
    obtain ⟨hj4_0, hj4r0⟩ := Prod.mk.inj hj4
    subst hj4_0
    subst hj4r0
    exact K
theorem e_X9_allow (I : Nat → Int32) (L : Nat → Int64) (A : Nat → Nat → Int32) (J : Nat → Nat → Int64) (tw dr : Nat) (rt : Nat) (sc : Nat) : ∀ r : (Bool × (Nat → Int32)), g_X9_allow I = r → tw_ME 176 (0, [some (.ref 0)], [], (I, L, tw_P tw dr rt sc, A, J, 57)) (some (.int (tw_b r.1)), ((r.2), L, tw_P tw dr rt sc, A, J, 57)) := by
  intro r h
  unfold g_X9_allow at h
  refine tw_blk (cd := tw_c176) rfl 4 (c1 := (4, [some (.ref 0)], [.int 1], ((upd I 12 (0 : Int32)), L, tw_P tw dr rt sc, A, J, 57))) rfl ?_
  subst h
  exact tw_retZ (cd := tw_c176) (b := true) rfl rfl rfl rfl
theorem e_X9_brick (I : Nat → Int32) (L : Nat → Int64) (A : Nat → Nat → Int32) (J : Nat → Nat → Int64) (rt : Nat) (sc : Nat) (a1 : Int32) : ∀ r : (Bool × (Nat → Int32) × (Nat → Nat → Int32)), g_X9_brick I A a1 = r → tw_ME 162 (0, [some (.ref 0), some (.int a1)], [], (I, L, tw_P 2 14 rt sc, A, J, 57)) (some (.int (tw_b r.1)), ((r.2.1), L, tw_P 2 14 rt sc, (r.2.2), J, 57)) := by
  intro r h
  unfold g_X9_brick at h
  refine tw_blk (cd := tw_c162) rfl 2 (c1 := (2, [some (.ref 0), some (.int a1)], [.int a1, .ref 0], (I, L, tw_P 2 14 rt sc, A, J, 57))) rfl ?_
  refine tw_callE (cd := tw_c162) rfl rfl rfl rfl rfl (e_X9_isSight I L A J rt sc a1 _ rfl) (by exact Or.inl rfl) ?_
  by_cases hc1 : (g_X9_isSight A a1) = true
  · rw [if_pos hc1] at h
    refine tw_br (cd := tw_c162) rfl rfl rfl (by exact if_neg (tw_b_t hc1)) ?_
    refine tw_blk (cd := tw_c162) rfl 7 (c1 := (15, [some (.ref 0), some (.int a1)], [.int (((I 3300) >>> (a1 &&& 31)) &&& (1 : Int32))], (I, L, tw_P 2 14 rt sc, A, J, 57))) rfl ?_
    by_cases hc2 : (((I 3300) >>> (a1 &&& 31)) &&& (1 : Int32)) = 0
    · rw [if_pos hc2] at h
      refine tw_br (cd := tw_c162) rfl rfl rfl (by exact if_pos hc2) ?_
      refine tw_blk (cd := tw_c162) rfl 2 (c1 := (22, [some (.ref 0), some (.int a1)], [.ref 33], (I, L, tw_P 2 14 rt sc, A, J, 57))) rfl ?_
      obtain ⟨⟨I3, A4⟩, hx5, h⟩ := tw_letE h
      dsimp only at h
      refine tw_callE (cd := tw_c162) rfl rfl rfl rfl rfl (e_X0_keep I L A J 2 14 rt sc _ hx5) (by exact Or.inl rfl) ?_
      refine tw_blk (cd := tw_c162) rfl 10 (c1 := (33, [some (.ref 0), some (.int a1)], [.ref 0], ((upd I3 3300 ((I3 3300) ||| ((1 : Int32) <<< (a1 &&& 31)))), L, tw_P 2 14 rt sc, A4, J, 57))) rfl ?_
      obtain ⟨⟨c6, I7⟩, hx8, h⟩ := tw_letE h
      dsimp only at h
      refine tw_callE (cd := tw_c162) rfl rfl rfl rfl rfl (e_X9_allow (upd I3 3300 ((I3 3300) ||| ((1 : Int32) <<< (a1 &&& 31)))) L A4 J 2 14 rt sc _ hx8) (by exact Or.inl rfl) ?_
      subst h
      exact tw_retZ (cd := tw_c162) (b := c6) rfl rfl rfl rfl
    · rw [if_neg hc2] at h
      refine tw_br (cd := tw_c162) rfl rfl rfl (by exact if_neg hc2) ?_
      refine tw_blk (cd := tw_c162) rfl 2 (c1 := (18, [some (.ref 0), some (.int a1)], [.int 5, .ref 0], (I, L, tw_P 2 14 rt sc, A, J, 57))) rfl ?_
      obtain ⟨⟨c9, I10⟩, hx11, h⟩ := tw_letE h
      dsimp only at h
      refine tw_callE (cd := tw_c162) rfl rfl rfl rfl rfl (e_X9_deny I L A J 2 14 rt sc (5 : Int32) _ hx11) (by exact Or.inl rfl) ?_
      subst h
      exact tw_retZ (cd := tw_c162) (b := c9) rfl rfl rfl rfl
  · rw [if_neg hc1] at h
    refine tw_br (cd := tw_c162) rfl rfl rfl (by exact if_pos (tw_b_f hc1)) ?_
    refine tw_blk (cd := tw_c162) rfl 2 (c1 := (6, [some (.ref 0), some (.int a1)], [.int 1, .ref 0], (I, L, tw_P 2 14 rt sc, A, J, 57))) rfl ?_
    obtain ⟨⟨c12, I13⟩, hx14, h⟩ := tw_letE h
    dsimp only at h
    refine tw_callE (cd := tw_c162) rfl rfl rfl rfl rfl (e_X9_deny I L A J 2 14 rt sc (1 : Int32) _ hx14) (by exact Or.inl rfl) ?_
    subst h
    exact tw_retZ (cd := tw_c162) (b := c12) rfl rfl rfl rfl
theorem e_X10_isNot (I : Nat → Int32) (L : Nat → Int64) (A : Nat → Nat → Int32) (J : Nat → Nat → Int64) (tw dr : Nat) (rt : Nat) (sc : Nat) (a1 : Int32) : ∀ r : (Bool × (Nat → Int32)), g_X10_isNot I a1 = r → tw_ME 195 (0, [some (.ref 44), some (.int a1)], [], (I, L, tw_P tw dr rt sc, A, J, 57)) (some (.int (tw_b r.1)), ((r.2), L, tw_P tw dr rt sc, A, J, 57)) := by
  intro r h
  unfold g_X10_isNot at h
  refine tw_blk (cd := tw_c195) rfl 4 (c1 := (4, [some (.ref 44), some (.int a1)], [.int 0], ((upd I 4411 a1), L, tw_P tw dr rt sc, A, J, 57))) rfl ?_
  subst h
  exact tw_retZ (cd := tw_c195) (b := false) rfl rfl rfl rfl
theorem g_X10_note_L1_ok (I : Nat → Int32) (L : Nat → Int64) (A : Nat → Nat → Int32) (J : Nat → Nat → Int64) (tw : Nat) (dr : Nat) (rt : Nat) (sc : Nat) (out : Option Value × tw_S) : ∀ (n : Nat) (v1_1 : Int32) (A_1 : Nat → Nat → Int32) (ex : Nat → Nat → Int32), g_X10_note_L1 n v1_1 A_1 = some ex → tw_ME 308 (21, [some (.ref 44), none], [], (I, L, tw_P tw dr rt sc, ex, J, 57)) out → tw_ME 308 (6, [some (.ref 44), some (.int v1_1)], [], (I, L, tw_P tw dr rt sc, A_1, J, 57)) out := by
  intro n
  induction n with
  | zero =>
    intro v1_1 A_1 ex h _
    cases h
  | succ n ih =>
    intro v1_1 A_1 ex h K
    rw [g_X10_note_L1] at h
    refine tw_blk (cd := tw_c308) rfl 1 (c1 := (7, [some (.ref 44), some (.int v1_1)], [.int v1_1], (I, L, tw_P tw dr rt sc, A_1, J, 57))) rfl ?_
    refine tw_blk (cd := tw_c308) rfl 1 (c1 := (8, [some (.ref 44), some (.int v1_1)], [.int 120, .int v1_1], (I, L, tw_P tw dr rt sc, A_1, J, 57))) rfl ?_
    by_cases hc6 : (120 : Int32) ≤ v1_1
    · rw [if_pos hc6] at h
      refine tw_br (cd := tw_c308) rfl rfl rfl (by exact if_pos hc6) ?_
      refine tw_forget (ls2 := [some (.ref 44), none]) ⟨rfl, trivial⟩ ?_
      have h := Option.some.inj h
      subst h
      exact K
    · rw [if_neg hc6] at h
      refine tw_br (cd := tw_c308) rfl rfl rfl (by exact if_neg hc6) ?_
      refine tw_blk (cd := tw_c308) rfl 8 (c1 := (17, [some (.ref 44), some (.int v1_1)], [.int (v1_1 + (8 : Int32)), .ref 50, .int v1_1, .ref 50], (I, L, tw_P tw dr rt sc, A_1, J, 57))) rfl ?_
      obtain ⟨x8, hx7, h⟩ := tw_bindE h
      refine tw_iald (cd := tw_c308) (N := 128) rfl rfl rfl rfl hx7 ?_
      obtain ⟨w10, hx9, h⟩ := tw_bindE h
      refine tw_iast (cd := tw_c308) (N := 128) rfl rfl rfl rfl hx9 ?_
      refine tw_blk (cd := tw_c308) rfl 2 (c1 := (6, [some (.ref 44), some (.int (v1_1 + (1 : Int32)))], [], (I, L, tw_P tw dr rt sc, (va_up A_1 50 w10), J, 57))) rfl ?_
      exact ih (v1_1 + (1 : Int32)) (va_up A_1 50 w10) _ h K
theorem e_X10_note (I : Nat → Int32) (L : Nat → Int64) (A : Nat → Nat → Int32) (J : Nat → Nat → Int64) (tw dr : Nat) (rt : Nat) (sc : Nat) : ∀ r : ((Nat → Int32) × (Nat → Nat → Int32)), g_X10_note I A = some r → tw_ME 308 (0, [some (.ref 44), none], [], (I, L, tw_P tw dr rt sc, A, J, 57)) (none, ((r.1), L, tw_P tw dr rt sc, (r.2), J, 57)) := by
  intro r h
  unfold g_X10_note at h
  refine tw_blk (cd := tw_c308) rfl 3 (c1 := (3, [some (.ref 44), none], [.int 16, .int (I 4420)], (I, L, tw_P tw dr rt sc, A, J, 57))) rfl ?_
  obtain ⟨⟨I2, A3⟩, hj4, h⟩ := tw_bindE h
  dsimp only at h
  have K : tw_ME 308 (27, [some (.ref 44), none], [], (I2, L, tw_P tw dr rt sc, A3, J, 57)) (none, ((r.1), L, tw_P tw dr rt sc, (r.2), J, 57)) := by
    refine tw_blk (cd := tw_c308) rfl 10 (c1 := (37, [some (.ref 44), none], [.int 8, .int ((8 : Int32) * (I2 4420)), .ref 50, .int 0, .ref 49], (I2, L, tw_P tw dr rt sc, A3, J, 57))) rfl ?_
    obtain ⟨w12, hw13, h⟩ := tw_bindE h
    refine tw_callE (cd := tw_c308) rfl rfl rfl rfl rfl (tw_e_copy I2 L (tw_P tw dr rt sc) A3 J (q1 := 49) (q2 := 50) (N1 := 8) (N2 := 128) rfl rfl rfl rfl (by decide) (0 : Int32) ((8 : Int32) * (I2 4420)) (8 : Int32) w12 hw13) (by exact Or.inl rfl) ?_
    refine tw_blk (cd := tw_c308) rfl 6 (c1 := (44, [some (.ref 44), none], [], ((upd I2 4420 ((I2 4420) + (1 : Int32))), L, tw_P tw dr rt sc, (va_up A3 50 w12), J, 57))) rfl ?_
    have h := Option.some.inj h
    subst h
    exact tw_retE (cd := tw_c308) rfl rfl rfl rfl
  by_cases hc1 : (I 4420) = (16 : Int32)
  · rw [if_pos hc1] at hj4
    refine tw_br (cd := tw_c308) rfl rfl rfl (by exact if_pos hc1) ?_
    refine tw_blk (cd := tw_c308) rfl 2 (c1 := (6, [some (.ref 44), some (.int 0)], [], (I, L, tw_P tw dr rt sc, A, J, 57))) rfl ?_
    obtain ⟨A5, hx11, hj4⟩ := tw_bindE hj4
    refine g_X10_note_L1_ok I L A J tw dr rt sc _ 4096 (0 : Int32) A _ hx11 ?_
    refine tw_blk (cd := tw_c308) rfl 6 (c1 := (27, [some (.ref 44), none], [], ((upd I 4420 ((I 4420) - (1 : Int32))), L, tw_P tw dr rt sc, A5, J, 57))) rfl ?_
    have hj4s := Option.some.inj hj4
    obtain ⟨hj4_0, hj4r0⟩ := Prod.mk.inj hj4s
    subst hj4_0
    subst hj4r0
    exact K
  · rw [if_neg hc1] at hj4
    refine tw_br (cd := tw_c308) rfl rfl rfl (by exact if_neg hc1) ?_
    have hj4s := Option.some.inj hj4
    obtain ⟨hj4_0, hj4r0⟩ := Prod.mk.inj hj4s
    subst hj4_0
    subst hj4r0
    exact K
theorem e_X10_becomes (I : Nat → Int32) (L : Nat → Int64) (A : Nat → Nat → Int32) (J : Nat → Nat → Int64) (tw dr : Nat) (rt : Nat) (sc : Nat) (a1 : Int32) (a2 : Int32) : ∀ r : (Bool × (Nat → Int32) × (Nat → Nat → Int32)), g_X10_becomes I A a1 a2 = some r → tw_ME 309 (0, [some (.ref 44), some (.int a1), some (.int a2)], [], (I, L, tw_P tw dr rt sc, A, J, 57)) (some (.int (tw_b r.1)), ((r.2.1), L, tw_P tw dr rt sc, (r.2.2), J, 57)) := by
  intro r h
  unfold g_X10_becomes at h
  refine tw_blk (cd := tw_c309) rfl 2 (c1 := (2, [some (.ref 44), some (.int a1), some (.int a2)], [.int a1, .ref 44], (I, L, tw_P tw dr rt sc, A, J, 57))) rfl ?_
  obtain ⟨c1, hx2, h⟩ := tw_bindE h
  refine tw_callE (cd := tw_c309) rfl rfl rfl rfl rfl (e_X10_isSight I L A J tw dr rt sc a1 _ hx2) (by exact Or.inl rfl) ?_
  by_cases hc3 : c1 = true
  · rw [if_pos hc3] at h
    refine tw_br (cd := tw_c309) rfl rfl rfl (by exact if_neg (tw_b_t hc3)) ?_
    refine tw_blk (cd := tw_c309) rfl 3 (c1 := (11, [some (.ref 44), some (.int a1), some (.int a2)], [.int 6, .ref 49], (I, L, tw_P tw dr rt sc, A, J, 57))) rfl ?_
    obtain ⟨x5, hx4, h⟩ := tw_bindE h
    refine tw_iald (cd := tw_c309) (N := 8) rfl rfl rfl rfl hx4 ?_
    refine tw_blk (cd := tw_c309) rfl 1 (c1 := (13, [some (.ref 44), some (.int a1), some (.int a2)], [.int a1, .int x5], (I, L, tw_P tw dr rt sc, A, J, 57))) rfl ?_
    refine tw_callE (cd := tw_c309) rfl rfl rfl rfl rfl (e_X10_hasBit I L A J tw dr rt sc x5 a1 _ rfl) (by exact Or.inl rfl) ?_
    refine tw_blk (cd := tw_c309) rfl 1 (c1 := (15, [some (.ref 44), some (.int a1), some (.int a2)], [.int a2, .int (tw_b (g_X10_hasBit x5 a1))], (I, L, tw_P tw dr rt sc, A, J, 57))) rfl ?_
    by_cases hc6 : (tw_b (g_X10_hasBit x5 a1)) = a2
    · rw [if_pos hc6] at h
      refine tw_br (cd := tw_c309) rfl rfl rfl (by exact if_pos hc6) ?_
      refine tw_blk (cd := tw_c309) rfl 2 (c1 := (18, [some (.ref 44), some (.int a1), some (.int a2)], [.int 5, .ref 44], (I, L, tw_P tw dr rt sc, A, J, 57))) rfl ?_
      obtain ⟨⟨c7, I8⟩, hx9, h⟩ := tw_letE h
      dsimp only at h
      refine tw_callE (cd := tw_c309) rfl rfl rfl rfl rfl (e_X10_isNot I L A J tw dr rt sc (5 : Int32) _ hx9) (by exact Or.inl rfl) ?_
      have h := Option.some.inj h
      subst h
      exact tw_retZ (cd := tw_c309) (b := c7) rfl rfl rfl rfl
    · rw [if_neg hc6] at h
      refine tw_br (cd := tw_c309) rfl rfl rfl (by exact if_neg hc6) ?_
      refine tw_blk (cd := tw_c309) rfl 1 (c1 := (21, [some (.ref 44), some (.int a1), some (.int a2)], [.ref 44], (I, L, tw_P tw dr rt sc, A, J, 57))) rfl ?_
      obtain ⟨⟨I10, A11⟩, hx12, h⟩ := tw_bindE h
      dsimp only at h
      refine tw_callE (cd := tw_c309) rfl rfl rfl rfl rfl (e_X10_note I L A J tw dr rt sc _ hx12) (by exact Or.inl rfl) ?_
      refine tw_blk (cd := tw_c309) rfl 4 (c1 := (26, [some (.ref 44), some (.int a1), some (.int a2)], [.int 6, .ref 49, .int 6, .ref 49], (I10, L, tw_P tw dr rt sc, A11, J, 57))) rfl ?_
      obtain ⟨x14, hx13, h⟩ := tw_bindE h
      refine tw_iald (cd := tw_c309) (N := 8) rfl rfl rfl rfl hx13 ?_
      refine tw_blk (cd := tw_c309) rfl 4 (c1 := (31, [some (.ref 44), some (.int a1), some (.int a2)], [.int (x14 ^^^ ((1 : Int32) <<< (a1 &&& 31))), .int 6, .ref 49], (I10, L, tw_P tw dr rt sc, A11, J, 57))) rfl ?_
      obtain ⟨w16, hx15, h⟩ := tw_bindE h
      refine tw_iast (cd := tw_c309) (N := 8) rfl rfl rfl rfl hx15 ?_
      refine tw_blk (cd := tw_c309) rfl 1 (c1 := (33, [some (.ref 44), some (.int a1), some (.int a2)], [.int 1], (I10, L, tw_P tw dr rt sc, (va_up A11 49 w16), J, 57))) rfl ?_
      have h := Option.some.inj h
      subst h
      exact tw_retZ (cd := tw_c309) (b := true) rfl rfl rfl rfl
  · rw [if_neg hc3] at h
    refine tw_br (cd := tw_c309) rfl rfl rfl (by exact if_pos (tw_b_f hc3)) ?_
    refine tw_blk (cd := tw_c309) rfl 2 (c1 := (6, [some (.ref 44), some (.int a1), some (.int a2)], [.int 1, .ref 44], (I, L, tw_P tw dr rt sc, A, J, 57))) rfl ?_
    obtain ⟨⟨c17, I18⟩, hx19, h⟩ := tw_letE h
    dsimp only at h
    refine tw_callE (cd := tw_c309) rfl rfl rfl rfl rfl (e_X10_isNot I L A J tw dr rt sc (1 : Int32) _ hx19) (by exact Or.inl rfl) ?_
    have h := Option.some.inj h
    subst h
    exact tw_retZ (cd := tw_c309) (b := c17) rfl rfl rfl rfl
theorem e_X10_brick (I : Nat → Int32) (L : Nat → Int64) (A : Nat → Nat → Int32) (J : Nat → Nat → Int64) (tw dr : Nat) (rt : Nat) (sc : Nat) (a1 : Int32) : ∀ r : (Bool × (Nat → Int32) × (Nat → Nat → Int32)), g_X10_brick I A a1 = some r → tw_ME 310 (0, [some (.ref 44), some (.int a1)], [], (I, L, tw_P tw dr rt sc, A, J, 57)) (some (.int (tw_b r.1)), ((r.2.1), L, tw_P tw dr rt sc, (r.2.2), J, 57)) := by
  intro r h
  unfold g_X10_brick at h
  refine tw_blk (cd := tw_c310) rfl 1 (c1 := (1, [some (.ref 44), some (.int a1)], [.ref 44], (I, L, tw_P tw dr rt sc, A, J, 57))) rfl ?_
  obtain ⟨I1, hx2, h⟩ := tw_letE h
  refine tw_callE (cd := tw_c310) rfl rfl rfl rfl rfl (e_X10_good I L A J tw dr rt sc _ hx2) (by exact Or.inl rfl) ?_
  refine tw_blk (cd := tw_c310) rfl 3 (c1 := (5, [some (.ref 44), some (.int a1)], [.int 1, .int a1, .ref 44], (I1, L, tw_P tw dr rt sc, A, J, 57))) rfl ?_
  obtain ⟨⟨c3, I4, A5⟩, hx6, h⟩ := tw_bindE h
  dsimp only at h
  refine tw_callE (cd := tw_c310) rfl rfl rfl rfl rfl (e_X10_becomes I1 L A J tw dr rt sc a1 (1 : Int32) _ hx6) (by exact Or.inl rfl) ?_
  have h := Option.some.inj h
  subst h
  exact tw_retZ (cd := tw_c310) (b := c3) rfl rfl rfl rfl
theorem e_X9_open (I : Nat → Int32) (L : Nat → Int64) (A : Nat → Nat → Int32) (J : Nat → Nat → Int64) (rt : Nat) (sc : Nat) (a1 : Int32) : ∀ r : (Bool × (Nat → Int32) × (Nat → Nat → Int32)), g_X9_open I A a1 = r → tw_ME 163 (0, [some (.ref 0), some (.int a1)], [], (I, L, tw_P 2 14 rt sc, A, J, 57)) (some (.int (tw_b r.1)), ((r.2.1), L, tw_P 2 14 rt sc, (r.2.2), J, 57)) := by
  intro r h
  unfold g_X9_open at h
  refine tw_blk (cd := tw_c163) rfl 2 (c1 := (2, [some (.ref 0), some (.int a1)], [.int a1, .ref 0], (I, L, tw_P 2 14 rt sc, A, J, 57))) rfl ?_
  refine tw_callE (cd := tw_c163) rfl rfl rfl rfl rfl (e_X9_isSight I L A J rt sc a1 _ rfl) (by exact Or.inl rfl) ?_
  by_cases hc1 : (g_X9_isSight A a1) = true
  · rw [if_pos hc1] at h
    refine tw_br (cd := tw_c163) rfl rfl rfl (by exact if_neg (tw_b_t hc1)) ?_
    refine tw_blk (cd := tw_c163) rfl 7 (c1 := (15, [some (.ref 0), some (.int a1)], [.int (((I 3300) >>> (a1 &&& 31)) &&& (1 : Int32))], (I, L, tw_P 2 14 rt sc, A, J, 57))) rfl ?_
    by_cases hc2 : (((I 3300) >>> (a1 &&& 31)) &&& (1 : Int32)) = 0
    · rw [if_pos hc2] at h
      refine tw_br (cd := tw_c163) rfl rfl rfl (by exact if_pos hc2) ?_
      refine tw_blk (cd := tw_c163) rfl 2 (c1 := (18, [some (.ref 0), some (.int a1)], [.int 5, .ref 0], (I, L, tw_P 2 14 rt sc, A, J, 57))) rfl ?_
      obtain ⟨⟨c3, I4⟩, hx5, h⟩ := tw_letE h
      dsimp only at h
      refine tw_callE (cd := tw_c163) rfl rfl rfl rfl rfl (e_X9_deny I L A J 2 14 rt sc (5 : Int32) _ hx5) (by exact Or.inl rfl) ?_
      subst h
      exact tw_retZ (cd := tw_c163) (b := c3) rfl rfl rfl rfl
    · rw [if_neg hc2] at h
      refine tw_br (cd := tw_c163) rfl rfl rfl (by exact if_neg hc2) ?_
      refine tw_blk (cd := tw_c163) rfl 2 (c1 := (22, [some (.ref 0), some (.int a1)], [.ref 33], (I, L, tw_P 2 14 rt sc, A, J, 57))) rfl ?_
      obtain ⟨⟨I6, A7⟩, hx8, h⟩ := tw_letE h
      dsimp only at h
      refine tw_callE (cd := tw_c163) rfl rfl rfl rfl rfl (e_X0_keep I L A J 2 14 rt sc _ hx8) (by exact Or.inl rfl) ?_
      refine tw_blk (cd := tw_c163) rfl 12 (c1 := (35, [some (.ref 0), some (.int a1)], [.ref 0], ((upd I6 3300 ((I6 3300) &&& (((1 : Int32) <<< (a1 &&& 31)) ^^^ (-1 : Int32)))), L, tw_P 2 14 rt sc, A7, J, 57))) rfl ?_
      obtain ⟨⟨c9, I10⟩, hx11, h⟩ := tw_letE h
      dsimp only at h
      refine tw_callE (cd := tw_c163) rfl rfl rfl rfl rfl (e_X9_allow (upd I6 3300 ((I6 3300) &&& (((1 : Int32) <<< (a1 &&& 31)) ^^^ (-1 : Int32)))) L A7 J 2 14 rt sc _ hx11) (by exact Or.inl rfl) ?_
      subst h
      exact tw_retZ (cd := tw_c163) (b := c9) rfl rfl rfl rfl
  · rw [if_neg hc1] at h
    refine tw_br (cd := tw_c163) rfl rfl rfl (by exact if_pos (tw_b_f hc1)) ?_
    refine tw_blk (cd := tw_c163) rfl 2 (c1 := (6, [some (.ref 0), some (.int a1)], [.int 1, .ref 0], (I, L, tw_P 2 14 rt sc, A, J, 57))) rfl ?_
    obtain ⟨⟨c12, I13⟩, hx14, h⟩ := tw_letE h
    dsimp only at h
    refine tw_callE (cd := tw_c163) rfl rfl rfl rfl rfl (e_X9_deny I L A J 2 14 rt sc (1 : Int32) _ hx14) (by exact Or.inl rfl) ?_
    subst h
    exact tw_retZ (cd := tw_c163) (b := c12) rfl rfl rfl rfl
theorem e_X10_open (I : Nat → Int32) (L : Nat → Int64) (A : Nat → Nat → Int32) (J : Nat → Nat → Int64) (tw dr : Nat) (rt : Nat) (sc : Nat) (a1 : Int32) : ∀ r : (Bool × (Nat → Int32) × (Nat → Nat → Int32)), g_X10_open I A a1 = some r → tw_ME 311 (0, [some (.ref 44), some (.int a1)], [], (I, L, tw_P tw dr rt sc, A, J, 57)) (some (.int (tw_b r.1)), ((r.2.1), L, tw_P tw dr rt sc, (r.2.2), J, 57)) := by
  intro r h
  unfold g_X10_open at h
  refine tw_blk (cd := tw_c311) rfl 1 (c1 := (1, [some (.ref 44), some (.int a1)], [.ref 44], (I, L, tw_P tw dr rt sc, A, J, 57))) rfl ?_
  obtain ⟨I1, hx2, h⟩ := tw_letE h
  refine tw_callE (cd := tw_c311) rfl rfl rfl rfl rfl (e_X10_good I L A J tw dr rt sc _ hx2) (by exact Or.inl rfl) ?_
  refine tw_blk (cd := tw_c311) rfl 3 (c1 := (5, [some (.ref 44), some (.int a1)], [.int 0, .int a1, .ref 44], (I1, L, tw_P tw dr rt sc, A, J, 57))) rfl ?_
  obtain ⟨⟨c3, I4, A5⟩, hx6, h⟩ := tw_bindE h
  dsimp only at h
  refine tw_callE (cd := tw_c311) rfl rfl rfl rfl rfl (e_X10_becomes I1 L A J tw dr rt sc a1 (0 : Int32) _ hx6) (by exact Or.inl rfl) ?_
  have h := Option.some.inj h
  subst h
  exact tw_retZ (cd := tw_c311) (b := c3) rfl rfl rfl rfl
theorem e_X9_hire (I : Nat → Int32) (L : Nat → Int64) (A : Nat → Nat → Int32) (J : Nat → Nat → Int64) (rt : Nat) (sc : Nat) (a1 : Int32) (a2 : Int32) : ∀ r : (Int32 × (Nat → Int32) × (Nat → Nat → Int32)), g_X9_hire I A a1 a2 = r → tw_ME 164 (0, [some (.ref 0), some (.int a1), some (.int a2)], [], (I, L, tw_P 2 14 rt sc, A, J, 57)) (some (.int r.1), ((r.2.1), L, tw_P 2 14 rt sc, (r.2.2), J, 57)) := by
  intro r h
  unfold g_X9_hire at h
  refine tw_blk (cd := tw_c164) rfl 2 (c1 := (2, [some (.ref 0), some (.int a1), some (.int a2)], [.int a1, .ref 0], (I, L, tw_P 2 14 rt sc, A, J, 57))) rfl ?_
  refine tw_callE (cd := tw_c164) rfl rfl rfl rfl rfl (e_X9_isPerson I L A J rt sc a1 _ rfl) (by exact Or.inl rfl) ?_
  by_cases hc1 : (g_X9_isPerson A a1) = true
  · rw [if_pos hc1] at h
    refine tw_br (cd := tw_c164) rfl rfl rfl (by exact if_neg (tw_b_t hc1)) ?_
    refine tw_blk (cd := tw_c164) rfl 2 (c1 := (6, [some (.ref 0), some (.int a1), some (.int a2)], [.int a2, .ref 0], (I, L, tw_P 2 14 rt sc, A, J, 57))) rfl ?_
    refine tw_callE (cd := tw_c164) rfl rfl rfl rfl rfl (e_X9_isPlace I L A J rt sc a2 _ rfl) (by exact Or.inl rfl) ?_
    by_cases hc2 : (g_X9_isPlace A a2) = true
    · rw [if_pos hc2] at h
      refine tw_br (cd := tw_c164) rfl rfl rfl (by exact if_neg (tw_b_t hc2)) ?_
      refine tw_blk (cd := tw_c164) rfl 3 (c1 := (15, [some (.ref 0), some (.int a1), some (.int a2)], [.int a1, .ref 2], (I, L, tw_P 2 14 rt sc, A, J, 57))) rfl ?_
      refine tw_callE (cd := tw_c164) rfl rfl rfl rfl rfl (e_X8_canBeHired_2 I L A J 2 14 rt sc a1 _ rfl) (by exact Or.inl rfl) ?_
      by_cases hc3 : (g_X8_canBeHired_2 A a1) = true
      · rw [if_pos hc3] at h
        refine tw_br (cd := tw_c164) rfl rfl rfl (by exact if_neg (tw_b_t hc3)) ?_
        refine tw_blk (cd := tw_c164) rfl 4 (c1 := (21, [some (.ref 0), some (.int a1), some (.int a2)], [.int a1, .int (I 3301)], (I, L, tw_P 2 14 rt sc, A, J, 57))) rfl ?_
        refine tw_callE (cd := tw_c164) rfl rfl rfl rfl rfl (e_X0_sentTo I L A J 2 14 rt sc (I 3301) a1 _ rfl) (by exact Or.inl rfl) ?_
        refine tw_blk (cd := tw_c164) rfl 1 (c1 := (23, [some (.ref 0), some (.int a1), some (.int a2)], [.int a2, .int (g_X0_sentTo (I 3301) a1)], (I, L, tw_P 2 14 rt sc, A, J, 57))) rfl ?_
        by_cases hc4 : (g_X0_sentTo (I 3301) a1) = a2
        · rw [if_pos hc4] at h
          refine tw_br (cd := tw_c164) rfl rfl rfl (by exact if_pos hc4) ?_
          refine tw_blk (cd := tw_c164) rfl 2 (c1 := (26, [some (.ref 0), some (.int a1), some (.int a2)], [.int 5, .ref 0], (I, L, tw_P 2 14 rt sc, A, J, 57))) rfl ?_
          obtain ⟨⟨x5, I6⟩, hx7, h⟩ := tw_letE h
          dsimp only at h
          refine tw_callE (cd := tw_c164) rfl rfl rfl rfl rfl (e_X9_refuse I L A J 2 14 rt sc (5 : Int32) _ hx7) (by exact Or.inl rfl) ?_
          subst h
          exact tw_retE (cd := tw_c164) rfl rfl rfl rfl
        · rw [if_neg hc4] at h
          refine tw_br (cd := tw_c164) rfl rfl rfl (by exact if_neg hc4) ?_
          refine tw_blk (cd := tw_c164) rfl 2 (c1 := (30, [some (.ref 0), some (.int a1), some (.int a2)], [.ref 33], (I, L, tw_P 2 14 rt sc, A, J, 57))) rfl ?_
          obtain ⟨⟨I8, A9⟩, hx10, h⟩ := tw_letE h
          dsimp only at h
          refine tw_callE (cd := tw_c164) rfl rfl rfl rfl rfl (e_X0_keep I L A J 2 14 rt sc _ hx10) (by exact Or.inl rfl) ?_
          refine tw_blk (cd := tw_c164) rfl 7 (c1 := (38, [some (.ref 0), some (.int a1), some (.int a2)], [.int a2, .int a1, .int (I8 3301), .ref 33], (I8, L, tw_P 2 14 rt sc, A9, J, 57))) rfl ?_
          refine tw_callE (cd := tw_c164) rfl rfl rfl rfl rfl (e_X0_sending I8 L A9 J 2 14 rt sc (I8 3301) a1 a2 _ rfl) (by exact Or.inl rfl) ?_
          refine tw_blk (cd := tw_c164) rfl 9 (c1 := (48, [some (.ref 0), some (.int a1), some (.int a2)], [.int a1, .ref 8, .int (I8 3302), .ref 33], ((upd I8 3301 (g_X0_sending (I8 3301) a1 a2)), L, tw_P 2 14 rt sc, A9, J, 57))) rfl ?_
          refine tw_callE (cd := tw_c164) rfl rfl rfl rfl rfl (tw_e_get (upd I8 3301 (g_X0_sending (I8 3301) a1 a2)) L (tw_P 2 14 rt sc) A9 J (q := 8) (N := 6) rfl rfl (by decide) a1) (by exact Or.inl rfl) ?_
          refine tw_blk (cd := tw_c164) rfl 7 (c1 := (56, [some (.ref 0), some (.int a1), some (.int a2)], [.int a1, .ref 8, .ref 0], ((upd (upd I8 3301 (g_X0_sending (I8 3301) a1 a2)) 3302 ((I8 3302) + (tw_get0 6 (A9 8) a1))), L, tw_P 2 14 rt sc, A9, J, 57))) rfl ?_
          refine tw_callE (cd := tw_c164) rfl rfl rfl rfl rfl (tw_e_get (upd (upd I8 3301 (g_X0_sending (I8 3301) a1 a2)) 3302 ((I8 3302) + (tw_get0 6 (A9 8) a1))) L (tw_P 2 14 rt sc) A9 J (q := 8) (N := 6) rfl rfl (by decide) a1) (by exact Or.inl rfl) ?_
          obtain ⟨⟨x11, I12⟩, hx13, h⟩ := tw_letE h
          dsimp only at h
          refine tw_callE (cd := tw_c164) rfl rfl rfl rfl rfl (e_X9_grant (upd (upd I8 3301 (g_X0_sending (I8 3301) a1 a2)) 3302 ((I8 3302) + (tw_get0 6 (A9 8) a1))) L A9 J 2 14 rt sc (tw_get0 6 (A9 8) a1) _ hx13) (by exact Or.inl rfl) ?_
          subst h
          exact tw_retE (cd := tw_c164) rfl rfl rfl rfl
      · rw [if_neg hc3] at h
        refine tw_br (cd := tw_c164) rfl rfl rfl (by exact if_pos (tw_b_f hc3)) ?_
        refine tw_blk (cd := tw_c164) rfl 2 (c1 := (26, [some (.ref 0), some (.int a1), some (.int a2)], [.int 5, .ref 0], (I, L, tw_P 2 14 rt sc, A, J, 57))) rfl ?_
        obtain ⟨⟨x14, I15⟩, hx16, h⟩ := tw_letE h
        dsimp only at h
        refine tw_callE (cd := tw_c164) rfl rfl rfl rfl rfl (e_X9_refuse I L A J 2 14 rt sc (5 : Int32) _ hx16) (by exact Or.inl rfl) ?_
        subst h
        exact tw_retE (cd := tw_c164) rfl rfl rfl rfl
    · rw [if_neg hc2] at h
      refine tw_br (cd := tw_c164) rfl rfl rfl (by exact if_pos (tw_b_f hc2)) ?_
      refine tw_blk (cd := tw_c164) rfl 2 (c1 := (10, [some (.ref 0), some (.int a1), some (.int a2)], [.int 1, .ref 0], (I, L, tw_P 2 14 rt sc, A, J, 57))) rfl ?_
      obtain ⟨⟨x17, I18⟩, hx19, h⟩ := tw_letE h
      dsimp only at h
      refine tw_callE (cd := tw_c164) rfl rfl rfl rfl rfl (e_X9_refuse I L A J 2 14 rt sc (1 : Int32) _ hx19) (by exact Or.inl rfl) ?_
      subst h
      exact tw_retE (cd := tw_c164) rfl rfl rfl rfl
  · rw [if_neg hc1] at h
    refine tw_br (cd := tw_c164) rfl rfl rfl (by exact if_pos (tw_b_f hc1)) ?_
    refine tw_blk (cd := tw_c164) rfl 2 (c1 := (10, [some (.ref 0), some (.int a1), some (.int a2)], [.int 1, .ref 0], (I, L, tw_P 2 14 rt sc, A, J, 57))) rfl ?_
    obtain ⟨⟨x20, I21⟩, hx22, h⟩ := tw_letE h
    dsimp only at h
    refine tw_callE (cd := tw_c164) rfl rfl rfl rfl rfl (e_X9_refuse I L A J 2 14 rt sc (1 : Int32) _ hx22) (by exact Or.inl rfl) ?_
    subst h
    exact tw_retE (cd := tw_c164) rfl rfl rfl rfl
theorem e_X10_hire (I : Nat → Int32) (L : Nat → Int64) (A : Nat → Nat → Int32) (J : Nat → Nat → Int64) (tw dr : Nat) (rt : Nat) (sc : Nat) (a1 : Int32) (a2 : Int32) : ∀ r : (Int32 × (Nat → Int32) × (Nat → Nat → Int32)), g_X10_hire I A a1 a2 = some r → tw_ME 312 (0, [some (.ref 44), some (.int a1), some (.int a2)], [], (I, L, tw_P tw dr rt sc, A, J, 57)) (some (.int r.1), ((r.2.1), L, tw_P tw dr rt sc, (r.2.2), J, 57)) := by
  intro r h
  unfold g_X10_hire at h
  refine tw_blk (cd := tw_c312) rfl 1 (c1 := (1, [some (.ref 44), some (.int a1), some (.int a2)], [.ref 44], (I, L, tw_P tw dr rt sc, A, J, 57))) rfl ?_
  obtain ⟨I1, hx2, h⟩ := tw_letE h
  refine tw_callE (cd := tw_c312) rfl rfl rfl rfl rfl (e_X10_good I L A J tw dr rt sc _ hx2) (by exact Or.inl rfl) ?_
  refine tw_blk (cd := tw_c312) rfl 2 (c1 := (4, [some (.ref 44), some (.int a1), some (.int a2)], [.int a1, .ref 44], (I1, L, tw_P tw dr rt sc, A, J, 57))) rfl ?_
  obtain ⟨c3, hx4, h⟩ := tw_bindE h
  refine tw_callE (cd := tw_c312) rfl rfl rfl rfl rfl (e_X10_isPerson I1 L A J tw dr rt sc a1 _ hx4) (by exact Or.inl rfl) ?_
  by_cases hc5 : c3 = true
  · rw [if_pos hc5] at h
    refine tw_br (cd := tw_c312) rfl rfl rfl (by exact if_neg (tw_b_t hc5)) ?_
    refine tw_blk (cd := tw_c312) rfl 2 (c1 := (8, [some (.ref 44), some (.int a1), some (.int a2)], [.int a2, .ref 44], (I1, L, tw_P tw dr rt sc, A, J, 57))) rfl ?_
    obtain ⟨c6, hx7, h⟩ := tw_bindE h
    refine tw_callE (cd := tw_c312) rfl rfl rfl rfl rfl (e_X10_isPlace I1 L A J tw dr rt sc a2 _ hx7) (by exact Or.inl rfl) ?_
    by_cases hc8 : c6 = true
    · rw [if_pos hc8] at h
      refine tw_br (cd := tw_c312) rfl rfl rfl (by exact if_neg (tw_b_t hc8)) ?_
      refine tw_blk (cd := tw_c312) rfl 2 (c1 := (16, [some (.ref 44), some (.int a1), some (.int a2)], [.int a1, .ref 44], (I1, L, tw_P tw dr rt sc, A, J, 57))) rfl ?_
      obtain ⟨c9, hx10, h⟩ := tw_bindE h
      refine tw_callE (cd := tw_c312) rfl rfl rfl rfl rfl (e_X10_canHire I1 L A J tw dr rt sc a1 _ hx10) (by exact Or.inl rfl) ?_
      by_cases hc11 : c9 = true
      · rw [if_pos hc11] at h
        refine tw_br (cd := tw_c312) rfl rfl rfl (by exact if_neg (tw_b_t hc11)) ?_
        refine tw_blk (cd := tw_c312) rfl 3 (c1 := (21, [some (.ref 44), some (.int a1), some (.int a2)], [.int a1, .ref 49], (I1, L, tw_P tw dr rt sc, A, J, 57))) rfl ?_
        obtain ⟨x13, hx12, h⟩ := tw_bindE h
        refine tw_iald (cd := tw_c312) (N := 8) rfl rfl rfl rfl hx12 ?_
        refine tw_blk (cd := tw_c312) rfl 3 (c1 := (25, [some (.ref 44), some (.int a1), some (.int a2)], [.int (a2 + (1 : Int32)), .int x13], (I1, L, tw_P tw dr rt sc, A, J, 57))) rfl ?_
        by_cases hc14 : x13 = (a2 + (1 : Int32))
        · rw [if_pos hc14] at h
          refine tw_br (cd := tw_c312) rfl rfl rfl (by exact if_pos hc14) ?_
          refine tw_blk (cd := tw_c312) rfl 2 (c1 := (28, [some (.ref 44), some (.int a1), some (.int a2)], [.int 5, .ref 44], (I1, L, tw_P tw dr rt sc, A, J, 57))) rfl ?_
          obtain ⟨⟨x15, I16⟩, hx17, h⟩ := tw_letE h
          dsimp only at h
          refine tw_callE (cd := tw_c312) rfl rfl rfl rfl rfl (e_X10_no I1 L A J tw dr rt sc (5 : Int32) _ hx17) (by exact Or.inl rfl) ?_
          have h := Option.some.inj h
          subst h
          exact tw_retE (cd := tw_c312) rfl rfl rfl rfl
        · rw [if_neg hc14] at h
          refine tw_br (cd := tw_c312) rfl rfl rfl (by exact if_neg hc14) ?_
          refine tw_blk (cd := tw_c312) rfl 1 (c1 := (31, [some (.ref 44), some (.int a1), some (.int a2)], [.ref 44], (I1, L, tw_P tw dr rt sc, A, J, 57))) rfl ?_
          obtain ⟨⟨I18, A19⟩, hx20, h⟩ := tw_bindE h
          dsimp only at h
          refine tw_callE (cd := tw_c312) rfl rfl rfl rfl rfl (e_X10_note I1 L A J tw dr rt sc _ hx20) (by exact Or.inl rfl) ?_
          refine tw_blk (cd := tw_c312) rfl 6 (c1 := (38, [some (.ref 44), some (.int a1), some (.int a2)], [.int (a2 + (1 : Int32)), .int a1, .ref 49], (I18, L, tw_P tw dr rt sc, A19, J, 57))) rfl ?_
          obtain ⟨w22, hx21, h⟩ := tw_bindE h
          refine tw_iast (cd := tw_c312) (N := 8) rfl rfl rfl rfl hx21 ?_
          refine tw_blk (cd := tw_c312) rfl 4 (c1 := (43, [some (.ref 44), some (.int a1), some (.int a2)], [.int 7, .ref 49, .int 7, .ref 49], (I18, L, tw_P tw dr rt sc, (va_up A19 49 w22), J, 57))) rfl ?_
          obtain ⟨x24, hx23, h⟩ := tw_bindE h
          refine tw_iald (cd := tw_c312) (N := 8) rfl rfl rfl rfl hx23 ?_
          refine tw_blk (cd := tw_c312) rfl 9 (c1 := (53, [some (.ref 44), some (.int a1), some (.int a2)], [.int (((26 : Int32) + ((4 : Int32) * a1)) + (3 : Int32)), .ref 47, .int x24, .int 7, .ref 49], (I18, L, tw_P tw dr rt sc, (va_up A19 49 w22), J, 57))) rfl ?_
          obtain ⟨x26, hx25, h⟩ := tw_bindE h
          refine tw_iald (cd := tw_c312) (N := 241) rfl rfl rfl rfl hx25 ?_
          refine tw_blk (cd := tw_c312) rfl 3 (c1 := (57, [some (.ref 44), some (.int a1), some (.int a2)], [.int (x24 + (x26 - (1 : Int32))), .int 7, .ref 49], (I18, L, tw_P tw dr rt sc, (va_up A19 49 w22), J, 57))) rfl ?_
          obtain ⟨w28, hx27, h⟩ := tw_bindE h
          refine tw_iast (cd := tw_c312) (N := 8) rfl rfl rfl rfl hx27 ?_
          refine tw_blk (cd := tw_c312) rfl 9 (c1 := (67, [some (.ref 44), some (.int a1), some (.int a2)], [.int (((26 : Int32) + ((4 : Int32) * a1)) + (3 : Int32)), .ref 47], (I18, L, tw_P tw dr rt sc, (va_up (va_up A19 49 w22) 49 w28), J, 57))) rfl ?_
          obtain ⟨x30, hx29, h⟩ := tw_bindE h
          refine tw_iald (cd := tw_c312) (N := 241) rfl rfl rfl rfl hx29 ?_
          refine tw_blk (cd := tw_c312) rfl 2 (c1 := (70, [some (.ref 44), some (.int a1), some (.int a2)], [.int (x30 - (1 : Int32))], (I18, L, tw_P tw dr rt sc, (va_up (va_up A19 49 w22) 49 w28), J, 57))) rfl ?_
          have h := Option.some.inj h
          subst h
          exact tw_retE (cd := tw_c312) rfl rfl rfl rfl
      · rw [if_neg hc11] at h
        refine tw_br (cd := tw_c312) rfl rfl rfl (by exact if_pos (tw_b_f hc11)) ?_
        refine tw_blk (cd := tw_c312) rfl 2 (c1 := (28, [some (.ref 44), some (.int a1), some (.int a2)], [.int 5, .ref 44], (I1, L, tw_P tw dr rt sc, A, J, 57))) rfl ?_
        obtain ⟨⟨x31, I32⟩, hx33, h⟩ := tw_letE h
        dsimp only at h
        refine tw_callE (cd := tw_c312) rfl rfl rfl rfl rfl (e_X10_no I1 L A J tw dr rt sc (5 : Int32) _ hx33) (by exact Or.inl rfl) ?_
        have h := Option.some.inj h
        subst h
        exact tw_retE (cd := tw_c312) rfl rfl rfl rfl
    · rw [if_neg hc8] at h
      refine tw_br (cd := tw_c312) rfl rfl rfl (by exact if_pos (tw_b_f hc8)) ?_
      refine tw_blk (cd := tw_c312) rfl 2 (c1 := (12, [some (.ref 44), some (.int a1), some (.int a2)], [.int 1, .ref 44], (I1, L, tw_P tw dr rt sc, A, J, 57))) rfl ?_
      obtain ⟨⟨x34, I35⟩, hx36, h⟩ := tw_letE h
      dsimp only at h
      refine tw_callE (cd := tw_c312) rfl rfl rfl rfl rfl (e_X10_no I1 L A J tw dr rt sc (1 : Int32) _ hx36) (by exact Or.inl rfl) ?_
      have h := Option.some.inj h
      subst h
      exact tw_retE (cd := tw_c312) rfl rfl rfl rfl
  · rw [if_neg hc5] at h
    refine tw_br (cd := tw_c312) rfl rfl rfl (by exact if_pos (tw_b_f hc5)) ?_
    refine tw_blk (cd := tw_c312) rfl 2 (c1 := (12, [some (.ref 44), some (.int a1), some (.int a2)], [.int 1, .ref 44], (I1, L, tw_P tw dr rt sc, A, J, 57))) rfl ?_
    obtain ⟨⟨x37, I38⟩, hx39, h⟩ := tw_letE h
    dsimp only at h
    refine tw_callE (cd := tw_c312) rfl rfl rfl rfl rfl (e_X10_no I1 L A J tw dr rt sc (1 : Int32) _ hx39) (by exact Or.inl rfl) ?_
    have h := Option.some.inj h
    subst h
    exact tw_retE (cd := tw_c312) rfl rfl rfl rfl
theorem e_X9_dismiss (I : Nat → Int32) (L : Nat → Int64) (A : Nat → Nat → Int32) (J : Nat → Nat → Int64) (rt : Nat) (sc : Nat) (a1 : Int32) : ∀ r : (Bool × (Nat → Int32) × (Nat → Nat → Int32)), g_X9_dismiss I A a1 = r → tw_ME 165 (0, [some (.ref 0), some (.int a1)], [], (I, L, tw_P 2 14 rt sc, A, J, 57)) (some (.int (tw_b r.1)), ((r.2.1), L, tw_P 2 14 rt sc, (r.2.2), J, 57)) := by
  intro r h
  unfold g_X9_dismiss at h
  refine tw_blk (cd := tw_c165) rfl 2 (c1 := (2, [some (.ref 0), some (.int a1)], [.int a1, .ref 0], (I, L, tw_P 2 14 rt sc, A, J, 57))) rfl ?_
  refine tw_callE (cd := tw_c165) rfl rfl rfl rfl rfl (e_X9_isPerson I L A J rt sc a1 _ rfl) (by exact Or.inl rfl) ?_
  by_cases hc1 : (g_X9_isPerson A a1) = true
  · rw [if_pos hc1] at h
    refine tw_br (cd := tw_c165) rfl rfl rfl (by exact if_neg (tw_b_t hc1)) ?_
    refine tw_blk (cd := tw_c165) rfl 3 (c1 := (11, [some (.ref 0), some (.int a1)], [.int a1, .ref 33], (I, L, tw_P 2 14 rt sc, A, J, 57))) rfl ?_
    refine tw_callE (cd := tw_c165) rfl rfl rfl rfl rfl (e_X0_isHired I L A J 2 14 rt sc a1 _ rfl) (by exact Or.inl rfl) ?_
    by_cases hc2 : (g_X0_isHired I a1) = true
    · rw [if_pos hc2] at h
      refine tw_br (cd := tw_c165) rfl rfl rfl (by exact if_neg (tw_b_t hc2)) ?_
      refine tw_blk (cd := tw_c165) rfl 2 (c1 := (19, [some (.ref 0), some (.int a1)], [.ref 33], (I, L, tw_P 2 14 rt sc, A, J, 57))) rfl ?_
      obtain ⟨⟨I3, A4⟩, hx5, h⟩ := tw_letE h
      dsimp only at h
      refine tw_callE (cd := tw_c165) rfl rfl rfl rfl rfl (e_X0_keep I L A J 2 14 rt sc _ hx5) (by exact Or.inl rfl) ?_
      refine tw_blk (cd := tw_c165) rfl 7 (c1 := (27, [some (.ref 0), some (.int a1)], [.int (-1), .int a1, .int (I3 3301), .ref 33], (I3, L, tw_P 2 14 rt sc, A4, J, 57))) rfl ?_
      refine tw_callE (cd := tw_c165) rfl rfl rfl rfl rfl (e_X0_sending I3 L A4 J 2 14 rt sc (I3 3301) a1 (-1 : Int32) _ rfl) (by exact Or.inl rfl) ?_
      refine tw_blk (cd := tw_c165) rfl 2 (c1 := (30, [some (.ref 0), some (.int a1)], [.ref 0], ((upd I3 3301 (g_X0_sending (I3 3301) a1 (-1 : Int32))), L, tw_P 2 14 rt sc, A4, J, 57))) rfl ?_
      obtain ⟨⟨c6, I7⟩, hx8, h⟩ := tw_letE h
      dsimp only at h
      refine tw_callE (cd := tw_c165) rfl rfl rfl rfl rfl (e_X9_allow (upd I3 3301 (g_X0_sending (I3 3301) a1 (-1 : Int32))) L A4 J 2 14 rt sc _ hx8) (by exact Or.inl rfl) ?_
      subst h
      exact tw_retZ (cd := tw_c165) (b := c6) rfl rfl rfl rfl
    · rw [if_neg hc2] at h
      refine tw_br (cd := tw_c165) rfl rfl rfl (by exact if_pos (tw_b_f hc2)) ?_
      refine tw_blk (cd := tw_c165) rfl 2 (c1 := (15, [some (.ref 0), some (.int a1)], [.int 5, .ref 0], (I, L, tw_P 2 14 rt sc, A, J, 57))) rfl ?_
      obtain ⟨⟨c9, I10⟩, hx11, h⟩ := tw_letE h
      dsimp only at h
      refine tw_callE (cd := tw_c165) rfl rfl rfl rfl rfl (e_X9_deny I L A J 2 14 rt sc (5 : Int32) _ hx11) (by exact Or.inl rfl) ?_
      subst h
      exact tw_retZ (cd := tw_c165) (b := c9) rfl rfl rfl rfl
  · rw [if_neg hc1] at h
    refine tw_br (cd := tw_c165) rfl rfl rfl (by exact if_pos (tw_b_f hc1)) ?_
    refine tw_blk (cd := tw_c165) rfl 2 (c1 := (6, [some (.ref 0), some (.int a1)], [.int 1, .ref 0], (I, L, tw_P 2 14 rt sc, A, J, 57))) rfl ?_
    obtain ⟨⟨c12, I13⟩, hx14, h⟩ := tw_letE h
    dsimp only at h
    refine tw_callE (cd := tw_c165) rfl rfl rfl rfl rfl (e_X9_deny I L A J 2 14 rt sc (1 : Int32) _ hx14) (by exact Or.inl rfl) ?_
    subst h
    exact tw_retZ (cd := tw_c165) (b := c12) rfl rfl rfl rfl
theorem e_X10_dismiss (I : Nat → Int32) (L : Nat → Int64) (A : Nat → Nat → Int32) (J : Nat → Nat → Int64) (tw dr : Nat) (rt : Nat) (sc : Nat) (a1 : Int32) : ∀ r : (Bool × (Nat → Int32) × (Nat → Nat → Int32)), g_X10_dismiss I A a1 = some r → tw_ME 313 (0, [some (.ref 44), some (.int a1)], [], (I, L, tw_P tw dr rt sc, A, J, 57)) (some (.int (tw_b r.1)), ((r.2.1), L, tw_P tw dr rt sc, (r.2.2), J, 57)) := by
  intro r h
  unfold g_X10_dismiss at h
  refine tw_blk (cd := tw_c313) rfl 1 (c1 := (1, [some (.ref 44), some (.int a1)], [.ref 44], (I, L, tw_P tw dr rt sc, A, J, 57))) rfl ?_
  obtain ⟨I1, hx2, h⟩ := tw_letE h
  refine tw_callE (cd := tw_c313) rfl rfl rfl rfl rfl (e_X10_good I L A J tw dr rt sc _ hx2) (by exact Or.inl rfl) ?_
  refine tw_blk (cd := tw_c313) rfl 2 (c1 := (4, [some (.ref 44), some (.int a1)], [.int a1, .ref 44], (I1, L, tw_P tw dr rt sc, A, J, 57))) rfl ?_
  obtain ⟨c3, hx4, h⟩ := tw_bindE h
  refine tw_callE (cd := tw_c313) rfl rfl rfl rfl rfl (e_X10_isPerson I1 L A J tw dr rt sc a1 _ hx4) (by exact Or.inl rfl) ?_
  by_cases hc5 : c3 = true
  · rw [if_pos hc5] at h
    refine tw_br (cd := tw_c313) rfl rfl rfl (by exact if_neg (tw_b_t hc5)) ?_
    refine tw_blk (cd := tw_c313) rfl 3 (c1 := (13, [some (.ref 44), some (.int a1)], [.int a1, .ref 49], (I1, L, tw_P tw dr rt sc, A, J, 57))) rfl ?_
    obtain ⟨x7, hx6, h⟩ := tw_bindE h
    refine tw_iald (cd := tw_c313) (N := 8) rfl rfl rfl rfl hx6 ?_
    by_cases hc8 : x7 = 0
    · rw [if_pos hc8] at h
      refine tw_br (cd := tw_c313) rfl rfl rfl (by exact if_pos hc8) ?_
      refine tw_blk (cd := tw_c313) rfl 2 (c1 := (17, [some (.ref 44), some (.int a1)], [.int 5, .ref 44], (I1, L, tw_P tw dr rt sc, A, J, 57))) rfl ?_
      obtain ⟨⟨c9, I10⟩, hx11, h⟩ := tw_letE h
      dsimp only at h
      refine tw_callE (cd := tw_c313) rfl rfl rfl rfl rfl (e_X10_isNot I1 L A J tw dr rt sc (5 : Int32) _ hx11) (by exact Or.inl rfl) ?_
      have h := Option.some.inj h
      subst h
      exact tw_retZ (cd := tw_c313) (b := c9) rfl rfl rfl rfl
    · rw [if_neg hc8] at h
      refine tw_br (cd := tw_c313) rfl rfl rfl (by exact if_neg hc8) ?_
      refine tw_blk (cd := tw_c313) rfl 1 (c1 := (20, [some (.ref 44), some (.int a1)], [.ref 44], (I1, L, tw_P tw dr rt sc, A, J, 57))) rfl ?_
      obtain ⟨⟨I12, A13⟩, hx14, h⟩ := tw_bindE h
      dsimp only at h
      refine tw_callE (cd := tw_c313) rfl rfl rfl rfl rfl (e_X10_note I1 L A J tw dr rt sc _ hx14) (by exact Or.inl rfl) ?_
      refine tw_blk (cd := tw_c313) rfl 4 (c1 := (25, [some (.ref 44), some (.int a1)], [.int 0, .int a1, .ref 49], (I12, L, tw_P tw dr rt sc, A13, J, 57))) rfl ?_
      obtain ⟨w16, hx15, h⟩ := tw_bindE h
      refine tw_iast (cd := tw_c313) (N := 8) rfl rfl rfl rfl hx15 ?_
      refine tw_blk (cd := tw_c313) rfl 1 (c1 := (27, [some (.ref 44), some (.int a1)], [.int 1], (I12, L, tw_P tw dr rt sc, (va_up A13 49 w16), J, 57))) rfl ?_
      have h := Option.some.inj h
      subst h
      exact tw_retZ (cd := tw_c313) (b := true) rfl rfl rfl rfl
  · rw [if_neg hc5] at h
    refine tw_br (cd := tw_c313) rfl rfl rfl (by exact if_pos (tw_b_f hc5)) ?_
    refine tw_blk (cd := tw_c313) rfl 2 (c1 := (8, [some (.ref 44), some (.int a1)], [.int 1, .ref 44], (I1, L, tw_P tw dr rt sc, A, J, 57))) rfl ?_
    obtain ⟨⟨c17, I18⟩, hx19, h⟩ := tw_letE h
    dsimp only at h
    refine tw_callE (cd := tw_c313) rfl rfl rfl rfl rfl (e_X10_isNot I1 L A J tw dr rt sc (1 : Int32) _ hx19) (by exact Or.inl rfl) ?_
    have h := Option.some.inj h
    subst h
    exact tw_retZ (cd := tw_c313) (b := c17) rfl rfl rfl rfl
theorem e_X9_spent (I : Nat → Int32) (L : Nat → Int64) (A : Nat → Nat → Int32) (J : Nat → Nat → Int64) (rt : Nat) (sc : Nat) : ∀ r : (Int32 × (Nat → Int32)), g_X9_spent I A = r → tw_ME 166 (0, [some (.ref 0)], [], (I, L, tw_P 2 14 rt sc, A, J, 57)) (some (.int r.1), ((r.2), L, tw_P 2 14 rt sc, A, J, 57)) := by
  intro r h
  unfold g_X9_spent at h
  refine tw_blk (cd := tw_c166) rfl 1 (c1 := (1, [some (.ref 0)], [.ref 0], (I, L, tw_P 2 14 rt sc, A, J, 57))) rfl ?_
  refine tw_callE (cd := tw_c166) rfl rfl rfl rfl rfl (e_X9_hasTown I L A J rt sc _ rfl) (by exact Or.inl rfl) ?_
  by_cases hc1 : (g_X9_hasTown A) = true
  · rw [if_pos hc1] at h
    refine tw_br (cd := tw_c166) rfl rfl rfl (by exact if_neg (tw_b_t hc1)) ?_
    refine tw_blk (cd := tw_c166) rfl 4 (c1 := (7, [some (.ref 0)], [.int (I 3302), .ref 0], (I, L, tw_P 2 14 rt sc, A, J, 57))) rfl ?_
    obtain ⟨⟨x2, I3⟩, hx4, h⟩ := tw_letE h
    dsimp only at h
    refine tw_callE (cd := tw_c166) rfl rfl rfl rfl rfl (e_X9_grant I L A J 2 14 rt sc (I 3302) _ hx4) (by exact Or.inl rfl) ?_
    refine tw_blk (cd := tw_c166) rfl 1 (c1 := (12, [some (.ref 0)], [.int x2], (I3, L, tw_P 2 14 rt sc, A, J, 57))) rfl ?_
    subst h
    exact tw_retE (cd := tw_c166) rfl rfl rfl rfl
  · rw [if_neg hc1] at h
    refine tw_br (cd := tw_c166) rfl rfl rfl (by exact if_pos (tw_b_f hc1)) ?_
    refine tw_blk (cd := tw_c166) rfl 2 (c1 := (11, [some (.ref 0)], [.int 1, .ref 0], (I, L, tw_P 2 14 rt sc, A, J, 57))) rfl ?_
    obtain ⟨⟨x5, I6⟩, hx7, h⟩ := tw_letE h
    dsimp only at h
    refine tw_callE (cd := tw_c166) rfl rfl rfl rfl rfl (e_X9_refuse I L A J 2 14 rt sc (1 : Int32) _ hx7) (by exact Or.inl rfl) ?_
    subst h
    exact tw_retE (cd := tw_c166) rfl rfl rfl rfl
theorem e_X10_spent (I : Nat → Int32) (L : Nat → Int64) (A : Nat → Nat → Int32) (J : Nat → Nat → Int64) (tw dr : Nat) (rt : Nat) (sc : Nat) : ∀ r : (Int32 × (Nat → Int32)), g_X10_spent I A = some r → tw_ME 314 (0, [some (.ref 44)], [], (I, L, tw_P tw dr rt sc, A, J, 57)) (some (.int r.1), ((r.2), L, tw_P tw dr rt sc, A, J, 57)) := by
  intro r h
  unfold g_X10_spent at h
  refine tw_blk (cd := tw_c314) rfl 1 (c1 := (1, [some (.ref 44)], [.ref 44], (I, L, tw_P tw dr rt sc, A, J, 57))) rfl ?_
  obtain ⟨I1, hx2, h⟩ := tw_letE h
  refine tw_callE (cd := tw_c314) rfl rfl rfl rfl rfl (e_X10_good I L A J tw dr rt sc _ hx2) (by exact Or.inl rfl) ?_
  refine tw_blk (cd := tw_c314) rfl 2 (c1 := (4, [some (.ref 44)], [.int (I1 4414)], (I1, L, tw_P tw dr rt sc, A, J, 57))) rfl ?_
  by_cases hc3 : (I1 4414) = 0
  · rw [if_pos hc3] at h
    refine tw_br (cd := tw_c314) rfl rfl rfl (by exact if_pos hc3) ?_
    refine tw_blk (cd := tw_c314) rfl 2 (c1 := (12, [some (.ref 44)], [.int 1, .ref 44], (I1, L, tw_P tw dr rt sc, A, J, 57))) rfl ?_
    obtain ⟨⟨x4, I5⟩, hx6, h⟩ := tw_letE h
    dsimp only at h
    refine tw_callE (cd := tw_c314) rfl rfl rfl rfl rfl (e_X10_no I1 L A J tw dr rt sc (1 : Int32) _ hx6) (by exact Or.inl rfl) ?_
    have h := Option.some.inj h
    subst h
    exact tw_retE (cd := tw_c314) rfl rfl rfl rfl
  · rw [if_neg hc3] at h
    refine tw_br (cd := tw_c314) rfl rfl rfl (by exact if_neg hc3) ?_
    refine tw_blk (cd := tw_c314) rfl 3 (c1 := (8, [some (.ref 44)], [.int 7, .ref 49], (I1, L, tw_P tw dr rt sc, A, J, 57))) rfl ?_
    obtain ⟨x8, hx7, h⟩ := tw_bindE h
    refine tw_iald (cd := tw_c314) (N := 8) rfl rfl rfl rfl hx7 ?_
    refine tw_blk (cd := tw_c314) rfl 1 (c1 := (13, [some (.ref 44)], [.int x8], (I1, L, tw_P tw dr rt sc, A, J, 57))) rfl ?_
    have h := Option.some.inj h
    subst h
    exact tw_retE (cd := tw_c314) rfl rfl rfl rfl
theorem e_X0_become_33_34 (I : Nat → Int32) (L : Nat → Int64) (A : Nat → Nat → Int32) (J : Nat → Nat → Int64) (tw dr : Nat) (rt : Nat) (sc : Nat) (a2 : Int32) : ∀ r : Nat → Int32, g_X0_become_33_34 I A a2 = r → tw_ME 10 (0, [some (.ref 33), some (.ref 34), some (.int a2)], [], (I, L, tw_P tw dr rt sc, A, J, 57)) (none, (r, L, tw_P tw dr rt sc, A, J, 57)) := by
  intro r h
  unfold g_X0_become_33_34 at h
  refine tw_blk (cd := tw_c10) rfl 5 (c1 := (5, [some (.ref 33), some (.ref 34), some (.int a2)], [.int (a2 * (3 : Int32)), .ref 34, .ref 33], (I, L, tw_P tw dr rt sc, A, J, 57))) rfl ?_
  refine tw_callE (cd := tw_c10) rfl rfl rfl rfl rfl (tw_e_get I L (tw_P tw dr rt sc) A J (q := 34) (N := 48) rfl rfl (by decide) (a2 * (3 : Int32))) (by exact Or.inl rfl) ?_
  refine tw_blk (cd := tw_c10) rfl 8 (c1 := (14, [some (.ref 33), some (.ref 34), some (.int a2)], [.int ((a2 * (3 : Int32)) + (1 : Int32)), .ref 34, .ref 33], ((upd I 3300 (tw_get0 48 (A 34) (a2 * (3 : Int32)))), L, tw_P tw dr rt sc, A, J, 57))) rfl ?_
  refine tw_callE (cd := tw_c10) rfl rfl rfl rfl rfl (tw_e_get (upd I 3300 (tw_get0 48 (A 34) (a2 * (3 : Int32)))) L (tw_P tw dr rt sc) A J (q := 34) (N := 48) rfl rfl (by decide) ((a2 * (3 : Int32)) + (1 : Int32))) (by exact Or.inl rfl) ?_
  refine tw_blk (cd := tw_c10) rfl 8 (c1 := (23, [some (.ref 33), some (.ref 34), some (.int a2)], [.int ((a2 * (3 : Int32)) + (2 : Int32)), .ref 34, .ref 33], ((upd (upd I 3300 (tw_get0 48 (A 34) (a2 * (3 : Int32)))) 3301 (tw_get0 48 (A 34) ((a2 * (3 : Int32)) + (1 : Int32)))), L, tw_P tw dr rt sc, A, J, 57))) rfl ?_
  refine tw_callE (cd := tw_c10) rfl rfl rfl rfl rfl (tw_e_get (upd (upd I 3300 (tw_get0 48 (A 34) (a2 * (3 : Int32)))) 3301 (tw_get0 48 (A 34) ((a2 * (3 : Int32)) + (1 : Int32)))) L (tw_P tw dr rt sc) A J (q := 34) (N := 48) rfl rfl (by decide) ((a2 * (3 : Int32)) + (2 : Int32))) (by exact Or.inl rfl) ?_
  refine tw_blk (cd := tw_c10) rfl 1 (c1 := (25, [some (.ref 33), some (.ref 34), some (.int a2)], [], ((upd (upd (upd I 3300 (tw_get0 48 (A 34) (a2 * (3 : Int32)))) 3301 (tw_get0 48 (A 34) ((a2 * (3 : Int32)) + (1 : Int32)))) 3302 (tw_get0 48 (A 34) ((a2 * (3 : Int32)) + (2 : Int32)))), L, tw_P tw dr rt sc, A, J, 57))) rfl ?_
  subst h
  exact tw_retE (cd := tw_c10) rfl rfl rfl rfl
theorem e_X0_takeBack (I : Nat → Int32) (L : Nat → Int64) (A : Nat → Nat → Int32) (J : Nat → Nat → Int64) (tw dr : Nat) (rt : Nat) (sc : Nat) : ∀ r : (Bool × (Nat → Int32)), g_X0_takeBack I A = r → tw_ME 6 (0, [some (.ref 33)], [], (I, L, tw_P tw dr rt sc, A, J, 57)) (some (.int (tw_b r.1)), ((r.2), L, tw_P tw dr rt sc, A, J, 57)) := by
  intro r h
  unfold g_X0_takeBack at h
  refine tw_blk (cd := tw_c6) rfl 2 (c1 := (2, [some (.ref 33)], [.int (I 3304)], (I, L, tw_P tw dr rt sc, A, J, 57))) rfl ?_
  by_cases hc1 : 0 < (I 3304)
  · rw [if_pos hc1] at h
    refine tw_br (cd := tw_c6) rfl rfl rfl (by exact if_pos hc1) ?_
    refine tw_blk (cd := tw_c6) rfl 11 (c1 := (16, [some (.ref 33)], [.int ((I 3304) - (1 : Int32)), .ref 34, .ref 33], ((upd I 3304 ((I 3304) - (1 : Int32))), L, tw_P tw dr rt sc, A, J, 57))) rfl ?_
    obtain ⟨I2, hx3, h⟩ := tw_letE h
    refine tw_callE (cd := tw_c6) rfl rfl rfl rfl rfl (e_X0_become_33_34 (upd I 3304 ((I 3304) - (1 : Int32))) L A J tw dr rt sc ((I 3304) - (1 : Int32)) _ hx3) (by exact Or.inl rfl) ?_
    refine tw_blk (cd := tw_c6) rfl 1 (c1 := (18, [some (.ref 33)], [.int 1], (I2, L, tw_P tw dr rt sc, A, J, 57))) rfl ?_
    subst h
    exact tw_retZ (cd := tw_c6) (b := true) rfl rfl rfl rfl
  · rw [if_neg hc1] at h
    refine tw_br (cd := tw_c6) rfl rfl rfl (by exact if_neg hc1) ?_
    refine tw_blk (cd := tw_c6) rfl 1 (c1 := (4, [some (.ref 33)], [.int 0], (I, L, tw_P tw dr rt sc, A, J, 57))) rfl ?_
    subst h
    exact tw_retZ (cd := tw_c6) (b := false) rfl rfl rfl rfl
theorem e_X9_undo (I : Nat → Int32) (L : Nat → Int64) (A : Nat → Nat → Int32) (J : Nat → Nat → Int64) (tw dr : Nat) (rt : Nat) (sc : Nat) : ∀ r : (Bool × (Nat → Int32)), g_X9_undo I A = r → tw_ME 167 (0, [some (.ref 0)], [], (I, L, tw_P tw dr rt sc, A, J, 57)) (some (.int (tw_b r.1)), ((r.2), L, tw_P tw dr rt sc, A, J, 57)) := by
  intro r h
  unfold g_X9_undo at h
  refine tw_blk (cd := tw_c167) rfl 2 (c1 := (2, [some (.ref 0)], [.ref 33], (I, L, tw_P tw dr rt sc, A, J, 57))) rfl ?_
  obtain ⟨⟨c1, I2⟩, hx3, h⟩ := tw_letE h
  dsimp only at h
  refine tw_callE (cd := tw_c167) rfl rfl rfl rfl rfl (e_X0_takeBack I L A J tw dr rt sc _ hx3) (by exact Or.inl rfl) ?_
  by_cases hc4 : c1 = true
  · rw [if_pos hc4] at h
    refine tw_br (cd := tw_c167) rfl rfl rfl (by exact if_neg (tw_b_t hc4)) ?_
    refine tw_blk (cd := tw_c167) rfl 1 (c1 := (5, [some (.ref 0)], [.ref 0], (I2, L, tw_P tw dr rt sc, A, J, 57))) rfl ?_
    obtain ⟨⟨c5, I6⟩, hx7, h⟩ := tw_letE h
    dsimp only at h
    refine tw_callE (cd := tw_c167) rfl rfl rfl rfl rfl (e_X9_allow I2 L A J tw dr rt sc _ hx7) (by exact Or.inl rfl) ?_
    refine tw_blk (cd := tw_c167) rfl 1 (c1 := (10, [some (.ref 0)], [.int (tw_b c5)], (I6, L, tw_P tw dr rt sc, A, J, 57))) rfl ?_
    subst h
    exact tw_retZ (cd := tw_c167) (b := c5) rfl rfl rfl rfl
  · rw [if_neg hc4] at h
    refine tw_br (cd := tw_c167) rfl rfl rfl (by exact if_pos (tw_b_f hc4)) ?_
    refine tw_blk (cd := tw_c167) rfl 2 (c1 := (9, [some (.ref 0)], [.int 6, .ref 0], (I2, L, tw_P tw dr rt sc, A, J, 57))) rfl ?_
    obtain ⟨⟨c8, I9⟩, hx10, h⟩ := tw_letE h
    dsimp only at h
    refine tw_callE (cd := tw_c167) rfl rfl rfl rfl rfl (e_X9_deny I2 L A J tw dr rt sc (6 : Int32) _ hx10) (by exact Or.inl rfl) ?_
    subst h
    exact tw_retZ (cd := tw_c167) (b := c8) rfl rfl rfl rfl
theorem e_X10_undo (I : Nat → Int32) (L : Nat → Int64) (A : Nat → Nat → Int32) (J : Nat → Nat → Int64) (tw dr : Nat) (rt : Nat) (sc : Nat) : ∀ r : (Bool × (Nat → Int32) × (Nat → Nat → Int32)), g_X10_undo I A = some r → tw_ME 315 (0, [some (.ref 44)], [], (I, L, tw_P tw dr rt sc, A, J, 57)) (some (.int (tw_b r.1)), ((r.2.1), L, tw_P tw dr rt sc, (r.2.2), J, 57)) := by
  intro r h
  unfold g_X10_undo at h
  refine tw_blk (cd := tw_c315) rfl 1 (c1 := (1, [some (.ref 44)], [.ref 44], (I, L, tw_P tw dr rt sc, A, J, 57))) rfl ?_
  obtain ⟨I1, hx2, h⟩ := tw_letE h
  refine tw_callE (cd := tw_c315) rfl rfl rfl rfl rfl (e_X10_good I L A J tw dr rt sc _ hx2) (by exact Or.inl rfl) ?_
  refine tw_blk (cd := tw_c315) rfl 2 (c1 := (4, [some (.ref 44)], [.int (I1 4420)], (I1, L, tw_P tw dr rt sc, A, J, 57))) rfl ?_
  by_cases hc3 : (I1 4420) = 0
  · rw [if_pos hc3] at h
    refine tw_br (cd := tw_c315) rfl rfl rfl (by exact if_pos hc3) ?_
    refine tw_blk (cd := tw_c315) rfl 2 (c1 := (7, [some (.ref 44)], [.int 6, .ref 44], (I1, L, tw_P tw dr rt sc, A, J, 57))) rfl ?_
    obtain ⟨⟨c4, I5⟩, hx6, h⟩ := tw_letE h
    dsimp only at h
    refine tw_callE (cd := tw_c315) rfl rfl rfl rfl rfl (e_X10_isNot I1 L A J tw dr rt sc (6 : Int32) _ hx6) (by exact Or.inl rfl) ?_
    have h := Option.some.inj h
    subst h
    exact tw_retZ (cd := tw_c315) (b := c4) rfl rfl rfl rfl
  · rw [if_neg hc3] at h
    refine tw_br (cd := tw_c315) rfl rfl rfl (by exact if_neg hc3) ?_
    refine tw_blk (cd := tw_c315) rfl 16 (c1 := (25, [some (.ref 44)], [.int 8, .int 0, .ref 49, .int ((8 : Int32) * ((I1 4420) - (1 : Int32))), .ref 50], ((upd I1 4420 ((I1 4420) - (1 : Int32))), L, tw_P tw dr rt sc, A, J, 57))) rfl ?_
    obtain ⟨w7, hw8, h⟩ := tw_bindE h
    refine tw_callE (cd := tw_c315) rfl rfl rfl rfl rfl (tw_e_copy (upd I1 4420 ((I1 4420) - (1 : Int32))) L (tw_P tw dr rt sc) A J (q1 := 50) (q2 := 49) (N1 := 128) (N2 := 8) rfl rfl rfl rfl (by decide) ((8 : Int32) * ((I1 4420) - (1 : Int32))) (0 : Int32) (8 : Int32) w7 hw8) (by exact Or.inl rfl) ?_
    refine tw_blk (cd := tw_c315) rfl 1 (c1 := (27, [some (.ref 44)], [.int 1], ((upd I1 4420 ((I1 4420) - (1 : Int32))), L, tw_P tw dr rt sc, (va_up A 49 w7), J, 57))) rfl ?_
    have h := Option.some.inj h
    subst h
    exact tw_retZ (cd := tw_c315) (b := true) rfl rfl rfl rfl
theorem e_X0_write_33_35 (I : Nat → Int32) (L : Nat → Int64) (A : Nat → Nat → Int32) (J : Nat → Nat → Int64) (tw dr : Nat) (rt : Nat) (sc : Nat) (a2 : Int32) : ∀ r : Nat → Nat → Int32, g_X0_write_33_35 I A a2 = r → tw_ME 9 (0, [some (.ref 33), some (.ref 35), some (.int a2)], [], (I, L, tw_P tw dr rt sc, A, J, 57)) (none, (I, L, tw_P tw dr rt sc, r, J, 57)) := by
  intro r h
  unfold g_X0_write_33_35 at h
  refine tw_blk (cd := tw_c9) rfl 6 (c1 := (6, [some (.ref 33), some (.ref 35), some (.int a2)], [.int (I 3300), .int (a2 * (3 : Int32)), .ref 35], (I, L, tw_P tw dr rt sc, A, J, 57))) rfl ?_
  obtain ⟨w1, hw2, h⟩ := tw_letE h
  refine tw_callE (cd := tw_c9) rfl rfl rfl rfl rfl (tw_e_put I L (tw_P tw dr rt sc) A J (q := 35) (N := 9) rfl rfl (by decide) (a2 * (3 : Int32)) (I 3300) w1 hw2) (by exact Or.inl rfl) ?_
  refine tw_blk (cd := tw_c9) rfl 8 (c1 := (15, [some (.ref 33), some (.ref 35), some (.int a2)], [.int (I 3301), .int ((a2 * (3 : Int32)) + (1 : Int32)), .ref 35], (I, L, tw_P tw dr rt sc, (va_up A 35 w1), J, 57))) rfl ?_
  obtain ⟨w3, hw4, h⟩ := tw_letE h
  refine tw_callE (cd := tw_c9) rfl rfl rfl rfl rfl (tw_e_put I L (tw_P tw dr rt sc) (va_up A 35 w1) J (q := 35) (N := 9) rfl rfl (by decide) ((a2 * (3 : Int32)) + (1 : Int32)) (I 3301) w3 hw4) (by exact Or.inl rfl) ?_
  refine tw_blk (cd := tw_c9) rfl 8 (c1 := (24, [some (.ref 33), some (.ref 35), some (.int a2)], [.int (I 3302), .int ((a2 * (3 : Int32)) + (2 : Int32)), .ref 35], (I, L, tw_P tw dr rt sc, (va_up (va_up A 35 w1) 35 w3), J, 57))) rfl ?_
  obtain ⟨w5, hw6, h⟩ := tw_letE h
  refine tw_callE (cd := tw_c9) rfl rfl rfl rfl rfl (tw_e_put I L (tw_P tw dr rt sc) (va_up (va_up A 35 w1) 35 w3) J (q := 35) (N := 9) rfl rfl (by decide) ((a2 * (3 : Int32)) + (2 : Int32)) (I 3302) w5 hw6) (by exact Or.inl rfl) ?_
  subst h
  exact tw_retE (cd := tw_c9) rfl rfl rfl rfl
theorem e_X0_depict (I : Nat → Int32) (L : Nat → Int64) (A : Nat → Nat → Int32) (J : Nat → Nat → Int64) (tw dr : Nat) (rt : Nat) (sc : Nat) : ∀ r : (Int32 × (Nat → Int32) × (Nat → Nat → Int32)), g_X0_depict I A = r → tw_ME 7 (0, [some (.ref 33)], [], (I, L, tw_P tw dr rt sc, A, J, 57)) (some (.int r.1), ((r.2.1), L, tw_P tw dr rt sc, (r.2.2), J, 57)) := by
  intro r h
  unfold g_X0_depict at h
  refine tw_blk (cd := tw_c7) rfl 3 (c1 := (3, [some (.ref 33)], [.int 3, .int (I 3306)], (I, L, tw_P tw dr rt sc, A, J, 57))) rfl ?_
  by_cases hc1 : (I 3306) < (3 : Int32)
  · rw [if_pos hc1] at h
    refine tw_br (cd := tw_c7) rfl rfl rfl (by exact if_pos hc1) ?_
    refine tw_blk (cd := tw_c7) rfl 5 (c1 := (11, [some (.ref 33)], [.int (I 3306), .ref 35, .ref 33], (I, L, tw_P tw dr rt sc, A, J, 57))) rfl ?_
    obtain ⟨A2, hx3, h⟩ := tw_letE h
    refine tw_callE (cd := tw_c7) rfl rfl rfl rfl rfl (e_X0_write_33_35 I L A J tw dr rt sc (I 3306) _ hx3) (by exact Or.inl rfl) ?_
    refine tw_blk (cd := tw_c7) rfl 10 (c1 := (22, [some (.ref 33)], [.int (((I 3306) + (1 : Int32)) - (1 : Int32))], ((upd I 3306 ((I 3306) + (1 : Int32))), L, tw_P tw dr rt sc, A2, J, 57))) rfl ?_
    subst h
    exact tw_retE (cd := tw_c7) rfl rfl rfl rfl
  · rw [if_neg hc1] at h
    refine tw_br (cd := tw_c7) rfl rfl rfl (by exact if_neg hc1) ?_
    refine tw_blk (cd := tw_c7) rfl 1 (c1 := (5, [some (.ref 33)], [.int (-1)], (I, L, tw_P tw dr rt sc, A, J, 57))) rfl ?_
    subst h
    exact tw_retE (cd := tw_c7) rfl rfl rfl rfl
theorem e_X9_image (I : Nat → Int32) (L : Nat → Int64) (A : Nat → Nat → Int32) (J : Nat → Nat → Int64) (rt : Nat) (sc : Nat) : ∀ r : (Int32 × (Nat → Int32) × (Nat → Nat → Int32)), g_X9_image I A = r → tw_ME 168 (0, [some (.ref 0), none], [], (I, L, tw_P 2 14 rt sc, A, J, 57)) (some (.int r.1), ((r.2.1), L, tw_P 2 14 rt sc, (r.2.2), J, 57)) := by
  intro r h
  unfold g_X9_image at h
  refine tw_blk (cd := tw_c168) rfl 1 (c1 := (1, [some (.ref 0), none], [.ref 0], (I, L, tw_P 2 14 rt sc, A, J, 57))) rfl ?_
  refine tw_callE (cd := tw_c168) rfl rfl rfl rfl rfl (e_X9_hasTown I L A J rt sc _ rfl) (by exact Or.inl rfl) ?_
  by_cases hc1 : (g_X9_hasTown A) = true
  · rw [if_pos hc1] at h
    refine tw_br (cd := tw_c168) rfl rfl rfl (by exact if_neg (tw_b_t hc1)) ?_
    refine tw_blk (cd := tw_c168) rfl 2 (c1 := (9, [some (.ref 0), none], [.ref 33], (I, L, tw_P 2 14 rt sc, A, J, 57))) rfl ?_
    obtain ⟨⟨x2, I3, A4⟩, hx5, h⟩ := tw_letE h
    dsimp only at h
    refine tw_callE (cd := tw_c168) rfl rfl rfl rfl rfl (e_X0_depict I L A J 2 14 rt sc _ hx5) (by exact Or.inl rfl) ?_
    refine tw_blk (cd := tw_c168) rfl 3 (c1 := (13, [some (.ref 0), some (.int x2)], [.int (-1), .int x2], (I3, L, tw_P 2 14 rt sc, A4, J, 57))) rfl ?_
    by_cases hc6 : x2 = (-1 : Int32)
    · rw [if_pos hc6] at h
      refine tw_br (cd := tw_c168) rfl rfl rfl (by exact if_pos hc6) ?_
      refine tw_blk (cd := tw_c168) rfl 2 (c1 := (16, [some (.ref 0), some (.int x2)], [.int 3, .ref 0], (I3, L, tw_P 2 14 rt sc, A4, J, 57))) rfl ?_
      obtain ⟨⟨x7, I8⟩, hx9, h⟩ := tw_letE h
      dsimp only at h
      refine tw_callE (cd := tw_c168) rfl rfl rfl rfl rfl (e_X9_refuse I3 L A4 J 2 14 rt sc (3 : Int32) _ hx9) (by exact Or.inl rfl) ?_
      refine tw_blk (cd := tw_c168) rfl 1 (c1 := (21, [some (.ref 0), some (.int x2)], [.int x7], (I8, L, tw_P 2 14 rt sc, A4, J, 57))) rfl ?_
      subst h
      exact tw_retE (cd := tw_c168) rfl rfl rfl rfl
    · rw [if_neg hc6] at h
      refine tw_br (cd := tw_c168) rfl rfl rfl (by exact if_neg hc6) ?_
      refine tw_blk (cd := tw_c168) rfl 2 (c1 := (20, [some (.ref 0), some (.int x2)], [.int x2, .ref 0], (I3, L, tw_P 2 14 rt sc, A4, J, 57))) rfl ?_
      obtain ⟨⟨x10, I11⟩, hx12, h⟩ := tw_letE h
      dsimp only at h
      refine tw_callE (cd := tw_c168) rfl rfl rfl rfl rfl (e_X9_grant I3 L A4 J 2 14 rt sc x2 _ hx12) (by exact Or.inl rfl) ?_
      subst h
      exact tw_retE (cd := tw_c168) rfl rfl rfl rfl
  · rw [if_neg hc1] at h
    refine tw_br (cd := tw_c168) rfl rfl rfl (by exact if_pos (tw_b_f hc1)) ?_
    refine tw_blk (cd := tw_c168) rfl 2 (c1 := (5, [some (.ref 0), none], [.int 1, .ref 0], (I, L, tw_P 2 14 rt sc, A, J, 57))) rfl ?_
    obtain ⟨⟨x13, I14⟩, hx15, h⟩ := tw_letE h
    dsimp only at h
    refine tw_callE (cd := tw_c168) rfl rfl rfl rfl rfl (e_X9_refuse I L A J 2 14 rt sc (1 : Int32) _ hx15) (by exact Or.inl rfl) ?_
    subst h
    exact tw_retE (cd := tw_c168) rfl rfl rfl rfl
