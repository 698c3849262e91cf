/-! the machine does what the functions say -/
set_option maxRecDepth 16000
theorem e_X4_readEnd (I : Nat → Int32) (L : Nat → Int64) (A : Nat → Nat → Int32) (J : Nat → Nat → Int64) (tw dr : Nat) (sc : Nat) : ∀ r : (Bool × (Nat → Int32)), g_X4_readEnd I A = r → tw_ME 46 (0, [some (.ref 26)], [], (I, L, tw_P tw dr 14 sc, A, J, 57)) (some (.int (tw_b r.1)), ((r.2), L, tw_P tw dr 14 sc, A, J, 57)) := by
  intro r h
  unfold g_X4_readEnd at h
  refine tw_blk (cd := tw_c46) rfl 3 (c1 := (3, [some (.ref 26)], [.int (I 3205)], (I, L, tw_P tw dr 14 sc, A, J, 57))) rfl ?_
  by_cases hc1 : (I 3205) = 0
  · rw [if_pos hc1] at h
    refine tw_br (cd := tw_c46) rfl rfl rfl (by exact if_pos hc1) ?_
    refine tw_blk (cd := tw_c46) rfl 3 (c1 := (11, [some (.ref 26)], [.int 1, .ref 14], (I, L, tw_P tw dr 14 sc, A, J, 57))) rfl ?_
    refine tw_callE (cd := tw_c46) rfl rfl rfl rfl rfl (e_X8_count_14 I L A J tw dr 14 sc (1 : Int32) _ rfl) (by exact Or.inl rfl) ?_
    by_cases hc2 : 0 < (g_X8_count_14 A (1 : Int32))
    · rw [if_pos hc2] at h
      refine tw_br (cd := tw_c46) rfl rfl rfl (by exact if_pos hc2) ?_
      refine tw_blk (cd := tw_c46) rfl 2 (c1 := (20, [some (.ref 26)], [.int 1], (I, L, tw_P tw dr 14 sc, A, J, 57))) rfl ?_
      subst h
      exact tw_retZ (cd := tw_c46) (b := true) rfl rfl rfl rfl
    · rw [if_neg hc2] at h
      refine tw_br (cd := tw_c46) rfl rfl rfl (by exact if_neg hc2) ?_
      refine tw_blk (cd := tw_c46) rfl 2 (c1 := (15, [some (.ref 26)], [.int 6, .ref 26], (I, L, tw_P tw dr 14 sc, A, J, 57))) rfl ?_
      obtain ⟨⟨c3, I4⟩, hx5, h⟩ := tw_letE h
      dsimp only at h
      refine tw_callE (cd := tw_c46) rfl rfl rfl rfl rfl (e_X4_fail I L A J tw dr sc (6 : Int32) _ hx5) (by exact Or.inl rfl) ?_
      by_cases hc6 : c3 = true
      · rw [if_pos hc6] at h
        refine tw_br (cd := tw_c46) rfl rfl rfl (by exact if_neg (tw_b_t hc6)) ?_
        refine tw_blk (cd := tw_c46) rfl 2 (c1 := (20, [some (.ref 26)], [.int 1], (I4, L, tw_P tw dr 14 sc, A, J, 57))) rfl ?_
        subst h
        exact tw_retZ (cd := tw_c46) (b := true) rfl rfl rfl rfl
      · rw [if_neg hc6] at h
        refine tw_br (cd := tw_c46) rfl rfl rfl (by exact if_pos (tw_b_f hc6)) ?_
        refine tw_blk (cd := tw_c46) rfl 1 (c1 := (20, [some (.ref 26)], [.int 0], (I4, L, tw_P tw dr 14 sc, A, J, 57))) rfl ?_
        subst h
        exact tw_retZ (cd := tw_c46) (b := false) rfl rfl rfl rfl
  · rw [if_neg hc1] at h
    refine tw_br (cd := tw_c46) rfl rfl rfl (by exact if_neg hc1) ?_
    refine tw_blk (cd := tw_c46) rfl 2 (c1 := (6, [some (.ref 26)], [.int 1, .ref 26], (I, L, tw_P tw dr 14 sc, A, J, 57))) rfl ?_
    obtain ⟨⟨c7, I8⟩, hx9, h⟩ := tw_letE h
    dsimp only at h
    refine tw_callE (cd := tw_c46) rfl rfl rfl rfl rfl (e_X4_fail I L A J tw dr sc (1 : Int32) _ hx9) (by exact Or.inl rfl) ?_
    subst h
    exact tw_retZ (cd := tw_c46) (b := c7) rfl rfl rfl rfl
theorem g_X4_readTown_L1_ok (I : Nat → Int32) (L : Nat → Int64) (A : Nat → Nat → Int32) (J : Nat → Nat → Int64) (tw : Nat) (dr : Nat) (rt : Nat) (sc : Nat) (a2 : Int32) (A1 : Nat → Nat → Int32) (w3 : Nat → Int32) (I5 : Nat → Int32) (L6 : Nat → Int64) (c8 : Bool) (I9 : Nat → Int32) (L10 : Nat → Int64) (A11 : Nat → Nat → Int32) (J12 : Nat → Nat → Int64) (out : Option Value × tw_S) : ∀ (n : Nat) (v1_3 : Bool) (v1_4 : Int32) (I_1 : Nat → Int32) (L_1 : Nat → Int64) (A_1 : Nat → Nat → Int32) (J_1 : Nat → Nat → Int64) (ex : (Bool × (Nat → Int32) × (Nat → Int64) × (Nat → Nat → Int32) × (Nat → Nat → Int64))), g_X4_readTown_L1 n v1_3 v1_4 I_1 L_1 A_1 J_1 = some ex → tw_ME 45 (49, [some (.ref 26), none, none, some (.int (tw_b (ex.1))), none], [], ((ex.2.1), (ex.2.2.1), tw_P tw dr 14 sc, (ex.2.2.2.1), (ex.2.2.2.2), 57)) out → tw_ME 45 (31, [some (.ref 26), none, none, some (.int (tw_b v1_3)), some (.int v1_4)], [], (I_1, L_1, tw_P tw dr 14 sc, A_1, J_1, 57)) out := by
  intro n
  induction n with
  | zero =>
    intro v1_3 v1_4 I_1 L_1 A_1 J_1 ex h _
    cases h
  | succ n ih =>
    intro v1_3 v1_4 I_1 L_1 A_1 J_1 ex h K
    rw [g_X4_readTown_L1] at h
    refine tw_blk (cd := tw_c45) rfl 1 (c1 := (32, [some (.ref 26), none, none, some (.int (tw_b v1_3)), some (.int v1_4)], [.int v1_4], (I_1, L_1, tw_P tw dr 14 sc, A_1, J_1, 57))) rfl ?_
    refine tw_blk (cd := tw_c45) rfl 1 (c1 := (33, [some (.ref 26), none, none, some (.int (tw_b v1_3)), some (.int v1_4)], [.int 900, .int v1_4], (I_1, L_1, tw_P tw dr 14 sc, A_1, J_1, 57))) rfl ?_
    by_cases hc19 : (900 : Int32) ≤ v1_4
    · rw [if_pos hc19] at h
      refine tw_br (cd := tw_c45) rfl rfl rfl (by exact if_pos hc19) ?_
      refine tw_forget (ls2 := [some (.ref 26), none, none, some (.int (tw_b v1_3)), none]) ⟨rfl, rfl, trivial⟩ ?_
      have h := Option.some.inj h
      subst h
      exact K
    · rw [if_neg hc19] at h
      refine tw_br (cd := tw_c45) rfl rfl rfl (by exact if_neg hc19) ?_
      refine tw_blk (cd := tw_c45) rfl 1 (c1 := (35, [some (.ref 26), none, none, some (.int (tw_b v1_3)), some (.int v1_4)], [.int (tw_b v1_3)], (I_1, L_1, tw_P tw dr 14 sc, A_1, J_1, 57))) rfl ?_
      by_cases hc20 : v1_3 = true
      · rw [if_pos hc20] at h
        refine tw_br (cd := tw_c45) rfl rfl rfl (by exact if_neg (tw_b_t hc20)) ?_
        refine tw_blk (cd := tw_c45) rfl 4 (c1 := (40, [some (.ref 26), none, none, some (.int (tw_b v1_3)), some (.int v1_4)], [.int 3, .int (I_1 3205)], (I_1, L_1, tw_P tw dr 14 sc, A_1, J_1, 57))) rfl ?_
        by_cases hc21 : (I_1 3205) = (3 : Int32)
        · rw [if_pos hc21] at h
          refine tw_br (cd := tw_c45) rfl rfl rfl (by exact if_pos hc21) ?_
          refine tw_blk (cd := tw_c45) rfl 2 (c1 := (43, [some (.ref 26), none, none, some (.int (tw_b v1_3)), some (.int v1_4)], [.ref 32], (I_1, L_1, tw_P tw dr 14 sc, A_1, J_1, 57))) rfl ?_
          obtain ⟨⟨I22, L23⟩, hx24, h⟩ := tw_bindE h
          dsimp only at h
          refine tw_callE (cd := tw_c45) rfl rfl rfl rfl rfl (e_X7_next I_1 L_1 A_1 J_1 tw dr 14 sc _ hx24) (by exact Or.inl rfl) ?_
          refine tw_blk (cd := tw_c45) rfl 1 (c1 := (45, [some (.ref 26), none, none, some (.int (tw_b v1_3)), some (.int v1_4)], [.ref 26], (I22, L23, tw_P tw dr 14 sc, A_1, J_1, 57))) rfl ?_
          obtain ⟨⟨c25, I26, L27, A28, J29⟩, hx30, h⟩ := tw_bindE h
          dsimp only at h
          refine tw_callE (cd := tw_c45) rfl rfl rfl rfl rfl (e_X4_readLine I22 L23 A_1 J_1 tw dr sc _ hx30) (by exact Or.inl rfl) ?_
          refine tw_blk (cd := tw_c45) rfl 3 (c1 := (31, [some (.ref 26), none, none, some (.int (tw_b c25)), some (.int (v1_4 + (1 : Int32)))], [], (I26, L27, tw_P tw dr 14 sc, A28, J29, 57))) rfl ?_
          exact ih c25 (v1_4 + (1 : Int32)) I26 L27 A28 J29 _ h K
        · rw [if_neg hc21] at h
          refine tw_br (cd := tw_c45) rfl rfl rfl (by exact if_neg hc21) ?_
          refine tw_forget (ls2 := [some (.ref 26), none, none, some (.int (tw_b v1_3)), none]) ⟨rfl, rfl, trivial⟩ ?_
          have h := Option.some.inj h
          subst h
          exact K
      · rw [if_neg hc20] at h
        refine tw_br (cd := tw_c45) rfl rfl rfl (by exact if_pos (tw_b_f hc20)) ?_
        refine tw_forget (ls2 := [some (.ref 26), none, none, some (.int (tw_b v1_3)), none]) ⟨rfl, rfl, trivial⟩ ?_
        have h := Option.some.inj h
        subst h
        exact K
theorem e_X4_readTown (I : Nat → Int32) (L : Nat → Int64) (A : Nat → Nat → Int32) (J : Nat → Nat → Int64) (tw dr : Nat) (rt : Nat) (sc : Nat) (a2 : Int32) : ∀ r : (Bool × (Nat → Int32) × (Nat → Int64) × (Nat → Nat → Int32) × (Nat → Nat → Int64)), g_X4_readTown I L A J a2 = some r → tw_ME 45 (0, [some (.ref 26), some (.ref 14), some (.int a2), none, none], [], (I, L, tw_P tw dr rt sc, A, J, 57)) (some (.int (tw_b r.1)), ((r.2.1), (r.2.2.1), tw_P tw dr 14 sc, (r.2.2.2.1), (r.2.2.2.2), 57)) := by
  intro r h
  unfold g_X4_readTown at h
  refine tw_blk (cd := tw_c45) rfl 2 (c1 := (2, [some (.ref 26), some (.ref 14), some (.int a2), none, none], [.ref 14, .ref 26], (I, L, tw_P tw dr rt sc, A, J, 57))) rfl ?_
  refine tw_putP_rt (cd := tw_c45) rfl rfl rfl ?_
  refine tw_blk (cd := tw_c45) rfl 2 (c1 := (5, [some (.ref 26), some (.ref 14), some (.int a2), none, none], [.ref 14], (I, L, tw_P tw dr 14 sc, A, J, 57))) rfl ?_
  obtain ⟨A1, hx2, h⟩ := tw_letE h
  refine tw_callE (cd := tw_c45) rfl rfl rfl rfl rfl (e_X8_clear_14 I L A J tw dr 14 sc _ hx2) (by exact Or.inl rfl) ?_
  refine tw_blk (cd := tw_c45) rfl 9 (c1 := (15, [some (.ref 26), some (.ref 14), some (.int a2), none, none], [.int 0, .ref 30], ((upd (upd I 2602 (0 : Int32)) 2606 (0 : Int32)), L, tw_P tw dr 14 sc, A1, J, 57))) rfl ?_
  obtain ⟨w3, hw4, h⟩ := tw_letE h
  refine tw_callE (cd := tw_c45) rfl rfl rfl rfl rfl (tw_e_fill (upd (upd I 2602 (0 : Int32)) 2606 (0 : Int32)) L (tw_P tw dr 14 sc) A1 J (q := 30) (N := 6) rfl rfl (by decide) (0 : Int32) w3 hw4) (by exact Or.inl rfl) ?_
  refine tw_blk (cd := tw_c45) rfl 9 (c1 := (25, [some (.ref 26), some (.ref 14), some (.int a2), none, none], [.int a2, .ref 32], ((upd (upd (upd (upd I 2602 (0 : Int32)) 2606 (0 : Int32)) 2610 (0 : Int32)) 2611 (0 : Int32)), L, tw_P tw dr 14 sc, (va_up A1 30 w3), J, 57))) rfl ?_
  obtain ⟨⟨I5, L6⟩, hx7, h⟩ := tw_bindE h
  dsimp only at h
  refine tw_callE (cd := tw_c45) rfl rfl rfl rfl rfl (e_X7_start (upd (upd (upd (upd I 2602 (0 : Int32)) 2606 (0 : Int32)) 2610 (0 : Int32)) 2611 (0 : Int32)) L (va_up A1 30 w3) J tw dr 14 sc a2 _ hx7) (by exact Or.inl rfl) ?_
  refine tw_blk (cd := tw_c45) rfl 1 (c1 := (27, [some (.ref 26), some (.ref 14), some (.int a2), none, none], [.ref 26], (I5, L6, tw_P tw dr 14 sc, (va_up A1 30 w3), J, 57))) rfl ?_
  obtain ⟨⟨c8, I9, L10, A11, J12⟩, hx13, h⟩ := tw_bindE h
  dsimp only at h
  refine tw_callE (cd := tw_c45) rfl rfl rfl rfl rfl (e_X4_readLine I5 L6 (va_up A1 30 w3) J tw dr sc _ hx13) (by exact Or.inl rfl) ?_
  refine tw_blk (cd := tw_c45) rfl 3 (c1 := (31, [some (.ref 26), some (.ref 14), some (.int a2), some (.int (tw_b c8)), some (.int 0)], [], (I9, L10, tw_P tw dr 14 sc, A11, J12, 57))) rfl ?_
  obtain ⟨⟨c14, I15, L16, A17, J18⟩, hx36, h⟩ := tw_bindE h
  dsimp only at h
  refine tw_forget (ls2 := [some (.ref 26), none, none, some (.int (tw_b c8)), some (.int 0)]) ⟨rfl, rfl, rfl, trivial⟩ ?_
  refine g_X4_readTown_L1_ok I L A J tw dr rt sc a2 A1 w3 I5 L6 c8 I9 L10 A11 J12 _ 4096 c8 (0 : Int32) I9 L10 A11 J12 _ hx36 ?_
  refine tw_blk (cd := tw_c45) rfl 1 (c1 := (50, [some (.ref 26), none, none, some (.int (tw_b c14)), none], [.int (tw_b c14)], (I15, L16, tw_P tw dr 14 sc, A17, J18, 57))) rfl ?_
  by_cases hc31 : c14 = true
  · rw [if_pos hc31] at h
    refine tw_br (cd := tw_c45) rfl rfl rfl (by exact if_neg (tw_b_t hc31)) ?_
    refine tw_blk (cd := tw_c45) rfl 1 (c1 := (52, [some (.ref 26), none, none, some (.int (tw_b c14)), none], [.ref 26], (I15, L16, tw_P tw dr 14 sc, A17, J18, 57))) rfl ?_
    obtain ⟨⟨c32, I33⟩, hx34, h⟩ := tw_letE h
    dsimp only at h
    refine tw_callE (cd := tw_c45) rfl rfl rfl rfl rfl (e_X4_readEnd I15 L16 A17 J18 tw dr sc _ hx34) (by exact Or.inl rfl) ?_
    by_cases hc35 : c32 = true
    · rw [if_pos hc35] at h
      refine tw_br (cd := tw_c45) rfl rfl rfl (by exact if_neg (tw_b_t hc35)) ?_
      refine tw_blk (cd := tw_c45) rfl 2 (c1 := (57, [some (.ref 26), none, none, some (.int (tw_b c14)), none], [.int 1], (I33, L16, tw_P tw dr 14 sc, A17, J18, 57))) rfl ?_
      have h := Option.some.inj h
      subst h
      exact tw_retZ (cd := tw_c45) (b := true) rfl rfl rfl rfl
    · rw [if_neg hc35] at h
      refine tw_br (cd := tw_c45) rfl rfl rfl (by exact if_pos (tw_b_f hc35)) ?_
      refine tw_blk (cd := tw_c45) rfl 1 (c1 := (57, [some (.ref 26), none, none, some (.int (tw_b c14)), none], [.int 0], (I33, L16, tw_P tw dr 14 sc, A17, J18, 57))) rfl ?_
      have h := Option.some.inj h
      subst h
      exact tw_retZ (cd := tw_c45) (b := false) rfl rfl rfl rfl
  · rw [if_neg hc31] at h
    refine tw_br (cd := tw_c45) rfl rfl rfl (by exact if_pos (tw_b_f hc31)) ?_
    refine tw_blk (cd := tw_c45) rfl 1 (c1 := (57, [some (.ref 26), none, none, some (.int (tw_b c14)), none], [.int 0], (I15, L16, tw_P tw dr 14 sc, A17, J18, 57))) rfl ?_
    have h := Option.some.inj h
    subst h
    exact tw_retZ (cd := tw_c45) (b := false) rfl rfl rfl rfl
theorem e_X0_forget (I : Nat → Int32) (L : Nat → Int64) (A : Nat → Nat → Int32) (J : Nat → Nat → Int64) (tw dr : Nat) (rt : Nat) (sc : Nat) : ∀ r : Nat → Int32, g_X0_forget I = r → tw_ME 1 (0, [some (.ref 33)], [], (I, L, tw_P tw dr rt sc, A, J, 57)) (none, (r, L, tw_P tw dr rt sc, A, J, 57)) := by
  intro r h
  unfold g_X0_forget at h
  refine tw_blk (cd := tw_c1) rfl 15 (c1 := (15, [some (.ref 33)], [], ((upd (upd (upd (upd (upd I 3300 (0 : Int32)) 3301 (0 : Int32)) 3302 (0 : Int32)) 3304 (0 : Int32)) 3306 (0 : Int32)), L, tw_P tw dr rt sc, A, J, 57))) rfl ?_
  subst h
  exact tw_retE (cd := tw_c1) rfl rfl rfl rfl
theorem e_X9_grant (I : Nat → Int32) (L : Nat → Int64) (A : Nat → Nat → Int32) (J : Nat → Nat → Int64) (tw dr : Nat) (rt : Nat) (sc : Nat) (a1 : Int32) : ∀ r : (Int32 × (Nat → Int32)), g_X9_grant I a1 = r → tw_ME 174 (0, [some (.ref 0), some (.int a1)], [], (I, L, tw_P tw dr rt sc, A, J, 57)) (some (.int r.1), ((r.2), L, tw_P tw dr rt sc, A, J, 57)) := by
  intro r h
  unfold g_X9_grant at h
  refine tw_blk (cd := tw_c174) rfl 4 (c1 := (4, [some (.ref 0), some (.int a1)], [.int a1], ((upd I 12 (0 : Int32)), L, tw_P tw dr rt sc, A, J, 57))) rfl ?_
  subst h
  exact tw_retE (cd := tw_c174) rfl rfl rfl rfl
theorem e_X9_town (I : Nat → Int32) (L : Nat → Int64) (A : Nat → Nat → Int32) (J : Nat → Nat → Int64) (rt : Nat) (sc : Nat) (a1 : Int32) : ∀ r : (Int32 × (Nat → Int32) × (Nat → Int64) × (Nat → Nat → Int32) × (Nat → Nat → Int64) × Nat × Nat × Nat), g_X9_town I L A J rt a1 = some r → tw_ME 114 (0, [some (.ref 0), some (.int a1), none, none], [], (I, L, tw_P 2 14 rt sc, A, J, 57)) (some (.int r.1), ((r.2.1), (r.2.2.1), tw_P (r.2.2.2.2.2.1) (r.2.2.2.2.2.2.1) (r.2.2.2.2.2.2.2) sc, (r.2.2.2.1), (r.2.2.2.2.1), 57)) := by
  intro r h
  unfold g_X9_town at h
  refine tw_blk (cd := tw_c114) rfl 1 (c1 := (1, [some (.ref 0), some (.int a1), none, none], [.int a1], (I, L, tw_P 2 14 rt sc, A, J, 57))) rfl ?_
  by_cases hc1 : a1 < 0
  · rw [if_pos hc1] at h
    refine tw_br (cd := tw_c114) rfl rfl rfl (by exact if_pos hc1) ?_
    refine tw_blk (cd := tw_c114) rfl 2 (c1 := (8, [some (.ref 0), some (.int a1), none, none], [.int 2, .ref 0], (I, L, tw_P 2 14 rt sc, A, J, 57))) rfl ?_
    obtain ⟨⟨x2, I3⟩, hx4, h⟩ := tw_letE h
    dsimp only at h
    refine tw_callE (cd := tw_c114) rfl rfl rfl rfl rfl (e_X9_refuse I L A J 2 14 rt sc (2 : Int32) _ hx4) (by exact Or.inl rfl) ?_
    have h := Option.some.inj h
    subst h
    exact tw_retE (cd := tw_c114) rfl rfl rfl rfl
  · rw [if_neg hc1] at h
    refine tw_br (cd := tw_c114) rfl rfl rfl (by exact if_neg hc1) ?_
    refine tw_blk (cd := tw_c114) rfl 3 (c1 := (5, [some (.ref 0), some (.int a1), none, none], [.int (I 1), .int a1], (I, L, tw_P 2 14 rt sc, A, J, 57))) rfl ?_
    by_cases hc5 : a1 ≤ (I 1)
    · rw [if_pos hc5] at h
      refine tw_br (cd := tw_c114) rfl rfl rfl (by exact if_pos hc5) ?_
      refine tw_blk (cd := tw_c114) rfl 5 (c1 := (15, [some (.ref 0), some (.int a1), none, none], [.int a1, .ref 14, .ref 26], (I, L, tw_P 2 14 rt sc, A, J, 57))) rfl ?_
      obtain ⟨⟨c6, I7, L8, A9, J10⟩, hx11, h⟩ := tw_bindE h
      dsimp only at h
      refine tw_callE (cd := tw_c114) rfl rfl rfl rfl rfl (e_X4_readTown I L A J 2 14 rt sc a1 _ hx11) (by exact Or.inl rfl) ?_
      refine tw_blk (cd := tw_c114) rfl 15 (c1 := (31, [some (.ref 0), some (.int a1), some (.int (tw_b c6)), none], [.int (tw_b c6)], ((upd (upd (upd I7 1 (0 : Int32)) 10 (I7 2610)) 11 (I7 2611)), L8, tw_P 2 14 14 sc, A9, J10, 57))) rfl ?_
      by_cases hc12 : c6 = true
      · rw [if_pos hc12] at h
        refine tw_br (cd := tw_c114) rfl rfl rfl (by exact if_neg (tw_b_t hc12)) ?_
        refine tw_blk (cd := tw_c114) rfl 6 (c1 := (42, [some (.ref 0), some (.int a1), some (.int (tw_b c6)), some (.ref 2)], [.ref 14, .ref 0], ((upd (upd (upd I7 1 (0 : Int32)) 10 (I7 2610)) 11 (I7 2611)), L8, tw_P 2 14 14 sc, A9, J10, 57))) rfl ?_
        refine tw_putP_tw (cd := tw_c114) rfl rfl rfl ?_
        refine tw_blk (cd := tw_c114) rfl 2 (c1 := (45, [some (.ref 0), some (.int a1), some (.int (tw_b c6)), some (.ref 2)], [.ref 2, .ref 0], ((upd (upd (upd I7 1 (0 : Int32)) 10 (I7 2610)) 11 (I7 2611)), L8, tw_P 14 14 14 sc, A9, J10, 57))) rfl ?_
        refine tw_putP_dr (cd := tw_c114) rfl rfl rfl ?_
        refine tw_blk (cd := tw_c114) rfl 2 (c1 := (48, [some (.ref 0), some (.int a1), some (.int (tw_b c6)), some (.ref 2)], [.ref 33], ((upd (upd (upd I7 1 (0 : Int32)) 10 (I7 2610)) 11 (I7 2611)), L8, tw_P 14 2 14 sc, A9, J10, 57))) rfl ?_
        obtain ⟨I13, hx14, h⟩ := tw_letE h
        refine tw_callE (cd := tw_c114) rfl rfl rfl rfl rfl (e_X0_forget (upd (upd (upd I7 1 (0 : Int32)) 10 (I7 2610)) 11 (I7 2611)) L8 A9 J10 14 2 14 sc _ hx14) (by exact Or.inl rfl) ?_
        refine tw_blk (cd := tw_c114) rfl 4 (c1 := (53, [some (.ref 0), some (.int a1), some (.int (tw_b c6)), some (.ref 2)], [.int 1, .ref 14, .ref 0], (I13, L8, tw_P 14 2 14 sc, A9, J10, 57))) rfl ?_
        refine tw_callE (cd := tw_c114) rfl rfl rfl rfl rfl (e_X8_count_14 I13 L8 A9 J10 14 2 14 sc (1 : Int32) _ rfl) (by exact Or.inl rfl) ?_
        obtain ⟨⟨x15, I16⟩, hx17, h⟩ := tw_letE h
        dsimp only at h
        refine tw_callE (cd := tw_c114) rfl rfl rfl rfl rfl (e_X9_grant I13 L8 A9 J10 14 2 14 sc (g_X8_count_14 A9 (1 : Int32)) _ hx17) (by exact Or.inl rfl) ?_
        have h := Option.some.inj h
        subst h
        exact tw_retE (cd := tw_c114) rfl rfl rfl rfl
      · rw [if_neg hc12] at h
        refine tw_br (cd := tw_c114) rfl rfl rfl (by exact if_pos (tw_b_f hc12)) ?_
        refine tw_blk (cd := tw_c114) rfl 2 (c1 := (34, [some (.ref 0), some (.int a1), some (.int (tw_b c6)), none], [.int 4, .ref 0], ((upd (upd (upd I7 1 (0 : Int32)) 10 (I7 2610)) 11 (I7 2611)), L8, tw_P 2 14 14 sc, A9, J10, 57))) rfl ?_
        obtain ⟨⟨x18, I19⟩, hx20, h⟩ := tw_letE h
        dsimp only at h
        refine tw_callE (cd := tw_c114) rfl rfl rfl rfl rfl (e_X9_refuse (upd (upd (upd I7 1 (0 : Int32)) 10 (I7 2610)) 11 (I7 2611)) L8 A9 J10 2 14 14 sc (4 : Int32) _ hx20) (by exact Or.inl rfl) ?_
        have h := Option.some.inj h
        subst h
        exact tw_retE (cd := tw_c114) rfl rfl rfl rfl
    · rw [if_neg hc5] at h
      refine tw_br (cd := tw_c114) rfl rfl rfl (by exact if_neg hc5) ?_
      refine tw_blk (cd := tw_c114) rfl 2 (c1 := (8, [some (.ref 0), some (.int a1), none, none], [.int 2, .ref 0], (I, L, tw_P 2 14 rt sc, A, J, 57))) rfl ?_
      obtain ⟨⟨x21, I22⟩, hx23, h⟩ := tw_letE h
      dsimp only at h
      refine tw_callE (cd := tw_c114) rfl rfl rfl rfl rfl (e_X9_refuse I L A J 2 14 rt sc (2 : Int32) _ hx23) (by exact Or.inl rfl) ?_
      have h := Option.some.inj h
      subst h
      exact tw_retE (cd := tw_c114) rfl rfl rfl rfl
theorem e_X10_good (I : Nat → Int32) (L : Nat → Int64) (A : Nat → Nat → Int32) (J : Nat → Nat → Int64) (tw dr : Nat) (rt : Nat) (sc : Nat) : ∀ r : Nat → Int32, g_X10_good I = r → tw_ME 193 (0, [some (.ref 44)], [], (I, L, tw_P tw dr rt sc, A, J, 57)) (none, (r, L, tw_P tw dr rt sc, A, J, 57)) := by
  intro r h
  unfold g_X10_good at h
  refine tw_blk (cd := tw_c193) rfl 6 (c1 := (6, [some (.ref 44)], [], ((upd (upd I 4400 (0 : Int32)) 4411 (0 : Int32)), L, tw_P tw dr rt sc, A, J, 57))) rfl ?_
  subst h
  exact tw_retE (cd := tw_c193) rfl rfl rfl rfl
theorem e_X10_in (I : Nat → Int32) (L : Nat → Int64) (A : Nat → Nat → Int32) (J : Nat → Nat → Int64) (tw dr : Nat) (rt : Nat) (sc : Nat) (a0 : Int32) (a1 : Int32) (a2 : Int32) : ∀ r : Bool, g_X10_in a0 a1 a2 = r → tw_ME 196 (0, [some (.int a0), some (.int a1), some (.int a2)], [], (I, L, tw_P tw dr rt sc, A, J, 57)) (some (.int (tw_b r)), (I, L, tw_P tw dr rt sc, A, J, 57)) := by
  intro r h
  unfold g_X10_in at h
  refine tw_blk (cd := tw_c196) rfl 2 (c1 := (2, [some (.int a0), some (.int a1), some (.int a2)], [.int a1, .int a0], (I, L, tw_P tw dr rt sc, A, J, 57))) rfl ?_
  by_cases hc1 : a0 < a1
  · rw [if_pos hc1] at h
    refine tw_br (cd := tw_c196) rfl rfl rfl (by exact if_pos hc1) ?_
    refine tw_blk (cd := tw_c196) rfl 1 (c1 := (9, [some (.int a0), some (.int a1), some (.int a2)], [.int 0], (I, L, tw_P tw dr rt sc, A, J, 57))) rfl ?_
    subst h
    exact tw_retZ (cd := tw_c196) (b := false) rfl rfl rfl rfl
  · rw [if_neg hc1] at h
    refine tw_br (cd := tw_c196) rfl rfl rfl (by exact if_neg hc1) ?_
    refine tw_blk (cd := tw_c196) rfl 2 (c1 := (5, [some (.int a0), some (.int a1), some (.int a2)], [.int a2, .int a0], (I, L, tw_P tw dr rt sc, A, J, 57))) rfl ?_
    by_cases hc2 : a2 < a0
    · rw [if_pos hc2] at h
      refine tw_br (cd := tw_c196) rfl rfl rfl (by exact if_pos hc2) ?_
      refine tw_blk (cd := tw_c196) rfl 1 (c1 := (9, [some (.int a0), some (.int a1), some (.int a2)], [.int 0], (I, L, tw_P tw dr rt sc, A, J, 57))) rfl ?_
      subst h
      exact tw_retZ (cd := tw_c196) (b := false) rfl rfl rfl rfl
    · rw [if_neg hc2] at h
      refine tw_br (cd := tw_c196) rfl rfl rfl (by exact if_neg hc2) ?_
      refine tw_blk (cd := tw_c196) rfl 2 (c1 := (9, [some (.int a0), some (.int a1), some (.int a2)], [.int 1], (I, L, tw_P tw dr rt sc, A, J, 57))) rfl ?_
      subst h
      exact tw_retZ (cd := tw_c196) (b := true) rfl rfl rfl rfl
theorem e_X10_see (I : Nat → Int32) (L : Nat → Int64) (A : Nat → Nat → Int32) (J : Nat → Nat → Int64) (tw dr : Nat) (rt : Nat) (sc : Nat) (a1 : Int32) : ∀ r : Int32, g_X10_see I A a1 = some r → tw_ME 202 (0, [some (.ref 44), some (.int a1)], [], (I, L, tw_P tw dr rt sc, A, J, 57)) (some (.int r), (I, L, tw_P tw dr rt sc, A, J, 57)) := by
  intro r h
  unfold g_X10_see at h
  refine tw_blk (cd := tw_c202) rfl 3 (c1 := (3, [some (.ref 44), some (.int a1)], [.int (I 4403), .int a1], (I, L, tw_P tw dr rt sc, A, J, 57))) rfl ?_
  by_cases hc1 : (I 4403) ≤ a1
  · rw [if_pos hc1] at h
    refine tw_br (cd := tw_c202) rfl rfl rfl (by exact if_pos hc1) ?_
    refine tw_blk (cd := tw_c202) rfl 1 (c1 := (10, [some (.ref 44), some (.int a1)], [.int (-1)], (I, L, tw_P tw dr rt sc, A, J, 57))) rfl ?_
    have h := Option.some.inj h
    subst h
    exact tw_retE (cd := tw_c202) rfl rfl rfl rfl
  · rw [if_neg hc1] at h
    refine tw_br (cd := tw_c202) rfl rfl rfl (by exact if_neg hc1) ?_
    refine tw_blk (cd := tw_c202) rfl 3 (c1 := (7, [some (.ref 44), some (.int a1)], [.int a1, .ref 45], (I, L, tw_P tw dr rt sc, A, J, 57))) rfl ?_
    obtain ⟨x3, hx2, h⟩ := tw_bindE h
    refine tw_iald (cd := tw_c202) (N := 900) rfl rfl rfl rfl hx2 ?_
    refine tw_blk (cd := tw_c202) rfl 1 (c1 := (10, [some (.ref 44), some (.int a1)], [.int x3], (I, L, tw_P tw dr rt sc, A, J, 57))) rfl ?_
    have h := Option.some.inj h
    subst h
    exact tw_retE (cd := tw_c202) rfl rfl rfl rfl
theorem e_X10_isSmall (I : Nat → Int32) (L : Nat → Int64) (A : Nat → Nat → Int32) (J : Nat → Nat → Int64) (tw dr : Nat) (rt : Nat) (sc : Nat) (a0 : Int32) : ∀ r : Bool, g_X10_isSmall a0 = r → tw_ME 203 (0, [some (.int a0)], [], (I, L, tw_P tw dr rt sc, A, J, 57)) (some (.int (tw_b r)), (I, L, tw_P tw dr rt sc, A, J, 57)) := by
  intro r h
  unfold g_X10_isSmall at h
  refine tw_blk (cd := tw_c203) rfl 2 (c1 := (2, [some (.int a0)], [.int 97, .int a0], (I, L, tw_P tw dr rt sc, A, J, 57))) rfl ?_
  by_cases hc1 : a0 < (97 : Int32)
  · rw [if_pos hc1] at h
    refine tw_br (cd := tw_c203) rfl rfl rfl (by exact if_pos hc1) ?_
    refine tw_blk (cd := tw_c203) rfl 1 (c1 := (9, [some (.int a0)], [.int 0], (I, L, tw_P tw dr rt sc, A, J, 57))) rfl ?_
    subst h
    exact tw_retZ (cd := tw_c203) (b := false) rfl rfl rfl rfl
  · rw [if_neg hc1] at h
    refine tw_br (cd := tw_c203) rfl rfl rfl (by exact if_neg hc1) ?_
    refine tw_blk (cd := tw_c203) rfl 2 (c1 := (5, [some (.int a0)], [.int 122, .int a0], (I, L, tw_P tw dr rt sc, A, J, 57))) rfl ?_
    by_cases hc2 : (122 : Int32) < a0
    · rw [if_pos hc2] at h
      refine tw_br (cd := tw_c203) rfl rfl rfl (by exact if_pos hc2) ?_
      refine tw_blk (cd := tw_c203) rfl 1 (c1 := (9, [some (.int a0)], [.int 0], (I, L, tw_P tw dr rt sc, A, J, 57))) rfl ?_
      subst h
      exact tw_retZ (cd := tw_c203) (b := false) rfl rfl rfl rfl
    · rw [if_neg hc2] at h
      refine tw_br (cd := tw_c203) rfl rfl rfl (by exact if_neg hc2) ?_
      refine tw_blk (cd := tw_c203) rfl 2 (c1 := (9, [some (.int a0)], [.int 1], (I, L, tw_P tw dr rt sc, A, J, 57))) rfl ?_
      subst h
      exact tw_retZ (cd := tw_c203) (b := true) rfl rfl rfl rfl
theorem e_X10_isDigit (I : Nat → Int32) (L : Nat → Int64) (A : Nat → Nat → Int32) (J : Nat → Nat → Int64) (tw dr : Nat) (rt : Nat) (sc : Nat) (a0 : Int32) : ∀ r : Bool, g_X10_isDigit a0 = r → tw_ME 204 (0, [some (.int a0)], [], (I, L, tw_P tw dr rt sc, A, J, 57)) (some (.int (tw_b r)), (I, L, tw_P tw dr rt sc, A, J, 57)) := by
  intro r h
  unfold g_X10_isDigit at h
  refine tw_blk (cd := tw_c204) rfl 2 (c1 := (2, [some (.int a0)], [.int 48, .int a0], (I, L, tw_P tw dr rt sc, A, J, 57))) rfl ?_
  by_cases hc1 : a0 < (48 : Int32)
  · rw [if_pos hc1] at h
    refine tw_br (cd := tw_c204) rfl rfl rfl (by exact if_pos hc1) ?_
    refine tw_blk (cd := tw_c204) rfl 1 (c1 := (9, [some (.int a0)], [.int 0], (I, L, tw_P tw dr rt sc, A, J, 57))) rfl ?_
    subst h
    exact tw_retZ (cd := tw_c204) (b := false) rfl rfl rfl rfl
  · rw [if_neg hc1] at h
    refine tw_br (cd := tw_c204) rfl rfl rfl (by exact if_neg hc1) ?_
    refine tw_blk (cd := tw_c204) rfl 2 (c1 := (5, [some (.int a0)], [.int 57, .int a0], (I, L, tw_P tw dr rt sc, A, J, 57))) rfl ?_
    by_cases hc2 : (57 : Int32) < a0
    · rw [if_pos hc2] at h
      refine tw_br (cd := tw_c204) rfl rfl rfl (by exact if_pos hc2) ?_
      refine tw_blk (cd := tw_c204) rfl 1 (c1 := (9, [some (.int a0)], [.int 0], (I, L, tw_P tw dr rt sc, A, J, 57))) rfl ?_
      subst h
      exact tw_retZ (cd := tw_c204) (b := false) rfl rfl rfl rfl
    · rw [if_neg hc2] at h
      refine tw_br (cd := tw_c204) rfl rfl rfl (by exact if_neg hc2) ?_
      refine tw_blk (cd := tw_c204) rfl 2 (c1 := (9, [some (.int a0)], [.int 1], (I, L, tw_P tw dr rt sc, A, J, 57))) rfl ?_
      subst h
      exact tw_retZ (cd := tw_c204) (b := true) rfl rfl rfl rfl
theorem g_X10_next_L1_ok (I : Nat → Int32) (L : Nat → Int64) (A : Nat → Nat → Int32) (J : Nat → Nat → Int64) (tw : Nat) (dr : Nat) (rt : Nat) (sc : Nat) (out : Option Value × tw_S) : ∀ (n : Nat) (v1_1 : Int32) (ex : Int32), g_X10_next_L1 I A n v1_1 = some ex → tw_ME 205 (10, [some (.ref 44), some (.int ex), none, none], [], (I, L, tw_P tw dr rt sc, A, J, 57)) out → tw_ME 205 (3, [some (.ref 44), some (.int v1_1), none, none], [], (I, L, tw_P tw dr rt sc, A, J, 57)) out := by
  intro n
  induction n with
  | zero =>
    intro v1_1 ex h _
    cases h
  | succ n ih =>
    intro v1_1 ex h K
    rw [g_X10_next_L1] at h
    refine tw_blk (cd := tw_c205) rfl 1 (c1 := (4, [some (.ref 44), some (.int v1_1), none, none], [.ref 44], (I, L, tw_P tw dr rt sc, A, J, 57))) rfl ?_
    refine tw_blk (cd := tw_c205) rfl 1 (c1 := (5, [some (.ref 44), some (.int v1_1), none, none], [.int v1_1, .ref 44], (I, L, tw_P tw dr rt sc, A, J, 57))) rfl ?_
    obtain ⟨x2, hx3, h⟩ := tw_bindE h
    refine tw_callE (cd := tw_c205) rfl rfl rfl rfl rfl (e_X10_see I L A J tw dr rt sc v1_1 _ hx3) (by exact Or.inl rfl) ?_
    refine tw_blk (cd := tw_c205) rfl 1 (c1 := (7, [some (.ref 44), some (.int v1_1), none, none], [.int 32, .int x2], (I, L, tw_P tw dr rt sc, A, J, 57))) rfl ?_
    by_cases hc4 : x2 = (32 : Int32)
    · rw [if_pos hc4] at h
      refine tw_br (cd := tw_c205) rfl rfl rfl (by exact if_pos hc4) ?_
      refine tw_blk (cd := tw_c205) rfl 2 (c1 := (3, [some (.ref 44), some (.int (v1_1 + (1 : Int32))), none, none], [], (I, L, tw_P tw dr rt sc, A, J, 57))) rfl ?_
      exact ih (v1_1 + (1 : Int32)) _ h K
    · rw [if_neg hc4] at h
      refine tw_br (cd := tw_c205) rfl rfl rfl (by exact if_neg hc4) ?_
      have h := Option.some.inj h
      subst h
      exact K
theorem g_X10_next_L2_ok (I : Nat → Int32) (L : Nat → Int64) (A : Nat → Nat → Int32) (J : Nat → Nat → Int64) (tw : Nat) (dr : Nat) (rt : Nat) (sc : Nat) (x1 : Int32) (x5 : Int32) (out : Option Value × tw_S) : ∀ (n : Nat) (v2_1 : Int32) (I_2 : Nat → Int32) (A_2 : Nat → Nat → Int32) (ex : (Int32 × (Nat → Int32) × (Nat → Nat → Int32))), g_X10_next_L2 n v2_1 I_2 A_2 = some ex → tw_ME 205 (61, [some (.ref 44), some (.int (ex.1)), none, none], [], ((ex.2.1), L, tw_P tw dr rt sc, (ex.2.2), J, 57)) out → tw_ME 205 (36, [some (.ref 44), some (.int v2_1), none, none], [], (I_2, L, tw_P tw dr rt sc, A_2, J, 57)) out := by
  intro n
  induction n with
  | zero =>
    intro v2_1 I_2 A_2 ex h _
    cases h
  | succ n ih =>
    intro v2_1 I_2 A_2 ex h K
    rw [g_X10_next_L2] at h
    refine tw_blk (cd := tw_c205) rfl 1 (c1 := (37, [some (.ref 44), some (.int v2_1), none, none], [.ref 44], (I_2, L, tw_P tw dr rt sc, A_2, J, 57))) rfl ?_
    refine tw_blk (cd := tw_c205) rfl 1 (c1 := (38, [some (.ref 44), some (.int v2_1), none, none], [.int v2_1, .ref 44], (I_2, L, tw_P tw dr rt sc, A_2, J, 57))) rfl ?_
    obtain ⟨x12, hx13, h⟩ := tw_bindE h
    refine tw_callE (cd := tw_c205) rfl rfl rfl rfl rfl (e_X10_see I_2 L A_2 J tw dr rt sc v2_1 _ hx13) (by exact Or.inl rfl) ?_
    refine tw_callE (cd := tw_c205) rfl rfl rfl rfl rfl (e_X10_isSmall I_2 L A_2 J tw dr rt sc x12 _ rfl) (by exact Or.inl rfl) ?_
    by_cases hc14 : (g_X10_isSmall x12) = true
    · rw [if_pos hc14] at h
      refine tw_br (cd := tw_c205) rfl rfl rfl (by exact if_neg (tw_b_t hc14)) ?_
      refine tw_blk (cd := tw_c205) rfl 3 (c1 := (44, [some (.ref 44), some (.int v2_1), none, none], [.int 8, .int (I_2 4408)], (I_2, L, tw_P tw dr rt sc, A_2, J, 57))) rfl ?_
      obtain ⟨A16, hj17, h⟩ := tw_bindE h
      have K : tw_ME 205 (53, [some (.ref 44), some (.int v2_1), none, none], [], (I_2, L, tw_P tw dr rt sc, A16, J, 57)) out := by
        refine tw_blk (cd := tw_c205) rfl 8 (c1 := (36, [some (.ref 44), some (.int (v2_1 + (1 : Int32))), none, none], [], ((upd I_2 4408 ((I_2 4408) + (1 : Int32))), L, tw_P tw dr rt sc, A16, J, 57))) rfl ?_
        exact ih (v2_1 + (1 : Int32)) (upd I_2 4408 ((I_2 4408) + (1 : Int32))) A16 _ h K
      by_cases hc15 : (8 : Int32) ≤ (I_2 4408)
      · rw [if_pos hc15] at hj17
        refine tw_br (cd := tw_c205) rfl rfl rfl (by exact if_pos hc15) ?_
        have hj17s := Option.some.inj hj17
        subst hj17s
        exact K
      · rw [if_neg hc15] at hj17
        refine tw_br (cd := tw_c205) rfl rfl rfl (by exact if_neg hc15) ?_
        refine tw_blk (cd := tw_c205) rfl 6 (c1 := (51, [some (.ref 44), some (.int v2_1), none, none], [.int v2_1, .ref 44, .int (I_2 4408), .ref 46], (I_2, L, tw_P tw dr rt sc, A_2, J, 57))) rfl ?_
        obtain ⟨x18, hx19, hj17⟩ := tw_bindE hj17
        refine tw_callE (cd := tw_c205) rfl rfl rfl rfl rfl (e_X10_see I_2 L A_2 J tw dr rt sc v2_1 _ hx19) (by exact Or.inl rfl) ?_
        obtain ⟨w21, hx20, hj17⟩ := tw_bindE hj17
        refine tw_iast (cd := tw_c205) (N := 8) rfl rfl rfl rfl hx20 ?_
        have hj17s := Option.some.inj hj17
        subst hj17s
        exact K
    · rw [if_neg hc14] at h
      refine tw_br (cd := tw_c205) rfl rfl rfl (by exact if_pos (tw_b_f hc14)) ?_
      have h := Option.some.inj h
      subst h
      exact K
theorem g_X10_next_L3_ok (I : Nat → Int32) (L : Nat → Int64) (A : Nat → Nat → Int32) (J : Nat → Nat → Int64) (tw : Nat) (dr : Nat) (rt : Nat) (sc : Nat) (x1 : Int32) (x5 : Int32) (out : Option Value × tw_S) : ∀ (n : Nat) (v3_1 : Int32) (v3_3 : Int32) (I_3 : Nat → Int32) (ex : (Int32 × Int32 × (Nat → Int32))), g_X10_next_L3 A n v3_1 v3_3 I_3 = some ex → tw_ME 205 (102, [some (.ref 44), some (.int (ex.1)), none, some (.int (ex.2.1))], [], ((ex.2.2), L, tw_P tw dr rt sc, A, J, 57)) out → tw_ME 205 (79, [some (.ref 44), some (.int v3_1), none, some (.int v3_3)], [], (I_3, L, tw_P tw dr rt sc, A, J, 57)) out := by
  intro n
  induction n with
  | zero =>
    intro v3_1 v3_3 I_3 ex h _
    cases h
  | succ n ih =>
    intro v3_1 v3_3 I_3 ex h K
    rw [g_X10_next_L3] at h
    refine tw_blk (cd := tw_c205) rfl 1 (c1 := (80, [some (.ref 44), some (.int v3_1), none, some (.int v3_3)], [.ref 44], (I_3, L, tw_P tw dr rt sc, A, J, 57))) rfl ?_
    refine tw_blk (cd := tw_c205) rfl 1 (c1 := (81, [some (.ref 44), some (.int v3_1), none, some (.int v3_3)], [.int v3_1, .ref 44], (I_3, L, tw_P tw dr rt sc, A, J, 57))) rfl ?_
    obtain ⟨x30, hx31, h⟩ := tw_bindE h
    refine tw_callE (cd := tw_c205) rfl rfl rfl rfl rfl (e_X10_see I_3 L A J tw dr rt sc v3_1 _ hx31) (by exact Or.inl rfl) ?_
    refine tw_callE (cd := tw_c205) rfl rfl rfl rfl rfl (e_X10_isDigit I_3 L A J tw dr rt sc x30 _ rfl) (by exact Or.inl rfl) ?_
    by_cases hc32 : (g_X10_isDigit x30) = true
    · rw [if_pos hc32] at h
      refine tw_br (cd := tw_c205) rfl rfl rfl (by exact if_neg (tw_b_t hc32)) ?_
      refine tw_blk (cd := tw_c205) rfl 2 (c1 := (86, [some (.ref 44), some (.int v3_1), none, some (.int v3_3)], [.int 3, .int v3_3], (I_3, L, tw_P tw dr rt sc, A, J, 57))) rfl ?_
      obtain ⟨I34, hj35, h⟩ := tw_bindE h
      have K : tw_ME 205 (99, [some (.ref 44), some (.int v3_1), none, some (.int v3_3)], [], (I34, L, tw_P tw dr rt sc, A, J, 57)) out := by
        refine tw_blk (cd := tw_c205) rfl 3 (c1 := (79, [some (.ref 44), some (.int (v3_1 + (1 : Int32))), none, some (.int (v3_3 + (1 : Int32)))], [], (I34, L, tw_P tw dr rt sc, A, J, 57))) rfl ?_
        exact ih (v3_1 + (1 : Int32)) (v3_3 + (1 : Int32)) I34 _ h K
      by_cases hc33 : (3 : Int32) ≤ v3_3
      · rw [if_pos hc33] at hj35
        refine tw_br (cd := tw_c205) rfl rfl rfl (by exact if_pos hc33) ?_
        have hj35s := Option.some.inj hj35
        subst hj35s
        exact K
      · rw [if_neg hc33] at hj35
        refine tw_br (cd := tw_c205) rfl rfl rfl (by exact if_neg hc33) ?_
        refine tw_blk (cd := tw_c205) rfl 7 (c1 := (94, [some (.ref 44), some (.int v3_1), none, some (.int v3_3)], [.int v3_1, .ref 44, .int ((10 : Int32) * (I_3 4407)), .ref 44], (I_3, L, tw_P tw dr rt sc, A, J, 57))) rfl ?_
        obtain ⟨x36, hx37, hj35⟩ := tw_bindE hj35
        refine tw_callE (cd := tw_c205) rfl rfl rfl rfl rfl (e_X10_see I_3 L A J tw dr rt sc v3_1 _ hx37) (by exact Or.inl rfl) ?_
        refine tw_blk (cd := tw_c205) rfl 4 (c1 := (99, [some (.ref 44), some (.int v3_1), none, some (.int v3_3)], [], ((upd I_3 4407 ((((10 : Int32) * (I_3 4407)) + x36) - (48 : Int32))), L, tw_P tw dr rt sc, A, J, 57))) rfl ?_
        have hj35s := Option.some.inj hj35
        subst hj35s
        exact K
    · rw [if_neg hc32] at h
      refine tw_br (cd := tw_c205) rfl rfl rfl (by exact if_pos (tw_b_f hc32)) ?_
      have h := Option.some.inj h
      subst h
      exact K
theorem e_X10_next (I : Nat → Int32) (L : Nat → Int64) (A : Nat → Nat → Int32) (J : Nat → Nat → Int64) (tw dr : Nat) (rt : Nat) (sc : Nat) : ∀ r : ((Nat → Int32) × (Nat → Nat → Int32)), g_X10_next I A = some r → tw_ME 205 (0, [some (.ref 44), none, none, none], [], (I, L, tw_P tw dr rt sc, A, J, 57)) (none, ((r.1), L, tw_P tw dr rt sc, (r.2), J, 57)) := by
  intro r h
  unfold g_X10_next at h
  refine tw_blk (cd := tw_c205) rfl 3 (c1 := (3, [some (.ref 44), some (.int (I 4405)), none, none], [], (I, L, tw_P tw dr rt sc, A, J, 57))) rfl ?_
  obtain ⟨x1, hx45, h⟩ := tw_bindE h
  refine g_X10_next_L1_ok I L A J tw dr rt sc _ 4096 (I 4405) _ hx45 ?_
  refine tw_blk (cd := tw_c205) rfl 5 (c1 := (15, [some (.ref 44), some (.int x1), none, none], [.int x1, .ref 44], ((upd I 4404 x1), L, tw_P tw dr rt sc, A, J, 57))) rfl ?_
  obtain ⟨x5, hx6, h⟩ := tw_bindE h
  refine tw_callE (cd := tw_c205) rfl rfl rfl rfl rfl (e_X10_see (upd I 4404 x1) L A J tw dr rt sc x1 _ hx6) (by exact Or.inl rfl) ?_
  refine tw_blk (cd := tw_c205) rfl 9 (c1 := (25, [some (.ref 44), some (.int x1), some (.int x5), none], [.int (-1), .int x5], ((upd (upd (upd I 4404 x1) 4408 (0 : Int32)) 4407 (0 : Int32)), L, tw_P tw dr rt sc, A, J, 57))) rfl ?_
  by_cases hc7 : x5 = (-1 : Int32)
  · rw [if_pos hc7] at h
    refine tw_br (cd := tw_c205) rfl rfl rfl (by exact if_pos hc7) ?_
    refine tw_blk (cd := tw_c205) rfl 7 (c1 := (127, [some (.ref 44), some (.int x1), some (.int x5), none], [], ((upd (upd (upd (upd (upd I 4404 x1) 4408 (0 : Int32)) 4407 (0 : Int32)) 4406 (0 : Int32)) 4405 x1), L, tw_P tw dr rt sc, A, J, 57))) rfl ?_
    have h := Option.some.inj h
    subst h
    exact tw_retE (cd := tw_c205) rfl rfl rfl rfl
  · rw [if_neg hc7] at h
    refine tw_br (cd := tw_c205) rfl rfl rfl (by exact if_neg hc7) ?_
    refine tw_blk (cd := tw_c205) rfl 1 (c1 := (34, [some (.ref 44), some (.int x1), some (.int x5), none], [.int x5], ((upd (upd (upd I 4404 x1) 4408 (0 : Int32)) 4407 (0 : Int32)), L, tw_P tw dr rt sc, A, J, 57))) rfl ?_
    refine tw_callE (cd := tw_c205) rfl rfl rfl rfl rfl (e_X10_isSmall (upd (upd (upd I 4404 x1) 4408 (0 : Int32)) 4407 (0 : Int32)) L A J tw dr rt sc x5 _ rfl) (by exact Or.inl rfl) ?_
    by_cases hc8 : (g_X10_isSmall x5) = true
    · rw [if_pos hc8] at h
      refine tw_br (cd := tw_c205) rfl rfl rfl (by exact if_neg (tw_b_t hc8)) ?_
      obtain ⟨⟨x9, I10, A11⟩, hx25, h⟩ := tw_bindE h
      dsimp only at h
      refine tw_forget (ls2 := [some (.ref 44), some (.int x1), none, none]) ⟨rfl, rfl, trivial⟩ ?_
      refine g_X10_next_L2_ok I L A J tw dr rt sc x1 x5 _ 4096 x1 (upd (upd (upd I 4404 x1) 4408 (0 : Int32)) 4407 (0 : Int32)) A _ hx25 ?_
      refine tw_blk (cd := tw_c205) rfl 7 (c1 := (68, [some (.ref 44), some (.int x9), none, none], [.int 8, .int (I10 4408), .ref 44], ((upd I10 4405 x9), L, tw_P tw dr rt sc, A11, J, 57))) rfl ?_
      obtain ⟨x23, hj24, h⟩ := tw_bindE h
      have K : tw_ME 205 (72, [none, none, none, none], [.int x23, .ref 44], ((upd I10 4405 x9), L, tw_P tw dr rt sc, A11, J, 57)) (none, ((r.1), L, tw_P tw dr rt sc, (r.2), J, 57)) := by
        refine tw_blk (cd := tw_c205) rfl 2 (c1 := (127, [none, none, none, none], [], ((upd (upd I10 4405 x9) 4406 x23), L, tw_P tw dr rt sc, A11, J, 57))) rfl ?_
        have h := Option.some.inj h
        subst h
        exact tw_retE (cd := tw_c205) rfl rfl rfl rfl
      by_cases hc22 : (I10 4408) ≤ (8 : Int32)
      · rw [if_pos hc22] at hj24
        refine tw_br (cd := tw_c205) rfl rfl rfl (by exact if_pos hc22) ?_
        refine tw_blk (cd := tw_c205) rfl 1 (c1 := (72, [some (.ref 44), some (.int x9), none, none], [.int 2, .ref 44], ((upd I10 4405 x9), L, tw_P tw dr rt sc, A11, J, 57))) rfl ?_
        refine tw_forget (ls2 := [none, none, none, none]) trivial ?_
        have hj24s := Option.some.inj hj24
        subst hj24s
        exact K
      · rw [if_neg hc22] at hj24
        refine tw_br (cd := tw_c205) rfl rfl rfl (by exact if_neg hc22) ?_
        refine tw_blk (cd := tw_c205) rfl 2 (c1 := (72, [some (.ref 44), some (.int x9), none, none], [.int 1, .ref 44], ((upd I10 4405 x9), L, tw_P tw dr rt sc, A11, J, 57))) rfl ?_
        refine tw_forget (ls2 := [none, none, none, none]) trivial ?_
        have hj24s := Option.some.inj hj24
        subst hj24s
        exact K
    · rw [if_neg hc8] at h
      refine tw_br (cd := tw_c205) rfl rfl rfl (by exact if_pos (tw_b_f hc8)) ?_
      refine tw_blk (cd := tw_c205) rfl 1 (c1 := (75, [some (.ref 44), some (.int x1), some (.int x5), none], [.int x5], ((upd (upd (upd I 4404 x1) 4408 (0 : Int32)) 4407 (0 : Int32)), L, tw_P tw dr rt sc, A, J, 57))) rfl ?_
      refine tw_callE (cd := tw_c205) rfl rfl rfl rfl rfl (e_X10_isDigit (upd (upd (upd I 4404 x1) 4408 (0 : Int32)) 4407 (0 : Int32)) L A J tw dr rt sc x5 _ rfl) (by exact Or.inl rfl) ?_
      by_cases hc26 : (g_X10_isDigit x5) = true
      · rw [if_pos hc26] at h
        refine tw_br (cd := tw_c205) rfl rfl rfl (by exact if_neg (tw_b_t hc26)) ?_
        refine tw_blk (cd := tw_c205) rfl 2 (c1 := (79, [some (.ref 44), some (.int x1), some (.int x5), some (.int 0)], [], ((upd (upd (upd I 4404 x1) 4408 (0 : Int32)) 4407 (0 : Int32)), L, tw_P tw dr rt sc, A, J, 57))) rfl ?_
        obtain ⟨⟨x27, x28, I29⟩, hx41, h⟩ := tw_bindE h
        dsimp only at h
        refine tw_forget (ls2 := [some (.ref 44), some (.int x1), none, some (.int 0)]) ⟨rfl, rfl, rfl, trivial⟩ ?_
        refine g_X10_next_L3_ok I L A J tw dr rt sc x1 x5 _ 4096 x1 (0 : Int32) (upd (upd (upd I 4404 x1) 4408 (0 : Int32)) 4407 (0 : Int32)) _ hx41 ?_
        refine tw_blk (cd := tw_c205) rfl 6 (c1 := (108, [some (.ref 44), some (.int x27), none, some (.int x28)], [.int 3, .int x28, .ref 44], ((upd I29 4405 x27), L, tw_P tw dr rt sc, A, J, 57))) rfl ?_
        obtain ⟨x39, hj40, h⟩ := tw_bindE h
        have K : tw_ME 205 (112, [none, none, none, none], [.int x39, .ref 44], ((upd I29 4405 x27), L, tw_P tw dr rt sc, A, J, 57)) (none, ((r.1), L, tw_P tw dr rt sc, (r.2), J, 57)) := by
          refine tw_blk (cd := tw_c205) rfl 2 (c1 := (127, [none, none, none, none], [], ((upd (upd I29 4405 x27) 4406 x39), L, tw_P tw dr rt sc, A, J, 57))) rfl ?_
          have h := Option.some.inj h
          subst h
          exact tw_retE (cd := tw_c205) rfl rfl rfl rfl
        by_cases hc38 : x28 ≤ (3 : Int32)
        · rw [if_pos hc38] at hj40
          refine tw_br (cd := tw_c205) rfl rfl rfl (by exact if_pos hc38) ?_
          refine tw_blk (cd := tw_c205) rfl 1 (c1 := (112, [some (.ref 44), some (.int x27), none, some (.int x28)], [.int 3, .ref 44], ((upd I29 4405 x27), L, tw_P tw dr rt sc, A, J, 57))) rfl ?_
          refine tw_forget (ls2 := [none, none, none, none]) trivial ?_
          have hj40s := Option.some.inj hj40
          subst hj40s
          exact K
        · rw [if_neg hc38] at hj40
          refine tw_br (cd := tw_c205) rfl rfl rfl (by exact if_neg hc38) ?_
          refine tw_blk (cd := tw_c205) rfl 2 (c1 := (112, [some (.ref 44), some (.int x27), none, some (.int x28)], [.int 1, .ref 44], ((upd I29 4405 x27), L, tw_P tw dr rt sc, A, J, 57))) rfl ?_
          refine tw_forget (ls2 := [none, none, none, none]) trivial ?_
          have hj40s := Option.some.inj hj40
          subst hj40s
          exact K
      · rw [if_neg hc26] at h
        refine tw_br (cd := tw_c205) rfl rfl rfl (by exact if_pos (tw_b_f hc26)) ?_
        refine tw_blk (cd := tw_c205) rfl 8 (c1 := (122, [some (.ref 44), some (.int x1), some (.int x5), none], [.int 59, .int x5, .ref 44], ((upd (upd (upd (upd I 4404 x1) 4408 (0 : Int32)) 4407 (0 : Int32)) 4405 (x1 + (1 : Int32))), L, tw_P tw dr rt sc, A, J, 57))) rfl ?_
        obtain ⟨x43, hj44, h⟩ := tw_bindE h
        have K : tw_ME 205 (126, [none, none, none, none], [.int x43, .ref 44], ((upd (upd (upd (upd I 4404 x1) 4408 (0 : Int32)) 4407 (0 : Int32)) 4405 (x1 + (1 : Int32))), L, tw_P tw dr rt sc, A, J, 57)) (none, ((r.1), L, tw_P tw dr rt sc, (r.2), J, 57)) := by
          refine tw_blk (cd := tw_c205) rfl 1 (c1 := (127, [none, none, none, none], [], ((upd (upd (upd (upd (upd I 4404 x1) 4408 (0 : Int32)) 4407 (0 : Int32)) 4405 (x1 + (1 : Int32))) 4406 x43), L, tw_P tw dr rt sc, A, J, 57))) rfl ?_
          have h := Option.some.inj h
          subst h
          exact tw_retE (cd := tw_c205) rfl rfl rfl rfl
        by_cases hc42 : x5 = (59 : Int32)
        · rw [if_pos hc42] at hj44
          refine tw_br (cd := tw_c205) rfl rfl rfl (by exact if_pos hc42) ?_
          refine tw_blk (cd := tw_c205) rfl 2 (c1 := (126, [some (.ref 44), some (.int x1), some (.int x5), none], [.int x5, .ref 44], ((upd (upd (upd (upd I 4404 x1) 4408 (0 : Int32)) 4407 (0 : Int32)) 4405 (x1 + (1 : Int32))), L, tw_P tw dr rt sc, A, J, 57))) rfl ?_
          refine tw_forget (ls2 := [none, none, none, none]) trivial ?_
          have hj44s := Option.some.inj hj44
          subst hj44s
          exact K
        · rw [if_neg hc42] at hj44
          refine tw_br (cd := tw_c205) rfl rfl rfl (by exact if_neg hc42) ?_
          refine tw_blk (cd := tw_c205) rfl 1 (c1 := (126, [some (.ref 44), some (.int x1), some (.int x5), none], [.int 1, .ref 44], ((upd (upd (upd (upd I 4404 x1) 4408 (0 : Int32)) 4407 (0 : Int32)) 4405 (x1 + (1 : Int32))), L, tw_P tw dr rt sc, A, J, 57))) rfl ?_
          refine tw_forget (ls2 := [none, none, none, none]) trivial ?_
          have hj44s := Option.some.inj hj44
          subst hj44s
          exact K
theorem g_X10_isWord_L1_ok (I : Nat → Int32) (L : Nat → Int64) (A : Nat → Nat → Int32) (J : Nat → Nat → Int64) (tw : Nat) (dr : Nat) (rt : Nat) (sc : Nat) (q1 : Nat) (hq1 : (1000 ≤ q1 ∧ q1 < 1019)) (out : Option Value × tw_S) : ∀ (n : Nat) (v1_2 : Bool) (v1_3 : Int32) (ex : Bool), g_X10_isWord_L1 I A q1 n v1_2 v1_3 = some ex → tw_ME 207 (38, [none, none, some (.int (tw_b ex)), none], [], (I, L, tw_P tw dr rt sc, A, J, 57)) out → tw_ME 207 (18, [some (.ref 44), some (.ref q1), some (.int (tw_b v1_2)), some (.int v1_3)], [], (I, L, tw_P tw dr rt sc, A, J, 57)) out := by
  intro n
  induction n with
  | zero =>
    intro v1_2 v1_3 ex h _
    cases h
  | succ n ih =>
    intro v1_2 v1_3 ex h K
    rw [g_X10_isWord_L1] at h
    refine tw_blk (cd := tw_c207) rfl 1 (c1 := (19, [some (.ref 44), some (.ref q1), some (.int (tw_b v1_2)), some (.int v1_3)], [.int v1_3], (I, L, tw_P tw dr rt sc, A, J, 57))) rfl ?_
    refine tw_blk (cd := tw_c207) rfl 2 (c1 := (21, [some (.ref 44), some (.ref q1), some (.int (tw_b v1_2)), some (.int v1_3)], [.int (I 4408), .int v1_3], (I, L, tw_P tw dr rt sc, A, J, 57))) rfl ?_
    by_cases hc5 : (I 4408) ≤ v1_3
    · rw [if_pos hc5] at h
      refine tw_br (cd := tw_c207) rfl rfl rfl (by exact if_pos hc5) ?_
      refine tw_forget (ls2 := [none, none, some (.int (tw_b v1_2)), none]) ⟨rfl, trivial⟩ ?_
      have h := Option.some.inj h
      subst h
      exact K
    · rw [if_neg hc5] at h
      refine tw_br (cd := tw_c207) rfl rfl rfl (by exact if_neg hc5) ?_
      refine tw_blk (cd := tw_c207) rfl 1 (c1 := (23, [some (.ref 44), some (.ref q1), some (.int (tw_b v1_2)), some (.int v1_3)], [.int (tw_b v1_2)], (I, L, tw_P tw dr rt sc, A, J, 57))) rfl ?_
      obtain ⟨c7, hj8, h⟩ := tw_bindE h
      have K : tw_ME 207 (35, [some (.ref 44), some (.ref q1), none, some (.int v1_3)], [.int (tw_b c7)], (I, L, tw_P tw dr rt sc, A, J, 57)) out := by
        refine tw_blk (cd := tw_c207) rfl 3 (c1 := (18, [some (.ref 44), some (.ref q1), some (.int (tw_b c7)), some (.int (v1_3 + (1 : Int32)))], [], (I, L, tw_P tw dr rt sc, A, J, 57))) rfl ?_
        exact ih c7 (v1_3 + (1 : Int32)) _ h K
      by_cases hc6 : v1_2 = true
      · rw [if_pos hc6] at hj8
        refine tw_br (cd := tw_c207) rfl rfl rfl (by exact if_neg (tw_b_t hc6)) ?_
        refine tw_blk (cd := tw_c207) rfl 3 (c1 := (27, [some (.ref 44), some (.ref q1), some (.int (tw_b v1_2)), some (.int v1_3)], [.int v1_3, .ref 46], (I, L, tw_P tw dr rt sc, A, J, 57))) rfl ?_
        obtain ⟨x10, hx9, hj8⟩ := tw_bindE hj8
        refine tw_iald (cd := tw_c207) (N := 8) rfl rfl rfl rfl hx9 ?_
        refine tw_blk (cd := tw_c207) rfl 2 (c1 := (30, [some (.ref 44), some (.ref q1), some (.int (tw_b v1_2)), some (.int v1_3)], [.int v1_3, .ref q1, .int x10], (I, L, tw_P tw dr rt sc, A, J, 57))) rfl ?_
        obtain ⟨x11, hx12, hj8⟩ := tw_bindE hj8
        refine tw_schr (cd := tw_c207) rfl rfl hq1 rfl hx12 ?_
        by_cases hc13 : x10 = x11
        · rw [if_pos hc13] at hj8
          refine tw_br (cd := tw_c207) rfl rfl rfl (by exact if_pos hc13) ?_
          refine tw_blk (cd := tw_c207) rfl 2 (c1 := (35, [some (.ref 44), some (.ref q1), some (.int (tw_b v1_2)), some (.int v1_3)], [.int 1], (I, L, tw_P tw dr rt sc, A, J, 57))) rfl ?_
          refine tw_forget (ls2 := [some (.ref 44), some (.ref q1), none, some (.int v1_3)]) ⟨rfl, rfl, rfl, trivial⟩ ?_
          have hj8s := Option.some.inj hj8
          subst hj8s
          exact K
        · rw [if_neg hc13] at hj8
          refine tw_br (cd := tw_c207) rfl rfl rfl (by exact if_neg hc13) ?_
          refine tw_blk (cd := tw_c207) rfl 1 (c1 := (35, [some (.ref 44), some (.ref q1), some (.int (tw_b v1_2)), some (.int v1_3)], [.int 0], (I, L, tw_P tw dr rt sc, A, J, 57))) rfl ?_
          refine tw_forget (ls2 := [some (.ref 44), some (.ref q1), none, some (.int v1_3)]) ⟨rfl, rfl, rfl, trivial⟩ ?_
          have hj8s := Option.some.inj hj8
          subst hj8s
          exact K
      · rw [if_neg hc6] at hj8
        refine tw_br (cd := tw_c207) rfl rfl rfl (by exact if_pos (tw_b_f hc6)) ?_
        refine tw_blk (cd := tw_c207) rfl 1 (c1 := (35, [some (.ref 44), some (.ref q1), some (.int (tw_b v1_2)), some (.int v1_3)], [.int 0], (I, L, tw_P tw dr rt sc, A, J, 57))) rfl ?_
        refine tw_forget (ls2 := [some (.ref 44), some (.ref q1), none, some (.int v1_3)]) ⟨rfl, rfl, rfl, trivial⟩ ?_
        have hj8s := Option.some.inj hj8
        subst hj8s
        exact K
theorem e_X10_isWord (I : Nat → Int32) (L : Nat → Int64) (A : Nat → Nat → Int32) (J : Nat → Nat → Int64) (tw dr : Nat) (rt : Nat) (sc : Nat) (q1 : Nat) (hq1 : 1000 ≤ q1 ∧ q1 < 1019) : ∀ r : Bool, g_X10_isWord I A q1 = some r → tw_ME 207 (0, [some (.ref 44), some (.ref q1), none, none], [], (I, L, tw_P tw dr rt sc, A, J, 57)) (some (.int (tw_b r)), (I, L, tw_P tw dr rt sc, A, J, 57)) := by
  intro r h
  unfold g_X10_isWord at h
  refine tw_blk (cd := tw_c207) rfl 2 (c1 := (2, [some (.ref 44), some (.ref q1), none, none], [.int (I 4413)], (I, L, tw_P tw dr rt sc, A, J, 57))) rfl ?_
  by_cases hc1 : (I 4413) = 0
  · rw [if_pos hc1] at h
    refine tw_br (cd := tw_c207) rfl rfl rfl (by exact if_pos hc1) ?_
    refine tw_blk (cd := tw_c207) rfl 3 (c1 := (6, [some (.ref 44), some (.ref q1), none, none], [.int 2, .int (I 4406)], (I, L, tw_P tw dr rt sc, A, J, 57))) rfl ?_
    by_cases hc2 : (I 4406) = (2 : Int32)
    · rw [if_pos hc2] at h
      refine tw_br (cd := tw_c207) rfl rfl rfl (by exact if_pos hc2) ?_
      refine tw_blk (cd := tw_c207) rfl 3 (c1 := (10, [some (.ref 44), some (.ref q1), none, none], [.ref q1, .int (I 4408)], (I, L, tw_P tw dr rt sc, A, J, 57))) rfl ?_
      refine tw_slen (cd := tw_c207) rfl rfl hq1 rfl ?_
      by_cases hc3 : (I 4408) = (Int32.ofNat (tw_lenS q1))
      · rw [if_pos hc3] at h
        refine tw_br (cd := tw_c207) rfl rfl rfl (by exact if_pos hc3) ?_
        refine tw_blk (cd := tw_c207) rfl 4 (c1 := (18, [some (.ref 44), some (.ref q1), some (.int 1), some (.int 0)], [], (I, L, tw_P tw dr rt sc, A, J, 57))) rfl ?_
        obtain ⟨c4, hx14, h⟩ := tw_bindE h
        refine g_X10_isWord_L1_ok I L A J tw dr rt sc q1 hq1 _ 4096 true (0 : Int32) _ hx14 ?_
        refine tw_blk (cd := tw_c207) rfl 1 (c1 := (39, [none, none, some (.int (tw_b c4)), none], [.int (tw_b c4)], (I, L, tw_P tw dr rt sc, A, J, 57))) rfl ?_
        have h := Option.some.inj h
        subst h
        exact tw_retZ (cd := tw_c207) (b := c4) rfl rfl rfl rfl
      · rw [if_neg hc3] at h
        refine tw_br (cd := tw_c207) rfl rfl rfl (by exact if_neg hc3) ?_
        refine tw_blk (cd := tw_c207) rfl 1 (c1 := (13, [some (.ref 44), some (.ref q1), none, none], [.int 0], (I, L, tw_P tw dr rt sc, A, J, 57))) rfl ?_
        have h := Option.some.inj h
        subst h
        exact tw_retZ (cd := tw_c207) (b := false) rfl rfl rfl rfl
    · rw [if_neg hc2] at h
      refine tw_br (cd := tw_c207) rfl rfl rfl (by exact if_neg hc2) ?_
      refine tw_blk (cd := tw_c207) rfl 1 (c1 := (13, [some (.ref 44), some (.ref q1), none, none], [.int 0], (I, L, tw_P tw dr rt sc, A, J, 57))) rfl ?_
      have h := Option.some.inj h
      subst h
      exact tw_retZ (cd := tw_c207) (b := false) rfl rfl rfl rfl
  · rw [if_neg hc1] at h
    refine tw_br (cd := tw_c207) rfl rfl rfl (by exact if_neg hc1) ?_
    refine tw_blk (cd := tw_c207) rfl 1 (c1 := (13, [some (.ref 44), some (.ref q1), none, none], [.int 0], (I, L, tw_P tw dr rt sc, A, J, 57))) rfl ?_
    have h := Option.some.inj h
    subst h
    exact tw_retZ (cd := tw_c207) (b := false) rfl rfl rfl rfl
theorem e_X10_wrong (I : Nat → Int32) (L : Nat → Int64) (A : Nat → Nat → Int32) (J : Nat → Nat → Int64) (tw dr : Nat) (rt : Nat) (sc : Nat) (a1 : Int32) (a2 : Int32) : ∀ r : Nat → Int32, g_X10_wrong I a1 a2 = r → tw_ME 206 (0, [some (.ref 44), some (.int a1), some (.int a2)], [], (I, L, tw_P tw dr rt sc, A, J, 57)) (none, (r, L, tw_P tw dr rt sc, A, J, 57)) := by
  intro r h
  unfold g_X10_wrong at h
  refine tw_blk (cd := tw_c206) rfl 2 (c1 := (2, [some (.ref 44), some (.int a1), some (.int a2)], [.int (I 4413)], (I, L, tw_P tw dr rt sc, A, J, 57))) rfl ?_
  by_cases hc1 : (I 4413) = 0
  · rw [if_pos hc1] at h
    refine tw_br (cd := tw_c206) rfl rfl rfl (by exact if_pos hc1) ?_
    refine tw_blk (cd := tw_c206) rfl 9 (c1 := (13, [some (.ref 44), some (.int a1), some (.int a2)], [], ((upd (upd (upd I 4413 (1 : Int32)) 4409 a1) 4410 a2), L, tw_P tw dr rt sc, A, J, 57))) rfl ?_
    subst h
    exact tw_retE (cd := tw_c206) rfl rfl rfl rfl
  · rw [if_neg hc1] at h
    refine tw_br (cd := tw_c206) rfl rfl rfl (by exact if_neg hc1) ?_
    subst h
    exact tw_retE (cd := tw_c206) rfl rfl rfl rfl
theorem e_X10_takesWord (I : Nat → Int32) (L : Nat → Int64) (A : Nat → Nat → Int32) (J : Nat → Nat → Int64) (tw dr : Nat) (rt : Nat) (sc : Nat) (q1 : Nat) (hq1 : 1000 ≤ q1 ∧ q1 < 1019) : ∀ r : (Bool × (Nat → Int32) × (Nat → Nat → Int32)), g_X10_takesWord I A q1 = some r → tw_ME 208 (0, [some (.ref 44), some (.ref q1)], [], (I, L, tw_P tw dr rt sc, A, J, 57)) (some (.int (tw_b r.1)), ((r.2.1), L, tw_P tw dr rt sc, (r.2.2), J, 57)) := by
  intro r h
  unfold g_X10_takesWord at h
  refine tw_blk (cd := tw_c208) rfl 2 (c1 := (2, [some (.ref 44), some (.ref q1)], [.ref q1, .ref 44], (I, L, tw_P tw dr rt sc, A, J, 57))) rfl ?_
  obtain ⟨c1, hx2, h⟩ := tw_bindE h
  refine tw_callE (cd := tw_c208) rfl rfl rfl rfl rfl (e_X10_isWord I L A J tw dr rt sc q1 hq1 _ hx2) (by exact Or.inl rfl) ?_
  by_cases hc3 : c1 = true
  · rw [if_pos hc3] at h
    refine tw_br (cd := tw_c208) rfl rfl rfl (by exact if_neg (tw_b_t hc3)) ?_
    refine tw_blk (cd := tw_c208) rfl 1 (c1 := (7, [some (.ref 44), some (.ref q1)], [.ref 44], (I, L, tw_P tw dr rt sc, A, J, 57))) rfl ?_
    obtain ⟨⟨I4, A5⟩, hx6, h⟩ := tw_bindE h
    dsimp only at h
    refine tw_callE (cd := tw_c208) rfl rfl rfl rfl rfl (e_X10_next I L A J tw dr rt sc _ hx6) (by exact Or.inl rfl) ?_
    refine tw_blk (cd := tw_c208) rfl 1 (c1 := (9, [some (.ref 44), some (.ref q1)], [.int 1], (I4, L, tw_P tw dr rt sc, A5, J, 57))) rfl ?_
    have h := Option.some.inj h
    subst h
    exact tw_retZ (cd := tw_c208) (b := true) rfl rfl rfl rfl
  · rw [if_neg hc3] at h
    refine tw_br (cd := tw_c208) rfl rfl rfl (by exact if_pos (tw_b_f hc3)) ?_
    refine tw_blk (cd := tw_c208) rfl 1 (c1 := (5, [some (.ref 44), some (.ref q1)], [.int 0], (I, L, tw_P tw dr rt sc, A, J, 57))) rfl ?_
    have h := Option.some.inj h
    subst h
    exact tw_retZ (cd := tw_c208) (b := false) rfl rfl rfl rfl
theorem e_X10_must (I : Nat → Int32) (L : Nat → Int64) (A : Nat → Nat → Int32) (J : Nat → Nat → Int64) (tw dr : Nat) (rt : Nat) (sc : Nat) (q1 : Nat) (hq1 : 1000 ≤ q1 ∧ q1 < 1019) : ∀ r : ((Nat → Int32) × (Nat → Nat → Int32)), g_X10_must I A q1 = some r → tw_ME 209 (0, [some (.ref 44), some (.ref q1)], [], (I, L, tw_P tw dr rt sc, A, J, 57)) (none, ((r.1), L, tw_P tw dr rt sc, (r.2), J, 57)) := by
  intro r h
  unfold g_X10_must at h
  refine tw_blk (cd := tw_c209) rfl 2 (c1 := (2, [some (.ref 44), some (.ref q1)], [.int (I 4413)], (I, L, tw_P tw dr rt sc, A, J, 57))) rfl ?_
  by_cases hc1 : (I 4413) = 0
  · rw [if_pos hc1] at h
    refine tw_br (cd := tw_c209) rfl rfl rfl (by exact if_pos hc1) ?_
    refine tw_blk (cd := tw_c209) rfl 2 (c1 := (5, [some (.ref 44), some (.ref q1)], [.ref q1, .ref 44], (I, L, tw_P tw dr rt sc, A, J, 57))) rfl ?_
    obtain ⟨⟨c2, I3, A4⟩, hx5, h⟩ := tw_bindE h
    dsimp only at h
    refine tw_callE (cd := tw_c209) rfl rfl rfl rfl rfl (e_X10_takesWord I L A J tw dr rt sc q1 hq1 _ hx5) (by exact Or.inl rfl) ?_
    by_cases hc6 : c2 = true
    · rw [if_pos hc6] at h
      refine tw_br (cd := tw_c209) rfl rfl rfl (by exact if_neg (tw_b_t hc6)) ?_
      have h := Option.some.inj h
      subst h
      exact tw_retE (cd := tw_c209) rfl rfl rfl rfl
    · rw [if_neg hc6] at h
      refine tw_br (cd := tw_c209) rfl rfl rfl (by exact if_pos (tw_b_f hc6)) ?_
      refine tw_blk (cd := tw_c209) rfl 4 (c1 := (11, [some (.ref 44), some (.ref q1)], [.int (I3 4404), .int 1, .ref 44], (I3, L, tw_P tw dr rt sc, A4, J, 57))) rfl ?_
      obtain ⟨I7, hx8, h⟩ := tw_letE h
      refine tw_callE (cd := tw_c209) rfl rfl rfl rfl rfl (e_X10_wrong I3 L A4 J tw dr rt sc (1 : Int32) (I3 4404) _ hx8) (by exact Or.inl rfl) ?_
      have h := Option.some.inj h
      subst h
      exact tw_retE (cd := tw_c209) rfl rfl rfl rfl
  · rw [if_neg hc1] at h
    refine tw_br (cd := tw_c209) rfl rfl rfl (by exact if_neg hc1) ?_
    have h := Option.some.inj h
    subst h
    exact tw_retE (cd := tw_c209) rfl rfl rfl rfl
theorem e_X10_numberHere (I : Nat → Int32) (L : Nat → Int64) (A : Nat → Nat → Int32) (J : Nat → Nat → Int64) (tw dr : Nat) (rt : Nat) (sc : Nat) (a1 : Int32) (a2 : Int32) : ∀ r : (Int32 × (Nat → Int32)), g_X10_numberHere I a1 a2 = r → tw_ME 218 (0, [some (.ref 44), some (.int a1), some (.int a2)], [], (I, L, tw_P tw dr rt sc, A, J, 57)) (some (.int r.1), ((r.2), L, tw_P tw dr rt sc, A, J, 57)) := by
  intro r h
  unfold g_X10_numberHere at h
  refine tw_blk (cd := tw_c218) rfl 2 (c1 := (2, [some (.ref 44), some (.int a1), some (.int a2)], [.int (I 4413)], (I, L, tw_P tw dr rt sc, A, J, 57))) rfl ?_
  by_cases hc1 : (I 4413) = 0
  · rw [if_pos hc1] at h
    refine tw_br (cd := tw_c218) rfl rfl rfl (by exact if_pos hc1) ?_
    refine tw_blk (cd := tw_c218) rfl 3 (c1 := (8, [some (.ref 44), some (.int a1), some (.int a2)], [.int 3, .int (I 4406)], (I, L, tw_P tw dr rt sc, A, J, 57))) rfl ?_
    obtain ⟨I3, hj4, h⟩ := tw_letE h
    have K : tw_ME 218 (26, [some (.ref 44), some (.int a1), none], [], (I3, L, tw_P tw dr rt sc, A, J, 57)) (some (.int r.1), ((r.2), L, tw_P tw dr rt sc, A, J, 57)) := by
      refine tw_blk (cd := tw_c218) rfl 2 (c1 := (28, [some (.ref 44), some (.int a1), none], [.int (I3 4413)], (I3, L, tw_P tw dr rt sc, A, J, 57))) rfl ?_
      by_cases hc10 : (I3 4413) = 0
      · rw [if_pos hc10] at h
        refine tw_br (cd := tw_c218) rfl rfl rfl (by exact if_pos hc10) ?_
        refine tw_blk (cd := tw_c218) rfl 2 (c1 := (33, [some (.ref 44), some (.int a1), none], [.int (I3 4407)], (I3, L, tw_P tw dr rt sc, A, J, 57))) rfl ?_
        subst h
        exact tw_retE (cd := tw_c218) rfl rfl rfl rfl
      · rw [if_neg hc10] at h
        refine tw_br (cd := tw_c218) rfl rfl rfl (by exact if_neg hc10) ?_
        refine tw_blk (cd := tw_c218) rfl 2 (c1 := (33, [some (.ref 44), some (.int a1), none], [.int a1], (I3, L, tw_P tw dr rt sc, A, J, 57))) rfl ?_
        subst h
        exact tw_retE (cd := tw_c218) rfl rfl rfl rfl
    by_cases hc2 : (I 4406) = (3 : Int32)
    · rw [if_pos hc2] at hj4
      refine tw_br (cd := tw_c218) rfl rfl rfl (by exact if_pos hc2) ?_
      refine tw_blk (cd := tw_c218) rfl 4 (c1 := (19, [some (.ref 44), some (.int a1), some (.int a2)], [.int a2, .int a1, .int (I 4407)], (I, L, tw_P tw dr rt sc, A, J, 57))) rfl ?_
      refine tw_callE (cd := tw_c218) rfl rfl rfl rfl rfl (e_X10_in I L A J tw dr rt sc (I 4407) a1 a2 _ rfl) (by exact Or.inl rfl) ?_
      by_cases hc5 : (g_X10_in (I 4407) a1 a2) = true
      · rw [if_pos hc5] at hj4
        refine tw_br (cd := tw_c218) rfl rfl rfl (by exact if_neg (tw_b_t hc5)) ?_
        refine tw_forget (ls2 := [some (.ref 44), some (.int a1), none]) ⟨rfl, rfl, trivial⟩ ?_
        subst hj4
        exact K
      · rw [if_neg hc5] at hj4
        refine tw_br (cd := tw_c218) rfl rfl rfl (by exact if_pos (tw_b_f hc5)) ?_
        refine tw_blk (cd := tw_c218) rfl 4 (c1 := (25, [some (.ref 44), some (.int a1), some (.int a2)], [.int (I 4404), .int 4, .ref 44], (I, L, tw_P tw dr rt sc, A, J, 57))) rfl ?_
        obtain ⟨I6, hx7, hj4⟩ := tw_letE hj4
        refine tw_callE (cd := tw_c218) rfl rfl rfl rfl rfl (e_X10_wrong I L A J tw dr rt sc (4 : Int32) (I 4404) _ hx7) (by exact Or.inl rfl) ?_
        refine tw_forget (ls2 := [some (.ref 44), some (.int a1), none]) ⟨rfl, rfl, trivial⟩ ?_
        subst hj4
        exact K
    · rw [if_neg hc2] at hj4
      refine tw_br (cd := tw_c218) rfl rfl rfl (by exact if_neg hc2) ?_
      refine tw_blk (cd := tw_c218) rfl 4 (c1 := (13, [some (.ref 44), some (.int a1), some (.int a2)], [.int (I 4404), .int 1, .ref 44], (I, L, tw_P tw dr rt sc, A, J, 57))) rfl ?_
      obtain ⟨I8, hx9, hj4⟩ := tw_letE hj4
      refine tw_callE (cd := tw_c218) rfl rfl rfl rfl rfl (e_X10_wrong I L A J tw dr rt sc (1 : Int32) (I 4404) _ hx9) (by exact Or.inl rfl) ?_
      refine tw_blk (cd := tw_c218) rfl 1 (c1 := (26, [some (.ref 44), some (.int a1), some (.int a2)], [], (I8, L, tw_P tw dr rt sc, A, J, 57))) rfl ?_
      refine tw_forget (ls2 := [some (.ref 44), some (.int a1), none]) ⟨rfl, rfl, trivial⟩ ?_
      subst hj4
      exact K
  · rw [if_neg hc1] at h
    refine tw_br (cd := tw_c218) rfl rfl rfl (by exact if_neg hc1) ?_
    refine tw_blk (cd := tw_c218) rfl 1 (c1 := (4, [some (.ref 44), some (.int a1), some (.int a2)], [.int a1], (I, L, tw_P tw dr rt sc, A, J, 57))) rfl ?_
    subst h
    exact tw_retE (cd := tw_c218) rfl rfl rfl rfl
