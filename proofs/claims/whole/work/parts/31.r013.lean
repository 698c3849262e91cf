/-! the machine does what the functions say -/
set_option maxRecDepth 16000
theorem g_X3_fewestBricks_L1_ok (I : Nat → Int32) (L : Nat → Int64) (A : Nat → Nat → Int32) (J : Nat → Nat → Int64) (tw : Nat) (dr : Nat) (rt : Nat) (a1 : Int32) (x1 : Int32) (out : Option Value × tw_S) : ∀ (n : Nat) (v1_4 : Int32) (v1_5 : Int32) (I_1 : Nat → Int32) (A_1 : Nat → Nat → Int32) (ex : (Int32 × (Nat → Int32) × (Nat → Nat → Int32))), g_X3_fewestBricks_L1 I a1 x1 n v1_4 v1_5 I_1 A_1 = some ex → tw_ME 38 (64, [none, none, none, none, some (.int (ex.1)), none, none], [], ((ex.2.1), L, tw_P tw dr rt 2, (ex.2.2), J, 57)) out → tw_ME 38 (17, [some (.ref 41), some (.int a1), some (.int (I 3601)), some (.int x1), some (.int v1_4), some (.int v1_5), none], [], (I_1, L, tw_P tw dr rt 2, A_1, J, 57)) out := by
  intro n
  induction n with
  | zero =>
    intro v1_4 v1_5 I_1 A_1 ex h _
    cases h
  | succ n ih =>
    intro v1_4 v1_5 I_1 A_1 ex h K
    rw [g_X3_fewestBricks_L1] at h
    refine tw_blk (cd := tw_c38) rfl 1 (c1 := (18, [some (.ref 41), some (.int a1), some (.int (I 3601)), some (.int x1), some (.int v1_4), some (.int v1_5), none], [.int v1_5], (I_1, L, tw_P tw dr rt 2, A_1, J, 57))) rfl ?_
    refine tw_blk (cd := tw_c38) rfl 1 (c1 := (19, [some (.ref 41), some (.int a1), some (.int (I 3601)), some (.int x1), some (.int v1_4), some (.int v1_5), none], [.int x1, .int v1_5], (I_1, L, tw_P tw dr rt 2, A_1, J, 57))) rfl ?_
    by_cases hc6 : x1 < v1_5
    · rw [if_pos hc6] at h
      refine tw_br (cd := tw_c38) rfl rfl rfl (by exact if_pos hc6) ?_
      refine tw_forget (ls2 := [none, none, none, none, some (.int v1_4), none, none]) ⟨rfl, trivial⟩ ?_
      have h := Option.some.inj h
      subst h
      exact K
    · rw [if_neg hc6] at h
      refine tw_br (cd := tw_c38) rfl rfl rfl (by exact if_neg hc6) ?_
      refine tw_blk (cd := tw_c38) rfl 2 (c1 := (22, [some (.ref 41), some (.int a1), some (.int (I 3601)), some (.int x1), some (.int v1_4), some (.int v1_5), none], [.int (-2), .int v1_4], (I_1, L, tw_P tw dr rt 2, A_1, J, 57))) rfl ?_
      obtain ⟨x8, hj9, h⟩ := tw_bindE h
      have K : tw_ME 38 (31, [some (.ref 41), some (.int a1), some (.int (I 3601)), some (.int x1), some (.int v1_4), some (.int v1_5), none], [.int x8], (I_1, L, tw_P tw dr rt 2, A_1, J, 57)) out := by
        refine tw_blk (cd := tw_c38) rfl 6 (c1 := (37, [some (.ref 41), some (.int a1), some (.int (I 3601)), some (.int x1), some (.int v1_4), some (.int v1_5), some (.int x8)], [.int (v1_5 &&& (x1 ^^^ (-1 : Int32)))], (I_1, L, tw_P tw dr rt 2, A_1, J, 57))) rfl ?_
        obtain ⟨⟨x12, I13, A14⟩, hj15, h⟩ := tw_bindE h
        dsimp only at h
        have K : tw_ME 38 (62, [some (.ref 41), some (.int a1), some (.int (I 3601)), some (.int x1), some (.int x12), some (.int v1_5), none], [], (I13, L, tw_P tw dr rt 2, A14, J, 57)) out := by
          refine tw_blk (cd := tw_c38) rfl 2 (c1 := (17, [some (.ref 41), some (.int a1), some (.int (I 3601)), some (.int x1), some (.int x12), some (.int (v1_5 + (1 : Int32))), none], [], (I13, L, tw_P tw dr rt 2, A14, J, 57))) rfl ?_
          exact ih x12 (v1_5 + (1 : Int32)) I13 A14 _ h K
        by_cases hc11 : (v1_5 &&& (x1 ^^^ (-1 : Int32))) = 0
        · rw [if_pos hc11] at hj15
          refine tw_br (cd := tw_c38) rfl rfl rfl (by exact if_pos hc11) ?_
          refine tw_blk (cd := tw_c38) rfl 1 (c1 := (39, [some (.ref 41), some (.int a1), some (.int (I 3601)), some (.int x1), some (.int v1_4), some (.int v1_5), some (.int x8)], [.int x8], (I_1, L, tw_P tw dr rt 2, A_1, J, 57))) rfl ?_
          by_cases hc16 : x8 = 0
          · rw [if_pos hc16] at hj15
            refine tw_br (cd := tw_c38) rfl rfl rfl (by exact if_pos hc16) ?_
            refine tw_forget (ls2 := [some (.ref 41), some (.int a1), some (.int (I 3601)), some (.int x1), some (.int v1_4), some (.int v1_5), none]) ⟨rfl, rfl, rfl, rfl, rfl, rfl, trivial⟩ ?_
            have hj15s := Option.some.inj hj15
            obtain ⟨hj15_0, hj15r0⟩ := Prod.mk.inj hj15s
            obtain ⟨hj15_1, hj15r1⟩ := Prod.mk.inj hj15r0
            subst hj15_0
            subst hj15_1
            subst hj15r1
            exact K
          · rw [if_neg hc16] at hj15
            refine tw_br (cd := tw_c38) rfl rfl rfl (by exact if_neg hc16) ?_
            refine tw_blk (cd := tw_c38) rfl 9 (c1 := (49, [some (.ref 41), some (.int a1), some (.int (I 3601)), some (.int x1), some (.int v1_4), some (.int v1_5), some (.int x8)], [.int a1, .ref 39], ((upd I_1 3601 ((I 3601) ||| v1_5)), L, tw_P tw dr rt 2, A_1, J, 57))) rfl ?_
            obtain ⟨⟨I17, A18⟩, hx19, hj15⟩ := tw_bindE hj15
            dsimp only at hj15
            refine tw_callE (cd := tw_c38) rfl rfl rfl rfl rfl (e_X1_runAsTold (upd I_1 3601 ((I 3601) ||| v1_5)) L A_1 J tw dr rt a1 _ hx19) (by exact Or.inl rfl) ?_
            refine tw_blk (cd := tw_c38) rfl 6 (c1 := (56, [some (.ref 41), some (.int a1), some (.int (I 3601)), some (.int x1), some (.int v1_4), some (.int v1_5), some (.int x8)], [.ref 39], ((upd I17 3601 (I 3601)), L, tw_P tw dr rt 2, A18, J, 57))) rfl ?_
            refine tw_callE (cd := tw_c38) rfl rfl rfl rfl rfl (e_X1_isWon (upd I17 3601 (I 3601)) L A18 J tw dr rt _ rfl) (by exact Or.inl rfl) ?_
            obtain ⟨x21, hj22, hj15⟩ := tw_bindE hj15
            have K : tw_ME 38 (61, [some (.ref 41), some (.int a1), some (.int (I 3601)), some (.int x1), none, some (.int v1_5), none], [.int x21], ((upd I17 3601 (I 3601)), L, tw_P tw dr rt 2, A18, J, 57)) out := by
              refine tw_blk (cd := tw_c38) rfl 1 (c1 := (62, [some (.ref 41), some (.int a1), some (.int (I 3601)), some (.int x1), some (.int x21), some (.int v1_5), none], [], ((upd I17 3601 (I 3601)), L, tw_P tw dr rt 2, A18, J, 57))) rfl ?_
              have hj15s := Option.some.inj hj15
              obtain ⟨hj15_0, hj15r0⟩ := Prod.mk.inj hj15s
              obtain ⟨hj15_1, hj15r1⟩ := Prod.mk.inj hj15r0
              subst hj15_0
              subst hj15_1
              subst hj15r1
              exact K
            by_cases hc20 : (g_X1_isWon (upd I17 3601 (I 3601))) = true
            · rw [if_pos hc20] at hj22
              refine tw_br (cd := tw_c38) rfl rfl rfl (by exact if_neg (tw_b_t hc20)) ?_
              refine tw_blk (cd := tw_c38) rfl 2 (c1 := (61, [some (.ref 41), some (.int a1), some (.int (I 3601)), some (.int x1), some (.int v1_4), some (.int v1_5), some (.int x8)], [.int v1_5], ((upd I17 3601 (I 3601)), L, tw_P tw dr rt 2, A18, J, 57))) rfl ?_
              refine tw_forget (ls2 := [some (.ref 41), some (.int a1), some (.int (I 3601)), some (.int x1), none, some (.int v1_5), none]) ⟨rfl, rfl, rfl, rfl, rfl, trivial⟩ ?_
              have hj22s := Option.some.inj hj22
              subst hj22s
              exact K
            · rw [if_neg hc20] at hj22
              refine tw_br (cd := tw_c38) rfl rfl rfl (by exact if_pos (tw_b_f hc20)) ?_
              refine tw_blk (cd := tw_c38) rfl 1 (c1 := (61, [some (.ref 41), some (.int a1), some (.int (I 3601)), some (.int x1), some (.int v1_4), some (.int v1_5), some (.int x8)], [.int v1_4], ((upd I17 3601 (I 3601)), L, tw_P tw dr rt 2, A18, J, 57))) rfl ?_
              refine tw_forget (ls2 := [some (.ref 41), some (.int a1), some (.int (I 3601)), some (.int x1), none, some (.int v1_5), none]) ⟨rfl, rfl, rfl, rfl, rfl, trivial⟩ ?_
              have hj22s := Option.some.inj hj22
              subst hj22s
              exact K
        · rw [if_neg hc11] at hj15
          refine tw_br (cd := tw_c38) rfl rfl rfl (by exact if_neg hc11) ?_
          refine tw_forget (ls2 := [some (.ref 41), some (.int a1), some (.int (I 3601)), some (.int x1), some (.int v1_4), some (.int v1_5), none]) ⟨rfl, rfl, rfl, rfl, rfl, rfl, trivial⟩ ?_
          have hj15s := Option.some.inj hj15
          obtain ⟨hj15_0, hj15r0⟩ := Prod.mk.inj hj15s
          obtain ⟨hj15_1, hj15r1⟩ := Prod.mk.inj hj15r0
          subst hj15_0
          subst hj15_1
          subst hj15r1
          exact K
      by_cases hc7 : v1_4 = (-2 : Int32)
      · rw [if_pos hc7] at hj9
        refine tw_br (cd := tw_c38) rfl rfl rfl (by exact if_pos hc7) ?_
        refine tw_blk (cd := tw_c38) rfl 2 (c1 := (31, [some (.ref 41), some (.int a1), some (.int (I 3601)), some (.int x1), some (.int v1_4), some (.int v1_5), none], [.int 1], (I_1, L, tw_P tw dr rt 2, A_1, J, 57))) rfl ?_
        have hj9s := Option.some.inj hj9
        subst hj9s
        exact K
      · rw [if_neg hc7] at hj9
        refine tw_br (cd := tw_c38) rfl rfl rfl (by exact if_neg hc7) ?_
        refine tw_blk (cd := tw_c38) rfl 1 (c1 := (24, [some (.ref 41), some (.int a1), some (.int (I 3601)), some (.int x1), some (.int v1_4), some (.int v1_5), none], [.int v1_5], (I_1, L, tw_P tw dr rt 2, A_1, J, 57))) rfl ?_
        refine tw_callE (cd := tw_c38) rfl rfl rfl rfl rfl (e_J6_bitCount_0f7a4 I_1 L A_1 J tw dr rt 2 v1_5 _ rfl) (by exact Or.inl rfl) ?_
        refine tw_blk (cd := tw_c38) rfl 1 (c1 := (26, [some (.ref 41), some (.int a1), some (.int (I 3601)), some (.int x1), some (.int v1_4), some (.int v1_5), none], [.int v1_4, .int (g_J6_bitCount_0f7a4 v1_5)], (I_1, L, tw_P tw dr rt 2, A_1, J, 57))) rfl ?_
        refine tw_callE (cd := tw_c38) rfl rfl rfl rfl rfl (e_J6_bitCount_0f7a4 I_1 L A_1 J tw dr rt 2 v1_4 _ rfl) (by exact Or.inl rfl) ?_
        by_cases hc10 : (g_J6_bitCount_0f7a4 v1_4) ≤ (g_J6_bitCount_0f7a4 v1_5)
        · rw [if_pos hc10] at hj9
          refine tw_br (cd := tw_c38) rfl rfl rfl (by exact if_pos hc10) ?_
          refine tw_blk (cd := tw_c38) rfl 1 (c1 := (31, [some (.ref 41), some (.int a1), some (.int (I 3601)), some (.int x1), some (.int v1_4), some (.int v1_5), none], [.int 0], (I_1, L, tw_P tw dr rt 2, A_1, J, 57))) rfl ?_
          have hj9s := Option.some.inj hj9
          subst hj9s
          exact K
        · rw [if_neg hc10] at hj9
          refine tw_br (cd := tw_c38) rfl rfl rfl (by exact if_neg hc10) ?_
          refine tw_blk (cd := tw_c38) rfl 2 (c1 := (31, [some (.ref 41), some (.int a1), some (.int (I 3601)), some (.int x1), some (.int v1_4), some (.int v1_5), none], [.int 1], (I_1, L, tw_P tw dr rt 2, A_1, J, 57))) rfl ?_
          have hj9s := Option.some.inj hj9
          subst hj9s
          exact K
theorem e_X3_fewestBricks (I : Nat → Int32) (L : Nat → Int64) (A : Nat → Nat → Int32) (J : Nat → Nat → Int64) (tw dr : Nat) (rt : Nat) (a1 : Int32) : ∀ r : (Int32 × (Nat → Int32) × (Nat → Nat → Int32)), g_X3_fewestBricks I A a1 = some r → tw_ME 38 (0, [some (.ref 41), some (.int a1), none, none, none, none, none], [], (I, L, tw_P tw dr rt 2, A, J, 57)) (some (.int r.1), ((r.2.1), L, tw_P tw dr rt 2, (r.2.2), J, 57)) := by
  intro r h
  unfold g_X3_fewestBricks at h
  refine tw_blk (cd := tw_c38) rfl 10 (c1 := (10, [some (.ref 41), some (.int a1), some (.int (I 3601)), none, none, none, none], [.int 2, .int a1, .ref 2, .ref 41], (I, L, tw_P tw dr rt 2, A, J, 57))) rfl ?_
  refine tw_callE (cd := tw_c38) rfl rfl rfl rfl rfl (e_X8_fact_2 I L A J tw dr rt 2 a1 (2 : Int32) _ rfl) (by exact Or.inl rfl) ?_
  obtain ⟨x1, hx2, h⟩ := tw_bindE h
  refine tw_callE (cd := tw_c38) rfl rfl rfl rfl rfl (e_X3_openInto I L A J tw dr rt (g_X8_fact_2 A a1 (2 : Int32)) _ hx2) (by exact Or.inl rfl) ?_
  refine tw_blk (cd := tw_c38) rfl 5 (c1 := (17, [some (.ref 41), some (.int a1), some (.int (I 3601)), some (.int x1), some (.int (-2)), some (.int 0), none], [], (I, L, tw_P tw dr rt 2, A, J, 57))) rfl ?_
  obtain ⟨⟨x3, I4, A5⟩, hx23, h⟩ := tw_bindE h
  dsimp only at h
  refine g_X3_fewestBricks_L1_ok I L A J tw dr rt a1 x1 _ 4096 (-2 : Int32) (0 : Int32) I A _ hx23 ?_
  refine tw_blk (cd := tw_c38) rfl 1 (c1 := (65, [none, none, none, none, some (.int x3), none, none], [.int x3], (I4, L, tw_P tw dr rt 2, A5, J, 57))) rfl ?_
  have h := Option.some.inj h
  subst h
  exact tw_retE (cd := tw_c38) rfl rfl rfl rfl
theorem e_X9_bricks (I : Nat → Int32) (L : Nat → Int64) (A : Nat → Nat → Int32) (J : Nat → Nat → Int64) (rt : Nat) (sc : Nat) (a1 : Int32) : ∀ r : (Int32 × (Nat → Int32) × (Nat → Nat → Int32) × Nat), g_X9_bricks I A sc a1 = some r → tw_ME 138 (0, [some (.ref 0), some (.int a1)], [], (I, L, tw_P 2 14 rt sc, A, J, 57)) (some (.int r.1), ((r.2.1), L, tw_P 2 14 rt (r.2.2.2), (r.2.2.1), J, 57)) := by
  intro r h
  unfold g_X9_bricks at h
  refine tw_blk (cd := tw_c138) rfl 2 (c1 := (2, [some (.ref 0), some (.int a1)], [.int a1, .ref 0], (I, L, tw_P 2 14 rt sc, A, J, 57))) rfl ?_
  refine tw_callE (cd := tw_c138) rfl rfl rfl rfl rfl (e_X9_isQuarrel I L A J rt sc a1 _ rfl) (by exact Or.inl rfl) ?_
  by_cases hc1 : (g_X9_isQuarrel A a1) = true
  · rw [if_pos hc1] at h
    refine tw_br (cd := tw_c138) rfl rfl rfl (by exact if_neg (tw_b_t hc1)) ?_
    refine tw_blk (cd := tw_c138) rfl 1 (c1 := (9, [some (.ref 0), some (.int a1)], [.ref 0], (I, L, tw_P 2 14 rt sc, A, J, 57))) rfl ?_
    obtain ⟨⟨I2, A3⟩, hx4, h⟩ := tw_bindE h
    dsimp only at h
    refine tw_callE (cd := tw_c138) rfl rfl rfl rfl rfl (e_X9_showNow I L A J rt sc _ hx4) (by exact Or.inl rfl) ?_
    refine tw_blk (cd := tw_c138) rfl 4 (c1 := (14, [some (.ref 0), some (.int a1)], [.int a1, .ref 41, .ref 0], (I2, L, tw_P 2 14 rt 2, A3, J, 57))) rfl ?_
    obtain ⟨⟨x5, I6, A7⟩, hx8, h⟩ := tw_bindE h
    dsimp only at h
    refine tw_callE (cd := tw_c138) rfl rfl rfl rfl rfl (e_X3_fewestBricks I2 L A3 J 2 14 rt a1 _ hx8) (by exact Or.inl rfl) ?_
    obtain ⟨⟨x9, I10⟩, hx11, h⟩ := tw_letE h
    dsimp only at h
    refine tw_callE (cd := tw_c138) rfl rfl rfl rfl rfl (e_X9_grant I6 L A7 J 2 14 rt 2 x5 _ hx11) (by exact Or.inl rfl) ?_
    have h := Option.some.inj h
    subst h
    exact tw_retE (cd := tw_c138) rfl rfl rfl rfl
  · rw [if_neg hc1] at h
    refine tw_br (cd := tw_c138) rfl rfl rfl (by exact if_pos (tw_b_f hc1)) ?_
    refine tw_blk (cd := tw_c138) rfl 2 (c1 := (6, [some (.ref 0), some (.int a1)], [.int 1, .ref 0], (I, L, tw_P 2 14 rt sc, A, J, 57))) rfl ?_
    obtain ⟨⟨x12, I13⟩, hx14, h⟩ := tw_letE h
    dsimp only at h
    refine tw_callE (cd := tw_c138) rfl rfl rfl rfl rfl (e_X9_refuse I L A J 2 14 rt sc (1 : Int32) _ hx14) (by exact Or.inl rfl) ?_
    have h := Option.some.inj h
    subst h
    exact tw_retE (cd := tw_c138) rfl rfl rfl rfl
theorem g_X10_bricks_L1_ok (I : Nat → Int32) (L : Nat → Int64) (A : Nat → Nat → Int32) (J : Nat → Nat → Int64) (tw : Nat) (dr : Nat) (rt : Nat) (sc : Nat) (a1 : Int32) (I1 : Nat → Int32) (c3 : Bool) (A6 : Nat → Nat → Int32) (out : Option Value × tw_S) : ∀ (n : Nat) (v1_2 : Int32) (v1_3 : Int32) (I_1 : Nat → Int32) (A_1 : Nat → Nat → Int32) (ex : (Int32 × (Nat → Int32) × (Nat → Nat → Int32))), g_X10_bricks_L1 a1 n v1_2 v1_3 I_1 A_1 = some ex → tw_ME 275 (59, [none, none, some (.int (ex.1)), none], [], ((ex.2.1), L, tw_P tw dr rt sc, (ex.2.2), J, 57)) out → tw_ME 275 (16, [some (.ref 44), some (.int a1), some (.int v1_2), some (.int v1_3)], [], (I_1, L, tw_P tw dr rt sc, A_1, J, 57)) out := by
  intro n
  induction n with
  | zero =>
    intro v1_2 v1_3 I_1 A_1 ex h _
    cases h
  | succ n ih =>
    intro v1_2 v1_3 I_1 A_1 ex h K
    rw [g_X10_bricks_L1] at h
    refine tw_blk (cd := tw_c275) rfl 1 (c1 := (17, [some (.ref 44), some (.int a1), some (.int v1_2), some (.int v1_3)], [.int v1_3], (I_1, L, tw_P tw dr rt sc, A_1, J, 57))) rfl ?_
    refine tw_blk (cd := tw_c275) rfl 4 (c1 := (21, [some (.ref 44), some (.int a1), some (.int v1_2), some (.int v1_3)], [.int 2, .ref 47, .int 1, .int v1_3], (I_1, L, tw_P tw dr rt sc, A_1, J, 57))) rfl ?_
    obtain ⟨x12, hx11, h⟩ := tw_bindE h
    refine tw_iald (cd := tw_c275) (N := 241) rfl rfl rfl rfl hx11 ?_
    refine tw_blk (cd := tw_c275) rfl 1 (c1 := (23, [some (.ref 44), some (.int a1), some (.int v1_2), some (.int v1_3)], [.int ((1 : Int32) <<< (x12 &&& 31)), .int v1_3], (I_1, L, tw_P tw dr rt sc, A_1, J, 57))) rfl ?_
    by_cases hc13 : ((1 : Int32) <<< (x12 &&& 31)) ≤ v1_3
    · rw [if_pos hc13] at h
      refine tw_br (cd := tw_c275) rfl rfl rfl (by exact if_pos hc13) ?_
      refine tw_forget (ls2 := [none, none, some (.int v1_2), none]) ⟨rfl, trivial⟩ ?_
      have h := Option.some.inj h
      subst h
      exact K
    · rw [if_neg hc13] at h
      refine tw_br (cd := tw_c275) rfl rfl rfl (by exact if_neg hc13) ?_
      refine tw_blk (cd := tw_c275) rfl 4 (c1 := (28, [some (.ref 44), some (.int a1), some (.int v1_2), some (.int v1_3)], [.int 6, .ref 49, .int v1_3], (I_1, L, tw_P tw dr rt sc, A_1, J, 57))) rfl ?_
      obtain ⟨x15, hx14, h⟩ := tw_bindE h
      refine tw_iald (cd := tw_c275) (N := 8) rfl rfl rfl rfl hx14 ?_
      refine tw_blk (cd := tw_c275) rfl 1 (c1 := (30, [some (.ref 44), some (.int a1), some (.int v1_2), some (.int v1_3)], [.int (v1_3 &&& x15)], (I_1, L, tw_P tw dr rt sc, A_1, J, 57))) rfl ?_
      obtain ⟨⟨x17, I18, A19⟩, hj20, h⟩ := tw_bindE h
      dsimp only at h
      have K : tw_ME 275 (57, [some (.ref 44), some (.int a1), some (.int x17), some (.int v1_3)], [], (I18, L, tw_P tw dr rt sc, A19, J, 57)) out := by
        refine tw_blk (cd := tw_c275) rfl 2 (c1 := (16, [some (.ref 44), some (.int a1), some (.int x17), some (.int (v1_3 + (1 : Int32)))], [], (I18, L, tw_P tw dr rt sc, A19, J, 57))) rfl ?_
        exact ih x17 (v1_3 + (1 : Int32)) I18 A19 _ h K
      by_cases hc16 : (v1_3 &&& x15) = 0
      · rw [if_pos hc16] at hj20
        refine tw_br (cd := tw_c275) rfl rfl rfl (by exact if_pos hc16) ?_
        refine tw_blk (cd := tw_c275) rfl 1 (c1 := (32, [some (.ref 44), some (.int a1), some (.int v1_2), some (.int v1_3)], [.int v1_2], (I_1, L, tw_P tw dr rt sc, A_1, J, 57))) rfl ?_
        by_cases hc21 : v1_2 < 0
        · rw [if_pos hc21] at hj20
          refine tw_br (cd := tw_c275) rfl rfl rfl (by exact if_pos hc21) ?_
          refine tw_blk (cd := tw_c275) rfl 6 (c1 := (45, [some (.ref 44), some (.int a1), some (.int v1_2), some (.int v1_3)], [.int 6, .ref 49, .int 6, .ref 52], (I_1, L, tw_P tw dr rt sc, A_1, J, 57))) rfl ?_
          obtain ⟨x23, hx22, hj20⟩ := tw_bindE hj20
          refine tw_iald (cd := tw_c275) (N := 8) rfl rfl rfl rfl hx22 ?_
          refine tw_blk (cd := tw_c275) rfl 2 (c1 := (48, [some (.ref 44), some (.int a1), some (.int v1_2), some (.int v1_3)], [.int (x23 ||| v1_3), .int 6, .ref 52], (I_1, L, tw_P tw dr rt sc, A_1, J, 57))) rfl ?_
          obtain ⟨w25, hx24, hj20⟩ := tw_bindE hj20
          refine tw_iast (cd := tw_c275) (N := 8) rfl rfl rfl rfl hx24 ?_
          refine tw_blk (cd := tw_c275) rfl 2 (c1 := (51, [some (.ref 44), some (.int a1), some (.int v1_2), some (.int v1_3)], [.int a1, .ref 44], (I_1, L, tw_P tw dr rt sc, (va_up A_1 52 w25), J, 57))) rfl ?_
          obtain ⟨I26, hx27, hj20⟩ := tw_bindE hj20
          refine tw_callE (cd := tw_c275) rfl rfl rfl rfl rfl (e_X10_runTold I_1 L (va_up A_1 52 w25) J tw dr rt sc a1 _ hx27) (by exact Or.inl rfl) ?_
          refine tw_blk (cd := tw_c275) rfl 2 (c1 := (54, [some (.ref 44), some (.int a1), some (.int v1_2), some (.int v1_3)], [.int (I26 4425)], (I26, L, tw_P tw dr rt sc, (va_up A_1 52 w25), J, 57))) rfl ?_
          by_cases hc28 : (I26 4425) ≤ 0
          · rw [if_pos hc28] at hj20
            refine tw_br (cd := tw_c275) rfl rfl rfl (by exact if_pos hc28) ?_
            have hj20s := Option.some.inj hj20
            obtain ⟨hj20_0, hj20r0⟩ := Prod.mk.inj hj20s
            obtain ⟨hj20_1, hj20r1⟩ := Prod.mk.inj hj20r0
            subst hj20_0
            subst hj20_1
            subst hj20r1
            exact K
          · rw [if_neg hc28] at hj20
            refine tw_br (cd := tw_c275) rfl rfl rfl (by exact if_neg hc28) ?_
            refine tw_blk (cd := tw_c275) rfl 2 (c1 := (57, [some (.ref 44), some (.int a1), some (.int v1_3), some (.int v1_3)], [], (I26, L, tw_P tw dr rt sc, (va_up A_1 52 w25), J, 57))) rfl ?_
            have hj20s := Option.some.inj hj20
            obtain ⟨hj20_0, hj20r0⟩ := Prod.mk.inj hj20s
            obtain ⟨hj20_1, hj20r1⟩ := Prod.mk.inj hj20r0
            subst hj20_0
            subst hj20_1
            subst hj20r1
            exact K
        · rw [if_neg hc21] at hj20
          refine tw_br (cd := tw_c275) rfl rfl rfl (by exact if_neg hc21) ?_
          refine tw_blk (cd := tw_c275) rfl 1 (c1 := (34, [some (.ref 44), some (.int a1), some (.int v1_2), some (.int v1_3)], [.int v1_3], (I_1, L, tw_P tw dr rt sc, A_1, J, 57))) rfl ?_
          obtain ⟨x29, hx30, hj20⟩ := tw_bindE hj20
          refine tw_callE (cd := tw_c275) rfl rfl rfl rfl rfl (e_X10_ones I_1 L A_1 J tw dr rt sc v1_3 _ hx30) (by exact Or.inl rfl) ?_
          refine tw_blk (cd := tw_c275) rfl 1 (c1 := (36, [some (.ref 44), some (.int a1), some (.int v1_2), some (.int v1_3)], [.int v1_2, .int x29], (I_1, L, tw_P tw dr rt sc, A_1, J, 57))) rfl ?_
          obtain ⟨x31, hx32, hj20⟩ := tw_bindE hj20
          refine tw_callE (cd := tw_c275) rfl rfl rfl rfl rfl (e_X10_ones I_1 L A_1 J tw dr rt sc v1_2 _ hx32) (by exact Or.inl rfl) ?_
          by_cases hc33 : x29 < x31
          · rw [if_pos hc33] at hj20
            refine tw_br (cd := tw_c275) rfl rfl rfl (by exact if_pos hc33) ?_
            refine tw_blk (cd := tw_c275) rfl 6 (c1 := (45, [some (.ref 44), some (.int a1), some (.int v1_2), some (.int v1_3)], [.int 6, .ref 49, .int 6, .ref 52], (I_1, L, tw_P tw dr rt sc, A_1, J, 57))) rfl ?_
            obtain ⟨x35, hx34, hj20⟩ := tw_bindE hj20
            refine tw_iald (cd := tw_c275) (N := 8) rfl rfl rfl rfl hx34 ?_
            refine tw_blk (cd := tw_c275) rfl 2 (c1 := (48, [some (.ref 44), some (.int a1), some (.int v1_2), some (.int v1_3)], [.int (x35 ||| v1_3), .int 6, .ref 52], (I_1, L, tw_P tw dr rt sc, A_1, J, 57))) rfl ?_
            obtain ⟨w37, hx36, hj20⟩ := tw_bindE hj20
            refine tw_iast (cd := tw_c275) (N := 8) rfl rfl rfl rfl hx36 ?_
            refine tw_blk (cd := tw_c275) rfl 2 (c1 := (51, [some (.ref 44), some (.int a1), some (.int v1_2), some (.int v1_3)], [.int a1, .ref 44], (I_1, L, tw_P tw dr rt sc, (va_up A_1 52 w37), J, 57))) rfl ?_
            obtain ⟨I38, hx39, hj20⟩ := tw_bindE hj20
            refine tw_callE (cd := tw_c275) rfl rfl rfl rfl rfl (e_X10_runTold I_1 L (va_up A_1 52 w37) J tw dr rt sc a1 _ hx39) (by exact Or.inl rfl) ?_
            refine tw_blk (cd := tw_c275) rfl 2 (c1 := (54, [some (.ref 44), some (.int a1), some (.int v1_2), some (.int v1_3)], [.int (I38 4425)], (I38, L, tw_P tw dr rt sc, (va_up A_1 52 w37), J, 57))) rfl ?_
            by_cases hc40 : (I38 4425) ≤ 0
            · rw [if_pos hc40] at hj20
              refine tw_br (cd := tw_c275) rfl rfl rfl (by exact if_pos hc40) ?_
              have hj20s := Option.some.inj hj20
              obtain ⟨hj20_0, hj20r0⟩ := Prod.mk.inj hj20s
              obtain ⟨hj20_1, hj20r1⟩ := Prod.mk.inj hj20r0
              subst hj20_0
              subst hj20_1
              subst hj20r1
              exact K
            · rw [if_neg hc40] at hj20
              refine tw_br (cd := tw_c275) rfl rfl rfl (by exact if_neg hc40) ?_
              refine tw_blk (cd := tw_c275) rfl 2 (c1 := (57, [some (.ref 44), some (.int a1), some (.int v1_3), some (.int v1_3)], [], (I38, L, tw_P tw dr rt sc, (va_up A_1 52 w37), J, 57))) rfl ?_
              have hj20s := Option.some.inj hj20
              obtain ⟨hj20_0, hj20r0⟩ := Prod.mk.inj hj20s
              obtain ⟨hj20_1, hj20r1⟩ := Prod.mk.inj hj20r0
              subst hj20_0
              subst hj20_1
              subst hj20r1
              exact K
          · rw [if_neg hc33] at hj20
            refine tw_br (cd := tw_c275) rfl rfl rfl (by exact if_neg hc33) ?_
            refine tw_blk (cd := tw_c275) rfl 1 (c1 := (57, [some (.ref 44), some (.int a1), some (.int v1_2), some (.int v1_3)], [], (I_1, L, tw_P tw dr rt sc, A_1, J, 57))) rfl ?_
            have hj20s := Option.some.inj hj20
            obtain ⟨hj20_0, hj20r0⟩ := Prod.mk.inj hj20s
            obtain ⟨hj20_1, hj20r1⟩ := Prod.mk.inj hj20r0
            subst hj20_0
            subst hj20_1
            subst hj20r1
            exact K
      · rw [if_neg hc16] at hj20
        refine tw_br (cd := tw_c275) rfl rfl rfl (by exact if_neg hc16) ?_
        have hj20s := Option.some.inj hj20
        obtain ⟨hj20_0, hj20r0⟩ := Prod.mk.inj hj20s
        obtain ⟨hj20_1, hj20r1⟩ := Prod.mk.inj hj20r0
        subst hj20_0
        subst hj20_1
        subst hj20r1
        exact K
theorem e_X10_bricks (I : Nat → Int32) (L : Nat → Int64) (A : Nat → Nat → Int32) (J : Nat → Nat → Int64) (tw dr : Nat) (rt : Nat) (sc : Nat) (a1 : Int32) : ∀ r : (Int32 × (Nat → Int32) × (Nat → Nat → Int32)), g_X10_bricks I A a1 = some r → tw_ME 275 (0, [some (.ref 44), some (.int a1), none, none], [], (I, L, tw_P tw dr rt sc, A, J, 57)) (some (.int r.1), ((r.2.1), L, tw_P tw dr rt sc, (r.2.2), J, 57)) := by
  intro r h
  unfold g_X10_bricks at h
  refine tw_blk (cd := tw_c275) rfl 1 (c1 := (1, [some (.ref 44), some (.int a1), none, none], [.ref 44], (I, L, tw_P tw dr rt sc, A, J, 57))) rfl ?_
  obtain ⟨I1, hx2, h⟩ := tw_letE h
  refine tw_callE (cd := tw_c275) rfl rfl rfl rfl rfl (e_X10_good I L A J tw dr rt sc _ hx2) (by exact Or.inl rfl) ?_
  refine tw_blk (cd := tw_c275) rfl 2 (c1 := (4, [some (.ref 44), some (.int a1), none, none], [.int a1, .ref 44], (I1, L, tw_P tw dr rt sc, A, J, 57))) rfl ?_
  obtain ⟨c3, hx4, h⟩ := tw_bindE h
  refine tw_callE (cd := tw_c275) rfl rfl rfl rfl rfl (e_X10_isQuarrel I1 L A J tw dr rt sc a1 _ hx4) (by exact Or.inl rfl) ?_
  by_cases hc5 : c3 = true
  · rw [if_pos hc5] at h
    refine tw_br (cd := tw_c275) rfl rfl rfl (by exact if_neg (tw_b_t hc5)) ?_
    refine tw_blk (cd := tw_c275) rfl 1 (c1 := (11, [some (.ref 44), some (.int a1), none, none], [.ref 44], (I1, L, tw_P tw dr rt sc, A, J, 57))) rfl ?_
    obtain ⟨A6, hx7, h⟩ := tw_bindE h
    refine tw_callE (cd := tw_c275) rfl rfl rfl rfl rfl (e_X10_asNow I1 L A J tw dr rt sc _ hx7) (by exact Or.inl rfl) ?_
    refine tw_blk (cd := tw_c275) rfl 4 (c1 := (16, [some (.ref 44), some (.int a1), some (.int (-2)), some (.int 0)], [], (I1, L, tw_P tw dr rt sc, A6, J, 57))) rfl ?_
    obtain ⟨⟨x8, I9, A10⟩, hx41, h⟩ := tw_bindE h
    dsimp only at h
    refine g_X10_bricks_L1_ok I L A J tw dr rt sc a1 I1 c3 A6 _ 4096 (-2 : Int32) (0 : Int32) I1 A6 _ hx41 ?_
    refine tw_blk (cd := tw_c275) rfl 1 (c1 := (60, [none, none, some (.int x8), none], [.int x8], (I9, L, tw_P tw dr rt sc, A10, J, 57))) rfl ?_
    have h := Option.some.inj h
    subst h
    exact tw_retE (cd := tw_c275) rfl rfl rfl rfl
  · rw [if_neg hc5] at h
    refine tw_br (cd := tw_c275) rfl rfl rfl (by exact if_pos (tw_b_f hc5)) ?_
    refine tw_blk (cd := tw_c275) rfl 2 (c1 := (8, [some (.ref 44), some (.int a1), none, none], [.int 1, .ref 44], (I1, L, tw_P tw dr rt sc, A, J, 57))) rfl ?_
    obtain ⟨⟨x42, I43⟩, hx44, h⟩ := tw_letE h
    dsimp only at h
    refine tw_callE (cd := tw_c275) rfl rfl rfl rfl rfl (e_X10_no I1 L A J tw dr rt sc (1 : Int32) _ hx44) (by exact Or.inl rfl) ?_
    have h := Option.some.inj h
    subst h
    exact tw_retE (cd := tw_c275) rfl rfl rfl rfl
theorem e_X8_canBeHired_2 (I : Nat → Int32) (L : Nat → Int64) (A : Nat → Nat → Int32) (J : Nat → Nat → Int64) (tw dr : Nat) (rt : Nat) (sc : Nat) (a1 : Int32) : ∀ r : Bool, g_X8_canBeHired_2 A a1 = r → tw_ME 105 (0, [some (.ref 2), some (.int a1)], [], (I, L, tw_P tw dr rt sc, A, J, 57)) (some (.int (tw_b r)), (I, L, tw_P tw dr rt sc, A, J, 57)) := by
  intro r h
  unfold g_X8_canBeHired_2 at h
  refine tw_blk (cd := tw_c105) rfl 3 (c1 := (3, [some (.ref 2), some (.int a1)], [.int a1, .ref 8], (I, L, tw_P tw dr rt sc, A, J, 57))) rfl ?_
  refine tw_callE (cd := tw_c105) rfl rfl rfl rfl rfl (tw_e_get I L (tw_P tw dr rt sc) A J (q := 8) (N := 6) rfl rfl (by decide) a1) (by exact Or.inl rfl) ?_
  refine tw_blk (cd := tw_c105) rfl 1 (c1 := (5, [some (.ref 2), some (.int a1)], [.int (-2), .int (tw_get0 6 (A 8) a1)], (I, L, tw_P tw dr rt sc, A, J, 57))) rfl ?_
  by_cases hc1 : (tw_get0 6 (A 8) a1) = (-2 : Int32)
  · rw [if_pos hc1] at h
    refine tw_br (cd := tw_c105) rfl rfl rfl (by exact if_pos hc1) ?_
    refine tw_blk (cd := tw_c105) rfl 1 (c1 := (9, [some (.ref 2), some (.int a1)], [.int 0], (I, L, tw_P tw dr rt sc, A, J, 57))) rfl ?_
    subst h
    exact tw_retZ (cd := tw_c105) (b := false) rfl rfl rfl rfl
  · rw [if_neg hc1] at h
    refine tw_br (cd := tw_c105) rfl rfl rfl (by exact if_neg hc1) ?_
    refine tw_blk (cd := tw_c105) rfl 2 (c1 := (9, [some (.ref 2), some (.int a1)], [.int 1], (I, L, tw_P tw dr rt sc, A, J, 57))) rfl ?_
    subst h
    exact tw_retZ (cd := tw_c105) (b := true) rfl rfl rfl rfl
theorem g_X3_readyFor_L1_ok (I : Nat → Int32) (L : Nat → Int64) (A : Nat → Nat → Int32) (J : Nat → Nat → Int64) (tw : Nat) (dr : Nat) (rt : Nat) (a1 : Int32) (out : Option Value × tw_S) : ∀ (n : Nat) (v1_2 : Int32) (v1_3 : Int32) (ex : Int32), g_X3_readyFor_L1 I A n v1_2 v1_3 = some ex → tw_ME 41 (40, [some (.ref 41), some (.int a1), some (.int ex), none, none], [], (I, L, tw_P tw dr rt 2, A, J, 57)) out → tw_ME 41 (4, [some (.ref 41), some (.int a1), some (.int v1_2), some (.int v1_3), none], [], (I, L, tw_P tw dr rt 2, A, J, 57)) out := by
  intro n
  induction n with
  | zero =>
    intro v1_2 v1_3 ex h _
    cases h
  | succ n ih =>
    intro v1_2 v1_3 ex h K
    rw [g_X3_readyFor_L1] at h
    refine tw_blk (cd := tw_c41) rfl 1 (c1 := (5, [some (.ref 41), some (.int a1), some (.int v1_2), some (.int v1_3), none], [.int v1_3], (I, L, tw_P tw dr rt 2, A, J, 57))) rfl ?_
    refine tw_blk (cd := tw_c41) rfl 4 (c1 := (9, [some (.ref 41), some (.int a1), some (.int v1_2), some (.int v1_3), none], [.int 3, .ref 2, .int v1_3], (I, L, tw_P tw dr rt 2, A, J, 57))) rfl ?_
    refine tw_callE (cd := tw_c41) rfl rfl rfl rfl rfl (e_X8_count_2 I L A J tw dr rt 2 (3 : Int32) _ rfl) (by exact Or.inl rfl) ?_
    by_cases hc2 : (g_X8_count_2 A (3 : Int32)) ≤ v1_3
    · rw [if_pos hc2] at h
      refine tw_br (cd := tw_c41) rfl rfl rfl (by exact if_pos hc2) ?_
      refine tw_forget (ls2 := [some (.ref 41), some (.int a1), some (.int v1_2), none, none]) ⟨rfl, rfl, rfl, trivial⟩ ?_
      have h := Option.some.inj h
      subst h
      exact K
    · rw [if_neg hc2] at h
      refine tw_br (cd := tw_c41) rfl rfl rfl (by exact if_neg hc2) ?_
      refine tw_blk (cd := tw_c41) rfl 4 (c1 := (15, [some (.ref 41), some (.int a1), some (.int v1_2), some (.int v1_3), none], [.int v1_3, .int (I 3602)], (I, L, tw_P tw dr rt 2, A, J, 57))) rfl ?_
      refine tw_callE (cd := tw_c41) rfl rfl rfl rfl rfl (e_X0_sentTo I L A J tw dr rt 2 (I 3602) v1_3 _ rfl) (by exact Or.inl rfl) ?_
      refine tw_blk (cd := tw_c41) rfl 1 (c1 := (17, [some (.ref 41), some (.int a1), some (.int v1_2), some (.int v1_3), none], [.int (-1), .int (g_X0_sentTo (I 3602) v1_3)], (I, L, tw_P tw dr rt 2, A, J, 57))) rfl ?_
      obtain ⟨x4, hj5, h⟩ := tw_bindE h
      have K : tw_ME 41 (21, [some (.ref 41), some (.int a1), some (.int v1_2), some (.int v1_3), none], [.int x4], (I, L, tw_P tw dr rt 2, A, J, 57)) out := by
        refine tw_blk (cd := tw_c41) rfl 6 (c1 := (27, [some (.ref 41), some (.int a1), some (.int v1_2), some (.int v1_3), some (.int x4)], [.int v1_3, .ref 2, .int v1_2], (I, L, tw_P tw dr rt 2, A, J, 57))) rfl ?_
        refine tw_callE (cd := tw_c41) rfl rfl rfl rfl rfl (e_X8_canBeHired_2 I L A J tw dr rt 2 v1_3 _ rfl) (by exact Or.inl rfl) ?_
        obtain ⟨x7, hj8, h⟩ := tw_bindE h
        have K : tw_ME 41 (36, [some (.ref 41), some (.int a1), none, some (.int v1_3), none], [.int x7, .int v1_2], (I, L, tw_P tw dr rt 2, A, J, 57)) out := by
          refine tw_blk (cd := tw_c41) rfl 4 (c1 := (4, [some (.ref 41), some (.int a1), some (.int (v1_2 ||| x7)), some (.int (v1_3 + (1 : Int32))), none], [], (I, L, tw_P tw dr rt 2, A, J, 57))) rfl ?_
          exact ih (v1_2 ||| x7) (v1_3 + (1 : Int32)) _ h K
        by_cases hc6 : (g_X8_canBeHired_2 A v1_3) = true
        · rw [if_pos hc6] at hj8
          refine tw_br (cd := tw_c41) rfl rfl rfl (by exact if_neg (tw_b_t hc6)) ?_
          refine tw_blk (cd := tw_c41) rfl 1 (c1 := (30, [some (.ref 41), some (.int a1), some (.int v1_2), some (.int v1_3), some (.int x4)], [.int x4, .int v1_2], (I, L, tw_P tw dr rt 2, A, J, 57))) rfl ?_
          by_cases hc9 : x4 = 0
          · rw [if_pos hc9] at hj8
            refine tw_br (cd := tw_c41) rfl rfl rfl (by exact if_pos hc9) ?_
            refine tw_blk (cd := tw_c41) rfl 4 (c1 := (36, [some (.ref 41), some (.int a1), some (.int v1_2), some (.int v1_3), some (.int x4)], [.int ((1 : Int32) <<< (v1_3 &&& 31)), .int v1_2], (I, L, tw_P tw dr rt 2, A, J, 57))) rfl ?_
            refine tw_forget (ls2 := [some (.ref 41), some (.int a1), none, some (.int v1_3), none]) ⟨rfl, rfl, rfl, trivial⟩ ?_
            have hj8s := Option.some.inj hj8
            subst hj8s
            exact K
          · rw [if_neg hc9] at hj8
            refine tw_br (cd := tw_c41) rfl rfl rfl (by exact if_neg hc9) ?_
            refine tw_blk (cd := tw_c41) rfl 1 (c1 := (36, [some (.ref 41), some (.int a1), some (.int v1_2), some (.int v1_3), some (.int x4)], [.int 0, .int v1_2], (I, L, tw_P tw dr rt 2, A, J, 57))) rfl ?_
            refine tw_forget (ls2 := [some (.ref 41), some (.int a1), none, some (.int v1_3), none]) ⟨rfl, rfl, rfl, trivial⟩ ?_
            have hj8s := Option.some.inj hj8
            subst hj8s
            exact K
        · rw [if_neg hc6] at hj8
          refine tw_br (cd := tw_c41) rfl rfl rfl (by exact if_pos (tw_b_f hc6)) ?_
          refine tw_blk (cd := tw_c41) rfl 1 (c1 := (36, [some (.ref 41), some (.int a1), some (.int v1_2), some (.int v1_3), some (.int x4)], [.int 0, .int v1_2], (I, L, tw_P tw dr rt 2, A, J, 57))) rfl ?_
          refine tw_forget (ls2 := [some (.ref 41), some (.int a1), none, some (.int v1_3), none]) ⟨rfl, rfl, rfl, trivial⟩ ?_
          have hj8s := Option.some.inj hj8
          subst hj8s
          exact K
      by_cases hc3 : (g_X0_sentTo (I 3602) v1_3) = (-1 : Int32)
      · rw [if_pos hc3] at hj5
        refine tw_br (cd := tw_c41) rfl rfl rfl (by exact if_pos hc3) ?_
        refine tw_blk (cd := tw_c41) rfl 1 (c1 := (21, [some (.ref 41), some (.int a1), some (.int v1_2), some (.int v1_3), none], [.int 0], (I, L, tw_P tw dr rt 2, A, J, 57))) rfl ?_
        have hj5s := Option.some.inj hj5
        subst hj5s
        exact K
      · rw [if_neg hc3] at hj5
        refine tw_br (cd := tw_c41) rfl rfl rfl (by exact if_neg hc3) ?_
        refine tw_blk (cd := tw_c41) rfl 2 (c1 := (21, [some (.ref 41), some (.int a1), some (.int v1_2), some (.int v1_3), none], [.int 1], (I, L, tw_P tw dr rt 2, A, J, 57))) rfl ?_
        have hj5s := Option.some.inj hj5
        subst hj5s
        exact K
theorem e_X3_readyFor (I : Nat → Int32) (L : Nat → Int64) (A : Nat → Nat → Int32) (J : Nat → Nat → Int64) (tw dr : Nat) (rt : Nat) (a1 : Int32) : ∀ r : Int32, g_X3_readyFor I A a1 = some r → tw_ME 41 (0, [some (.ref 41), some (.int a1), none, none, none], [], (I, L, tw_P tw dr rt 2, A, J, 57)) (some (.int r), (I, L, tw_P tw dr rt 2, A, J, 57)) := by
  intro r h
  unfold g_X3_readyFor at h
  refine tw_blk (cd := tw_c41) rfl 4 (c1 := (4, [some (.ref 41), some (.int a1), some (.int 0), some (.int 0), none], [], (I, L, tw_P tw dr rt 2, A, J, 57))) rfl ?_
  obtain ⟨x1, hx10, h⟩ := tw_bindE h
  refine g_X3_readyFor_L1_ok I L A J tw dr rt a1 _ 4096 (0 : Int32) (0 : Int32) _ hx10 ?_
  refine tw_blk (cd := tw_c41) rfl 5 (c1 := (45, [some (.ref 41), some (.int a1), some (.int x1), none, none], [.int a1, .ref 2, .int x1], (I, L, tw_P tw dr rt 2, A, J, 57))) rfl ?_
  refine tw_callE (cd := tw_c41) rfl rfl rfl rfl rfl (e_X8_twoOf_2 I L A J tw dr rt 2 a1 _ rfl) (by exact Or.inl rfl) ?_
  refine tw_blk (cd := tw_c41) rfl 3 (c1 := (49, [some (.ref 41), some (.int a1), some (.int x1), none, none], [.int (x1 &&& ((g_X8_twoOf_2 A a1) ^^^ (-1 : Int32)))], (I, L, tw_P tw dr rt 2, A, J, 57))) rfl ?_
  have h := Option.some.inj h
  subst h
  exact tw_retE (cd := tw_c41) rfl rfl rfl rfl
theorem g_X8_priceOf_2_L1_ok (I : Nat → Int32) (L : Nat → Int64) (A : Nat → Nat → Int32) (J : Nat → Nat → Int64) (tw : Nat) (dr : Nat) (rt : Nat) (sc : Nat) (a1 : Int32) (out : Option Value × tw_S) : ∀ (n : Nat) (v1_2 : Int32) (v1_3 : Int32) (ex : Int32), g_X8_priceOf_2_L1 A a1 n v1_2 v1_3 = some ex → tw_ME 110 (26, [none, none, some (.int ex), none], [], (I, L, tw_P tw dr rt sc, A, J, 57)) out → tw_ME 110 (4, [some (.ref 2), some (.int a1), some (.int v1_2), some (.int v1_3)], [], (I, L, tw_P tw dr rt sc, A, J, 57)) out := by
  intro n
  induction n with
  | zero =>
    intro v1_2 v1_3 ex h _
    cases h
  | succ n ih =>
    intro v1_2 v1_3 ex h K
    rw [g_X8_priceOf_2_L1] at h
    refine tw_blk (cd := tw_c110) rfl 1 (c1 := (5, [some (.ref 2), some (.int a1), some (.int v1_2), some (.int v1_3)], [.int v1_3], (I, L, tw_P tw dr rt sc, A, J, 57))) rfl ?_
    refine tw_blk (cd := tw_c110) rfl 2 (c1 := (7, [some (.ref 2), some (.int a1), some (.int v1_2), some (.int v1_3)], [.int 3, .ref 2, .int v1_3], (I, L, tw_P tw dr rt sc, A, J, 57))) rfl ?_
    refine tw_callE (cd := tw_c110) rfl rfl rfl rfl rfl (e_X8_count_2 I L A J tw dr rt sc (3 : Int32) _ rfl) (by exact Or.inl rfl) ?_
    by_cases hc2 : (g_X8_count_2 A (3 : Int32)) ≤ v1_3
    · rw [if_pos hc2] at h
      refine tw_br (cd := tw_c110) rfl rfl rfl (by exact if_pos hc2) ?_
      refine tw_forget (ls2 := [none, none, some (.int v1_2), none]) ⟨rfl, trivial⟩ ?_
      have h := Option.some.inj h
      subst h
      exact K
    · rw [if_neg hc2] at h
      refine tw_br (cd := tw_c110) rfl rfl rfl (by exact if_neg hc2) ?_
      refine tw_blk (cd := tw_c110) rfl 6 (c1 := (15, [some (.ref 2), some (.int a1), some (.int v1_2), some (.int v1_3)], [.int ((a1 >>> (v1_3 &&& 31)) &&& (1 : Int32)), .int v1_2], (I, L, tw_P tw dr rt sc, A, J, 57))) rfl ?_
      obtain ⟨x4, hj5, h⟩ := tw_bindE h
      have K : tw_ME 110 (22, [some (.ref 2), some (.int a1), none, some (.int v1_3)], [.int x4, .int v1_2], (I, L, tw_P tw dr rt sc, A, J, 57)) out := by
        refine tw_blk (cd := tw_c110) rfl 4 (c1 := (4, [some (.ref 2), some (.int a1), some (.int (v1_2 + x4)), some (.int (v1_3 + (1 : Int32)))], [], (I, L, tw_P tw dr rt sc, A, J, 57))) rfl ?_
        exact ih (v1_2 + x4) (v1_3 + (1 : Int32)) _ h K
      by_cases hc3 : ((a1 >>> (v1_3 &&& 31)) &&& (1 : Int32)) = 0
      · rw [if_pos hc3] at hj5
        refine tw_br (cd := tw_c110) rfl rfl rfl (by exact if_pos hc3) ?_
        refine tw_blk (cd := tw_c110) rfl 1 (c1 := (22, [some (.ref 2), some (.int a1), some (.int v1_2), some (.int v1_3)], [.int 0, .int v1_2], (I, L, tw_P tw dr rt sc, A, J, 57))) rfl ?_
        refine tw_forget (ls2 := [some (.ref 2), some (.int a1), none, some (.int v1_3)]) ⟨rfl, rfl, rfl, trivial⟩ ?_
        have hj5s := Option.some.inj hj5
        subst hj5s
        exact K
      · rw [if_neg hc3] at hj5
        refine tw_br (cd := tw_c110) rfl rfl rfl (by exact if_neg hc3) ?_
        refine tw_blk (cd := tw_c110) rfl 3 (c1 := (19, [some (.ref 2), some (.int a1), some (.int v1_2), some (.int v1_3)], [.int v1_3, .ref 8, .int v1_2], (I, L, tw_P tw dr rt sc, A, J, 57))) rfl ?_
        refine tw_callE (cd := tw_c110) rfl rfl rfl rfl rfl (tw_e_get I L (tw_P tw dr rt sc) A J (q := 8) (N := 6) rfl rfl (by decide) v1_3) (by exact Or.inl rfl) ?_
        refine tw_blk (cd := tw_c110) rfl 1 (c1 := (22, [some (.ref 2), some (.int a1), some (.int v1_2), some (.int v1_3)], [.int (tw_get0 6 (A 8) v1_3), .int v1_2], (I, L, tw_P tw dr rt sc, A, J, 57))) rfl ?_
        refine tw_forget (ls2 := [some (.ref 2), some (.int a1), none, some (.int v1_3)]) ⟨rfl, rfl, rfl, trivial⟩ ?_
        have hj5s := Option.some.inj hj5
        subst hj5s
        exact K
theorem e_X8_priceOf_2 (I : Nat → Int32) (L : Nat → Int64) (A : Nat → Nat → Int32) (J : Nat → Nat → Int64) (tw dr : Nat) (rt : Nat) (sc : Nat) (a1 : Int32) : ∀ r : Int32, g_X8_priceOf_2 A a1 = some r → tw_ME 110 (0, [some (.ref 2), some (.int a1), none, none], [], (I, L, tw_P tw dr rt sc, A, J, 57)) (some (.int r), (I, L, tw_P tw dr rt sc, A, J, 57)) := by
  intro r h
  unfold g_X8_priceOf_2 at h
  refine tw_blk (cd := tw_c110) rfl 4 (c1 := (4, [some (.ref 2), some (.int a1), some (.int 0), some (.int 0)], [], (I, L, tw_P tw dr rt sc, A, J, 57))) rfl ?_
  obtain ⟨x1, hx6, h⟩ := tw_bindE h
  refine g_X8_priceOf_2_L1_ok I L A J tw dr rt sc a1 _ 4096 (0 : Int32) (0 : Int32) _ hx6 ?_
  refine tw_blk (cd := tw_c110) rfl 1 (c1 := (27, [none, none, some (.int x1), none], [.int x1], (I, L, tw_P tw dr rt sc, A, J, 57))) rfl ?_
  have h := Option.some.inj h
  subst h
  exact tw_retE (cd := tw_c110) rfl rfl rfl rfl
theorem e_X0_sending (I : Nat → Int32) (L : Nat → Int64) (A : Nat → Nat → Int32) (J : Nat → Nat → Int64) (tw dr : Nat) (rt : Nat) (sc : Nat) (a0 : Int32) (a1 : Int32) (a2 : Int32) : ∀ r : Int32, g_X0_sending a0 a1 a2 = r → tw_ME 3 (0, [some (.int a0), some (.int a1), some (.int a2)], [], (I, L, tw_P tw dr rt sc, A, J, 57)) (some (.int r), (I, L, tw_P tw dr rt sc, A, J, 57)) := by
  intro r h
  unfold g_X0_sending at h
  refine tw_blk (cd := tw_c3) rfl 17 (c1 := (17, [some (.int a0), some (.int a1), some (.int a2)], [.int ((a0 &&& (((7 : Int32) <<< (((3 : Int32) * a1) &&& 31)) ^^^ (-1 : Int32))) ||| ((a2 + (1 : Int32)) <<< (((3 : Int32) * a1) &&& 31)))], (I, L, tw_P tw dr rt sc, A, J, 57))) rfl ?_
  subst h
  exact tw_retE (cd := tw_c3) rfl rfl rfl rfl
theorem g_X3_sendAll_L1_ok (I : Nat → Int32) (L : Nat → Int64) (A : Nat → Nat → Int32) (J : Nat → Nat → Int64) (tw : Nat) (dr : Nat) (rt : Nat) (a1 : Int32) (a2 : Int32) (out : Option Value × tw_S) : ∀ (n : Nat) (v1_3 : Int32) (I_1 : Nat → Int32) (ex : Nat → Int32), g_X3_sendAll_L1 a1 a2 n v1_3 I_1 = some ex → tw_ME 42 (22, [none, none, none, none], [], (ex, L, tw_P tw dr rt 2, A, J, 57)) out → tw_ME 42 (2, [some (.ref 41), some (.int a1), some (.int a2), some (.int v1_3)], [], (I_1, L, tw_P tw dr rt 2, A, J, 57)) out := by
  intro n
  induction n with
  | zero =>
    intro v1_3 I_1 ex h _
    cases h
  | succ n ih =>
    intro v1_3 I_1 ex h K
    rw [g_X3_sendAll_L1] at h
    refine tw_blk (cd := tw_c42) rfl 1 (c1 := (3, [some (.ref 41), some (.int a1), some (.int a2), some (.int v1_3)], [.int v1_3], (I_1, L, tw_P tw dr rt 2, A, J, 57))) rfl ?_
    refine tw_blk (cd := tw_c42) rfl 1 (c1 := (4, [some (.ref 41), some (.int a1), some (.int a2), some (.int v1_3)], [.int 6, .int v1_3], (I_1, L, tw_P tw dr rt 2, A, J, 57))) rfl ?_
    by_cases hc2 : (6 : Int32) ≤ v1_3
    · rw [if_pos hc2] at h
      refine tw_br (cd := tw_c42) rfl rfl rfl (by exact if_pos hc2) ?_
      refine tw_forget (ls2 := [none, none, none, none]) trivial ?_
      have h := Option.some.inj h
      subst h
      exact K
    · rw [if_neg hc2] at h
      refine tw_br (cd := tw_c42) rfl rfl rfl (by exact if_neg hc2) ?_
      refine tw_blk (cd := tw_c42) rfl 5 (c1 := (10, [some (.ref 41), some (.int a1), some (.int a2), some (.int v1_3)], [.int ((a1 >>> (v1_3 &&& 31)) &&& (1 : Int32))], (I_1, L, tw_P tw dr rt 2, A, J, 57))) rfl ?_
      obtain ⟨I4, hj5, h⟩ := tw_bindE h
      have K : tw_ME 42 (20, [some (.ref 41), some (.int a1), some (.int a2), some (.int v1_3)], [], (I4, L, tw_P tw dr rt 2, A, J, 57)) out := by
        refine tw_blk (cd := tw_c42) rfl 2 (c1 := (2, [some (.ref 41), some (.int a1), some (.int a2), some (.int (v1_3 + (1 : Int32)))], [], (I4, L, tw_P tw dr rt 2, A, J, 57))) rfl ?_
        exact ih (v1_3 + (1 : Int32)) I4 _ h K
      by_cases hc3 : ((a1 >>> (v1_3 &&& 31)) &&& (1 : Int32)) = 0
      · rw [if_pos hc3] at hj5
        refine tw_br (cd := tw_c42) rfl rfl rfl (by exact if_pos hc3) ?_
        have hj5s := Option.some.inj hj5
        subst hj5s
        exact K
      · rw [if_neg hc3] at hj5
        refine tw_br (cd := tw_c42) rfl rfl rfl (by exact if_neg hc3) ?_
        refine tw_blk (cd := tw_c42) rfl 7 (c1 := (18, [some (.ref 41), some (.int a1), some (.int a2), some (.int v1_3)], [.int a2, .int v1_3, .int (I_1 3602), .ref 36], (I_1, L, tw_P tw dr rt 2, A, J, 57))) rfl ?_
        refine tw_callE (cd := tw_c42) rfl rfl rfl rfl rfl (e_X0_sending I_1 L A J tw dr rt 2 (I_1 3602) v1_3 a2 _ rfl) (by exact Or.inl rfl) ?_
        refine tw_blk (cd := tw_c42) rfl 1 (c1 := (20, [some (.ref 41), some (.int a1), some (.int a2), some (.int v1_3)], [], ((upd I_1 3602 (g_X0_sending (I_1 3602) v1_3 a2)), L, tw_P tw dr rt 2, A, J, 57))) rfl ?_
        have hj5s := Option.some.inj hj5
        subst hj5s
        exact K
theorem e_X3_sendAll (I : Nat → Int32) (L : Nat → Int64) (A : Nat → Nat → Int32) (J : Nat → Nat → Int64) (tw dr : Nat) (rt : Nat) (a1 : Int32) (a2 : Int32) : ∀ r : Nat → Int32, g_X3_sendAll I a1 a2 = some r → tw_ME 42 (0, [some (.ref 41), some (.int a1), some (.int a2), none], [], (I, L, tw_P tw dr rt 2, A, J, 57)) (none, (r, L, tw_P tw dr rt 2, A, J, 57)) := by
  intro r h
  unfold g_X3_sendAll at h
  refine tw_blk (cd := tw_c42) rfl 2 (c1 := (2, [some (.ref 41), some (.int a1), some (.int a2), some (.int 0)], [], (I, L, tw_P tw dr rt 2, A, J, 57))) rfl ?_
  obtain ⟨I1, hx6, h⟩ := tw_bindE h
  refine g_X3_sendAll_L1_ok I L A J tw dr rt a1 a2 _ 4096 (0 : Int32) I _ hx6 ?_
  have h := Option.some.inj h
  subst h
  exact tw_retE (cd := tw_c42) rfl rfl rfl rfl
theorem g_X3_cheapestStoppers_L1_ok (I : Nat → Int32) (L : Nat → Int64) (A : Nat → Nat → Int32) (J : Nat → Nat → Int64) (tw : Nat) (dr : Nat) (rt : Nat) (a1 : Int32) (x1 : Int32) (out : Option Value × tw_S) : ∀ (n : Nat) (v1_4 : Int32) (v1_5 : Int32) (I_1 : Nat → Int32) (A_1 : Nat → Nat → Int32) (ex : (Int32 × (Nat → Int32) × (Nat → Nat → Int32))), g_X3_cheapestStoppers_L1 I a1 x1 n v1_4 v1_5 I_1 A_1 = some ex → tw_ME 40 (68, [none, none, none, none, some (.int (ex.1)), none, none], [], ((ex.2.1), L, tw_P tw dr rt 2, (ex.2.2), J, 57)) out → tw_ME 40 (12, [some (.ref 41), some (.int a1), some (.int (I 3602)), some (.int x1), some (.int v1_4), some (.int v1_5), none], [], (I_1, L, tw_P tw dr rt 2, A_1, J, 57)) out := by
  intro n
  induction n with
  | zero =>
    intro v1_4 v1_5 I_1 A_1 ex h _
    cases h
  | succ n ih =>
    intro v1_4 v1_5 I_1 A_1 ex h K
    rw [g_X3_cheapestStoppers_L1] at h
    refine tw_blk (cd := tw_c40) rfl 1 (c1 := (13, [some (.ref 41), some (.int a1), some (.int (I 3602)), some (.int x1), some (.int v1_4), some (.int v1_5), none], [.int v1_5], (I_1, L, tw_P tw dr rt 2, A_1, J, 57))) rfl ?_
    refine tw_blk (cd := tw_c40) rfl 1 (c1 := (14, [some (.ref 41), some (.int a1), some (.int (I 3602)), some (.int x1), some (.int v1_4), some (.int v1_5), none], [.int x1, .int v1_5], (I_1, L, tw_P tw dr rt 2, A_1, J, 57))) rfl ?_
    by_cases hc6 : x1 < v1_5
    · rw [if_pos hc6] at h
      refine tw_br (cd := tw_c40) rfl rfl rfl (by exact if_pos hc6) ?_
      refine tw_forget (ls2 := [none, none, none, none, some (.int v1_4), none, none]) ⟨rfl, trivial⟩ ?_
      have h := Option.some.inj h
      subst h
      exact K
    · rw [if_neg hc6] at h
      refine tw_br (cd := tw_c40) rfl rfl rfl (by exact if_neg hc6) ?_
      refine tw_blk (cd := tw_c40) rfl 2 (c1 := (17, [some (.ref 41), some (.int a1), some (.int (I 3602)), some (.int x1), some (.int v1_4), some (.int v1_5), none], [.int (-2), .int v1_4], (I_1, L, tw_P tw dr rt 2, A_1, J, 57))) rfl ?_
      obtain ⟨x8, hj9, h⟩ := tw_bindE h
      have K : tw_ME 40 (32, [some (.ref 41), some (.int a1), some (.int (I 3602)), some (.int x1), some (.int v1_4), some (.int v1_5), none], [.int x8], (I_1, L, tw_P tw dr rt 2, A_1, J, 57)) out := by
        refine tw_blk (cd := tw_c40) rfl 6 (c1 := (38, [some (.ref 41), some (.int a1), some (.int (I 3602)), some (.int x1), some (.int v1_4), some (.int v1_5), some (.int x8)], [.int (v1_5 &&& (x1 ^^^ (-1 : Int32)))], (I_1, L, tw_P tw dr rt 2, A_1, J, 57))) rfl ?_
        obtain ⟨⟨x16, I17, A18⟩, hj19, h⟩ := tw_bindE h
        dsimp only at h
        have K : tw_ME 40 (66, [some (.ref 41), some (.int a1), some (.int (I 3602)), some (.int x1), some (.int x16), some (.int v1_5), none], [], (I17, L, tw_P tw dr rt 2, A18, J, 57)) out := by
          refine tw_blk (cd := tw_c40) rfl 2 (c1 := (12, [some (.ref 41), some (.int a1), some (.int (I 3602)), some (.int x1), some (.int x16), some (.int (v1_5 + (1 : Int32))), none], [], (I17, L, tw_P tw dr rt 2, A18, J, 57))) rfl ?_
          exact ih x16 (v1_5 + (1 : Int32)) I17 A18 _ h K
        by_cases hc15 : (v1_5 &&& (x1 ^^^ (-1 : Int32))) = 0
        · rw [if_pos hc15] at hj19
          refine tw_br (cd := tw_c40) rfl rfl rfl (by exact if_pos hc15) ?_
          refine tw_blk (cd := tw_c40) rfl 1 (c1 := (40, [some (.ref 41), some (.int a1), some (.int (I 3602)), some (.int x1), some (.int v1_4), some (.int v1_5), some (.int x8)], [.int x8], (I_1, L, tw_P tw dr rt 2, A_1, J, 57))) rfl ?_
          by_cases hc20 : x8 = 0
          · rw [if_pos hc20] at hj19
            refine tw_br (cd := tw_c40) rfl rfl rfl (by exact if_pos hc20) ?_
            refine tw_forget (ls2 := [some (.ref 41), some (.int a1), some (.int (I 3602)), some (.int x1), some (.int v1_4), some (.int v1_5), none]) ⟨rfl, rfl, rfl, rfl, rfl, rfl, trivial⟩ ?_
            have hj19s := Option.some.inj hj19
            obtain ⟨hj19_0, hj19r0⟩ := Prod.mk.inj hj19s
            obtain ⟨hj19_1, hj19r1⟩ := Prod.mk.inj hj19r0
            subst hj19_0
            subst hj19_1
            subst hj19r1
            exact K
          · rw [if_neg hc20] at hj19
            refine tw_br (cd := tw_c40) rfl rfl rfl (by exact if_neg hc20) ?_
            refine tw_blk (cd := tw_c40) rfl 7 (c1 := (48, [some (.ref 41), some (.int a1), some (.int (I 3602)), some (.int x1), some (.int v1_4), some (.int v1_5), some (.int x8)], [.int 2, .int a1, .ref 2, .int v1_5, .ref 41], (I_1, L, tw_P tw dr rt 2, A_1, J, 57))) rfl ?_
            refine tw_callE (cd := tw_c40) rfl rfl rfl rfl rfl (e_X8_fact_2 I_1 L A_1 J tw dr rt 2 a1 (2 : Int32) _ rfl) (by exact Or.inl rfl) ?_
            obtain ⟨I21, hx22, hj19⟩ := tw_bindE hj19
            refine tw_callE (cd := tw_c40) rfl rfl rfl rfl rfl (e_X3_sendAll I_1 L A_1 J tw dr rt v1_5 (g_X8_fact_2 A_1 a1 (2 : Int32)) _ hx22) (by exact Or.inl rfl) ?_
            refine tw_blk (cd := tw_c40) rfl 3 (c1 := (53, [some (.ref 41), some (.int a1), some (.int (I 3602)), some (.int x1), some (.int v1_4), some (.int v1_5), some (.int x8)], [.int a1, .ref 39], (I21, L, tw_P tw dr rt 2, A_1, J, 57))) rfl ?_
            obtain ⟨⟨I23, A24⟩, hx25, hj19⟩ := tw_bindE hj19
            dsimp only at hj19
            refine tw_callE (cd := tw_c40) rfl rfl rfl rfl rfl (e_X1_runAsTold I21 L A_1 J tw dr rt a1 _ hx25) (by exact Or.inl rfl) ?_
            refine tw_blk (cd := tw_c40) rfl 7 (c1 := (61, [some (.ref 41), some (.int a1), some (.int (I 3602)), some (.int x1), some (.int v1_4), some (.int v1_5), some (.int x8)], [.int (I23 3902)], ((upd I23 3602 (I 3602)), L, tw_P tw dr rt 2, A24, J, 57))) rfl ?_
            obtain ⟨x27, hj28, hj19⟩ := tw_bindE hj19
            have K : tw_ME 40 (65, [some (.ref 41), some (.int a1), some (.int (I 3602)), some (.int x1), none, some (.int v1_5), none], [.int x27], ((upd I23 3602 (I 3602)), L, tw_P tw dr rt 2, A24, J, 57)) out := by
              refine tw_blk (cd := tw_c40) rfl 1 (c1 := (66, [some (.ref 41), some (.int a1), some (.int (I 3602)), some (.int x1), some (.int x27), some (.int v1_5), none], [], ((upd I23 3602 (I 3602)), L, tw_P tw dr rt 2, A24, J, 57))) rfl ?_
              have hj19s := Option.some.inj hj19
              obtain ⟨hj19_0, hj19r0⟩ := Prod.mk.inj hj19s
              obtain ⟨hj19_1, hj19r1⟩ := Prod.mk.inj hj19r0
              subst hj19_0
              subst hj19_1
              subst hj19r1
              exact K
            by_cases hc26 : (I23 3902) = 0
            · rw [if_pos hc26] at hj28
              refine tw_br (cd := tw_c40) rfl rfl rfl (by exact if_pos hc26) ?_
              refine tw_blk (cd := tw_c40) rfl 2 (c1 := (65, [some (.ref 41), some (.int a1), some (.int (I 3602)), some (.int x1), some (.int v1_4), some (.int v1_5), some (.int x8)], [.int v1_5], ((upd I23 3602 (I 3602)), L, tw_P tw dr rt 2, A24, J, 57))) rfl ?_
              refine tw_forget (ls2 := [some (.ref 41), some (.int a1), some (.int (I 3602)), some (.int x1), none, some (.int v1_5), none]) ⟨rfl, rfl, rfl, rfl, rfl, trivial⟩ ?_
              have hj28s := Option.some.inj hj28
              subst hj28s
              exact K
            · rw [if_neg hc26] at hj28
              refine tw_br (cd := tw_c40) rfl rfl rfl (by exact if_neg hc26) ?_
              refine tw_blk (cd := tw_c40) rfl 1 (c1 := (65, [some (.ref 41), some (.int a1), some (.int (I 3602)), some (.int x1), some (.int v1_4), some (.int v1_5), some (.int x8)], [.int v1_4], ((upd I23 3602 (I 3602)), L, tw_P tw dr rt 2, A24, J, 57))) rfl ?_
              refine tw_forget (ls2 := [some (.ref 41), some (.int a1), some (.int (I 3602)), some (.int x1), none, some (.int v1_5), none]) ⟨rfl, rfl, rfl, rfl, rfl, trivial⟩ ?_
              have hj28s := Option.some.inj hj28
              subst hj28s
              exact K
        · rw [if_neg hc15] at hj19
          refine tw_br (cd := tw_c40) rfl rfl rfl (by exact if_neg hc15) ?_
          refine tw_forget (ls2 := [some (.ref 41), some (.int a1), some (.int (I 3602)), some (.int x1), some (.int v1_4), some (.int v1_5), none]) ⟨rfl, rfl, rfl, rfl, rfl, rfl, trivial⟩ ?_
          have hj19s := Option.some.inj hj19
          obtain ⟨hj19_0, hj19r0⟩ := Prod.mk.inj hj19s
          obtain ⟨hj19_1, hj19r1⟩ := Prod.mk.inj hj19r0
          subst hj19_0
          subst hj19_1
          subst hj19r1
          exact K
      by_cases hc7 : v1_4 = (-2 : Int32)
      · rw [if_pos hc7] at hj9
        refine tw_br (cd := tw_c40) rfl rfl rfl (by exact if_pos hc7) ?_
        refine tw_blk (cd := tw_c40) rfl 2 (c1 := (32, [some (.ref 41), some (.int a1), some (.int (I 3602)), some (.int x1), some (.int v1_4), some (.int v1_5), none], [.int 1], (I_1, L, tw_P tw dr rt 2, A_1, J, 57))) rfl ?_
        have hj9s := Option.some.inj hj9
        subst hj9s
        exact K
      · rw [if_neg hc7] at hj9
        refine tw_br (cd := tw_c40) rfl rfl rfl (by exact if_neg hc7) ?_
        refine tw_blk (cd := tw_c40) rfl 4 (c1 := (22, [some (.ref 41), some (.int a1), some (.int (I 3602)), some (.int x1), some (.int v1_4), some (.int v1_5), none], [.int v1_5, .ref 2], (I_1, L, tw_P tw dr rt 2, A_1, J, 57))) rfl ?_
        obtain ⟨x10, hx11, hj9⟩ := tw_bindE hj9
        refine tw_callE (cd := tw_c40) rfl rfl rfl rfl rfl (e_X8_priceOf_2 I_1 L A_1 J tw dr rt 2 v1_5 _ hx11) (by exact Or.inl rfl) ?_
        refine tw_blk (cd := tw_c40) rfl 4 (c1 := (27, [some (.ref 41), some (.int a1), some (.int (I 3602)), some (.int x1), some (.int v1_4), some (.int v1_5), none], [.int v1_4, .ref 2, .int x10], (I_1, L, tw_P tw dr rt 2, A_1, J, 57))) rfl ?_
        obtain ⟨x12, hx13, hj9⟩ := tw_bindE hj9
        refine tw_callE (cd := tw_c40) rfl rfl rfl rfl rfl (e_X8_priceOf_2 I_1 L A_1 J tw dr rt 2 v1_4 _ hx13) (by exact Or.inl rfl) ?_
        by_cases hc14 : x12 ≤ x10
        · rw [if_pos hc14] at hj9
          refine tw_br (cd := tw_c40) rfl rfl rfl (by exact if_pos hc14) ?_
          refine tw_blk (cd := tw_c40) rfl 1 (c1 := (32, [some (.ref 41), some (.int a1), some (.int (I 3602)), some (.int x1), some (.int v1_4), some (.int v1_5), none], [.int 0], (I_1, L, tw_P tw dr rt 2, A_1, J, 57))) rfl ?_
          have hj9s := Option.some.inj hj9
          subst hj9s
          exact K
        · rw [if_neg hc14] at hj9
          refine tw_br (cd := tw_c40) rfl rfl rfl (by exact if_neg hc14) ?_
          refine tw_blk (cd := tw_c40) rfl 2 (c1 := (32, [some (.ref 41), some (.int a1), some (.int (I 3602)), some (.int x1), some (.int v1_4), some (.int v1_5), none], [.int 1], (I_1, L, tw_P tw dr rt 2, A_1, J, 57))) rfl ?_
          have hj9s := Option.some.inj hj9
          subst hj9s
          exact K
theorem e_X3_cheapestStoppers (I : Nat → Int32) (L : Nat → Int64) (A : Nat → Nat → Int32) (J : Nat → Nat → Int64) (tw dr : Nat) (rt : Nat) (a1 : Int32) : ∀ r : (Int32 × (Nat → Int32) × (Nat → Nat → Int32)), g_X3_cheapestStoppers I A a1 = some r → tw_ME 40 (0, [some (.ref 41), some (.int a1), none, none, none, none, none], [], (I, L, tw_P tw dr rt 2, A, J, 57)) (some (.int r.1), ((r.2.1), L, tw_P tw dr rt 2, (r.2.2), J, 57)) := by
  intro r h
  unfold g_X3_cheapestStoppers at h
  refine tw_blk (cd := tw_c40) rfl 6 (c1 := (6, [some (.ref 41), some (.int a1), some (.int (I 3602)), none, none, none, none], [.int a1, .ref 41], (I, L, tw_P tw dr rt 2, A, J, 57))) rfl ?_
  obtain ⟨x1, hx2, h⟩ := tw_bindE h
  refine tw_callE (cd := tw_c40) rfl rfl rfl rfl rfl (e_X3_readyFor I L A J tw dr rt a1 _ hx2) (by exact Or.inl rfl) ?_
  refine tw_blk (cd := tw_c40) rfl 5 (c1 := (12, [some (.ref 41), some (.int a1), some (.int (I 3602)), some (.int x1), some (.int (-2)), some (.int 0), none], [], (I, L, tw_P tw dr rt 2, A, J, 57))) rfl ?_
  obtain ⟨⟨x3, I4, A5⟩, hx29, h⟩ := tw_bindE h
  dsimp only at h
  refine g_X3_cheapestStoppers_L1_ok I L A J tw dr rt a1 x1 _ 4096 (-2 : Int32) (0 : Int32) I A _ hx29 ?_
  refine tw_blk (cd := tw_c40) rfl 1 (c1 := (69, [none, none, none, none, some (.int x3), none, none], [.int x3], (I4, L, tw_P tw dr rt 2, A5, J, 57))) rfl ?_
  have h := Option.some.inj h
  subst h
  exact tw_retE (cd := tw_c40) rfl rfl rfl rfl
theorem e_X9_stoppers (I : Nat → Int32) (L : Nat → Int64) (A : Nat → Nat → Int32) (J : Nat → Nat → Int64) (rt : Nat) (sc : Nat) (a1 : Int32) : ∀ r : (Int32 × (Nat → Int32) × (Nat → Nat → Int32) × Nat), g_X9_stoppers I A sc a1 = some r → tw_ME 139 (0, [some (.ref 0), some (.int a1)], [], (I, L, tw_P 2 14 rt sc, A, J, 57)) (some (.int r.1), ((r.2.1), L, tw_P 2 14 rt (r.2.2.2), (r.2.2.1), J, 57)) := by
  intro r h
  unfold g_X9_stoppers at h
  refine tw_blk (cd := tw_c139) rfl 2 (c1 := (2, [some (.ref 0), some (.int a1)], [.int a1, .ref 0], (I, L, tw_P 2 14 rt sc, A, J, 57))) rfl ?_
  refine tw_callE (cd := tw_c139) rfl rfl rfl rfl rfl (e_X9_isQuarrel I L A J rt sc a1 _ rfl) (by exact Or.inl rfl) ?_
  by_cases hc1 : (g_X9_isQuarrel A a1) = true
  · rw [if_pos hc1] at h
    refine tw_br (cd := tw_c139) rfl rfl rfl (by exact if_neg (tw_b_t hc1)) ?_
    refine tw_blk (cd := tw_c139) rfl 1 (c1 := (9, [some (.ref 0), some (.int a1)], [.ref 0], (I, L, tw_P 2 14 rt sc, A, J, 57))) rfl ?_
    obtain ⟨⟨I2, A3⟩, hx4, h⟩ := tw_bindE h
    dsimp only at h
    refine tw_callE (cd := tw_c139) rfl rfl rfl rfl rfl (e_X9_showNow I L A J rt sc _ hx4) (by exact Or.inl rfl) ?_
    refine tw_blk (cd := tw_c139) rfl 4 (c1 := (14, [some (.ref 0), some (.int a1)], [.int a1, .ref 41, .ref 0], (I2, L, tw_P 2 14 rt 2, A3, J, 57))) rfl ?_
    obtain ⟨⟨x5, I6, A7⟩, hx8, h⟩ := tw_bindE h
    dsimp only at h
    refine tw_callE (cd := tw_c139) rfl rfl rfl rfl rfl (e_X3_cheapestStoppers I2 L A3 J 2 14 rt a1 _ hx8) (by exact Or.inl rfl) ?_
    obtain ⟨⟨x9, I10⟩, hx11, h⟩ := tw_letE h
    dsimp only at h
    refine tw_callE (cd := tw_c139) rfl rfl rfl rfl rfl (e_X9_grant I6 L A7 J 2 14 rt 2 x5 _ hx11) (by exact Or.inl rfl) ?_
    have h := Option.some.inj h
    subst h
    exact tw_retE (cd := tw_c139) rfl rfl rfl rfl
  · rw [if_neg hc1] at h
    refine tw_br (cd := tw_c139) rfl rfl rfl (by exact if_pos (tw_b_f hc1)) ?_
    refine tw_blk (cd := tw_c139) rfl 2 (c1 := (6, [some (.ref 0), some (.int a1)], [.int 1, .ref 0], (I, L, tw_P 2 14 rt sc, A, J, 57))) rfl ?_
    obtain ⟨⟨x12, I13⟩, hx14, h⟩ := tw_letE h
    dsimp only at h
    refine tw_callE (cd := tw_c139) rfl rfl rfl rfl rfl (e_X9_refuse I L A J 2 14 rt sc (1 : Int32) _ hx14) (by exact Or.inl rfl) ?_
    have h := Option.some.inj h
    subst h
    exact tw_retE (cd := tw_c139) rfl rfl rfl rfl
theorem e_X10_canHire (I : Nat → Int32) (L : Nat → Int64) (A : Nat → Nat → Int32) (J : Nat → Nat → Int64) (tw dr : Nat) (rt : Nat) (sc : Nat) (a1 : Int32) : ∀ r : Bool, g_X10_canHire A a1 = some r → tw_ME 276 (0, [some (.ref 44), some (.int a1)], [], (I, L, tw_P tw dr rt sc, A, J, 57)) (some (.int (tw_b r)), (I, L, tw_P tw dr rt sc, A, J, 57)) := by
  intro r h
  unfold g_X10_canHire at h
  refine tw_blk (cd := tw_c276) rfl 9 (c1 := (9, [some (.ref 44), some (.int a1)], [.int (((26 : Int32) + ((4 : Int32) * a1)) + (3 : Int32)), .ref 47], (I, L, tw_P tw dr rt sc, A, J, 57))) rfl ?_
  obtain ⟨x2, hx1, h⟩ := tw_bindE h
  refine tw_iald (cd := tw_c276) (N := 241) rfl rfl rfl rfl hx1 ?_
  by_cases hc3 : x2 ≤ 0
  · rw [if_pos hc3] at h
    refine tw_br (cd := tw_c276) rfl rfl rfl (by exact if_pos hc3) ?_
    refine tw_blk (cd := tw_c276) rfl 1 (c1 := (14, [some (.ref 44), some (.int a1)], [.int 0], (I, L, tw_P tw dr rt sc, A, J, 57))) rfl ?_
    have h := Option.some.inj h
    subst h
    exact tw_retZ (cd := tw_c276) (b := false) rfl rfl rfl rfl
  · rw [if_neg hc3] at h
    refine tw_br (cd := tw_c276) rfl rfl rfl (by exact if_neg hc3) ?_
    refine tw_blk (cd := tw_c276) rfl 2 (c1 := (14, [some (.ref 44), some (.int a1)], [.int 1], (I, L, tw_P tw dr rt sc, A, J, 57))) rfl ?_
    have h := Option.some.inj h
    subst h
    exact tw_retZ (cd := tw_c276) (b := true) rfl rfl rfl rfl
