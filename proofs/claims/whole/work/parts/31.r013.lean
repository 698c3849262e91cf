/-! the machine does what the functions say -/
theorem e_X9_bricks (I : Nat → Int32) (L : Nat → Int64) (A : Nat → Nat → Int32) (J : Nat → Nat → Int64) (rt : Nat) (sc : Nat) (a1 : Int32) : ∀ r : (Int32 × (Nat → Int32) × (Nat → Nat → Int32) × Nat), g_X9_bricks I A sc a1 = some r → tw_ME 138 (0, [some (.ref 0), some (.int a1)], [], (I, L, tw_P 2 14 rt sc, A, J, 57)) (some (.int r.1), ((r.2.1), L, tw_P 2 14 rt (r.2.2.2), (r.2.2.1), J, 57)) := by
  intro r h
  unfold g_X9_bricks at h
  refine tw_blk (cd := tw_c138) rfl 2 (c1 := (2, [some (.ref 0), some (.int a1)], [.int a1, .ref 0], (I, L, tw_P 2 14 rt sc, A, J, 57))) rfl ?_
  refine tw_callE (cd := tw_c138) rfl rfl rfl rfl rfl (e_X9_isQuarrel I L A J rt sc a1 _ rfl) (by exact Or.inl rfl) ?_
  by_cases hc1 : (g_X9_isQuarrel A a1) = true
  · rw [if_pos hc1] at h
    refine tw_br (cd := tw_c138) rfl rfl rfl (by exact if_neg (tw_b_t hc1)) ?_
    refine tw_blk (cd := tw_c138) rfl 1 (c1 := (9, [some (.ref 0), some (.int a1)], [.ref 0], (I, L, tw_P 2 14 rt sc, A, J, 57))) rfl ?_
    obtain ⟨⟨I2, A3⟩, hx4, h⟩ := tw_bindE h
    dsimp only at h
    refine tw_callE (cd := tw_c138) rfl rfl rfl rfl rfl (e_X9_showNow I L A J rt sc _ hx4) (by exact Or.inl rfl) ?_
    refine tw_blk (cd := tw_c138) rfl 4 (c1 := (14, [some (.ref 0), some (.int a1)], [.int a1, .ref 41, .ref 0], (I2, L, tw_P 2 14 rt 2, A3, J, 57))) rfl ?_
    obtain ⟨⟨x5, I6, A7⟩, hx8, h⟩ := tw_bindE h
    dsimp only at h
    refine tw_callE (cd := tw_c138) rfl rfl rfl rfl rfl (e_X3_fewestBricks I2 L A3 J rt a1 _ hx8) (by exact Or.inl rfl) ?_
    obtain ⟨⟨x9, I10⟩, hx11, h⟩ := tw_letE h
    dsimp only at h
    refine tw_callE (cd := tw_c138) rfl rfl rfl rfl rfl (e_X9_grant I6 L A7 J rt 2 x5 _ hx11) (by exact Or.inl rfl) ?_
    have h := Option.some.inj h
    subst h
    exact tw_retE (cd := tw_c138) rfl rfl rfl rfl
  · rw [if_neg hc1] at h
    refine tw_br (cd := tw_c138) rfl rfl rfl (by exact if_pos (tw_b_f hc1)) ?_
    refine tw_blk (cd := tw_c138) rfl 2 (c1 := (6, [some (.ref 0), some (.int a1)], [.int 1, .ref 0], (I, L, tw_P 2 14 rt sc, A, J, 57))) rfl ?_
    obtain ⟨⟨x12, I13⟩, hx14, h⟩ := tw_letE h
    dsimp only at h
    refine tw_callE (cd := tw_c138) rfl rfl rfl rfl rfl (e_X9_refuse I L A J rt sc (1 : Int32) _ hx14) (by exact Or.inl rfl) ?_
    have h := Option.some.inj h
    subst h
    exact tw_retE (cd := tw_c138) rfl rfl rfl rfl
theorem g_X10_bricks_L1_ok (I : Nat → Int32) (L : Nat → Int64) (A : Nat → Nat → Int32) (J : Nat → Nat → Int64) (rt : Nat) (sc : Nat) (a1 : Int32) (I1 : Nat → Int32) (c3 : Bool) (A6 : Nat → Nat → Int32) (out : Option Value × tw_S) : ∀ (n : Nat) (v1_2 : Int32) (v1_3 : Int32) (I_1 : Nat → Int32) (A_1 : Nat → Nat → Int32) (ex : (Int32 × (Nat → Int32) × (Nat → Nat → Int32))), g_X10_bricks_L1 a1 n v1_2 v1_3 I_1 A_1 = some ex → tw_ME 275 (59, [none, none, some (.int (ex.1)), none], [], ((ex.2.1), L, tw_P 2 14 rt sc, (ex.2.2), J, 57)) out → tw_ME 275 (16, [some (.ref 44), some (.int a1), some (.int v1_2), some (.int v1_3)], [], (I_1, L, tw_P 2 14 rt sc, A_1, J, 57)) out := by
  intro n
  induction n with
  | zero =>
    intro v1_2 v1_3 I_1 A_1 ex h _
    cases h
  | succ n ih =>
    intro v1_2 v1_3 I_1 A_1 ex h K
    rw [g_X10_bricks_L1] at h
    refine tw_blk (cd := tw_c275) rfl 1 (c1 := (17, [some (.ref 44), some (.int a1), some (.int v1_2), some (.int v1_3)], [.int v1_3], (I_1, L, tw_P 2 14 rt sc, A_1, J, 57))) rfl ?_
    refine tw_blk (cd := tw_c275) rfl 4 (c1 := (21, [some (.ref 44), some (.int a1), some (.int v1_2), some (.int v1_3)], [.int 2, .ref 47, .int 1, .int v1_3], (I_1, L, tw_P 2 14 rt sc, A_1, J, 57))) rfl ?_
    obtain ⟨x12, hx11, h⟩ := tw_bindE h
    refine tw_iald (cd := tw_c275) (N := 241) rfl rfl rfl rfl hx11 ?_
    refine tw_blk (cd := tw_c275) rfl 1 (c1 := (23, [some (.ref 44), some (.int a1), some (.int v1_2), some (.int v1_3)], [.int ((1 : Int32) <<< (x12 &&& 31)), .int v1_3], (I_1, L, tw_P 2 14 rt sc, A_1, J, 57))) rfl ?_
    by_cases hc13 : ((1 : Int32) <<< (x12 &&& 31)) ≤ v1_3
    · rw [if_pos hc13] at h
      refine tw_br (cd := tw_c275) rfl rfl rfl (by exact if_pos hc13) ?_
      refine tw_forget (ls2 := [none, none, some (.int v1_2), none]) ⟨rfl, trivial⟩ ?_
      have h := Option.some.inj h
      subst h
      exact K
    · rw [if_neg hc13] at h
      refine tw_br (cd := tw_c275) rfl rfl rfl (by exact if_neg hc13) ?_
      refine tw_blk (cd := tw_c275) rfl 4 (c1 := (28, [some (.ref 44), some (.int a1), some (.int v1_2), some (.int v1_3)], [.int 6, .ref 49, .int v1_3], (I_1, L, tw_P 2 14 rt sc, A_1, J, 57))) rfl ?_
      obtain ⟨x15, hx14, h⟩ := tw_bindE h
      refine tw_iald (cd := tw_c275) (N := 8) rfl rfl rfl rfl hx14 ?_
      refine tw_blk (cd := tw_c275) rfl 1 (c1 := (30, [some (.ref 44), some (.int a1), some (.int v1_2), some (.int v1_3)], [.int (v1_3 &&& x15)], (I_1, L, tw_P 2 14 rt sc, A_1, J, 57))) rfl ?_
      obtain ⟨⟨x17, I18, A19⟩, hj20, h⟩ := tw_bindE h
      dsimp only at h
      have K : tw_ME 275 (57, [some (.ref 44), some (.int a1), some (.int x17), some (.int v1_3)], [], (I18, L, tw_P 2 14 rt sc, A19, J, 57)) out := by
        refine tw_blk (cd := tw_c275) rfl 2 (c1 := (16, [some (.ref 44), some (.int a1), some (.int x17), some (.int (v1_3 + (1 : Int32)))], [], (I18, L, tw_P 2 14 rt sc, A19, J, 57))) rfl ?_
        exact ih x17 (v1_3 + (1 : Int32)) I18 A19 _ h K
      by_cases hc16 : (v1_3 &&& x15) = 0
      · rw [if_pos hc16] at hj20
        refine tw_br (cd := tw_c275) rfl rfl rfl (by exact if_pos hc16) ?_
        refine tw_blk (cd := tw_c275) rfl 1 (c1 := (32, [some (.ref 44), some (.int a1), some (.int v1_2), some (.int v1_3)], [.int v1_2], (I_1, L, tw_P 2 14 rt sc, A_1, J, 57))) rfl ?_
        by_cases hc21 : v1_2 < 0
        · rw [if_pos hc21] at hj20
          refine tw_br (cd := tw_c275) rfl rfl rfl (by exact if_pos hc21) ?_
          refine tw_blk (cd := tw_c275) rfl 6 (c1 := (45, [some (.ref 44), some (.int a1), some (.int v1_2), some (.int v1_3)], [.int 6, .ref 49, .int 6, .ref 52], (I_1, L, tw_P 2 14 rt sc, A_1, J, 57))) rfl ?_
          obtain ⟨x23, hx22, hj20⟩ := tw_bindE hj20
          refine tw_iald (cd := tw_c275) (N := 8) rfl rfl rfl rfl hx22 ?_
          refine tw_blk (cd := tw_c275) rfl 2 (c1 := (48, [some (.ref 44), some (.int a1), some (.int v1_2), some (.int v1_3)], [.int (x23 ||| v1_3), .int 6, .ref 52], (I_1, L, tw_P 2 14 rt sc, A_1, J, 57))) rfl ?_
          obtain ⟨w25, hx24, hj20⟩ := tw_bindE hj20
          refine tw_iast (cd := tw_c275) (N := 8) rfl rfl rfl rfl hx24 ?_
          refine tw_blk (cd := tw_c275) rfl 2 (c1 := (51, [some (.ref 44), some (.int a1), some (.int v1_2), some (.int v1_3)], [.int a1, .ref 44], (I_1, L, tw_P 2 14 rt sc, (va_up A_1 52 w25), J, 57))) rfl ?_
          obtain ⟨I26, hx27, hj20⟩ := tw_bindE hj20
          refine tw_callE (cd := tw_c275) rfl rfl rfl rfl rfl (e_X10_runTold I_1 L (va_up A_1 52 w25) J rt sc a1 _ hx27) (by exact Or.inl rfl) ?_
          refine tw_blk (cd := tw_c275) rfl 2 (c1 := (54, [some (.ref 44), some (.int a1), some (.int v1_2), some (.int v1_3)], [.int (I26 4425)], (I26, L, tw_P 2 14 rt sc, (va_up A_1 52 w25), J, 57))) rfl ?_
          by_cases hc28 : (I26 4425) ≤ 0
          · rw [if_pos hc28] at hj20
            refine tw_br (cd := tw_c275) rfl rfl rfl (by exact if_pos hc28) ?_
            have hj20s := Option.some.inj hj20
            obtain ⟨hj20_0, hj20r0⟩ := Prod.mk.inj hj20s
            obtain ⟨hj20_1, hj20r1⟩ := Prod.mk.inj hj20r0
            subst hj20_0
            subst hj20_1
            subst hj20r1
            exact K
          · rw [if_neg hc28] at hj20
            refine tw_br (cd := tw_c275) rfl rfl rfl (by exact if_neg hc28) ?_
            refine tw_blk (cd := tw_c275) rfl 2 (c1 := (57, [some (.ref 44), some (.int a1), some (.int v1_3), some (.int v1_3)], [], (I26, L, tw_P 2 14 rt sc, (va_up A_1 52 w25), J, 57))) rfl ?_
            have hj20s := Option.some.inj hj20
            obtain ⟨hj20_0, hj20r0⟩ := Prod.mk.inj hj20s
            obtain ⟨hj20_1, hj20r1⟩ := Prod.mk.inj hj20r0
            subst hj20_0
            subst hj20_1
            subst hj20r1
            exact K
        · rw [if_neg hc21] at hj20
          refine tw_br (cd := tw_c275) rfl rfl rfl (by exact if_neg hc21) ?_
          refine tw_blk (cd := tw_c275) rfl 1 (c1 := (34, [some (.ref 44), some (.int a1), some (.int v1_2), some (.int v1_3)], [.int v1_3], (I_1, L, tw_P 2 14 rt sc, A_1, J, 57))) rfl ?_
          obtain ⟨x29, hx30, hj20⟩ := tw_bindE hj20
          refine tw_callE (cd := tw_c275) rfl rfl rfl rfl rfl (e_X10_ones I_1 L A_1 J rt sc v1_3 _ hx30) (by exact Or.inl rfl) ?_
          refine tw_blk (cd := tw_c275) rfl 1 (c1 := (36, [some (.ref 44), some (.int a1), some (.int v1_2), some (.int v1_3)], [.int v1_2, .int x29], (I_1, L, tw_P 2 14 rt sc, A_1, J, 57))) rfl ?_
          obtain ⟨x31, hx32, hj20⟩ := tw_bindE hj20
          refine tw_callE (cd := tw_c275) rfl rfl rfl rfl rfl (e_X10_ones I_1 L A_1 J rt sc v1_2 _ hx32) (by exact Or.inl rfl) ?_
          by_cases hc33 : x29 < x31
          · rw [if_pos hc33] at hj20
            refine tw_br (cd := tw_c275) rfl rfl rfl (by exact if_pos hc33) ?_
            refine tw_blk (cd := tw_c275) rfl 6 (c1 := (45, [some (.ref 44), some (.int a1), some (.int v1_2), some (.int v1_3)], [.int 6, .ref 49, .int 6, .ref 52], (I_1, L, tw_P 2 14 rt sc, A_1, J, 57))) rfl ?_
            obtain ⟨x35, hx34, hj20⟩ := tw_bindE hj20
            refine tw_iald (cd := tw_c275) (N := 8) rfl rfl rfl rfl hx34 ?_
            refine tw_blk (cd := tw_c275) rfl 2 (c1 := (48, [some (.ref 44), some (.int a1), some (.int v1_2), some (.int v1_3)], [.int (x35 ||| v1_3), .int 6, .ref 52], (I_1, L, tw_P 2 14 rt sc, A_1, J, 57))) rfl ?_
            obtain ⟨w37, hx36, hj20⟩ := tw_bindE hj20
            refine tw_iast (cd := tw_c275) (N := 8) rfl rfl rfl rfl hx36 ?_
            refine tw_blk (cd := tw_c275) rfl 2 (c1 := (51, [some (.ref 44), some (.int a1), some (.int v1_2), some (.int v1_3)], [.int a1, .ref 44], (I_1, L, tw_P 2 14 rt sc, (va_up A_1 52 w37), J, 57))) rfl ?_
            obtain ⟨I38, hx39, hj20⟩ := tw_bindE hj20
            refine tw_callE (cd := tw_c275) rfl rfl rfl rfl rfl (e_X10_runTold I_1 L (va_up A_1 52 w37) J rt sc a1 _ hx39) (by exact Or.inl rfl) ?_
            refine tw_blk (cd := tw_c275) rfl 2 (c1 := (54, [some (.ref 44), some (.int a1), some (.int v1_2), some (.int v1_3)], [.int (I38 4425)], (I38, L, tw_P 2 14 rt sc, (va_up A_1 52 w37), J, 57))) rfl ?_
            by_cases hc40 : (I38 4425) ≤ 0
            · rw [if_pos hc40] at hj20
              refine tw_br (cd := tw_c275) rfl rfl rfl (by exact if_pos hc40) ?_
              have hj20s := Option.some.inj hj20
              obtain ⟨hj20_0, hj20r0⟩ := Prod.mk.inj hj20s
              obtain ⟨hj20_1, hj20r1⟩ := Prod.mk.inj hj20r0
              subst hj20_0
              subst hj20_1
              subst hj20r1
              exact K
            · rw [if_neg hc40] at hj20
              refine tw_br (cd := tw_c275) rfl rfl rfl (by exact if_neg hc40) ?_
              refine tw_blk (cd := tw_c275) rfl 2 (c1 := (57, [some (.ref 44), some (.int a1), some (.int v1_3), some (.int v1_3)], [], (I38, L, tw_P 2 14 rt sc, (va_up A_1 52 w37), J, 57))) rfl ?_
              have hj20s := Option.some.inj hj20
              obtain ⟨hj20_0, hj20r0⟩ := Prod.mk.inj hj20s
              obtain ⟨hj20_1, hj20r1⟩ := Prod.mk.inj hj20r0
              subst hj20_0
              subst hj20_1
              subst hj20r1
              exact K
          · rw [if_neg hc33] at hj20
            refine tw_br (cd := tw_c275) rfl rfl rfl (by exact if_neg hc33) ?_
            refine tw_blk (cd := tw_c275) rfl 1 (c1 := (57, [some (.ref 44), some (.int a1), some (.int v1_2), some (.int v1_3)], [], (I_1, L, tw_P 2 14 rt sc, A_1, J, 57))) rfl ?_
            have hj20s := Option.some.inj hj20
            obtain ⟨hj20_0, hj20r0⟩ := Prod.mk.inj hj20s
            obtain ⟨hj20_1, hj20r1⟩ := Prod.mk.inj hj20r0
            subst hj20_0
            subst hj20_1
            subst hj20r1
            exact K
      · rw [if_neg hc16] at hj20
        refine tw_br (cd := tw_c275) rfl rfl rfl (by exact if_neg hc16) ?_
        have hj20s := Option.some.inj hj20
        obtain ⟨hj20_0, hj20r0⟩ := Prod.mk.inj hj20s
        obtain ⟨hj20_1, hj20r1⟩ := Prod.mk.inj hj20r0
        subst hj20_0
        subst hj20_1
        subst hj20r1
        exact K
theorem e_X10_bricks (I : Nat → Int32) (L : Nat → Int64) (A : Nat → Nat → Int32) (J : Nat → Nat → Int64) (rt : Nat) (sc : Nat) (a1 : Int32) : ∀ r : (Int32 × (Nat → Int32) × (Nat → Nat → Int32)), g_X10_bricks I A a1 = some r → tw_ME 275 (0, [some (.ref 44), some (.int a1), none, none], [], (I, L, tw_P 2 14 rt sc, A, J, 57)) (some (.int r.1), ((r.2.1), L, tw_P 2 14 rt sc, (r.2.2), J, 57)) := by
  intro r h
  unfold g_X10_bricks at h
  refine tw_blk (cd := tw_c275) rfl 1 (c1 := (1, [some (.ref 44), some (.int a1), none, none], [.ref 44], (I, L, tw_P 2 14 rt sc, A, J, 57))) rfl ?_
  obtain ⟨I1, hx2, h⟩ := tw_letE h
  refine tw_callE (cd := tw_c275) rfl rfl rfl rfl rfl (e_X10_good I L A J rt sc _ hx2) (by exact Or.inl rfl) ?_
  refine tw_blk (cd := tw_c275) rfl 2 (c1 := (4, [some (.ref 44), some (.int a1), none, none], [.int a1, .ref 44], (I1, L, tw_P 2 14 rt sc, A, J, 57))) rfl ?_
  obtain ⟨c3, hx4, h⟩ := tw_bindE h
  refine tw_callE (cd := tw_c275) rfl rfl rfl rfl rfl (e_X10_isQuarrel I1 L A J rt sc a1 _ hx4) (by exact Or.inl rfl) ?_
  by_cases hc5 : c3 = true
  · rw [if_pos hc5] at h
    refine tw_br (cd := tw_c275) rfl rfl rfl (by exact if_neg (tw_b_t hc5)) ?_
    refine tw_blk (cd := tw_c275) rfl 1 (c1 := (11, [some (.ref 44), some (.int a1), none, none], [.ref 44], (I1, L, tw_P 2 14 rt sc, A, J, 57))) rfl ?_
    obtain ⟨A6, hx7, h⟩ := tw_bindE h
    refine tw_callE (cd := tw_c275) rfl rfl rfl rfl rfl (e_X10_asNow I1 L A J rt sc _ hx7) (by exact Or.inl rfl) ?_
    refine tw_blk (cd := tw_c275) rfl 4 (c1 := (16, [some (.ref 44), some (.int a1), some (.int (-2)), some (.int 0)], [], (I1, L, tw_P 2 14 rt sc, A6, J, 57))) rfl ?_
    obtain ⟨⟨x8, I9, A10⟩, hx41, h⟩ := tw_bindE h
    dsimp only at h
    refine g_X10_bricks_L1_ok I L A J rt sc a1 I1 c3 A6 _ 4096 (-2 : Int32) (0 : Int32) I1 A6 _ hx41 ?_
    refine tw_blk (cd := tw_c275) rfl 1 (c1 := (60, [none, none, some (.int x8), none], [.int x8], (I9, L, tw_P 2 14 rt sc, A10, J, 57))) rfl ?_
    have h := Option.some.inj h
    subst h
    exact tw_retE (cd := tw_c275) rfl rfl rfl rfl
  · rw [if_neg hc5] at h
    refine tw_br (cd := tw_c275) rfl rfl rfl (by exact if_pos (tw_b_f hc5)) ?_
    refine tw_blk (cd := tw_c275) rfl 2 (c1 := (8, [some (.ref 44), some (.int a1), none, none], [.int 1, .ref 44], (I1, L, tw_P 2 14 rt sc, A, J, 57))) rfl ?_
    obtain ⟨⟨x42, I43⟩, hx44, h⟩ := tw_letE h
    dsimp only at h
    refine tw_callE (cd := tw_c275) rfl rfl rfl rfl rfl (e_X10_no I1 L A J rt sc (1 : Int32) _ hx44) (by exact Or.inl rfl) ?_
    have h := Option.some.inj h
    subst h
    exact tw_retE (cd := tw_c275) rfl rfl rfl rfl
theorem e_X8_canBeHired_2 (I : Nat → Int32) (L : Nat → Int64) (A : Nat → Nat → Int32) (J : Nat → Nat → Int64) (rt : Nat) (sc : Nat) (a1 : Int32) : ∀ r : Bool, g_X8_canBeHired_2 A a1 = r → tw_ME 105 (0, [some (.ref 2), some (.int a1)], [], (I, L, tw_P 2 14 rt sc, A, J, 57)) (some (.int (tw_b r)), (I, L, tw_P 2 14 rt sc, A, J, 57)) := by
  intro r h
  unfold g_X8_canBeHired_2 at h
  refine tw_blk (cd := tw_c105) rfl 3 (c1 := (3, [some (.ref 2), some (.int a1)], [.int a1, .ref 8], (I, L, tw_P 2 14 rt sc, A, J, 57))) rfl ?_
  refine tw_callE (cd := tw_c105) rfl rfl rfl rfl rfl (tw_e_get I L (tw_P 2 14 rt sc) A J (q := 8) (N := 6) rfl rfl (by decide) a1) (by exact Or.inl rfl) ?_
  refine tw_blk (cd := tw_c105) rfl 1 (c1 := (5, [some (.ref 2), some (.int a1)], [.int (-2), .int (tw_get0 6 (A 8) a1)], (I, L, tw_P 2 14 rt sc, A, J, 57))) rfl ?_
  by_cases hc1 : (tw_get0 6 (A 8) a1) = (-2 : Int32)
  · rw [if_pos hc1] at h
    refine tw_br (cd := tw_c105) rfl rfl rfl (by exact if_pos hc1) ?_
    refine tw_blk (cd := tw_c105) rfl 1 (c1 := (9, [some (.ref 2), some (.int a1)], [.int 0], (I, L, tw_P 2 14 rt sc, A, J, 57))) rfl ?_
    subst h
    exact tw_retZ (cd := tw_c105) (b := false) rfl rfl rfl rfl
  · rw [if_neg hc1] at h
    refine tw_br (cd := tw_c105) rfl rfl rfl (by exact if_neg hc1) ?_
    refine tw_blk (cd := tw_c105) rfl 2 (c1 := (9, [some (.ref 2), some (.int a1)], [.int 1], (I, L, tw_P 2 14 rt sc, A, J, 57))) rfl ?_
    subst h
    exact tw_retZ (cd := tw_c105) (b := true) rfl rfl rfl rfl
theorem g_X3_readyFor_L1_ok (I : Nat → Int32) (L : Nat → Int64) (A : Nat → Nat → Int32) (J : Nat → Nat → Int64) (rt : Nat) (a1 : Int32) (out : Option Value × tw_S) : ∀ (n : Nat) (v1_2 : Int32) (v1_3 : Int32) (ex : Int32), g_X3_readyFor_L1 I A n v1_2 v1_3 = some ex → tw_ME 41 (40, [some (.ref 41), some (.int a1), some (.int ex), none, none], [], (I, L, tw_P 2 14 rt 2, A, J, 57)) out → tw_ME 41 (4, [some (.ref 41), some (.int a1), some (.int v1_2), some (.int v1_3), none], [], (I, L, tw_P 2 14 rt 2, A, J, 57)) out := by
  intro n
  induction n with
  | zero =>
    intro v1_2 v1_3 ex h _
    cases h
  | succ n ih =>
    intro v1_2 v1_3 ex h K
    rw [g_X3_readyFor_L1] at h
    refine tw_blk (cd := tw_c41) rfl 1 (c1 := (5, [some (.ref 41), some (.int a1), some (.int v1_2), some (.int v1_3), none], [.int v1_3], (I, L, tw_P 2 14 rt 2, A, J, 57))) rfl ?_
    refine tw_blk (cd := tw_c41) rfl 4 (c1 := (9, [some (.ref 41), some (.int a1), some (.int v1_2), some (.int v1_3), none], [.int 3, .ref 2, .int v1_3], (I, L, tw_P 2 14 rt 2, A, J, 57))) rfl ?_
    refine tw_callE (cd := tw_c41) rfl rfl rfl rfl rfl (e_X8_count_2 I L A J rt 2 (3 : Int32) _ rfl) (by exact Or.inl rfl) ?_
    by_cases hc2 : (g_X8_count_2 A (3 : Int32)) ≤ v1_3
    · rw [if_pos hc2] at h
      refine tw_br (cd := tw_c41) rfl rfl rfl (by exact if_pos hc2) ?_
      refine tw_forget (ls2 := [some (.ref 41), some (.int a1), some (.int v1_2), none, none]) ⟨rfl, rfl, rfl, trivial⟩ ?_
      have h := Option.some.inj h
      subst h
      exact K
    · rw [if_neg hc2] at h
      refine tw_br (cd := tw_c41) rfl rfl rfl (by exact if_neg hc2) ?_
      refine tw_blk (cd := tw_c41) rfl 4 (c1 := (15, [some (.ref 41), some (.int a1), some (.int v1_2), some (.int v1_3), none], [.int v1_3, .int (I 3602)], (I, L, tw_P 2 14 rt 2, A, J, 57))) rfl ?_
      refine tw_callE (cd := tw_c41) rfl rfl rfl rfl rfl (e_X0_sentTo I L A J rt 2 (I 3602) v1_3 _ rfl) (by exact Or.inl rfl) ?_
      refine tw_blk (cd := tw_c41) rfl 1 (c1 := (17, [some (.ref 41), some (.int a1), some (.int v1_2), some (.int v1_3), none], [.int (-1), .int (g_X0_sentTo (I 3602) v1_3)], (I, L, tw_P 2 14 rt 2, A, J, 57))) rfl ?_
      obtain ⟨x4, hj5, h⟩ := tw_bindE h
      have K : tw_ME 41 (21, [some (.ref 41), some (.int a1), some (.int v1_2), some (.int v1_3), none], [.int x4], (I, L, tw_P 2 14 rt 2, A, J, 57)) out := by
        refine tw_blk (cd := tw_c41) rfl 6 (c1 := (27, [some (.ref 41), some (.int a1), some (.int v1_2), some (.int v1_3), some (.int x4)], [.int v1_3, .ref 2, .int v1_2], (I, L, tw_P 2 14 rt 2, A, J, 57))) rfl ?_
        refine tw_callE (cd := tw_c41) rfl rfl rfl rfl rfl (e_X8_canBeHired_2 I L A J rt 2 v1_3 _ rfl) (by exact Or.inl rfl) ?_
        obtain ⟨x7, hj8, h⟩ := tw_bindE h
        have K : tw_ME 41 (36, [some (.ref 41), some (.int a1), none, some (.int v1_3), none], [.int x7, .int v1_2], (I, L, tw_P 2 14 rt 2, A, J, 57)) out := by
          refine tw_blk (cd := tw_c41) rfl 4 (c1 := (4, [some (.ref 41), some (.int a1), some (.int (v1_2 ||| x7)), some (.int (v1_3 + (1 : Int32))), none], [], (I, L, tw_P 2 14 rt 2, A, J, 57))) rfl ?_
          exact ih (v1_2 ||| x7) (v1_3 + (1 : Int32)) _ h K
        by_cases hc6 : (g_X8_canBeHired_2 A v1_3) = true
        · rw [if_pos hc6] at hj8
          refine tw_br (cd := tw_c41) rfl rfl rfl (by exact if_neg (tw_b_t hc6)) ?_
          refine tw_blk (cd := tw_c41) rfl 1 (c1 := (30, [some (.ref 41), some (.int a1), some (.int v1_2), some (.int v1_3), some (.int x4)], [.int x4, .int v1_2], (I, L, tw_P 2 14 rt 2, A, J, 57))) rfl ?_
          by_cases hc9 : x4 = 0
          · rw [if_pos hc9] at hj8
            refine tw_br (cd := tw_c41) rfl rfl rfl (by exact if_pos hc9) ?_
            refine tw_blk (cd := tw_c41) rfl 4 (c1 := (36, [some (.ref 41), some (.int a1), some (.int v1_2), some (.int v1_3), some (.int x4)], [.int ((1 : Int32) <<< (v1_3 &&& 31)), .int v1_2], (I, L, tw_P 2 14 rt 2, A, J, 57))) rfl ?_
            refine tw_forget (ls2 := [some (.ref 41), some (.int a1), none, some (.int v1_3), none]) ⟨rfl, rfl, rfl, trivial⟩ ?_
            have hj8s := Option.some.inj hj8
            subst hj8s
            exact K
          · rw [if_neg hc9] at hj8
            refine tw_br (cd := tw_c41) rfl rfl rfl (by exact if_neg hc9) ?_
            refine tw_blk (cd := tw_c41) rfl 1 (c1 := (36, [some (.ref 41), some (.int a1), some (.int v1_2), some (.int v1_3), some (.int x4)], [.int 0, .int v1_2], (I, L, tw_P 2 14 rt 2, A, J, 57))) rfl ?_
            refine tw_forget (ls2 := [some (.ref 41), some (.int a1), none, some (.int v1_3), none]) ⟨rfl, rfl, rfl, trivial⟩ ?_
            have hj8s := Option.some.inj hj8
            subst hj8s
            exact K
        · rw [if_neg hc6] at hj8
          refine tw_br (cd := tw_c41) rfl rfl rfl (by exact if_pos (tw_b_f hc6)) ?_
          refine tw_blk (cd := tw_c41) rfl 1 (c1 := (36, [some (.ref 41), some (.int a1), some (.int v1_2), some (.int v1_3), some (.int x4)], [.int 0, .int v1_2], (I, L, tw_P 2 14 rt 2, A, J, 57))) rfl ?_
          refine tw_forget (ls2 := [some (.ref 41), some (.int a1), none, some (.int v1_3), none]) ⟨rfl, rfl, rfl, trivial⟩ ?_
          have hj8s := Option.some.inj hj8
          subst hj8s
          exact K
      by_cases hc3 : (g_X0_sentTo (I 3602) v1_3) = (-1 : Int32)
      · rw [if_pos hc3] at hj5
        refine tw_br (cd := tw_c41) rfl rfl rfl (by exact if_pos hc3) ?_
        refine tw_blk (cd := tw_c41) rfl 1 (c1 := (21, [some (.ref 41), some (.int a1), some (.int v1_2), some (.int v1_3), none], [.int 0], (I, L, tw_P 2 14 rt 2, A, J, 57))) rfl ?_
        have hj5s := Option.some.inj hj5
        subst hj5s
        exact K
      · rw [if_neg hc3] at hj5
        refine tw_br (cd := tw_c41) rfl rfl rfl (by exact if_neg hc3) ?_
        refine tw_blk (cd := tw_c41) rfl 2 (c1 := (21, [some (.ref 41), some (.int a1), some (.int v1_2), some (.int v1_3), none], [.int 1], (I, L, tw_P 2 14 rt 2, A, J, 57))) rfl ?_
        have hj5s := Option.some.inj hj5
        subst hj5s
        exact K
theorem e_X3_readyFor (I : Nat → Int32) (L : Nat → Int64) (A : Nat → Nat → Int32) (J : Nat → Nat → Int64) (rt : Nat) (a1 : Int32) : ∀ r : Int32, g_X3_readyFor I A a1 = some r → tw_ME 41 (0, [some (.ref 41), some (.int a1), none, none, none], [], (I, L, tw_P 2 14 rt 2, A, J, 57)) (some (.int r), (I, L, tw_P 2 14 rt 2, A, J, 57)) := by
  intro r h
  unfold g_X3_readyFor at h
  refine tw_blk (cd := tw_c41) rfl 4 (c1 := (4, [some (.ref 41), some (.int a1), some (.int 0), some (.int 0), none], [], (I, L, tw_P 2 14 rt 2, A, J, 57))) rfl ?_
  obtain ⟨x1, hx10, h⟩ := tw_bindE h
  refine g_X3_readyFor_L1_ok I L A J rt a1 _ 4096 (0 : Int32) (0 : Int32) _ hx10 ?_
  refine tw_blk (cd := tw_c41) rfl 5 (c1 := (45, [some (.ref 41), some (.int a1), some (.int x1), none, none], [.int a1, .ref 2, .int x1], (I, L, tw_P 2 14 rt 2, A, J, 57))) rfl ?_
  refine tw_callE (cd := tw_c41) rfl rfl rfl rfl rfl (e_X8_twoOf_2 I L A J rt 2 a1 _ rfl) (by exact Or.inl rfl) ?_
  refine tw_blk (cd := tw_c41) rfl 3 (c1 := (49, [some (.ref 41), some (.int a1), some (.int x1), none, none], [.int (x1 &&& ((g_X8_twoOf_2 A a1) ^^^ (-1 : Int32)))], (I, L, tw_P 2 14 rt 2, A, J, 57))) rfl ?_
  have h := Option.some.inj h
  subst h
  exact tw_retE (cd := tw_c41) rfl rfl rfl rfl
theorem g_X8_priceOf_2_L1_ok (I : Nat → Int32) (L : Nat → Int64) (A : Nat → Nat → Int32) (J : Nat → Nat → Int64) (rt : Nat) (sc : Nat) (a1 : Int32) (out : Option Value × tw_S) : ∀ (n : Nat) (v1_2 : Int32) (v1_3 : Int32) (ex : Int32), g_X8_priceOf_2_L1 A a1 n v1_2 v1_3 = some ex → tw_ME 110 (26, [none, none, some (.int ex), none], [], (I, L, tw_P 2 14 rt sc, A, J, 57)) out → tw_ME 110 (4, [some (.ref 2), some (.int a1), some (.int v1_2), some (.int v1_3)], [], (I, L, tw_P 2 14 rt sc, A, J, 57)) out := by
  intro n
  induction n with
  | zero =>
    intro v1_2 v1_3 ex h _
    cases h
  | succ n ih =>
    intro v1_2 v1_3 ex h K
    rw [g_X8_priceOf_2_L1] at h
    refine tw_blk (cd := tw_c110) rfl 1 (c1 := (5, [some (.ref 2), some (.int a1), some (.int v1_2), some (.int v1_3)], [.int v1_3], (I, L, tw_P 2 14 rt sc, A, J, 57))) rfl ?_
    refine tw_blk (cd := tw_c110) rfl 2 (c1 := (7, [some (.ref 2), some (.int a1), some (.int v1_2), some (.int v1_3)], [.int 3, .ref 2, .int v1_3], (I, L, tw_P 2 14 rt sc, A, J, 57))) rfl ?_
    refine tw_callE (cd := tw_c110) rfl rfl rfl rfl rfl (e_X8_count_2 I L A J rt sc (3 : Int32) _ rfl) (by exact Or.inl rfl) ?_
    by_cases hc2 : (g_X8_count_2 A (3 : Int32)) ≤ v1_3
    · rw [if_pos hc2] at h
      refine tw_br (cd := tw_c110) rfl rfl rfl (by exact if_pos hc2) ?_
      refine tw_forget (ls2 := [none, none, some (.int v1_2), none]) ⟨rfl, trivial⟩ ?_
      have h := Option.some.inj h
      subst h
      exact K
    · rw [if_neg hc2] at h
      refine tw_br (cd := tw_c110) rfl rfl rfl (by exact if_neg hc2) ?_
      refine tw_blk (cd := tw_c110) rfl 6 (c1 := (15, [some (.ref 2), some (.int a1), some (.int v1_2), some (.int v1_3)], [.int ((a1 >>> (v1_3 &&& 31)) &&& (1 : Int32)), .int v1_2], (I, L, tw_P 2 14 rt sc, A, J, 57))) rfl ?_
      obtain ⟨x4, hj5, h⟩ := tw_bindE h
      have K : tw_ME 110 (22, [some (.ref 2), some (.int a1), none, some (.int v1_3)], [.int x4, .int v1_2], (I, L, tw_P 2 14 rt sc, A, J, 57)) out := by
        refine tw_blk (cd := tw_c110) rfl 4 (c1 := (4, [some (.ref 2), some (.int a1), some (.int (v1_2 + x4)), some (.int (v1_3 + (1 : Int32)))], [], (I, L, tw_P 2 14 rt sc, A, J, 57))) rfl ?_
        exact ih (v1_2 + x4) (v1_3 + (1 : Int32)) _ h K
      by_cases hc3 : ((a1 >>> (v1_3 &&& 31)) &&& (1 : Int32)) = 0
      · rw [if_pos hc3] at hj5
        refine tw_br (cd := tw_c110) rfl rfl rfl (by exact if_pos hc3) ?_
        refine tw_blk (cd := tw_c110) rfl 1 (c1 := (22, [some (.ref 2), some (.int a1), some (.int v1_2), some (.int v1_3)], [.int 0, .int v1_2], (I, L, tw_P 2 14 rt sc, A, J, 57))) rfl ?_
        refine tw_forget (ls2 := [some (.ref 2), some (.int a1), none, some (.int v1_3)]) ⟨rfl, rfl, rfl, trivial⟩ ?_
        have hj5s := Option.some.inj hj5
        subst hj5s
        exact K
      · rw [if_neg hc3] at hj5
        refine tw_br (cd := tw_c110) rfl rfl rfl (by exact if_neg hc3) ?_
        refine tw_blk (cd := tw_c110) rfl 3 (c1 := (19, [some (.ref 2), some (.int a1), some (.int v1_2), some (.int v1_3)], [.int v1_3, .ref 8, .int v1_2], (I, L, tw_P 2 14 rt sc, A, J, 57))) rfl ?_
        refine tw_callE (cd := tw_c110) rfl rfl rfl rfl rfl (tw_e_get I L (tw_P 2 14 rt sc) A J (q := 8) (N := 6) rfl rfl (by decide) v1_3) (by exact Or.inl rfl) ?_
        refine tw_blk (cd := tw_c110) rfl 1 (c1 := (22, [some (.ref 2), some (.int a1), some (.int v1_2), some (.int v1_3)], [.int (tw_get0 6 (A 8) v1_3), .int v1_2], (I, L, tw_P 2 14 rt sc, A, J, 57))) rfl ?_
        refine tw_forget (ls2 := [some (.ref 2), some (.int a1), none, some (.int v1_3)]) ⟨rfl, rfl, rfl, trivial⟩ ?_
        have hj5s := Option.some.inj hj5
        subst hj5s
        exact K
theorem e_X8_priceOf_2 (I : Nat → Int32) (L : Nat → Int64) (A : Nat → Nat → Int32) (J : Nat → Nat → Int64) (rt : Nat) (sc : Nat) (a1 : Int32) : ∀ r : Int32, g_X8_priceOf_2 A a1 = some r → tw_ME 110 (0, [some (.ref 2), some (.int a1), none, none], [], (I, L, tw_P 2 14 rt sc, A, J, 57)) (some (.int r), (I, L, tw_P 2 14 rt sc, A, J, 57)) := by
  intro r h
  unfold g_X8_priceOf_2 at h
  refine tw_blk (cd := tw_c110) rfl 4 (c1 := (4, [some (.ref 2), some (.int a1), some (.int 0), some (.int 0)], [], (I, L, tw_P 2 14 rt sc, A, J, 57))) rfl ?_
  obtain ⟨x1, hx6, h⟩ := tw_bindE h
  refine g_X8_priceOf_2_L1_ok I L A J rt sc a1 _ 4096 (0 : Int32) (0 : Int32) _ hx6 ?_
  refine tw_blk (cd := tw_c110) rfl 1 (c1 := (27, [none, none, some (.int x1), none], [.int x1], (I, L, tw_P 2 14 rt sc, A, J, 57))) rfl ?_
  have h := Option.some.inj h
  subst h
  exact tw_retE (cd := tw_c110) rfl rfl rfl rfl
theorem e_X0_sending (I : Nat → Int32) (L : Nat → Int64) (A : Nat → Nat → Int32) (J : Nat → Nat → Int64) (rt : Nat) (sc : Nat) (a0 : Int32) (a1 : Int32) (a2 : Int32) : ∀ r : Int32, g_X0_sending a0 a1 a2 = r → tw_ME 3 (0, [some (.int a0), some (.int a1), some (.int a2)], [], (I, L, tw_P 2 14 rt sc, A, J, 57)) (some (.int r), (I, L, tw_P 2 14 rt sc, A, J, 57)) := by
  intro r h
  unfold g_X0_sending at h
  refine tw_blk (cd := tw_c3) rfl 17 (c1 := (17, [some (.int a0), some (.int a1), some (.int a2)], [.int ((a0 &&& (((7 : Int32) <<< (((3 : Int32) * a1) &&& 31)) ^^^ (-1 : Int32))) ||| ((a2 + (1 : Int32)) <<< (((3 : Int32) * a1) &&& 31)))], (I, L, tw_P 2 14 rt sc, A, J, 57))) rfl ?_
  subst h
  exact tw_retE (cd := tw_c3) rfl rfl rfl rfl
theorem g_X3_sendAll_L1_ok (I : Nat → Int32) (L : Nat → Int64) (A : Nat → Nat → Int32) (J : Nat → Nat → Int64) (rt : Nat) (a1 : Int32) (a2 : Int32) (out : Option Value × tw_S) : ∀ (n : Nat) (v1_3 : Int32) (I_1 : Nat → Int32) (ex : Nat → Int32), g_X3_sendAll_L1 a1 a2 n v1_3 I_1 = some ex → tw_ME 42 (22, [none, none, none, none], [], (ex, L, tw_P 2 14 rt 2, A, J, 57)) out → tw_ME 42 (2, [some (.ref 41), some (.int a1), some (.int a2), some (.int v1_3)], [], (I_1, L, tw_P 2 14 rt 2, A, J, 57)) out := by
  intro n
  induction n with
  | zero =>
    intro v1_3 I_1 ex h _
    cases h
  | succ n ih =>
    intro v1_3 I_1 ex h K
    rw [g_X3_sendAll_L1] at h
    refine tw_blk (cd := tw_c42) rfl 1 (c1 := (3, [some (.ref 41), some (.int a1), some (.int a2), some (.int v1_3)], [.int v1_3], (I_1, L, tw_P 2 14 rt 2, A, J, 57))) rfl ?_
    refine tw_blk (cd := tw_c42) rfl 1 (c1 := (4, [some (.ref 41), some (.int a1), some (.int a2), some (.int v1_3)], [.int 6, .int v1_3], (I_1, L, tw_P 2 14 rt 2, A, J, 57))) rfl ?_
    by_cases hc2 : (6 : Int32) ≤ v1_3
    · rw [if_pos hc2] at h
      refine tw_br (cd := tw_c42) rfl rfl rfl (by exact if_pos hc2) ?_
      refine tw_forget (ls2 := [none, none, none, none]) trivial ?_
      have h := Option.some.inj h
      subst h
      exact K
    · rw [if_neg hc2] at h
      refine tw_br (cd := tw_c42) rfl rfl rfl (by exact if_neg hc2) ?_
      refine tw_blk (cd := tw_c42) rfl 5 (c1 := (10, [some (.ref 41), some (.int a1), some (.int a2), some (.int v1_3)], [.int ((a1 >>> (v1_3 &&& 31)) &&& (1 : Int32))], (I_1, L, tw_P 2 14 rt 2, A, J, 57))) rfl ?_
      obtain ⟨I4, hj5, h⟩ := tw_bindE h
      have K : tw_ME 42 (20, [some (.ref 41), some (.int a1), some (.int a2), some (.int v1_3)], [], (I4, L, tw_P 2 14 rt 2, A, J, 57)) out := by
        refine tw_blk (cd := tw_c42) rfl 2 (c1 := (2, [some (.ref 41), some (.int a1), some (.int a2), some (.int (v1_3 + (1 : Int32)))], [], (I4, L, tw_P 2 14 rt 2, A, J, 57))) rfl ?_
        exact ih (v1_3 + (1 : Int32)) I4 _ h K
      by_cases hc3 : ((a1 >>> (v1_3 &&& 31)) &&& (1 : Int32)) = 0
      · rw [if_pos hc3] at hj5
        refine tw_br (cd := tw_c42) rfl rfl rfl (by exact if_pos hc3) ?_
        have hj5s := Option.some.inj hj5
        subst hj5s
        exact K
      · rw [if_neg hc3] at hj5
        refine tw_br (cd := tw_c42) rfl rfl rfl (by exact if_neg hc3) ?_
        refine tw_blk (cd := tw_c42) rfl 7 (c1 := (18, [some (.ref 41), some (.int a1), some (.int a2), some (.int v1_3)], [.int a2, .int v1_3, .int (I_1 3602), .ref 36], (I_1, L, tw_P 2 14 rt 2, A, J, 57))) rfl ?_
        refine tw_callE (cd := tw_c42) rfl rfl rfl rfl rfl (e_X0_sending I_1 L A J rt 2 (I_1 3602) v1_3 a2 _ rfl) (by exact Or.inl rfl) ?_
        refine tw_blk (cd := tw_c42) rfl 1 (c1 := (20, [some (.ref 41), some (.int a1), some (.int a2), some (.int v1_3)], [], ((upd I_1 3602 (g_X0_sending (I_1 3602) v1_3 a2)), L, tw_P 2 14 rt 2, A, J, 57))) rfl ?_
        have hj5s := Option.some.inj hj5
        subst hj5s
        exact K
theorem e_X3_sendAll (I : Nat → Int32) (L : Nat → Int64) (A : Nat → Nat → Int32) (J : Nat → Nat → Int64) (rt : Nat) (a1 : Int32) (a2 : Int32) : ∀ r : Nat → Int32, g_X3_sendAll I a1 a2 = some r → tw_ME 42 (0, [some (.ref 41), some (.int a1), some (.int a2), none], [], (I, L, tw_P 2 14 rt 2, A, J, 57)) (none, (r, L, tw_P 2 14 rt 2, A, J, 57)) := by
  intro r h
  unfold g_X3_sendAll at h
  refine tw_blk (cd := tw_c42) rfl 2 (c1 := (2, [some (.ref 41), some (.int a1), some (.int a2), some (.int 0)], [], (I, L, tw_P 2 14 rt 2, A, J, 57))) rfl ?_
  obtain ⟨I1, hx6, h⟩ := tw_bindE h
  refine g_X3_sendAll_L1_ok I L A J rt a1 a2 _ 4096 (0 : Int32) I _ hx6 ?_
  have h := Option.some.inj h
  subst h
  exact tw_retE (cd := tw_c42) rfl rfl rfl rfl
theorem g_X3_cheapestStoppers_L1_ok (I : Nat → Int32) (L : Nat → Int64) (A : Nat → Nat → Int32) (J : Nat → Nat → Int64) (rt : Nat) (a1 : Int32) (x1 : Int32) (out : Option Value × tw_S) : ∀ (n : Nat) (v1_4 : Int32) (v1_5 : Int32) (I_1 : Nat → Int32) (A_1 : Nat → Nat → Int32) (ex : (Int32 × (Nat → Int32) × (Nat → Nat → Int32))), g_X3_cheapestStoppers_L1 I a1 x1 n v1_4 v1_5 I_1 A_1 = some ex → tw_ME 40 (68, [none, none, none, none, some (.int (ex.1)), none, none], [], ((ex.2.1), L, tw_P 2 14 rt 2, (ex.2.2), J, 57)) out → tw_ME 40 (12, [some (.ref 41), some (.int a1), some (.int (I 3602)), some (.int x1), some (.int v1_4), some (.int v1_5), none], [], (I_1, L, tw_P 2 14 rt 2, A_1, J, 57)) out := by
  intro n
  induction n with
  | zero =>
    intro v1_4 v1_5 I_1 A_1 ex h _
    cases h
  | succ n ih =>
    intro v1_4 v1_5 I_1 A_1 ex h K
    rw [g_X3_cheapestStoppers_L1] at h
    refine tw_blk (cd := tw_c40) rfl 1 (c1 := (13, [some (.ref 41), some (.int a1), some (.int (I 3602)), some (.int x1), some (.int v1_4), some (.int v1_5), none], [.int v1_5], (I_1, L, tw_P 2 14 rt 2, A_1, J, 57))) rfl ?_
    refine tw_blk (cd := tw_c40) rfl 1 (c1 := (14, [some (.ref 41), some (.int a1), some (.int (I 3602)), some (.int x1), some (.int v1_4), some (.int v1_5), none], [.int x1, .int v1_5], (I_1, L, tw_P 2 14 rt 2, A_1, J, 57))) rfl ?_
    by_cases hc6 : x1 < v1_5
    · rw [if_pos hc6] at h
      refine tw_br (cd := tw_c40) rfl rfl rfl (by exact if_pos hc6) ?_
      refine tw_forget (ls2 := [none, none, none, none, some (.int v1_4), none, none]) ⟨rfl, trivial⟩ ?_
      have h := Option.some.inj h
      subst h
      exact K
    · rw [if_neg hc6] at h
      refine tw_br (cd := tw_c40) rfl rfl rfl (by exact if_neg hc6) ?_
      refine tw_blk (cd := tw_c40) rfl 2 (c1 := (17, [some (.ref 41), some (.int a1), some (.int (I 3602)), some (.int x1), some (.int v1_4), some (.int v1_5), none], [.int (-2), .int v1_4], (I_1, L, tw_P 2 14 rt 2, A_1, J, 57))) rfl ?_
      obtain ⟨x8, hj9, h⟩ := tw_bindE h
      have K : tw_ME 40 (32, [some (.ref 41), some (.int a1), some (.int (I 3602)), some (.int x1), some (.int v1_4), some (.int v1_5), none], [.int x8], (I_1, L, tw_P 2 14 rt 2, A_1, J, 57)) out := by
        refine tw_blk (cd := tw_c40) rfl 6 (c1 := (38, [some (.ref 41), some (.int a1), some (.int (I 3602)), some (.int x1), some (.int v1_4), some (.int v1_5), some (.int x8)], [.int (v1_5 &&& (x1 ^^^ (-1 : Int32)))], (I_1, L, tw_P 2 14 rt 2, A_1, J, 57))) rfl ?_
        obtain ⟨⟨x16, I17, A18⟩, hj19, h⟩ := tw_bindE h
        dsimp only at h
        have K : tw_ME 40 (66, [some (.ref 41), some (.int a1), some (.int (I 3602)), some (.int x1), some (.int x16), some (.int v1_5), none], [], (I17, L, tw_P 2 14 rt 2, A18, J, 57)) out := by
          refine tw_blk (cd := tw_c40) rfl 2 (c1 := (12, [some (.ref 41), some (.int a1), some (.int (I 3602)), some (.int x1), some (.int x16), some (.int (v1_5 + (1 : Int32))), none], [], (I17, L, tw_P 2 14 rt 2, A18, J, 57))) rfl ?_
          exact ih x16 (v1_5 + (1 : Int32)) I17 A18 _ h K
        by_cases hc15 : (v1_5 &&& (x1 ^^^ (-1 : Int32))) = 0
        · rw [if_pos hc15] at hj19
          refine tw_br (cd := tw_c40) rfl rfl rfl (by exact if_pos hc15) ?_
          refine tw_blk (cd := tw_c40) rfl 1 (c1 := (40, [some (.ref 41), some (.int a1), some (.int (I 3602)), some (.int x1), some (.int v1_4), some (.int v1_5), some (.int x8)], [.int x8], (I_1, L, tw_P 2 14 rt 2, A_1, J, 57))) rfl ?_
          by_cases hc20 : x8 = 0
          · rw [if_pos hc20] at hj19
            refine tw_br (cd := tw_c40) rfl rfl rfl (by exact if_pos hc20) ?_
            refine tw_forget (ls2 := [some (.ref 41), some (.int a1), some (.int (I 3602)), some (.int x1), some (.int v1_4), some (.int v1_5), none]) ⟨rfl, rfl, rfl, rfl, rfl, rfl, trivial⟩ ?_
            have hj19s := Option.some.inj hj19
            obtain ⟨hj19_0, hj19r0⟩ := Prod.mk.inj hj19s
            obtain ⟨hj19_1, hj19r1⟩ := Prod.mk.inj hj19r0
            subst hj19_0
            subst hj19_1
            subst hj19r1
            exact K
          · rw [if_neg hc20] at hj19
            refine tw_br (cd := tw_c40) rfl rfl rfl (by exact if_neg hc20) ?_
            refine tw_blk (cd := tw_c40) rfl 7 (c1 := (48, [some (.ref 41), some (.int a1), some (.int (I 3602)), some (.int x1), some (.int v1_4), some (.int v1_5), some (.int x8)], [.int 2, .int a1, .ref 2, .int v1_5, .ref 41], (I_1, L, tw_P 2 14 rt 2, A_1, J, 57))) rfl ?_
            refine tw_callE (cd := tw_c40) rfl rfl rfl rfl rfl (e_X8_fact_2 I_1 L A_1 J rt 2 a1 (2 : Int32) _ rfl) (by exact Or.inl rfl) ?_
            obtain ⟨I21, hx22, hj19⟩ := tw_bindE hj19
            refine tw_callE (cd := tw_c40) rfl rfl rfl rfl rfl (e_X3_sendAll I_1 L A_1 J rt v1_5 (g_X8_fact_2 A_1 a1 (2 : Int32)) _ hx22) (by exact Or.inl rfl) ?_
            refine tw_blk (cd := tw_c40) rfl 3 (c1 := (53, [some (.ref 41), some (.int a1), some (.int (I 3602)), some (.int x1), some (.int v1_4), some (.int v1_5), some (.int x8)], [.int a1, .ref 39], (I21, L, tw_P 2 14 rt 2, A_1, J, 57))) rfl ?_
            obtain ⟨⟨I23, A24⟩, hx25, hj19⟩ := tw_bindE hj19
            dsimp only at hj19
            refine tw_callE (cd := tw_c40) rfl rfl rfl rfl rfl (e_X1_runAsTold I21 L A_1 J rt a1 _ hx25) (by exact Or.inl rfl) ?_
            refine tw_blk (cd := tw_c40) rfl 7 (c1 := (61, [some (.ref 41), some (.int a1), some (.int (I 3602)), some (.int x1), some (.int v1_4), some (.int v1_5), some (.int x8)], [.int (I23 3902)], ((upd I23 3602 (I 3602)), L, tw_P 2 14 rt 2, A24, J, 57))) rfl ?_
            obtain ⟨x27, hj28, hj19⟩ := tw_bindE hj19
            have K : tw_ME 40 (65, [some (.ref 41), some (.int a1), some (.int (I 3602)), some (.int x1), none, some (.int v1_5), none], [.int x27], ((upd I23 3602 (I 3602)), L, tw_P 2 14 rt 2, A24, J, 57)) (some (.int r.1), ((r.2.1), L, tw_P 2 14 rt 2, (r.2.2), J, 57)) := by
              refine tw_blk (cd := tw_c40) rfl 1 (c1 := (66, [some (.ref 41), some (.int a1), some (.int (I 3602)), some (.int x1), some (.int x27), some (.int v1_5), none], [], ((upd I23 3602 (I 3602)), L, tw_P 2 14 rt 2, A24, J, 57))) rfl ?_
              have hj19s := Option.some.inj hj19
              obtain ⟨hj19_0, hj19r0⟩ := Prod.mk.inj hj19s
              obtain ⟨hj19_1, hj19r1⟩ := Prod.mk.inj hj19r0
              subst hj19_0
              subst hj19_1
              subst hj19r1
              exact K
            by_cases hc26 : (I23 3902) = 0
            · rw [if_pos hc26] at hj28
              refine tw_br (cd := tw_c40) rfl rfl rfl (by exact if_pos hc26) ?_
              refine tw_blk (cd := tw_c40) rfl 2 (c1 := (65, [some (.ref 41), some (.int a1), some (.int (I 3602)), some (.int x1), some (.int v1_4), some (.int v1_5), some (.int x8)], [.int v1_5], ((upd I23 3602 (I 3602)), L, tw_P 2 14 rt 2, A24, J, 57))) rfl ?_
              refine tw_forget (ls2 := [some (.ref 41), some (.int a1), some (.int (I 3602)), some (.int x1), none, some (.int v1_5), none]) ⟨rfl, rfl, rfl, rfl, rfl, trivial⟩ ?_
              have hj28s := Option.some.inj hj28
              subst hj28s
              exact K
            · rw [if_neg hc26] at hj28
              refine tw_br (cd := tw_c40) rfl rfl rfl (by exact if_neg hc26) ?_
              refine tw_blk (cd := tw_c40) rfl 1 (c1 := (65, [some (.ref 41), some (.int a1), some (.int (I 3602)), some (.int x1), some (.int v1_4), some (.int v1_5), some (.int x8)], [.int v1_4], ((upd I23 3602 (I 3602)), L, tw_P 2 14 rt 2, A24, J, 57))) rfl ?_
              refine tw_forget (ls2 := [some (.ref 41), some (.int a1), some (.int (I 3602)), some (.int x1), none, some (.int v1_5), none]) ⟨rfl, rfl, rfl, rfl, rfl, trivial⟩ ?_
              have hj28s := Option.some.inj hj28
              subst hj28s
              exact K
        · rw [if_neg hc15] at hj19
          refine tw_br (cd := tw_c40) rfl rfl rfl (by exact if_neg hc15) ?_
          refine tw_forget (ls2 := [some (.ref 41), some (.int a1), some (.int (I 3602)), some (.int x1), some (.int v1_4), some (.int v1_5), none]) ⟨rfl, rfl, rfl, rfl, rfl, rfl, trivial⟩ ?_
          have hj19s := Option.some.inj hj19
          obtain ⟨hj19_0, hj19r0⟩ := Prod.mk.inj hj19s
          obtain ⟨hj19_1, hj19r1⟩ := Prod.mk.inj hj19r0
          subst hj19_0
          subst hj19_1
          subst hj19r1
          exact K
      by_cases hc7 : v1_4 = (-2 : Int32)
      · rw [if_pos hc7] at hj9
        refine tw_br (cd := tw_c40) rfl rfl rfl (by exact if_pos hc7) ?_
        refine tw_blk (cd := tw_c40) rfl 2 (c1 := (32, [some (.ref 41), some (.int a1), some (.int (I 3602)), some (.int x1), some (.int v1_4), some (.int v1_5), none], [.int 1], (I_1, L, tw_P 2 14 rt 2, A_1, J, 57))) rfl ?_
        have hj9s := Option.some.inj hj9
        subst hj9s
        exact K
      · rw [if_neg hc7] at hj9
        refine tw_br (cd := tw_c40) rfl rfl rfl (by exact if_neg hc7) ?_
        refine tw_blk (cd := tw_c40) rfl 4 (c1 := (22, [some (.ref 41), some (.int a1), some (.int (I 3602)), some (.int x1), some (.int v1_4), some (.int v1_5), none], [.int v1_5, .ref 2], (I_1, L, tw_P 2 14 rt 2, A_1, J, 57))) rfl ?_
        obtain ⟨x10, hx11, hj9⟩ := tw_bindE hj9
        refine tw_callE (cd := tw_c40) rfl rfl rfl rfl rfl (e_X8_priceOf_2 I_1 L A_1 J rt 2 v1_5 _ hx11) (by exact Or.inl rfl) ?_
        refine tw_blk (cd := tw_c40) rfl 4 (c1 := (27, [some (.ref 41), some (.int a1), some (.int (I 3602)), some (.int x1), some (.int v1_4), some (.int v1_5), none], [.int v1_4, .ref 2, .int x10], (I_1, L, tw_P 2 14 rt 2, A_1, J, 57))) rfl ?_
        obtain ⟨x12, hx13, hj9⟩ := tw_bindE hj9
        refine tw_callE (cd := tw_c40) rfl rfl rfl rfl rfl (e_X8_priceOf_2 I_1 L A_1 J rt 2 v1_4 _ hx13) (by exact Or.inl rfl) ?_
        by_cases hc14 : x12 ≤ x10
        · rw [if_pos hc14] at hj9
          refine tw_br (cd := tw_c40) rfl rfl rfl (by exact if_pos hc14) ?_
          refine tw_blk (cd := tw_c40) rfl 1 (c1 := (32, [some (.ref 41), some (.int a1), some (.int (I 3602)), some (.int x1), some (.int v1_4), some (.int v1_5), none], [.int 0], (I_1, L, tw_P 2 14 rt 2, A_1, J, 57))) rfl ?_
          have hj9s := Option.some.inj hj9
          subst hj9s
          exact K
        · rw [if_neg hc14] at hj9
          refine tw_br (cd := tw_c40) rfl rfl rfl (by exact if_neg hc14) ?_
          refine tw_blk (cd := tw_c40) rfl 2 (c1 := (32, [some (.ref 41), some (.int a1), some (.int (I 3602)), some (.int x1), some (.int v1_4), some (.int v1_5), none], [.int 1], (I_1, L, tw_P 2 14 rt 2, A_1, J, 57))) rfl ?_
          have hj9s := Option.some.inj hj9
          subst hj9s
          exact K
theorem e_X3_cheapestStoppers (I : Nat → Int32) (L : Nat → Int64) (A : Nat → Nat → Int32) (J : Nat → Nat → Int64) (rt : Nat) (a1 : Int32) : ∀ r : (Int32 × (Nat → Int32) × (Nat → Nat → Int32)), g_X3_cheapestStoppers I A a1 = some r → tw_ME 40 (0, [some (.ref 41), some (.int a1), none, none, none, none, none], [], (I, L, tw_P 2 14 rt 2, A, J, 57)) (some (.int r.1), ((r.2.1), L, tw_P 2 14 rt 2, (r.2.2), J, 57)) := by
  intro r h
  unfold g_X3_cheapestStoppers at h
  refine tw_blk (cd := tw_c40) rfl 6 (c1 := (6, [some (.ref 41), some (.int a1), some (.int (I 3602)), none, none, none, none], [.int a1, .ref 41], (I, L, tw_P 2 14 rt 2, A, J, 57))) rfl ?_
  obtain ⟨x1, hx2, h⟩ := tw_bindE h
  refine tw_callE (cd := tw_c40) rfl rfl rfl rfl rfl (e_X3_readyFor I L A J rt a1 _ hx2) (by exact Or.inl rfl) ?_
  refine tw_blk (cd := tw_c40) rfl 5 (c1 := (12, [some (.ref 41), some (.int a1), some (.int (I 3602)), some (.int x1), some (.int (-2)), some (.int 0), none], [], (I, L, tw_P 2 14 rt 2, A, J, 57))) rfl ?_
  obtain ⟨⟨x3, I4, A5⟩, hx29, h⟩ := tw_bindE h
  dsimp only at h
  refine g_X3_cheapestStoppers_L1_ok I L A J rt a1 x1 _ 4096 (-2 : Int32) (0 : Int32) I A _ hx29 ?_
  refine tw_blk (cd := tw_c40) rfl 1 (c1 := (69, [none, none, none, none, some (.int x3), none, none], [.int x3], (I4, L, tw_P 2 14 rt 2, A5, J, 57))) rfl ?_
  have h := Option.some.inj h
  subst h
  exact tw_retE (cd := tw_c40) rfl rfl rfl rfl
theorem e_X9_stoppers (I : Nat → Int32) (L : Nat → Int64) (A : Nat → Nat → Int32) (J : Nat → Nat → Int64) (rt : Nat) (sc : Nat) (a1 : Int32) : ∀ r : (Int32 × (Nat → Int32) × (Nat → Nat → Int32) × Nat), g_X9_stoppers I A sc a1 = some r → tw_ME 139 (0, [some (.ref 0), some (.int a1)], [], (I, L, tw_P 2 14 rt sc, A, J, 57)) (some (.int r.1), ((r.2.1), L, tw_P 2 14 rt (r.2.2.2), (r.2.2.1), J, 57)) := by
  intro r h
  unfold g_X9_stoppers at h
  refine tw_blk (cd := tw_c139) rfl 2 (c1 := (2, [some (.ref 0), some (.int a1)], [.int a1, .ref 0], (I, L, tw_P 2 14 rt sc, A, J, 57))) rfl ?_
  refine tw_callE (cd := tw_c139) rfl rfl rfl rfl rfl (e_X9_isQuarrel I L A J rt sc a1 _ rfl) (by exact Or.inl rfl) ?_
  by_cases hc1 : (g_X9_isQuarrel A a1) = true
  · rw [if_pos hc1] at h
    refine tw_br (cd := tw_c139) rfl rfl rfl (by exact if_neg (tw_b_t hc1)) ?_
    refine tw_blk (cd := tw_c139) rfl 1 (c1 := (9, [some (.ref 0), some (.int a1)], [.ref 0], (I, L, tw_P 2 14 rt sc, A, J, 57))) rfl ?_
    obtain ⟨⟨I2, A3⟩, hx4, h⟩ := tw_bindE h
    dsimp only at h
    refine tw_callE (cd := tw_c139) rfl rfl rfl rfl rfl (e_X9_showNow I L A J rt sc _ hx4) (by exact Or.inl rfl) ?_
    refine tw_blk (cd := tw_c139) rfl 4 (c1 := (14, [some (.ref 0), some (.int a1)], [.int a1, .ref 41, .ref 0], (I2, L, tw_P 2 14 rt 2, A3, J, 57))) rfl ?_
    obtain ⟨⟨x5, I6, A7⟩, hx8, h⟩ := tw_bindE h
    dsimp only at h
    refine tw_callE (cd := tw_c139) rfl rfl rfl rfl rfl (e_X3_cheapestStoppers I2 L A3 J rt a1 _ hx8) (by exact Or.inl rfl) ?_
    obtain ⟨⟨x9, I10⟩, hx11, h⟩ := tw_letE h
    dsimp only at h
    refine tw_callE (cd := tw_c139) rfl rfl rfl rfl rfl (e_X9_grant I6 L A7 J rt 2 x5 _ hx11) (by exact Or.inl rfl) ?_
    have h := Option.some.inj h
    subst h
    exact tw_retE (cd := tw_c139) rfl rfl rfl rfl
  · rw [if_neg hc1] at h
    refine tw_br (cd := tw_c139) rfl rfl rfl (by exact if_pos (tw_b_f hc1)) ?_
    refine tw_blk (cd := tw_c139) rfl 2 (c1 := (6, [some (.ref 0), some (.int a1)], [.int 1, .ref 0], (I, L, tw_P 2 14 rt sc, A, J, 57))) rfl ?_
    obtain ⟨⟨x12, I13⟩, hx14, h⟩ := tw_letE h
    dsimp only at h
    refine tw_callE (cd := tw_c139) rfl rfl rfl rfl rfl (e_X9_refuse I L A J rt sc (1 : Int32) _ hx14) (by exact Or.inl rfl) ?_
    have h := Option.some.inj h
    subst h
    exact tw_retE (cd := tw_c139) rfl rfl rfl rfl
theorem e_X10_canHire (I : Nat → Int32) (L : Nat → Int64) (A : Nat → Nat → Int32) (J : Nat → Nat → Int64) (rt : Nat) (sc : Nat) (a1 : Int32) : ∀ r : Bool, g_X10_canHire A a1 = some r → tw_ME 276 (0, [some (.ref 44), some (.int a1)], [], (I, L, tw_P 2 14 rt sc, A, J, 57)) (some (.int (tw_b r)), (I, L, tw_P 2 14 rt sc, A, J, 57)) := by
  intro r h
  unfold g_X10_canHire at h
  refine tw_blk (cd := tw_c276) rfl 9 (c1 := (9, [some (.ref 44), some (.int a1)], [.int (((26 : Int32) + ((4 : Int32) * a1)) + (3 : Int32)), .ref 47], (I, L, tw_P 2 14 rt sc, A, J, 57))) rfl ?_
  obtain ⟨x2, hx1, h⟩ := tw_bindE h
  refine tw_iald (cd := tw_c276) (N := 241) rfl rfl rfl rfl hx1 ?_
  by_cases hc3 : x2 ≤ 0
  · rw [if_pos hc3] at h
    refine tw_br (cd := tw_c276) rfl rfl rfl (by exact if_pos hc3) ?_
    refine tw_blk (cd := tw_c276) rfl 1 (c1 := (14, [some (.ref 44), some (.int a1)], [.int 0], (I, L, tw_P 2 14 rt sc, A, J, 57))) rfl ?_
    have h := Option.some.inj h
    subst h
    exact tw_retZ (cd := tw_c276) (b := false) rfl rfl rfl rfl
  · rw [if_neg hc3] at h
    refine tw_br (cd := tw_c276) rfl rfl rfl (by exact if_neg hc3) ?_
    refine tw_blk (cd := tw_c276) rfl 2 (c1 := (14, [some (.ref 44), some (.int a1)], [.int 1], (I, L, tw_P 2 14 rt sc, A, J, 57))) rfl ?_
    have h := Option.some.inj h
    subst h
    exact tw_retZ (cd := tw_c276) (b := true) rfl rfl rfl rfl
theorem g_X10_priceOf_L1_ok (I : Nat → Int32) (L : Nat → Int64) (A : Nat → Nat → Int32) (J : Nat → Nat → Int64) (rt : Nat) (sc : Nat) (a1 : Int32) (out : Option Value × tw_S) : ∀ (n : Nat) (v1_2 : Int32) (v1_3 : Int32) (ex : Int32), g_X10_priceOf_L1 A a1 n v1_2 v1_3 = some ex → tw_ME 277 (33, [none, none, some (.int ex), none], [], (I, L, tw_P 2 14 rt sc, A, J, 57)) out → tw_ME 277 (4, [some (.ref 44), some (.int a1), some (.int v1_2), some (.int v1_3)], [], (I, L, tw_P 2 14 rt sc, A, J, 57)) out := by
  intro n
  induction n with
  | zero =>
    intro v1_2 v1_3 ex h _
    cases h
  | succ n ih =>
    intro v1_2 v1_3 ex h K
    rw [g_X10_priceOf_L1] at h
    refine tw_blk (cd := tw_c277) rfl 1 (c1 := (5, [some (.ref 44), some (.int a1), some (.int v1_2), some (.int v1_3)], [.int v1_3], (I, L, tw_P 2 14 rt sc, A, J, 57))) rfl ?_
    refine tw_blk (cd := tw_c277) rfl 3 (c1 := (8, [some (.ref 44), some (.int a1), some (.int v1_2), some (.int v1_3)], [.int 3, .ref 47, .int v1_3], (I, L, tw_P 2 14 rt sc, A, J, 57))) rfl ?_
    obtain ⟨x3, hx2, h⟩ := tw_bindE h
    refine tw_iald (cd := tw_c277) (N := 241) rfl rfl rfl rfl hx2 ?_
    by_cases hc4 : x3 ≤ v1_3
    · rw [if_pos hc4] at h
      refine tw_br (cd := tw_c277) rfl rfl rfl (by exact if_pos hc4) ?_
      refine tw_forget (ls2 := [none, none, some (.int v1_2), none]) ⟨rfl, trivial⟩ ?_
      have h := Option.some.inj h
      subst h
      exact K
    · rw [if_neg hc4] at h
      refine tw_br (cd := tw_c277) rfl rfl rfl (by exact if_neg hc4) ?_
      refine tw_blk (cd := tw_c277) rfl 3 (c1 := (13, [some (.ref 44), some (.int a1), some (.int v1_2), some (.int v1_3)], [.int v1_3, .int a1, .int v1_2], (I, L, tw_P 2 14 rt sc, A, J, 57))) rfl ?_
      refine tw_callE (cd := tw_c277) rfl rfl rfl rfl rfl (e_X10_hasBit I L A J rt sc a1 v1_3 _ rfl) (by exact Or.inl rfl) ?_
      obtain ⟨x6, hj7, h⟩ := tw_bindE h
      have K : tw_ME 277 (29, [some (.ref 44), some (.int a1), none, some (.int v1_3)], [.int x6, .int v1_2], (I, L, tw_P 2 14 rt sc, A, J, 57)) out := by
        refine tw_blk (cd := tw_c277) rfl 4 (c1 := (4, [some (.ref 44), some (.int a1), some (.int (v1_2 + x6)), some (.int (v1_3 + (1 : Int32)))], [], (I, L, tw_P 2 14 rt sc, A, J, 57))) rfl ?_
        exact ih (v1_2 + x6) (v1_3 + (1 : Int32)) _ h K
      by_cases hc5 : (g_X10_hasBit a1 v1_3) = true
      · rw [if_pos hc5] at hj7
        refine tw_br (cd := tw_c277) rfl rfl rfl (by exact if_neg (tw_b_t hc5)) ?_
        refine tw_blk (cd := tw_c277) rfl 9 (c1 := (24, [some (.ref 44), some (.int a1), some (.int v1_2), some (.int v1_3)], [.int (((26 : Int32) + ((4 : Int32) * v1_3)) + (3 : Int32)), .ref 47, .int v1_2], (I, L, tw_P 2 14 rt sc, A, J, 57))) rfl ?_
        obtain ⟨x9, hx8, hj7⟩ := tw_bindE hj7
        refine tw_iald (cd := tw_c277) (N := 241) rfl rfl rfl rfl hx8 ?_
        refine tw_blk (cd := tw_c277) rfl 3 (c1 := (29, [some (.ref 44), some (.int a1), some (.int v1_2), some (.int v1_3)], [.int (x9 - (1 : Int32)), .int v1_2], (I, L, tw_P 2 14 rt sc, A, J, 57))) rfl ?_
        refine tw_forget (ls2 := [some (.ref 44), some (.int a1), none, some (.int v1_3)]) ⟨rfl, rfl, rfl, trivial⟩ ?_
        have hj7s := Option.some.inj hj7
        subst hj7s
        exact K
      · rw [if_neg hc5] at hj7
        refine tw_br (cd := tw_c277) rfl rfl rfl (by exact if_pos (tw_b_f hc5)) ?_
        refine tw_blk (cd := tw_c277) rfl 1 (c1 := (29, [some (.ref 44), some (.int a1), some (.int v1_2), some (.int v1_3)], [.int 0, .int v1_2], (I, L, tw_P 2 14 rt sc, A, J, 57))) rfl ?_
        refine tw_forget (ls2 := [some (.ref 44), some (.int a1), none, some (.int v1_3)]) ⟨rfl, rfl, rfl, trivial⟩ ?_
        have hj7s := Option.some.inj hj7
        subst hj7s
        exact K
theorem e_X10_priceOf (I : Nat → Int32) (L : Nat → Int64) (A : Nat → Nat → Int32) (J : Nat → Nat → Int64) (rt : Nat) (sc : Nat) (a1 : Int32) : ∀ r : Int32, g_X10_priceOf A a1 = some r → tw_ME 277 (0, [some (.ref 44), some (.int a1), none, none], [], (I, L, tw_P 2 14 rt sc, A, J, 57)) (some (.int r), (I, L, tw_P 2 14 rt sc, A, J, 57)) := by
  intro r h
  unfold g_X10_priceOf at h
  refine tw_blk (cd := tw_c277) rfl 4 (c1 := (4, [some (.ref 44), some (.int a1), some (.int 0), some (.int 0)], [], (I, L, tw_P 2 14 rt sc, A, J, 57))) rfl ?_
  obtain ⟨x1, hx10, h⟩ := tw_bindE h
  refine g_X10_priceOf_L1_ok I L A J rt sc a1 _ 4096 (0 : Int32) (0 : Int32) _ hx10 ?_
  refine tw_blk (cd := tw_c277) rfl 1 (c1 := (34, [none, none, some (.int x1), none], [.int x1], (I, L, tw_P 2 14 rt sc, A, J, 57))) rfl ?_
  have h := Option.some.inj h
  subst h
  exact tw_retE (cd := tw_c277) rfl rfl rfl rfl
theorem g_X10_stoppersOf_L1_ok (I : Nat → Int32) (L : Nat → Int64) (A : Nat → Nat → Int32) (J : Nat → Nat → Int64) (rt : Nat) (sc : Nat) (a1 : Int32) (out : Option Value × tw_S) : ∀ (n : Nat) (v1_3 : Int32) (v1_4 : Int32) (ex : Int32), g_X10_stoppersOf_L1 A a1 n v1_3 v1_4 = some ex → tw_ME 278 (49, [some (.ref 44), some (.int a1), some (.int ((80 : Int32) + ((5 : Int32) * a1))), some (.int ex), none, none, none], [], (I, L, tw_P 2 14 rt sc, A, J, 57)) out → tw_ME 278 (10, [some (.ref 44), some (.int a1), some (.int ((80 : Int32) + ((5 : Int32) * a1))), some (.int v1_3), some (.int v1_4), none, none], [], (I, L, tw_P 2 14 rt sc, A, J, 57)) out := by
  intro n
  induction n with
  | zero =>
    intro v1_3 v1_4 ex h _
    cases h
  | succ n ih =>
    intro v1_3 v1_4 ex h K
    rw [g_X10_stoppersOf_L1] at h
    refine tw_blk (cd := tw_c278) rfl 1 (c1 := (11, [some (.ref 44), some (.int a1), some (.int ((80 : Int32) + ((5 : Int32) * a1))), some (.int v1_3), some (.int v1_4), none, none], [.int v1_4], (I, L, tw_P 2 14 rt sc, A, J, 57))) rfl ?_
    refine tw_blk (cd := tw_c278) rfl 3 (c1 := (14, [some (.ref 44), some (.int a1), some (.int ((80 : Int32) + ((5 : Int32) * a1))), some (.int v1_3), some (.int v1_4), none, none], [.int 3, .ref 47, .int v1_4], (I, L, tw_P 2 14 rt sc, A, J, 57))) rfl ?_
    obtain ⟨x3, hx2, h⟩ := tw_bindE h
    refine tw_iald (cd := tw_c278) (N := 241) rfl rfl rfl rfl hx2 ?_
    by_cases hc4 : x3 ≤ v1_4
    · rw [if_pos hc4] at h
      refine tw_br (cd := tw_c278) rfl rfl rfl (by exact if_pos hc4) ?_
      refine tw_forget (ls2 := [some (.ref 44), some (.int a1), some (.int ((80 : Int32) + ((5 : Int32) * a1))), some (.int v1_3), none, none, none]) ⟨rfl, rfl, rfl, rfl, trivial⟩ ?_
      have h := Option.some.inj h
      subst h
      exact K
    · rw [if_neg hc4] at h
      refine tw_br (cd := tw_c278) rfl rfl rfl (by exact if_neg hc4) ?_
      refine tw_blk (cd := tw_c278) rfl 3 (c1 := (19, [some (.ref 44), some (.int a1), some (.int ((80 : Int32) + ((5 : Int32) * a1))), some (.int v1_3), some (.int v1_4), none, none], [.int v1_4, .ref 44, .int v1_3], (I, L, tw_P 2 14 rt sc, A, J, 57))) rfl ?_
      obtain ⟨c5, hx6, h⟩ := tw_bindE h
      refine tw_callE (cd := tw_c278) rfl rfl rfl rfl rfl (e_X10_canHire I L A J rt sc v1_4 _ hx6) (by exact Or.inl rfl) ?_
      obtain ⟨x8, hj9, h⟩ := tw_bindE h
      have K : tw_ME 278 (45, [some (.ref 44), some (.int a1), some (.int ((80 : Int32) + ((5 : Int32) * a1))), none, some (.int v1_4), none, none], [.int x8, .int v1_3], (I, L, tw_P 2 14 rt sc, A, J, 57)) out := by
        refine tw_blk (cd := tw_c278) rfl 4 (c1 := (10, [some (.ref 44), some (.int a1), some (.int ((80 : Int32) + ((5 : Int32) * a1))), some (.int (v1_3 ||| x8)), some (.int (v1_4 + (1 : Int32))), none, none], [], (I, L, tw_P 2 14 rt sc, A, J, 57))) rfl ?_
        exact ih (v1_3 ||| x8) (v1_4 + (1 : Int32)) _ h K
      by_cases hc7 : c5 = true
      · rw [if_pos hc7] at hj9
        refine tw_br (cd := tw_c278) rfl rfl rfl (by exact if_neg (tw_b_t hc7)) ?_
        refine tw_blk (cd := tw_c278) rfl 3 (c1 := (24, [some (.ref 44), some (.int a1), some (.int ((80 : Int32) + ((5 : Int32) * a1))), some (.int v1_3), some (.int v1_4), none, none], [.int v1_4, .ref 49, .int v1_3], (I, L, tw_P 2 14 rt sc, A, J, 57))) rfl ?_
        obtain ⟨x11, hx10, hj9⟩ := tw_bindE hj9
        refine tw_iald (cd := tw_c278) (N := 8) rfl rfl rfl rfl hx10 ?_
        by_cases hc12 : x11 = 0
        · rw [if_pos hc12] at hj9
          refine tw_br (cd := tw_c278) rfl rfl rfl (by exact if_pos hc12) ?_
          refine tw_blk (cd := tw_c278) rfl 4 (c1 := (30, [some (.ref 44), some (.int a1), some (.int ((80 : Int32) + ((5 : Int32) * a1))), some (.int v1_3), some (.int v1_4), none, none], [.int ((80 : Int32) + ((5 : Int32) * a1)), .ref 47, .int v1_4, .int v1_3], (I, L, tw_P 2 14 rt sc, A, J, 57))) rfl ?_
          obtain ⟨x14, hx13, hj9⟩ := tw_bindE hj9
          refine tw_iald (cd := tw_c278) (N := 241) rfl rfl rfl rfl hx13 ?_
          by_cases hc15 : v1_4 = x14
          · rw [if_pos hc15] at hj9
            refine tw_br (cd := tw_c278) rfl rfl rfl (by exact if_pos hc15) ?_
            refine tw_blk (cd := tw_c278) rfl 1 (c1 := (45, [some (.ref 44), some (.int a1), some (.int ((80 : Int32) + ((5 : Int32) * a1))), some (.int v1_3), some (.int v1_4), none, none], [.int 0, .int v1_3], (I, L, tw_P 2 14 rt sc, A, J, 57))) rfl ?_
            refine tw_forget (ls2 := [some (.ref 44), some (.int a1), some (.int ((80 : Int32) + ((5 : Int32) * a1))), none, some (.int v1_4), none, none]) ⟨rfl, rfl, rfl, rfl, trivial⟩ ?_
            have hj9s := Option.some.inj hj9
            subst hj9s
            exact K
          · rw [if_neg hc15] at hj9
            refine tw_br (cd := tw_c278) rfl rfl rfl (by exact if_neg hc15) ?_
            refine tw_blk (cd := tw_c278) rfl 6 (c1 := (38, [some (.ref 44), some (.int a1), some (.int ((80 : Int32) + ((5 : Int32) * a1))), some (.int v1_3), some (.int v1_4), none, none], [.int (((80 : Int32) + ((5 : Int32) * a1)) + (1 : Int32)), .ref 47, .int v1_4, .int v1_3], (I, L, tw_P 2 14 rt sc, A, J, 57))) rfl ?_
            obtain ⟨x17, hx16, hj9⟩ := tw_bindE hj9
            refine tw_iald (cd := tw_c278) (N := 241) rfl rfl rfl rfl hx16 ?_
            by_cases hc18 : v1_4 = x17
            · rw [if_pos hc18] at hj9
              refine tw_br (cd := tw_c278) rfl rfl rfl (by exact if_pos hc18) ?_
              refine tw_blk (cd := tw_c278) rfl 1 (c1 := (45, [some (.ref 44), some (.int a1), some (.int ((80 : Int32) + ((5 : Int32) * a1))), some (.int v1_3), some (.int v1_4), none, none], [.int 0, .int v1_3], (I, L, tw_P 2 14 rt sc, A, J, 57))) rfl ?_
              refine tw_forget (ls2 := [some (.ref 44), some (.int a1), some (.int ((80 : Int32) + ((5 : Int32) * a1))), none, some (.int v1_4), none, none]) ⟨rfl, rfl, rfl, rfl, trivial⟩ ?_
              have hj9s := Option.some.inj hj9
              subst hj9s
              exact K
            · rw [if_neg hc18] at hj9
              refine tw_br (cd := tw_c278) rfl rfl rfl (by exact if_neg hc18) ?_
              refine tw_blk (cd := tw_c278) rfl 4 (c1 := (45, [some (.ref 44), some (.int a1), some (.int ((80 : Int32) + ((5 : Int32) * a1))), some (.int v1_3), some (.int v1_4), none, none], [.int ((1 : Int32) <<< (v1_4 &&& 31)), .int v1_3], (I, L, tw_P 2 14 rt sc, A, J, 57))) rfl ?_
              refine tw_forget (ls2 := [some (.ref 44), some (.int a1), some (.int ((80 : Int32) + ((5 : Int32) * a1))), none, some (.int v1_4), none, none]) ⟨rfl, rfl, rfl, rfl, trivial⟩ ?_
              have hj9s := Option.some.inj hj9
              subst hj9s
              exact K
        · rw [if_neg hc12] at hj9
          refine tw_br (cd := tw_c278) rfl rfl rfl (by exact if_neg hc12) ?_
          refine tw_blk (cd := tw_c278) rfl 1 (c1 := (45, [some (.ref 44), some (.int a1), some (.int ((80 : Int32) + ((5 : Int32) * a1))), some (.int v1_3), some (.int v1_4), none, none], [.int 0, .int v1_3], (I, L, tw_P 2 14 rt sc, A, J, 57))) rfl ?_
          refine tw_forget (ls2 := [some (.ref 44), some (.int a1), some (.int ((80 : Int32) + ((5 : Int32) * a1))), none, some (.int v1_4), none, none]) ⟨rfl, rfl, rfl, rfl, trivial⟩ ?_
          have hj9s := Option.some.inj hj9
          subst hj9s
          exact K
      · rw [if_neg hc7] at hj9
        refine tw_br (cd := tw_c278) rfl rfl rfl (by exact if_pos (tw_b_f hc7)) ?_
        refine tw_blk (cd := tw_c278) rfl 1 (c1 := (45, [some (.ref 44), some (.int a1), some (.int ((80 : Int32) + ((5 : Int32) * a1))), some (.int v1_3), some (.int v1_4), none, none], [.int 0, .int v1_3], (I, L, tw_P 2 14 rt sc, A, J, 57))) rfl ?_
        refine tw_forget (ls2 := [some (.ref 44), some (.int a1), some (.int ((80 : Int32) + ((5 : Int32) * a1))), none, some (.int v1_4), none, none]) ⟨rfl, rfl, rfl, rfl, trivial⟩ ?_
        have hj9s := Option.some.inj hj9
        subst hj9s
        exact K
theorem g_X10_stoppersOf_L3_ok (I : Nat → Int32) (L : Nat → Int64) (A : Nat → Nat → Int32) (J : Nat → Nat → Int64) (rt : Nat) (sc : Nat) (a1 : Int32) (x1 : Int32) (v2_4 : Int32) (v2_5 : Int32) (I_2 : Nat → Int32) (A_2 : Nat → Nat → Int32) (x23 : Int32) (A31 : Nat → Nat → Int32) (out : Option Value × tw_S) : ∀ (n : Nat) (v3_6 : Int32) (A_3 : Nat → Nat → Int32) (ex : Nat → Nat → Int32), g_X10_stoppersOf_L3 a1 v2_5 n v3_6 A_3 = some ex → tw_ME 278 (105, [some (.ref 44), some (.int a1), some (.int ((80 : Int32) + ((5 : Int32) * a1))), some (.int x1), some (.int v2_4), some (.int v2_5), none], [], (I_2, L, tw_P 2 14 rt sc, ex, J, 57)) out → tw_ME 278 (81, [some (.ref 44), some (.int a1), some (.int ((80 : Int32) + ((5 : Int32) * a1))), some (.int x1), some (.int v2_4), some (.int v2_5), some (.int v3_6)], [], (I_2, L, tw_P 2 14 rt sc, A_3, J, 57)) out := by
  intro n
  induction n with
  | zero =>
    intro v3_6 A_3 ex h _
    cases h
  | succ n ih =>
    intro v3_6 A_3 ex h K
    rw [g_X10_stoppersOf_L3] at h
    refine tw_blk (cd := tw_c278) rfl 1 (c1 := (82, [some (.ref 44), some (.int a1), some (.int ((80 : Int32) + ((5 : Int32) * a1))), some (.int x1), some (.int v2_4), some (.int v2_5), some (.int v3_6)], [.int v3_6], (I_2, L, tw_P 2 14 rt sc, A_3, J, 57))) rfl ?_
    refine tw_blk (cd := tw_c278) rfl 3 (c1 := (85, [some (.ref 44), some (.int a1), some (.int ((80 : Int32) + ((5 : Int32) * a1))), some (.int x1), some (.int v2_4), some (.int v2_5), some (.int v3_6)], [.int 3, .ref 47, .int v3_6], (I_2, L, tw_P 2 14 rt sc, A_3, J, 57))) rfl ?_
    obtain ⟨x35, hx34, h⟩ := tw_bindE h
    refine tw_iald (cd := tw_c278) (N := 241) rfl rfl rfl rfl hx34 ?_
    by_cases hc36 : x35 ≤ v3_6
    · rw [if_pos hc36] at h
      refine tw_br (cd := tw_c278) rfl rfl rfl (by exact if_pos hc36) ?_
      refine tw_forget (ls2 := [some (.ref 44), some (.int a1), some (.int ((80 : Int32) + ((5 : Int32) * a1))), some (.int x1), some (.int v2_4), some (.int v2_5), none]) ⟨rfl, rfl, rfl, rfl, rfl, rfl, trivial⟩ ?_
      have h := Option.some.inj h
      subst h
      exact K
    · rw [if_neg hc36] at h
      refine tw_br (cd := tw_c278) rfl rfl rfl (by exact if_neg hc36) ?_
      refine tw_blk (cd := tw_c278) rfl 2 (c1 := (89, [some (.ref 44), some (.int a1), some (.int ((80 : Int32) + ((5 : Int32) * a1))), some (.int x1), some (.int v2_4), some (.int v2_5), some (.int v3_6)], [.int v3_6, .int v2_5], (I_2, L, tw_P 2 14 rt sc, A_3, J, 57))) rfl ?_
      refine tw_callE (cd := tw_c278) rfl rfl rfl rfl rfl (e_X10_hasBit I_2 L A_3 J rt sc v2_5 v3_6 _ rfl) (by exact Or.inl rfl) ?_
      obtain ⟨A38, hj39, h⟩ := tw_bindE h
      have K : tw_ME 278 (103, [some (.ref 44), some (.int a1), some (.int ((80 : Int32) + ((5 : Int32) * a1))), some (.int x1), some (.int v2_4), some (.int v2_5), some (.int v3_6)], [], (I_2, L, tw_P 2 14 rt sc, A38, J, 57)) out := by
        refine tw_blk (cd := tw_c278) rfl 2 (c1 := (81, [some (.ref 44), some (.int a1), some (.int ((80 : Int32) + ((5 : Int32) * a1))), some (.int x1), some (.int v2_4), some (.int v2_5), some (.int (v3_6 + (1 : Int32)))], [], (I_2, L, tw_P 2 14 rt sc, A38, J, 57))) rfl ?_
        exact ih (v3_6 + (1 : Int32)) A38 _ h K
      by_cases hc37 : (g_X10_hasBit v2_5 v3_6) = true
      · rw [if_pos hc37] at hj39
        refine tw_br (cd := tw_c278) rfl rfl rfl (by exact if_neg (tw_b_t hc37)) ?_
        refine tw_blk (cd := tw_c278) rfl 8 (c1 := (99, [some (.ref 44), some (.int a1), some (.int ((80 : Int32) + ((5 : Int32) * a1))), some (.int x1), some (.int v2_4), some (.int v2_5), some (.int v3_6)], [.int (((80 : Int32) + ((5 : Int32) * a1)) + (2 : Int32)), .ref 47, .int v3_6, .ref 52], (I_2, L, tw_P 2 14 rt sc, A_3, J, 57))) rfl ?_
        obtain ⟨x41, hx40, hj39⟩ := tw_bindE hj39
        refine tw_iald (cd := tw_c278) (N := 241) rfl rfl rfl rfl hx40 ?_
        refine tw_blk (cd := tw_c278) rfl 2 (c1 := (102, [some (.ref 44), some (.int a1), some (.int ((80 : Int32) + ((5 : Int32) * a1))), some (.int x1), some (.int v2_4), some (.int v2_5), some (.int v3_6)], [.int (x41 + (1 : Int32)), .int v3_6, .ref 52], (I_2, L, tw_P 2 14 rt sc, A_3, J, 57))) rfl ?_
        obtain ⟨w43, hx42, hj39⟩ := tw_bindE hj39
        refine tw_iast (cd := tw_c278) (N := 8) rfl rfl rfl rfl hx42 ?_
        have hj39s := Option.some.inj hj39
        subst hj39s
        exact K
      · rw [if_neg hc37] at hj39
        refine tw_br (cd := tw_c278) rfl rfl rfl (by exact if_pos (tw_b_f hc37)) ?_
        have hj39s := Option.some.inj hj39
        subst hj39s
        exact K
theorem g_X10_stoppersOf_L4_ok (I : Nat → Int32) (L : Nat → Int64) (A : Nat → Nat → Int32) (J : Nat → Nat → Int64) (rt : Nat) (sc : Nat) (a1 : Int32) (x1 : Int32) (v2_4 : Int32) (v2_5 : Int32) (I_2 : Nat → Int32) (A_2 : Nat → Nat → Int32) (x23 : Int32) (A31 : Nat → Nat → Int32) (A33 : Nat → Nat → Int32) (I44 : Nat → Int32) (x48 : Int32) (x50 : Int32) (A53 : Nat → Nat → Int32) (out : Option Value × tw_S) : ∀ (n : Nat) (v4_6 : Int32) (A_4 : Nat → Nat → Int32) (ex : Nat → Nat → Int32), g_X10_stoppersOf_L4 a1 v2_5 n v4_6 A_4 = some ex → tw_ME 278 (105, [some (.ref 44), some (.int a1), some (.int ((80 : Int32) + ((5 : Int32) * a1))), some (.int x1), some (.int v2_4), some (.int v2_5), none], [], (I_2, L, tw_P 2 14 rt sc, ex, J, 57)) out → tw_ME 278 (81, [some (.ref 44), some (.int a1), some (.int ((80 : Int32) + ((5 : Int32) * a1))), some (.int x1), some (.int v2_4), some (.int v2_5), some (.int v4_6)], [], (I_2, L, tw_P 2 14 rt sc, A_4, J, 57)) out := by
  intro n
  induction n with
  | zero =>
    intro v4_6 A_4 ex h _
    cases h
  | succ n ih =>
    intro v4_6 A_4 ex h K
    rw [g_X10_stoppersOf_L4] at h
    refine tw_blk (cd := tw_c278) rfl 1 (c1 := (82, [some (.ref 44), some (.int a1), some (.int ((80 : Int32) + ((5 : Int32) * a1))), some (.int x1), some (.int v2_4), some (.int v2_5), some (.int v4_6)], [.int v4_6], (I_2, L, tw_P 2 14 rt sc, A_4, J, 57))) rfl ?_
    refine tw_blk (cd := tw_c278) rfl 3 (c1 := (85, [some (.ref 44), some (.int a1), some (.int ((80 : Int32) + ((5 : Int32) * a1))), some (.int x1), some (.int v2_4), some (.int v2_5), some (.int v4_6)], [.int 3, .ref 47, .int v4_6], (I_2, L, tw_P 2 14 rt sc, A_4, J, 57))) rfl ?_
    obtain ⟨x57, hx56, h⟩ := tw_bindE h
    refine tw_iald (cd := tw_c278) (N := 241) rfl rfl rfl rfl hx56 ?_
    by_cases hc58 : x57 ≤ v4_6
    · rw [if_pos hc58] at h
      refine tw_br (cd := tw_c278) rfl rfl rfl (by exact if_pos hc58) ?_
      refine tw_forget (ls2 := [some (.ref 44), some (.int a1), some (.int ((80 : Int32) + ((5 : Int32) * a1))), some (.int x1), some (.int v2_4), some (.int v2_5), none]) ⟨rfl, rfl, rfl, rfl, rfl, rfl, trivial⟩ ?_
      have h := Option.some.inj h
      subst h
      exact K
    · rw [if_neg hc58] at h
      refine tw_br (cd := tw_c278) rfl rfl rfl (by exact if_neg hc58) ?_
      refine tw_blk (cd := tw_c278) rfl 2 (c1 := (89, [some (.ref 44), some (.int a1), some (.int ((80 : Int32) + ((5 : Int32) * a1))), some (.int x1), some (.int v2_4), some (.int v2_5), some (.int v4_6)], [.int v4_6, .int v2_5], (I_2, L, tw_P 2 14 rt sc, A_4, J, 57))) rfl ?_
      refine tw_callE (cd := tw_c278) rfl rfl rfl rfl rfl (e_X10_hasBit I_2 L A_4 J rt sc v2_5 v4_6 _ rfl) (by exact Or.inl rfl) ?_
      obtain ⟨A60, hj61, h⟩ := tw_bindE h
      have K : tw_ME 278 (103, [some (.ref 44), some (.int a1), some (.int ((80 : Int32) + ((5 : Int32) * a1))), some (.int x1), some (.int v2_4), some (.int v2_5), some (.int v4_6)], [], (I_2, L, tw_P 2 14 rt sc, A60, J, 57)) out := by
        refine tw_blk (cd := tw_c278) rfl 2 (c1 := (81, [some (.ref 44), some (.int a1), some (.int ((80 : Int32) + ((5 : Int32) * a1))), some (.int x1), some (.int v2_4), some (.int v2_5), some (.int (v4_6 + (1 : Int32)))], [], (I_2, L, tw_P 2 14 rt sc, A60, J, 57))) rfl ?_
        exact ih (v4_6 + (1 : Int32)) A60 _ h K
      by_cases hc59 : (g_X10_hasBit v2_5 v4_6) = true
      · rw [if_pos hc59] at hj61
        refine tw_br (cd := tw_c278) rfl rfl rfl (by exact if_neg (tw_b_t hc59)) ?_
        refine tw_blk (cd := tw_c278) rfl 8 (c1 := (99, [some (.ref 44), some (.int a1), some (.int ((80 : Int32) + ((5 : Int32) * a1))), some (.int x1), some (.int v2_4), some (.int v2_5), some (.int v4_6)], [.int (((80 : Int32) + ((5 : Int32) * a1)) + (2 : Int32)), .ref 47, .int v4_6, .ref 52], (I_2, L, tw_P 2 14 rt sc, A_4, J, 57))) rfl ?_
        obtain ⟨x63, hx62, hj61⟩ := tw_bindE hj61
        refine tw_iald (cd := tw_c278) (N := 241) rfl rfl rfl rfl hx62 ?_
        refine tw_blk (cd := tw_c278) rfl 2 (c1 := (102, [some (.ref 44), some (.int a1), some (.int ((80 : Int32) + ((5 : Int32) * a1))), some (.int x1), some (.int v2_4), some (.int v2_5), some (.int v4_6)], [.int (x63 + (1 : Int32)), .int v4_6, .ref 52], (I_2, L, tw_P 2 14 rt sc, A_4, J, 57))) rfl ?_
        obtain ⟨w65, hx64, hj61⟩ := tw_bindE hj61
        refine tw_iast (cd := tw_c278) (N := 8) rfl rfl rfl rfl hx64 ?_
        have hj61s := Option.some.inj hj61
        subst hj61s
        exact K
      · rw [if_neg hc59] at hj61
        refine tw_br (cd := tw_c278) rfl rfl rfl (by exact if_pos (tw_b_f hc59)) ?_
        have hj61s := Option.some.inj hj61
        subst hj61s
        exact K
theorem g_X10_stoppersOf_L2_ok (I : Nat → Int32) (L : Nat → Int64) (A : Nat → Nat → Int32) (J : Nat → Nat → Int64) (rt : Nat) (sc : Nat) (a1 : Int32) (x1 : Int32) (out : Option Value × tw_S) : ∀ (n : Nat) (v2_4 : Int32) (v2_5 : Int32) (I_2 : Nat → Int32) (A_2 : Nat → Nat → Int32) (ex : (Int32 × (Nat → Int32) × (Nat → Nat → Int32))), g_X10_stoppersOf_L2 a1 x1 n v2_4 v2_5 I_2 A_2 = some ex → tw_ME 278 (115, [none, none, none, none, some (.int (ex.1)), none, none], [], ((ex.2.1), L, tw_P 2 14 rt sc, (ex.2.2), J, 57)) out → tw_ME 278 (53, [some (.ref 44), some (.int a1), some (.int ((80 : Int32) + ((5 : Int32) * a1))), some (.int x1), some (.int v2_4), some (.int v2_5), none], [], (I_2, L, tw_P 2 14 rt sc, A_2, J, 57)) out := by
  intro n
  induction n with
  | zero =>
    intro v2_4 v2_5 I_2 A_2 ex h _
    cases h
  | succ n ih =>
    intro v2_4 v2_5 I_2 A_2 ex h K
    rw [g_X10_stoppersOf_L2] at h
    refine tw_blk (cd := tw_c278) rfl 1 (c1 := (54, [some (.ref 44), some (.int a1), some (.int ((80 : Int32) + ((5 : Int32) * a1))), some (.int x1), some (.int v2_4), some (.int v2_5), none], [.int v2_5], (I_2, L, tw_P 2 14 rt sc, A_2, J, 57))) rfl ?_
    refine tw_blk (cd := tw_c278) rfl 4 (c1 := (58, [some (.ref 44), some (.int a1), some (.int ((80 : Int32) + ((5 : Int32) * a1))), some (.int x1), some (.int v2_4), some (.int v2_5), none], [.int 3, .ref 47, .int 1, .int v2_5], (I_2, L, tw_P 2 14 rt sc, A_2, J, 57))) rfl ?_
    obtain ⟨x23, hx22, h⟩ := tw_bindE h
    refine tw_iald (cd := tw_c278) (N := 241) rfl rfl rfl rfl hx22 ?_
    refine tw_blk (cd := tw_c278) rfl 1 (c1 := (60, [some (.ref 44), some (.int a1), some (.int ((80 : Int32) + ((5 : Int32) * a1))), some (.int x1), some (.int v2_4), some (.int v2_5), none], [.int ((1 : Int32) <<< (x23 &&& 31)), .int v2_5], (I_2, L, tw_P 2 14 rt sc, A_2, J, 57))) rfl ?_
    by_cases hc24 : ((1 : Int32) <<< (x23 &&& 31)) ≤ v2_5
    · rw [if_pos hc24] at h
      refine tw_br (cd := tw_c278) rfl rfl rfl (by exact if_pos hc24) ?_
      refine tw_forget (ls2 := [none, none, none, none, some (.int v2_4), none, none]) ⟨rfl, trivial⟩ ?_
      have h := Option.some.inj h
      subst h
      exact K
    · rw [if_neg hc24] at h
      refine tw_br (cd := tw_c278) rfl rfl rfl (by exact if_neg hc24) ?_
      refine tw_blk (cd := tw_c278) rfl 5 (c1 := (66, [some (.ref 44), some (.int a1), some (.int ((80 : Int32) + ((5 : Int32) * a1))), some (.int x1), some (.int v2_4), some (.int v2_5), none], [.int (v2_5 &&& (x1 ^^^ (-1 : Int32)))], (I_2, L, tw_P 2 14 rt sc, A_2, J, 57))) rfl ?_
      obtain ⟨⟨x26, I27, A28⟩, hj29, h⟩ := tw_bindE h
      dsimp only at h
      have K : tw_ME 278 (113, [some (.ref 44), some (.int a1), some (.int ((80 : Int32) + ((5 : Int32) * a1))), some (.int x1), some (.int x26), some (.int v2_5), none], [], (I27, L, tw_P 2 14 rt sc, A28, J, 57)) out := by
        refine tw_blk (cd := tw_c278) rfl 2 (c1 := (53, [some (.ref 44), some (.int a1), some (.int ((80 : Int32) + ((5 : Int32) * a1))), some (.int x1), some (.int x26), some (.int (v2_5 + (1 : Int32))), none], [], (I27, L, tw_P 2 14 rt sc, A28, J, 57))) rfl ?_
        exact ih x26 (v2_5 + (1 : Int32)) I27 A28 _ h K
      by_cases hc25 : (v2_5 &&& (x1 ^^^ (-1 : Int32))) = 0
      · rw [if_pos hc25] at hj29
        refine tw_br (cd := tw_c278) rfl rfl rfl (by exact if_pos hc25) ?_
        refine tw_blk (cd := tw_c278) rfl 1 (c1 := (68, [some (.ref 44), some (.int a1), some (.int ((80 : Int32) + ((5 : Int32) * a1))), some (.int x1), some (.int v2_4), some (.int v2_5), none], [.int v2_4], (I_2, L, tw_P 2 14 rt sc, A_2, J, 57))) rfl ?_
        by_cases hc30 : v2_4 < 0
        · rw [if_pos hc30] at hj29
          refine tw_br (cd := tw_c278) rfl rfl rfl (by exact if_pos hc30) ?_
          refine tw_blk (cd := tw_c278) rfl 1 (c1 := (78, [some (.ref 44), some (.int a1), some (.int ((80 : Int32) + ((5 : Int32) * a1))), some (.int x1), some (.int v2_4), some (.int v2_5), none], [.ref 44], (I_2, L, tw_P 2 14 rt sc, A_2, J, 57))) rfl ?_
          obtain ⟨A31, hx32, hj29⟩ := tw_bindE hj29
          refine tw_callE (cd := tw_c278) rfl rfl rfl rfl rfl (e_X10_asNow I_2 L A_2 J rt sc _ hx32) (by exact Or.inl rfl) ?_
          refine tw_blk (cd := tw_c278) rfl 2 (c1 := (81, [some (.ref 44), some (.int a1), some (.int ((80 : Int32) + ((5 : Int32) * a1))), some (.int x1), some (.int v2_4), some (.int v2_5), some (.int 0)], [], (I_2, L, tw_P 2 14 rt sc, A31, J, 57))) rfl ?_
          obtain ⟨A33, hx47, hj29⟩ := tw_bindE hj29
          refine g_X10_stoppersOf_L3_ok I L A J rt sc a1 x1 v2_4 v2_5 I_2 A_2 x23 A31 _ 4096 (0 : Int32) A31 _ hx47 ?_
          refine tw_blk (cd := tw_c278) rfl 2 (c1 := (107, [some (.ref 44), some (.int a1), some (.int ((80 : Int32) + ((5 : Int32) * a1))), some (.int x1), some (.int v2_4), some (.int v2_5), none], [.int a1, .ref 44], (I_2, L, tw_P 2 14 rt sc, A33, J, 57))) rfl ?_
          obtain ⟨I44, hx45, hj29⟩ := tw_bindE hj29
          refine tw_callE (cd := tw_c278) rfl rfl rfl rfl rfl (e_X10_runTold I_2 L A33 J rt sc a1 _ hx45) (by exact Or.inl rfl) ?_
          refine tw_blk (cd := tw_c278) rfl 2 (c1 := (110, [some (.ref 44), some (.int a1), some (.int ((80 : Int32) + ((5 : Int32) * a1))), some (.int x1), some (.int v2_4), some (.int v2_5), none], [.int (I44 4425)], (I44, L, tw_P 2 14 rt sc, A33, J, 57))) rfl ?_
          by_cases hc46 : (I44 4425) = 0
          · rw [if_pos hc46] at hj29
            refine tw_br (cd := tw_c278) rfl rfl rfl (by exact if_pos hc46) ?_
            refine tw_blk (cd := tw_c278) rfl 2 (c1 := (113, [some (.ref 44), some (.int a1), some (.int ((80 : Int32) + ((5 : Int32) * a1))), some (.int x1), some (.int v2_5), some (.int v2_5), none], [], (I44, L, tw_P 2 14 rt sc, A33, J, 57))) rfl ?_
            have hj29s := Option.some.inj hj29
            obtain ⟨hj29_0, hj29r0⟩ := Prod.mk.inj hj29s
            obtain ⟨hj29_1, hj29r1⟩ := Prod.mk.inj hj29r0
            subst hj29_0
            subst hj29_1
            subst hj29r1
            exact K
          · rw [if_neg hc46] at hj29
            refine tw_br (cd := tw_c278) rfl rfl rfl (by exact if_neg hc46) ?_
            have hj29s := Option.some.inj hj29
            obtain ⟨hj29_0, hj29r0⟩ := Prod.mk.inj hj29s
            obtain ⟨hj29_1, hj29r1⟩ := Prod.mk.inj hj29r0
            subst hj29_0
            subst hj29_1
            subst hj29r1
            exact K
        · rw [if_neg hc30] at hj29
          refine tw_br (cd := tw_c278) rfl rfl rfl (by exact if_neg hc30) ?_
          refine tw_blk (cd := tw_c278) rfl 2 (c1 := (71, [some (.ref 44), some (.int a1), some (.int ((80 : Int32) + ((5 : Int32) * a1))), some (.int x1), some (.int v2_4), some (.int v2_5), none], [.int v2_5, .ref 44], (I_2, L, tw_P 2 14 rt sc, A_2, J, 57))) rfl ?_
          obtain ⟨x48, hx49, hj29⟩ := tw_bindE hj29
          refine tw_callE (cd := tw_c278) rfl rfl rfl rfl rfl (e_X10_priceOf I_2 L A_2 J rt sc v2_5 _ hx49) (by exact Or.inl rfl) ?_
          refine tw_blk (cd := tw_c278) rfl 2 (c1 := (74, [some (.ref 44), some (.int a1), some (.int ((80 : Int32) + ((5 : Int32) * a1))), some (.int x1), some (.int v2_4), some (.int v2_5), none], [.int v2_4, .ref 44, .int x48], (I_2, L, tw_P 2 14 rt sc, A_2, J, 57))) rfl ?_
          obtain ⟨x50, hx51, hj29⟩ := tw_bindE hj29
          refine tw_callE (cd := tw_c278) rfl rfl rfl rfl rfl (e_X10_priceOf I_2 L A_2 J rt sc v2_4 _ hx51) (by exact Or.inl rfl) ?_
          by_cases hc52 : x48 < x50
          · rw [if_pos hc52] at hj29
            refine tw_br (cd := tw_c278) rfl rfl rfl (by exact if_pos hc52) ?_
            refine tw_blk (cd := tw_c278) rfl 1 (c1 := (78, [some (.ref 44), some (.int a1), some (.int ((80 : Int32) + ((5 : Int32) * a1))), some (.int x1), some (.int v2_4), some (.int v2_5), none], [.ref 44], (I_2, L, tw_P 2 14 rt sc, A_2, J, 57))) rfl ?_
            obtain ⟨A53, hx54, hj29⟩ := tw_bindE hj29
            refine tw_callE (cd := tw_c278) rfl rfl rfl rfl rfl (e_X10_asNow I_2 L A_2 J rt sc _ hx54) (by exact Or.inl rfl) ?_
            refine tw_blk (cd := tw_c278) rfl 2 (c1 := (81, [some (.ref 44), some (.int a1), some (.int ((80 : Int32) + ((5 : Int32) * a1))), some (.int x1), some (.int v2_4), some (.int v2_5), some (.int 0)], [], (I_2, L, tw_P 2 14 rt sc, A53, J, 57))) rfl ?_
            obtain ⟨A55, hx69, hj29⟩ := tw_bindE hj29
            refine g_X10_stoppersOf_L4_ok I L A J rt sc a1 x1 v2_4 v2_5 I_2 A_2 x23 A31 A33 I44 x48 x50 A53 _ 4096 (0 : Int32) A53 _ hx69 ?_
            refine tw_blk (cd := tw_c278) rfl 2 (c1 := (107, [some (.ref 44), some (.int a1), some (.int ((80 : Int32) + ((5 : Int32) * a1))), some (.int x1), some (.int v2_4), some (.int v2_5), none], [.int a1, .ref 44], (I_2, L, tw_P 2 14 rt sc, A55, J, 57))) rfl ?_
            obtain ⟨I66, hx67, hj29⟩ := tw_bindE hj29
            refine tw_callE (cd := tw_c278) rfl rfl rfl rfl rfl (e_X10_runTold I_2 L A55 J rt sc a1 _ hx67) (by exact Or.inl rfl) ?_
            refine tw_blk (cd := tw_c278) rfl 2 (c1 := (110, [some (.ref 44), some (.int a1), some (.int ((80 : Int32) + ((5 : Int32) * a1))), some (.int x1), some (.int v2_4), some (.int v2_5), none], [.int (I66 4425)], (I66, L, tw_P 2 14 rt sc, A55, J, 57))) rfl ?_
            by_cases hc68 : (I66 4425) = 0
            · rw [if_pos hc68] at hj29
              refine tw_br (cd := tw_c278) rfl rfl rfl (by exact if_pos hc68) ?_
              refine tw_blk (cd := tw_c278) rfl 2 (c1 := (113, [some (.ref 44), some (.int a1), some (.int ((80 : Int32) + ((5 : Int32) * a1))), some (.int x1), some (.int v2_5), some (.int v2_5), none], [], (I66, L, tw_P 2 14 rt sc, A55, J, 57))) rfl ?_
              have hj29s := Option.some.inj hj29
              obtain ⟨hj29_0, hj29r0⟩ := Prod.mk.inj hj29s
              obtain ⟨hj29_1, hj29r1⟩ := Prod.mk.inj hj29r0
              subst hj29_0
              subst hj29_1
              subst hj29r1
              exact K
            · rw [if_neg hc68] at hj29
              refine tw_br (cd := tw_c278) rfl rfl rfl (by exact if_neg hc68) ?_
              have hj29s := Option.some.inj hj29
              obtain ⟨hj29_0, hj29r0⟩ := Prod.mk.inj hj29s
              obtain ⟨hj29_1, hj29r1⟩ := Prod.mk.inj hj29r0
              subst hj29_0
              subst hj29_1
              subst hj29r1
              exact K
          · rw [if_neg hc52] at hj29
            refine tw_br (cd := tw_c278) rfl rfl rfl (by exact if_neg hc52) ?_
            refine tw_blk (cd := tw_c278) rfl 1 (c1 := (113, [some (.ref 44), some (.int a1), some (.int ((80 : Int32) + ((5 : Int32) * a1))), some (.int x1), some (.int v2_4), some (.int v2_5), none], [], (I_2, L, tw_P 2 14 rt sc, A_2, J, 57))) rfl ?_
            have hj29s := Option.some.inj hj29
            obtain ⟨hj29_0, hj29r0⟩ := Prod.mk.inj hj29s
            obtain ⟨hj29_1, hj29r1⟩ := Prod.mk.inj hj29r0
            subst hj29_0
            subst hj29_1
            subst hj29r1
            exact K
      · rw [if_neg hc25] at hj29
        refine tw_br (cd := tw_c278) rfl rfl rfl (by exact if_neg hc25) ?_
        have hj29s := Option.some.inj hj29
        obtain ⟨hj29_0, hj29r0⟩ := Prod.mk.inj hj29s
        obtain ⟨hj29_1, hj29r1⟩ := Prod.mk.inj hj29r0
        subst hj29_0
        subst hj29_1
        subst hj29r1
        exact K
theorem e_X10_stoppersOf (I : Nat → Int32) (L : Nat → Int64) (A : Nat → Nat → Int32) (J : Nat → Nat → Int64) (rt : Nat) (sc : Nat) (a1 : Int32) : ∀ r : (Int32 × (Nat → Int32) × (Nat → Nat → Int32)), g_X10_stoppersOf I A a1 = some r → tw_ME 278 (0, [some (.ref 44), some (.int a1), none, none, none, none, none], [], (I, L, tw_P 2 14 rt sc, A, J, 57)) (some (.int r.1), ((r.2.1), L, tw_P 2 14 rt sc, (r.2.2), J, 57)) := by
  intro r h
  unfold g_X10_stoppersOf at h
  refine tw_blk (cd := tw_c278) rfl 10 (c1 := (10, [some (.ref 44), some (.int a1), some (.int ((80 : Int32) + ((5 : Int32) * a1))), some (.int 0), some (.int 0), none, none], [], (I, L, tw_P 2 14 rt sc, A, J, 57))) rfl ?_
  obtain ⟨x1, hx71, h⟩ := tw_bindE h
  refine g_X10_stoppersOf_L1_ok I L A J rt sc a1 _ 4096 (0 : Int32) (0 : Int32) _ hx71 ?_
  refine tw_blk (cd := tw_c278) rfl 4 (c1 := (53, [some (.ref 44), some (.int a1), some (.int ((80 : Int32) + ((5 : Int32) * a1))), some (.int x1), some (.int (-2)), some (.int 0), none], [], (I, L, tw_P 2 14 rt sc, A, J, 57))) rfl ?_
  obtain ⟨⟨x19, I20, A21⟩, hx70, h⟩ := tw_bindE h
  dsimp only at h
  refine g_X10_stoppersOf_L2_ok I L A J rt sc a1 x1 _ 4096 (-2 : Int32) (0 : Int32) I A _ hx70 ?_
  refine tw_blk (cd := tw_c278) rfl 1 (c1 := (116, [none, none, none, none, some (.int x19), none, none], [.int x19], (I20, L, tw_P 2 14 rt sc, A21, J, 57))) rfl ?_
  have h := Option.some.inj h
  subst h
  exact tw_retE (cd := tw_c278) rfl rfl rfl rfl
