/-! the machine does what the functions say -/
set_option maxRecDepth 16000
theorem e_X10_no (I : Nat → Int32) (L : Nat → Int64) (A : Nat → Nat → Int32) (J : Nat → Nat → Int64) (tw dr : Nat) (rt : Nat) (sc : Nat) (a1 : Int32) : ∀ r : (Int32 × (Nat → Int32)), g_X10_no I a1 = r → tw_ME 194 (0, [some (.ref 44), some (.int a1)], [], (I, L, tw_P tw dr rt sc, A, J, 57)) (some (.int r.1), ((r.2), L, tw_P tw dr rt sc, A, J, 57)) := by
  intro r h
  unfold g_X10_no at h
  refine tw_blk (cd := tw_c194) rfl 4 (c1 := (4, [some (.ref 44), some (.int a1)], [.int (-1)], ((upd I 4411 a1), L, tw_P tw dr rt sc, A, J, 57))) rfl ?_
  subst h
  exact tw_retE (cd := tw_c194) rfl rfl rfl rfl
theorem g_X10_town_L1_ok (I : Nat → Int32) (L : Nat → Int64) (A : Nat → Nat → Int32) (J : Nat → Nat → Int64) (tw : Nat) (dr : Nat) (rt : Nat) (sc : Nat) (a1 : Int32) (I1 : Nat → Int32) (out : Option Value × tw_S) : ∀ (n : Nat) (v1_2 : Int32) (A_1 : Nat → Nat → Int32) (ex : Nat → Nat → Int32), g_X10_town_L1 n v1_2 A_1 = some ex → tw_ME 221 (33, [some (.ref 44), some (.int a1), none], [], ((upd (upd (upd I1 4402 (0 : Int32)) 4409 (0 : Int32)) 4413 (0 : Int32)), L, tw_P tw dr rt sc, ex, J, 57)) out → tw_ME 221 (23, [some (.ref 44), some (.int a1), some (.int v1_2)], [], ((upd (upd (upd I1 4402 (0 : Int32)) 4409 (0 : Int32)) 4413 (0 : Int32)), L, tw_P tw dr rt sc, A_1, J, 57)) out := by
  intro n
  induction n with
  | zero =>
    intro v1_2 A_1 ex h _
    cases h
  | succ n ih =>
    intro v1_2 A_1 ex h K
    rw [g_X10_town_L1] at h
    refine tw_blk (cd := tw_c221) rfl 1 (c1 := (24, [some (.ref 44), some (.int a1), some (.int v1_2)], [.int v1_2], ((upd (upd (upd I1 4402 (0 : Int32)) 4409 (0 : Int32)) 4413 (0 : Int32)), L, tw_P tw dr rt sc, A_1, J, 57))) rfl ?_
    refine tw_blk (cd := tw_c221) rfl 1 (c1 := (25, [some (.ref 44), some (.int a1), some (.int v1_2)], [.int 241, .int v1_2], ((upd (upd (upd I1 4402 (0 : Int32)) 4409 (0 : Int32)) 4413 (0 : Int32)), L, tw_P tw dr rt sc, A_1, J, 57))) rfl ?_
    by_cases hc5 : (241 : Int32) ≤ v1_2
    · rw [if_pos hc5] at h
      refine tw_br (cd := tw_c221) rfl rfl rfl (by exact if_pos hc5) ?_
      refine tw_forget (ls2 := [some (.ref 44), some (.int a1), none]) ⟨rfl, rfl, trivial⟩ ?_
      have h := Option.some.inj h
      subst h
      exact K
    · rw [if_neg hc5] at h
      refine tw_br (cd := tw_c221) rfl rfl rfl (by exact if_neg hc5) ?_
      refine tw_blk (cd := tw_c221) rfl 4 (c1 := (30, [some (.ref 44), some (.int a1), some (.int v1_2)], [.int 0, .int v1_2, .ref 48], ((upd (upd (upd I1 4402 (0 : Int32)) 4409 (0 : Int32)) 4413 (0 : Int32)), L, tw_P tw dr rt sc, A_1, J, 57))) rfl ?_
      obtain ⟨w7, hx6, h⟩ := tw_bindE h
      refine tw_iast (cd := tw_c221) (N := 241) rfl rfl rfl rfl hx6 ?_
      refine tw_blk (cd := tw_c221) rfl 2 (c1 := (23, [some (.ref 44), some (.int a1), some (.int (v1_2 + (1 : Int32)))], [], ((upd (upd (upd I1 4402 (0 : Int32)) 4409 (0 : Int32)) 4413 (0 : Int32)), L, tw_P tw dr rt sc, (va_up A_1 48 w7), J, 57))) rfl ?_
      exact ih (v1_2 + (1 : Int32)) (va_up A_1 48 w7) _ h K
theorem g_X10_town_L2_ok (I : Nat → Int32) (L : Nat → Int64) (A : Nat → Nat → Int32) (J : Nat → Nat → Int64) (tw : Nat) (dr : Nat) (rt : Nat) (sc : Nat) (a1 : Int32) (I1 : Nat → Int32) (A4 : Nat → Nat → Int32) (I8 : Nat → Int32) (A9 : Nat → Nat → Int32) (I11 : Nat → Int32) (A12 : Nat → Nat → Int32) (out : Option Value × tw_S) : ∀ (n : Nat) (I_2 : Nat → Int32) (A_2 : Nat → Nat → Int32) (ex : ((Nat → Int32) × (Nat → Nat → Int32))), g_X10_town_L2 n I_2 A_2 = some ex → tw_ME 221 (55, [some (.ref 44), none, none], [], ((ex.1), L, tw_P tw dr rt sc, (ex.2), J, 57)) out → tw_ME 221 (43, [some (.ref 44), none, none], [], (I_2, L, tw_P tw dr rt sc, A_2, J, 57)) out := by
  intro n
  induction n with
  | zero =>
    intro I_2 A_2 ex h _
    cases h
  | succ n ih =>
    intro I_2 A_2 ex h K
    rw [g_X10_town_L2] at h
    refine tw_blk (cd := tw_c221) rfl 1 (c1 := (44, [some (.ref 44), none, none], [.ref 44], (I_2, L, tw_P tw dr rt sc, A_2, J, 57))) rfl ?_
    refine tw_blk (cd := tw_c221) rfl 1 (c1 := (45, [some (.ref 44), none, none], [.int (I_2 4413)], (I_2, L, tw_P tw dr rt sc, A_2, J, 57))) rfl ?_
    by_cases hc16 : (I_2 4413) = 0
    · rw [if_pos hc16] at h
      refine tw_br (cd := tw_c221) rfl rfl rfl (by exact if_pos hc16) ?_
      refine tw_blk (cd := tw_c221) rfl 3 (c1 := (49, [some (.ref 44), none, none], [.int 59, .int (I_2 4406)], (I_2, L, tw_P tw dr rt sc, A_2, J, 57))) rfl ?_
      by_cases hc17 : (I_2 4406) = (59 : Int32)
      · rw [if_pos hc17] at h
        refine tw_br (cd := tw_c221) rfl rfl rfl (by exact if_pos hc17) ?_
        refine tw_blk (cd := tw_c221) rfl 1 (c1 := (51, [some (.ref 44), none, none], [.ref 44], (I_2, L, tw_P tw dr rt sc, A_2, J, 57))) rfl ?_
        obtain ⟨⟨I18, A19⟩, hx20, h⟩ := tw_bindE h
        dsimp only at h
        refine tw_callE (cd := tw_c221) rfl rfl rfl rfl rfl (e_X10_next I_2 L A_2 J tw dr rt sc _ hx20) (by exact Or.inl rfl) ?_
        refine tw_blk (cd := tw_c221) rfl 1 (c1 := (53, [some (.ref 44), none, none], [.ref 44], (I18, L, tw_P tw dr rt sc, A19, J, 57))) rfl ?_
        obtain ⟨⟨I21, A22⟩, hx23, h⟩ := tw_bindE h
        dsimp only at h
        refine tw_callE (cd := tw_c221) rfl rfl rfl rfl rfl (e_X10_readLine I18 L A19 J tw dr rt sc _ hx23) (by exact Or.inl rfl) ?_
        refine tw_blk (cd := tw_c221) rfl 1 (c1 := (43, [some (.ref 44), none, none], [], (I21, L, tw_P tw dr rt sc, A22, J, 57))) rfl ?_
        exact ih I21 A22 _ h K
      · rw [if_neg hc17] at h
        refine tw_br (cd := tw_c221) rfl rfl rfl (by exact if_neg hc17) ?_
        have h := Option.some.inj h
        subst h
        exact K
    · rw [if_neg hc16] at h
      refine tw_br (cd := tw_c221) rfl rfl rfl (by exact if_neg hc16) ?_
      have h := Option.some.inj h
      subst h
      exact K
theorem g_X10_town_L3_ok (I : Nat → Int32) (L : Nat → Int64) (A : Nat → Nat → Int32) (J : Nat → Nat → Int64) (tw : Nat) (dr : Nat) (rt : Nat) (sc : Nat) (a1 : Int32) (I1 : Nat → Int32) (A4 : Nat → Nat → Int32) (I8 : Nat → Int32) (A9 : Nat → Nat → Int32) (I11 : Nat → Int32) (A12 : Nat → Nat → Int32) (I14 : Nat → Int32) (A15 : Nat → Nat → Int32) (I25 : Nat → Int32) (I31 : Nat → Int32) (w44 : Nat → Int32) (out : Option Value × tw_S) : ∀ (n : Nat) (v3_2 : Int32) (A_3 : Nat → Nat → Int32) (ex : Nat → Nat → Int32), g_X10_town_L3 n v3_2 A_3 = some ex → tw_ME 221 (111, [some (.ref 44), none, none], [], (I31, L, tw_P tw dr rt sc, ex, J, 57)) out → tw_ME 221 (101, [some (.ref 44), none, some (.int v3_2)], [], (I31, L, tw_P tw dr rt sc, A_3, J, 57)) out := by
  intro n
  induction n with
  | zero =>
    intro v3_2 A_3 ex h _
    cases h
  | succ n ih =>
    intro v3_2 A_3 ex h K
    rw [g_X10_town_L3] at h
    refine tw_blk (cd := tw_c221) rfl 1 (c1 := (102, [some (.ref 44), none, some (.int v3_2)], [.int v3_2], (I31, L, tw_P tw dr rt sc, A_3, J, 57))) rfl ?_
    refine tw_blk (cd := tw_c221) rfl 1 (c1 := (103, [some (.ref 44), none, some (.int v3_2)], [.int 8, .int v3_2], (I31, L, tw_P tw dr rt sc, A_3, J, 57))) rfl ?_
    by_cases hc47 : (8 : Int32) ≤ v3_2
    · rw [if_pos hc47] at h
      refine tw_br (cd := tw_c221) rfl rfl rfl (by exact if_pos hc47) ?_
      refine tw_forget (ls2 := [some (.ref 44), none, none]) ⟨rfl, trivial⟩ ?_
      have h := Option.some.inj h
      subst h
      exact K
    · rw [if_neg hc47] at h
      refine tw_br (cd := tw_c221) rfl rfl rfl (by exact if_neg hc47) ?_
      refine tw_blk (cd := tw_c221) rfl 4 (c1 := (108, [some (.ref 44), none, some (.int v3_2)], [.int 0, .int v3_2, .ref 49], (I31, L, tw_P tw dr rt sc, A_3, J, 57))) rfl ?_
      obtain ⟨w49, hx48, h⟩ := tw_bindE h
      refine tw_iast (cd := tw_c221) (N := 8) rfl rfl rfl rfl hx48 ?_
      refine tw_blk (cd := tw_c221) rfl 2 (c1 := (101, [some (.ref 44), none, some (.int (v3_2 + (1 : Int32)))], [], (I31, L, tw_P tw dr rt sc, (va_up A_3 49 w49), J, 57))) rfl ?_
      exact ih (v3_2 + (1 : Int32)) (va_up A_3 49 w49) _ h K
theorem e_X10_town (I : Nat → Int32) (L : Nat → Int64) (A : Nat → Nat → Int32) (J : Nat → Nat → Int64) (tw dr : Nat) (rt : Nat) (sc : Nat) (a1 : Int32) : ∀ r : (Int32 × (Nat → Int32) × (Nat → Nat → Int32)), g_X10_town I A a1 = some r → tw_ME 221 (0, [some (.ref 44), some (.int a1), none], [], (I, L, tw_P tw dr rt sc, A, J, 57)) (some (.int r.1), ((r.2.1), L, tw_P tw dr rt sc, (r.2.2), J, 57)) := by
  intro r h
  unfold g_X10_town at h
  refine tw_blk (cd := tw_c221) rfl 1 (c1 := (1, [some (.ref 44), some (.int a1), none], [.ref 44], (I, L, tw_P tw dr rt sc, A, J, 57))) rfl ?_
  obtain ⟨I1, hx2, h⟩ := tw_letE h
  refine tw_callE (cd := tw_c221) rfl rfl rfl rfl rfl (e_X10_good I L A J tw dr rt sc _ hx2) (by exact Or.inl rfl) ?_
  refine tw_blk (cd := tw_c221) rfl 4 (c1 := (6, [some (.ref 44), some (.int a1), none], [.int (I1 4402), .int 0, .int a1], (I1, L, tw_P tw dr rt sc, A, J, 57))) rfl ?_
  refine tw_callE (cd := tw_c221) rfl rfl rfl rfl rfl (e_X10_in I1 L A J tw dr rt sc a1 (0 : Int32) (I1 4402) _ rfl) (by exact Or.inl rfl) ?_
  by_cases hc3 : (g_X10_in a1 (0 : Int32) (I1 4402)) = true
  · rw [if_pos hc3] at h
    refine tw_br (cd := tw_c221) rfl rfl rfl (by exact if_neg (tw_b_t hc3)) ?_
    refine tw_blk (cd := tw_c221) rfl 11 (c1 := (23, [some (.ref 44), some (.int a1), some (.int 0)], [], ((upd (upd (upd I1 4402 (0 : Int32)) 4409 (0 : Int32)) 4413 (0 : Int32)), L, tw_P tw dr rt sc, A, J, 57))) rfl ?_
    obtain ⟨A4, hx57, h⟩ := tw_bindE h
    refine g_X10_town_L1_ok I L A J tw dr rt sc a1 I1 _ 4096 (0 : Int32) A _ hx57 ?_
    refine tw_blk (cd := tw_c221) rfl 7 (c1 := (40, [some (.ref 44), some (.int a1), none], [.ref 44], ((upd (upd (upd (upd (upd I1 4402 (0 : Int32)) 4409 (0 : Int32)) 4413 (0 : Int32)) 4403 a1) 4405 (0 : Int32)), L, tw_P tw dr rt sc, A4, J, 57))) rfl ?_
    obtain ⟨⟨I8, A9⟩, hx10, h⟩ := tw_bindE h
    dsimp only at h
    refine tw_callE (cd := tw_c221) rfl rfl rfl rfl rfl (e_X10_next (upd (upd (upd (upd (upd I1 4402 (0 : Int32)) 4409 (0 : Int32)) 4413 (0 : Int32)) 4403 a1) 4405 (0 : Int32)) L A4 J tw dr rt sc _ hx10) (by exact Or.inl rfl) ?_
    refine tw_blk (cd := tw_c221) rfl 1 (c1 := (42, [some (.ref 44), some (.int a1), none], [.ref 44], (I8, L, tw_P tw dr rt sc, A9, J, 57))) rfl ?_
    obtain ⟨⟨I11, A12⟩, hx13, h⟩ := tw_bindE h
    dsimp only at h
    refine tw_callE (cd := tw_c221) rfl rfl rfl rfl rfl (e_X10_readLine I8 L A9 J tw dr rt sc _ hx13) (by exact Or.inl rfl) ?_
    obtain ⟨⟨I14, A15⟩, hx56, h⟩ := tw_bindE h
    dsimp only at h
    refine tw_forget (ls2 := [some (.ref 44), none, none]) ⟨rfl, trivial⟩ ?_
    refine g_X10_town_L2_ok I L A J tw dr rt sc a1 I1 A4 I8 A9 I11 A12 _ 4096 I11 A12 _ hx56 ?_
    refine tw_blk (cd := tw_c221) rfl 2 (c1 := (57, [some (.ref 44), none, none], [.int (I14 4413)], (I14, L, tw_P tw dr rt sc, A15, J, 57))) rfl ?_
    obtain ⟨I25, hj26, h⟩ := tw_bindE h
    have K : tw_ME 221 (66, [some (.ref 44), none, none], [], (I25, L, tw_P tw dr rt sc, A15, J, 57)) (some (.int r.1), ((r.2.1), L, tw_P tw dr rt sc, (r.2.2), J, 57)) := by
      refine tw_blk (cd := tw_c221) rfl 2 (c1 := (68, [some (.ref 44), none, none], [.int (I25 4413)], (I25, L, tw_P tw dr rt sc, A15, J, 57))) rfl ?_
      obtain ⟨I31, hj32, h⟩ := tw_bindE h
      have K : tw_ME 221 (84, [some (.ref 44), none, none], [], (I31, L, tw_P tw dr rt sc, A15, J, 57)) (some (.int r.1), ((r.2.1), L, tw_P tw dr rt sc, (r.2.2), J, 57)) := by
        refine tw_blk (cd := tw_c221) rfl 2 (c1 := (86, [some (.ref 44), none, none], [.int (I31 4413)], (I31, L, tw_P tw dr rt sc, A15, J, 57))) rfl ?_
        by_cases hc43 : (I31 4413) = 0
        · rw [if_pos hc43] at h
          refine tw_br (cd := tw_c221) rfl rfl rfl (by exact if_pos hc43) ?_
          refine tw_blk (cd := tw_c221) rfl 7 (c1 := (98, [some (.ref 44), none, none], [.int 241, .int 0, .ref 47, .int 0, .ref 48], (I31, L, tw_P tw dr rt sc, A15, J, 57))) rfl ?_
          obtain ⟨w44, hw45, h⟩ := tw_bindE h
          refine tw_callE (cd := tw_c221) rfl rfl rfl rfl rfl (tw_e_copy I31 L (tw_P tw dr rt sc) A15 J (q1 := 48) (q2 := 47) (N1 := 241) (N2 := 241) rfl rfl rfl rfl (by decide) (0 : Int32) (0 : Int32) (241 : Int32) w44 hw45) (by exact Or.inl rfl) ?_
          refine tw_blk (cd := tw_c221) rfl 2 (c1 := (101, [some (.ref 44), none, some (.int 0)], [], (I31, L, tw_P tw dr rt sc, (va_up A15 47 w44), J, 57))) rfl ?_
          obtain ⟨A46, hx52, h⟩ := tw_bindE h
          refine g_X10_town_L3_ok I L A J tw dr rt sc a1 I1 A4 I8 A9 I11 A12 I14 A15 I25 I31 w44 _ 4096 (0 : Int32) (va_up A15 47 w44) _ hx52 ?_
          refine tw_blk (cd := tw_c221) rfl 12 (c1 := (123, [some (.ref 44), none, none], [.int 1, .ref 47], ((upd (upd (upd I31 4414 (1 : Int32)) 4420 (0 : Int32)) 4421 (0 : Int32)), L, tw_P tw dr rt sc, A46, J, 57))) rfl ?_
          obtain ⟨x51, hx50, h⟩ := tw_bindE h
          refine tw_iald (cd := tw_c221) (N := 241) rfl rfl rfl rfl hx50 ?_
          have h := Option.some.inj h
          subst h
          exact tw_retE (cd := tw_c221) rfl rfl rfl rfl
        · rw [if_neg hc43] at h
          refine tw_br (cd := tw_c221) rfl rfl rfl (by exact if_neg hc43) ?_
          refine tw_blk (cd := tw_c221) rfl 2 (c1 := (89, [some (.ref 44), none, none], [.int 4, .ref 44], (I31, L, tw_P tw dr rt sc, A15, J, 57))) rfl ?_
          obtain ⟨⟨x53, I54⟩, hx55, h⟩ := tw_letE h
          dsimp only at h
          refine tw_callE (cd := tw_c221) rfl rfl rfl rfl rfl (e_X10_no I31 L A15 J tw dr rt sc (4 : Int32) _ hx55) (by exact Or.inl rfl) ?_
          have h := Option.some.inj h
          subst h
          exact tw_retE (cd := tw_c221) rfl rfl rfl rfl
      by_cases hc30 : (I25 4413) = 0
      · rw [if_pos hc30] at hj32
        refine tw_br (cd := tw_c221) rfl rfl rfl (by exact if_pos hc30) ?_
        refine tw_blk (cd := tw_c221) rfl 3 (c1 := (72, [some (.ref 44), none, none], [.int 9, .ref 48], (I25, L, tw_P tw dr rt sc, A15, J, 57))) rfl ?_
        obtain ⟨x34, hx33, hj32⟩ := tw_bindE hj32
        refine tw_iald (cd := tw_c221) (N := 241) rfl rfl rfl rfl hx33 ?_
        by_cases hc35 : x34 = 0
        · rw [if_pos hc35] at hj32
          refine tw_br (cd := tw_c221) rfl rfl rfl (by exact if_pos hc35) ?_
          refine tw_blk (cd := tw_c221) rfl 4 (c1 := (83, [some (.ref 44), none, none], [.int (I25 4404), .int 6, .ref 44], (I25, L, tw_P tw dr rt sc, A15, J, 57))) rfl ?_
          obtain ⟨I36, hx37, hj32⟩ := tw_letE hj32
          refine tw_callE (cd := tw_c221) rfl rfl rfl rfl rfl (e_X10_wrong I25 L A15 J tw dr rt sc (6 : Int32) (I25 4404) _ hx37) (by exact Or.inl rfl) ?_
          have hj32s := Option.some.inj hj32
          subst hj32s
          exact K
        · rw [if_neg hc35] at hj32
          refine tw_br (cd := tw_c221) rfl rfl rfl (by exact if_neg hc35) ?_
          refine tw_blk (cd := tw_c221) rfl 3 (c1 := (77, [some (.ref 44), none, none], [.int 1, .ref 48], (I25, L, tw_P tw dr rt sc, A15, J, 57))) rfl ?_
          obtain ⟨x39, hx38, hj32⟩ := tw_bindE hj32
          refine tw_iald (cd := tw_c221) (N := 241) rfl rfl rfl rfl hx38 ?_
          by_cases hc40 : x39 = 0
          · rw [if_pos hc40] at hj32
            refine tw_br (cd := tw_c221) rfl rfl rfl (by exact if_pos hc40) ?_
            refine tw_blk (cd := tw_c221) rfl 4 (c1 := (83, [some (.ref 44), none, none], [.int (I25 4404), .int 6, .ref 44], (I25, L, tw_P tw dr rt sc, A15, J, 57))) rfl ?_
            obtain ⟨I41, hx42, hj32⟩ := tw_letE hj32
            refine tw_callE (cd := tw_c221) rfl rfl rfl rfl rfl (e_X10_wrong I25 L A15 J tw dr rt sc (6 : Int32) (I25 4404) _ hx42) (by exact Or.inl rfl) ?_
            have hj32s := Option.some.inj hj32
            subst hj32s
            exact K
          · rw [if_neg hc40] at hj32
            refine tw_br (cd := tw_c221) rfl rfl rfl (by exact if_neg hc40) ?_
            have hj32s := Option.some.inj hj32
            subst hj32s
            exact K
      · rw [if_neg hc30] at hj32
        refine tw_br (cd := tw_c221) rfl rfl rfl (by exact if_neg hc30) ?_
        have hj32s := Option.some.inj hj32
        subst hj32s
        exact K
    by_cases hc24 : (I14 4413) = 0
    · rw [if_pos hc24] at hj26
      refine tw_br (cd := tw_c221) rfl rfl rfl (by exact if_pos hc24) ?_
      refine tw_blk (cd := tw_c221) rfl 2 (c1 := (60, [some (.ref 44), none, none], [.int (I14 4406)], (I14, L, tw_P tw dr rt sc, A15, J, 57))) rfl ?_
      by_cases hc27 : (I14 4406) = 0
      · rw [if_pos hc27] at hj26
        refine tw_br (cd := tw_c221) rfl rfl rfl (by exact if_pos hc27) ?_
        have hj26s := Option.some.inj hj26
        subst hj26s
        exact K
      · rw [if_neg hc27] at hj26
        refine tw_br (cd := tw_c221) rfl rfl rfl (by exact if_neg hc27) ?_
        refine tw_blk (cd := tw_c221) rfl 4 (c1 := (65, [some (.ref 44), none, none], [.int (I14 4404), .int 1, .ref 44], (I14, L, tw_P tw dr rt sc, A15, J, 57))) rfl ?_
        obtain ⟨I28, hx29, hj26⟩ := tw_letE hj26
        refine tw_callE (cd := tw_c221) rfl rfl rfl rfl rfl (e_X10_wrong I14 L A15 J tw dr rt sc (1 : Int32) (I14 4404) _ hx29) (by exact Or.inl rfl) ?_
        have hj26s := Option.some.inj hj26
        subst hj26s
        exact K
    · rw [if_neg hc24] at hj26
      refine tw_br (cd := tw_c221) rfl rfl rfl (by exact if_neg hc24) ?_
      have hj26s := Option.some.inj hj26
      subst hj26s
      exact K
  · rw [if_neg hc3] at h
    refine tw_br (cd := tw_c221) rfl rfl rfl (by exact if_pos (tw_b_f hc3)) ?_
    refine tw_blk (cd := tw_c221) rfl 2 (c1 := (10, [some (.ref 44), some (.int a1), none], [.int 2, .ref 44], (I1, L, tw_P tw dr rt sc, A, J, 57))) rfl ?_
    obtain ⟨⟨x58, I59⟩, hx60, h⟩ := tw_letE h
    dsimp only at h
    refine tw_callE (cd := tw_c221) rfl rfl rfl rfl rfl (e_X10_no I1 L A J tw dr rt sc (2 : Int32) _ hx60) (by exact Or.inl rfl) ?_
    have h := Option.some.inj h
    subst h
    exact tw_retE (cd := tw_c221) rfl rfl rfl rfl
theorem e_X9_fault (I : Nat → Int32) (L : Nat → Int64) (A : Nat → Nat → Int32) (J : Nat → Nat → Int64) (tw dr : Nat) (rt : Nat) (sc : Nat) : ∀ r : Int32, g_X9_fault I = r → tw_ME 115 (0, [some (.ref 0)], [], (I, L, tw_P tw dr rt sc, A, J, 57)) (some (.int r), (I, L, tw_P tw dr rt sc, A, J, 57)) := by
  intro r h
  unfold g_X9_fault at h
  refine tw_blk (cd := tw_c115) rfl 2 (c1 := (2, [some (.ref 0)], [.int (I 10)], (I, L, tw_P tw dr rt sc, A, J, 57))) rfl ?_
  subst h
  exact tw_retE (cd := tw_c115) rfl rfl rfl rfl
theorem e_X10_fault (I : Nat → Int32) (L : Nat → Int64) (A : Nat → Nat → Int32) (J : Nat → Nat → Int64) (tw dr : Nat) (rt : Nat) (sc : Nat) : ∀ r : (Int32 × (Nat → Int32)), g_X10_fault I = r → tw_ME 233 (0, [some (.ref 44)], [], (I, L, tw_P tw dr rt sc, A, J, 57)) (some (.int r.1), ((r.2), L, tw_P tw dr rt sc, A, J, 57)) := by
  intro r h
  unfold g_X10_fault at h
  refine tw_blk (cd := tw_c233) rfl 5 (c1 := (5, [some (.ref 44)], [.int (I 4409)], ((upd I 4400 (0 : Int32)), L, tw_P tw dr rt sc, A, J, 57))) rfl ?_
  subst h
  exact tw_retE (cd := tw_c233) rfl rfl rfl rfl
theorem e_X9_where (I : Nat → Int32) (L : Nat → Int64) (A : Nat → Nat → Int32) (J : Nat → Nat → Int64) (tw dr : Nat) (rt : Nat) (sc : Nat) : ∀ r : Int32, g_X9_where I = r → tw_ME 116 (0, [some (.ref 0)], [], (I, L, tw_P tw dr rt sc, A, J, 57)) (some (.int r), (I, L, tw_P tw dr rt sc, A, J, 57)) := by
  intro r h
  unfold g_X9_where at h
  refine tw_blk (cd := tw_c116) rfl 3 (c1 := (3, [some (.ref 0)], [.int 4, .int (I 12)], (I, L, tw_P tw dr rt sc, A, J, 57))) rfl ?_
  by_cases hc1 : (I 12) = (4 : Int32)
  · rw [if_pos hc1] at h
    refine tw_br (cd := tw_c116) rfl rfl rfl (by exact if_pos hc1) ?_
    refine tw_blk (cd := tw_c116) rfl 3 (c1 := (8, [some (.ref 0)], [.int (I 11)], (I, L, tw_P tw dr rt sc, A, J, 57))) rfl ?_
    subst h
    exact tw_retE (cd := tw_c116) rfl rfl rfl rfl
  · rw [if_neg hc1] at h
    refine tw_br (cd := tw_c116) rfl rfl rfl (by exact if_neg hc1) ?_
    refine tw_blk (cd := tw_c116) rfl 1 (c1 := (8, [some (.ref 0)], [.int (-1)], (I, L, tw_P tw dr rt sc, A, J, 57))) rfl ?_
    subst h
    exact tw_retE (cd := tw_c116) rfl rfl rfl rfl
theorem e_X10_where (I : Nat → Int32) (L : Nat → Int64) (A : Nat → Nat → Int32) (J : Nat → Nat → Int64) (tw dr : Nat) (rt : Nat) (sc : Nat) : ∀ r : (Int32 × (Nat → Int32)), g_X10_where I = r → tw_ME 234 (0, [some (.ref 44)], [], (I, L, tw_P tw dr rt sc, A, J, 57)) (some (.int r.1), ((r.2), L, tw_P tw dr rt sc, A, J, 57)) := by
  intro r h
  unfold g_X10_where at h
  refine tw_blk (cd := tw_c234) rfl 6 (c1 := (6, [some (.ref 44)], [.int 4, .int (I 4411)], ((upd I 4400 (0 : Int32)), L, tw_P tw dr rt sc, A, J, 57))) rfl ?_
  by_cases hc1 : (I 4411) = (4 : Int32)
  · rw [if_pos hc1] at h
    refine tw_br (cd := tw_c234) rfl rfl rfl (by exact if_pos hc1) ?_
    refine tw_blk (cd := tw_c234) rfl 3 (c1 := (11, [some (.ref 44)], [.int (I 4410)], ((upd I 4400 (0 : Int32)), L, tw_P tw dr rt sc, A, J, 57))) rfl ?_
    subst h
    exact tw_retE (cd := tw_c234) rfl rfl rfl rfl
  · rw [if_neg hc1] at h
    refine tw_br (cd := tw_c234) rfl rfl rfl (by exact if_neg hc1) ?_
    refine tw_blk (cd := tw_c234) rfl 1 (c1 := (11, [some (.ref 44)], [.int (-1)], ((upd I 4400 (0 : Int32)), L, tw_P tw dr rt sc, A, J, 57))) rfl ?_
    subst h
    exact tw_retE (cd := tw_c234) rfl rfl rfl rfl
theorem e_X8_count_2 (I : Nat → Int32) (L : Nat → Int64) (A : Nat → Nat → Int32) (J : Nat → Nat → Int64) (tw dr : Nat) (rt : Nat) (sc : Nat) (a1 : Int32) : ∀ r : Int32, g_X8_count_2 A a1 = r → tw_ME 100 (0, [some (.ref 2), some (.int a1)], [], (I, L, tw_P tw dr rt sc, A, J, 57)) (some (.int r), (I, L, tw_P tw dr rt sc, A, J, 57)) := by
  intro r h
  unfold g_X8_count_2 at h
  refine tw_blk (cd := tw_c100) rfl 3 (c1 := (3, [some (.ref 2), some (.int a1)], [.int a1, .ref 3], (I, L, tw_P tw dr rt sc, A, J, 57))) rfl ?_
  refine tw_callE (cd := tw_c100) rfl rfl rfl rfl rfl (tw_e_get I L (tw_P tw dr rt sc) A J (q := 3) (N := 9) rfl rfl (by decide) a1) (by exact Or.inl rfl) ?_
  subst h
  exact tw_retE (cd := tw_c100) rfl rfl rfl rfl
theorem e_X9_isPerson (I : Nat → Int32) (L : Nat → Int64) (A : Nat → Nat → Int32) (J : Nat → Nat → Int64) (rt : Nat) (sc : Nat) (a1 : Int32) : ∀ r : Bool, g_X9_isPerson A a1 = r → tw_ME 180 (0, [some (.ref 0), some (.int a1)], [], (I, L, tw_P 2 14 rt sc, A, J, 57)) (some (.int (tw_b r)), (I, L, tw_P 2 14 rt sc, A, J, 57)) := by
  intro r h
  unfold g_X9_isPerson at h
  refine tw_blk (cd := tw_c180) rfl 1 (c1 := (1, [some (.ref 0), some (.int a1)], [.int a1], (I, L, tw_P 2 14 rt sc, A, J, 57))) rfl ?_
  by_cases hc1 : a1 < 0
  · rw [if_pos hc1] at h
    refine tw_br (cd := tw_c180) rfl rfl rfl (by exact if_pos hc1) ?_
    refine tw_blk (cd := tw_c180) rfl 1 (c1 := (11, [some (.ref 0), some (.int a1)], [.int 0], (I, L, tw_P 2 14 rt sc, A, J, 57))) rfl ?_
    subst h
    exact tw_retZ (cd := tw_c180) (b := false) rfl rfl rfl rfl
  · rw [if_neg hc1] at h
    refine tw_br (cd := tw_c180) rfl rfl rfl (by exact if_neg hc1) ?_
    refine tw_blk (cd := tw_c180) rfl 4 (c1 := (6, [some (.ref 0), some (.int a1)], [.int 3, .ref 2, .int a1], (I, L, tw_P 2 14 rt sc, A, J, 57))) rfl ?_
    refine tw_callE (cd := tw_c180) rfl rfl rfl rfl rfl (e_X8_count_2 I L A J 2 14 rt sc (3 : Int32) _ rfl) (by exact Or.inl rfl) ?_
    by_cases hc2 : (g_X8_count_2 A (3 : Int32)) ≤ a1
    · rw [if_pos hc2] at h
      refine tw_br (cd := tw_c180) rfl rfl rfl (by exact if_pos hc2) ?_
      refine tw_blk (cd := tw_c180) rfl 1 (c1 := (11, [some (.ref 0), some (.int a1)], [.int 0], (I, L, tw_P 2 14 rt sc, A, J, 57))) rfl ?_
      subst h
      exact tw_retZ (cd := tw_c180) (b := false) rfl rfl rfl rfl
    · rw [if_neg hc2] at h
      refine tw_br (cd := tw_c180) rfl rfl rfl (by exact if_neg hc2) ?_
      refine tw_blk (cd := tw_c180) rfl 2 (c1 := (11, [some (.ref 0), some (.int a1)], [.int 1], (I, L, tw_P 2 14 rt sc, A, J, 57))) rfl ?_
      subst h
      exact tw_retZ (cd := tw_c180) (b := true) rfl rfl rfl rfl
theorem e_X8_eyesByKind_2 (I : Nat → Int32) (L : Nat → Int64) (A : Nat → Nat → Int32) (J : Nat → Nat → Int64) (tw dr : Nat) (rt : Nat) (sc : Nat) (a1 : Int32) : ∀ r : Int32, g_X8_eyesByKind_2 A a1 = r → tw_ME 109 (0, [some (.ref 2), some (.int a1)], [], (I, L, tw_P tw dr rt sc, A, J, 57)) (some (.int r), (I, L, tw_P tw dr rt sc, A, J, 57)) := by
  intro r h
  unfold g_X8_eyesByKind_2 at h
  refine tw_blk (cd := tw_c109) rfl 3 (c1 := (3, [some (.ref 2), some (.int a1)], [.int a1, .ref 6], (I, L, tw_P tw dr rt sc, A, J, 57))) rfl ?_
  refine tw_callE (cd := tw_c109) rfl rfl rfl rfl rfl (tw_e_get I L (tw_P tw dr rt sc) A J (q := 6) (N := 6) rfl rfl (by decide) a1) (by exact Or.inl rfl) ?_
  by_cases hs1 : (tw_get0 6 (A 6) a1) = 2
  · rw [if_pos hs1] at h
    refine tw_swE (cd := tw_c109) rfl rfl rfl hs1 (by exact rfl) ?_
    refine tw_blk (cd := tw_c109) rfl 1 (c1 := (6, [some (.ref 2), some (.int a1)], [.int 0], (I, L, tw_P tw dr rt sc, A, J, 57))) rfl ?_
    subst h
    exact tw_retE (cd := tw_c109) rfl rfl rfl rfl
  · rw [if_neg hs1] at h
    by_cases hs2 : (tw_get0 6 (A 6) a1) = 3
    · rw [if_pos hs2] at h
      refine tw_swE (cd := tw_c109) rfl rfl rfl hs2 (by exact rfl) ?_
      refine tw_blk (cd := tw_c109) rfl 1 (c1 := (8, [some (.ref 2), some (.int a1)], [.int 1], (I, L, tw_P tw dr rt sc, A, J, 57))) rfl ?_
      subst h
      exact tw_retE (cd := tw_c109) rfl rfl rfl rfl
    · rw [if_neg hs2] at h
      refine tw_lsD (cd := tw_c109) rfl rfl ?_ rfl ?_
      · show ((!decide ((2 : Int) = ((tw_get0 6 (A 6) a1)).toInt) && (!decide ((3 : Int) = ((tw_get0 6 (A 6) a1)).toInt) && true))) = true
        rw [decide_eq_false (fun e9 => hs1 (Int32.toInt_inj.mp (e9.symm.trans (by decide)))), decide_eq_false (fun e9 => hs2 (Int32.toInt_inj.mp (e9.symm.trans (by decide))))]
        rfl
      refine tw_blk (cd := tw_c109) rfl 1 (c1 := (10, [some (.ref 2), some (.int a1)], [.int 2], (I, L, tw_P tw dr rt sc, A, J, 57))) rfl ?_
      subst h
      exact tw_retE (cd := tw_c109) rfl rfl rfl rfl
theorem e_X0_sentTo (I : Nat → Int32) (L : Nat → Int64) (A : Nat → Nat → Int32) (J : Nat → Nat → Int64) (tw dr : Nat) (rt : Nat) (sc : Nat) (a0 : Int32) (a1 : Int32) : ∀ r : Int32, g_X0_sentTo a0 a1 = r → tw_ME 2 (0, [some (.int a0), some (.int a1)], [], (I, L, tw_P tw dr rt sc, A, J, 57)) (some (.int r), (I, L, tw_P tw dr rt sc, A, J, 57)) := by
  intro r h
  unfold g_X0_sentTo at h
  refine tw_blk (cd := tw_c2) rfl 9 (c1 := (9, [some (.int a0), some (.int a1)], [.int (((a0 >>> (((3 : Int32) * a1) &&& 31)) &&& (7 : Int32)) - (1 : Int32))], (I, L, tw_P tw dr rt sc, A, J, 57))) rfl ?_
  subst h
  exact tw_retE (cd := tw_c2) rfl rfl rfl rfl
theorem e_X0_isHired (I : Nat → Int32) (L : Nat → Int64) (A : Nat → Nat → Int32) (J : Nat → Nat → Int64) (tw dr : Nat) (rt : Nat) (sc : Nat) (a1 : Int32) : ∀ r : Bool, g_X0_isHired I a1 = r → tw_ME 4 (0, [some (.ref 33), some (.int a1)], [], (I, L, tw_P tw dr rt sc, A, J, 57)) (some (.int (tw_b r)), (I, L, tw_P tw dr rt sc, A, J, 57)) := by
  intro r h
  unfold g_X0_isHired at h
  refine tw_blk (cd := tw_c4) rfl 3 (c1 := (3, [some (.ref 33), some (.int a1)], [.int a1, .int (I 3301)], (I, L, tw_P tw dr rt sc, A, J, 57))) rfl ?_
  refine tw_callE (cd := tw_c4) rfl rfl rfl rfl rfl (e_X0_sentTo I L A J tw dr rt sc (I 3301) a1 _ rfl) (by exact Or.inl rfl) ?_
  refine tw_blk (cd := tw_c4) rfl 1 (c1 := (5, [some (.ref 33), some (.int a1)], [.int (-1), .int (g_X0_sentTo (I 3301) a1)], (I, L, tw_P tw dr rt sc, A, J, 57))) rfl ?_
  by_cases hc1 : (g_X0_sentTo (I 3301) a1) = (-1 : Int32)
  · rw [if_pos hc1] at h
    refine tw_br (cd := tw_c4) rfl rfl rfl (by exact if_pos hc1) ?_
    refine tw_blk (cd := tw_c4) rfl 1 (c1 := (9, [some (.ref 33), some (.int a1)], [.int 0], (I, L, tw_P tw dr rt sc, A, J, 57))) rfl ?_
    subst h
    exact tw_retZ (cd := tw_c4) (b := false) rfl rfl rfl rfl
  · rw [if_neg hc1] at h
    refine tw_br (cd := tw_c4) rfl rfl rfl (by exact if_neg hc1) ?_
    refine tw_blk (cd := tw_c4) rfl 2 (c1 := (9, [some (.ref 33), some (.int a1)], [.int 1], (I, L, tw_P tw dr rt sc, A, J, 57))) rfl ?_
    subst h
    exact tw_retZ (cd := tw_c4) (b := true) rfl rfl rfl rfl
theorem e_X8_fact_2 (I : Nat → Int32) (L : Nat → Int64) (A : Nat → Nat → Int32) (J : Nat → Nat → Int64) (tw dr : Nat) (rt : Nat) (sc : Nat) (a1 : Int32) (a2 : Int32) : ∀ r : Int32, g_X8_fact_2 A a1 a2 = r → tw_ME 106 (0, [some (.ref 2), some (.int a1), some (.int a2)], [], (I, L, tw_P tw dr rt sc, A, J, 57)) (some (.int r), (I, L, tw_P tw dr rt sc, A, J, 57)) := by
  intro r h
  unfold g_X8_fact_2 at h
  refine tw_blk (cd := tw_c106) rfl 7 (c1 := (7, [some (.ref 2), some (.int a1), some (.int a2)], [.int ((a1 * (5 : Int32)) + a2), .ref 10], (I, L, tw_P tw dr rt sc, A, J, 57))) rfl ?_
  refine tw_callE (cd := tw_c106) rfl rfl rfl rfl rfl (tw_e_get I L (tw_P tw dr rt sc) A J (q := 10) (N := 15) rfl rfl (by decide) ((a1 * (5 : Int32)) + a2)) (by exact Or.inl rfl) ?_
  subst h
  exact tw_retE (cd := tw_c106) rfl rfl rfl rfl
theorem e_X8_twoOf_2 (I : Nat → Int32) (L : Nat → Int64) (A : Nat → Nat → Int32) (J : Nat → Nat → Int64) (tw dr : Nat) (rt : Nat) (sc : Nat) (a1 : Int32) : ∀ r : Int32, g_X8_twoOf_2 A a1 = r → tw_ME 107 (0, [some (.ref 2), some (.int a1)], [], (I, L, tw_P tw dr rt sc, A, J, 57)) (some (.int r), (I, L, tw_P tw dr rt sc, A, J, 57)) := by
  intro r h
  unfold g_X8_twoOf_2 at h
  refine tw_blk (cd := tw_c107) rfl 4 (c1 := (4, [some (.ref 2), some (.int a1)], [.int 0, .int a1, .ref 2, .int 1], (I, L, tw_P tw dr rt sc, A, J, 57))) rfl ?_
  refine tw_callE (cd := tw_c107) rfl rfl rfl rfl rfl (e_X8_fact_2 I L A J tw dr rt sc a1 (0 : Int32) _ rfl) (by exact Or.inl rfl) ?_
  refine tw_blk (cd := tw_c107) rfl 5 (c1 := (10, [some (.ref 2), some (.int a1)], [.int 1, .int a1, .ref 2, .int 1, .int ((1 : Int32) <<< ((g_X8_fact_2 A a1 (0 : Int32)) &&& 31))], (I, L, tw_P tw dr rt sc, A, J, 57))) rfl ?_
  refine tw_callE (cd := tw_c107) rfl rfl rfl rfl rfl (e_X8_fact_2 I L A J tw dr rt sc a1 (1 : Int32) _ rfl) (by exact Or.inl rfl) ?_
  refine tw_blk (cd := tw_c107) rfl 2 (c1 := (13, [some (.ref 2), some (.int a1)], [.int (((1 : Int32) <<< ((g_X8_fact_2 A a1 (0 : Int32)) &&& 31)) ||| ((1 : Int32) <<< ((g_X8_fact_2 A a1 (1 : Int32)) &&& 31)))], (I, L, tw_P tw dr rt sc, A, J, 57))) rfl ?_
  subst h
  exact tw_retE (cd := tw_c107) rfl rfl rfl rfl
theorem g_X8_quarrelsOf_2_L1_ok (I : Nat → Int32) (L : Nat → Int64) (A : Nat → Nat → Int32) (J : Nat → Nat → Int64) (tw : Nat) (dr : Nat) (rt : Nat) (sc : Nat) (a1 : Int32) (out : Option Value × tw_S) : ∀ (n : Nat) (v1_2 : Int32) (v1_3 : Int32) (ex : Int32), g_X8_quarrelsOf_2_L1 A a1 n v1_2 v1_3 = some ex → tw_ME 108 (23, [none, none, some (.int ex), none], [], (I, L, tw_P tw dr rt sc, A, J, 57)) out → tw_ME 108 (4, [some (.ref 2), some (.int a1), some (.int v1_2), some (.int v1_3)], [], (I, L, tw_P tw dr rt sc, A, J, 57)) out := by
  intro n
  induction n with
  | zero =>
    intro v1_2 v1_3 ex h _
    cases h
  | succ n ih =>
    intro v1_2 v1_3 ex h K
    rw [g_X8_quarrelsOf_2_L1] at h
    refine tw_blk (cd := tw_c108) rfl 1 (c1 := (5, [some (.ref 2), some (.int a1), some (.int v1_2), some (.int v1_3)], [.int v1_3], (I, L, tw_P tw dr rt sc, A, J, 57))) rfl ?_
    refine tw_blk (cd := tw_c108) rfl 2 (c1 := (7, [some (.ref 2), some (.int a1), some (.int v1_2), some (.int v1_3)], [.int 5, .ref 2, .int v1_3], (I, L, tw_P tw dr rt sc, A, J, 57))) rfl ?_
    refine tw_callE (cd := tw_c108) rfl rfl rfl rfl rfl (e_X8_count_2 I L A J tw dr rt sc (5 : Int32) _ rfl) (by exact Or.inl rfl) ?_
    by_cases hc2 : (g_X8_count_2 A (5 : Int32)) ≤ v1_3
    · rw [if_pos hc2] at h
      refine tw_br (cd := tw_c108) rfl rfl rfl (by exact if_pos hc2) ?_
      refine tw_forget (ls2 := [none, none, some (.int v1_2), none]) ⟨rfl, trivial⟩ ?_
      have h := Option.some.inj h
      subst h
      exact K
    · rw [if_neg hc2] at h
      refine tw_br (cd := tw_c108) rfl rfl rfl (by exact if_neg hc2) ?_
      refine tw_blk (cd := tw_c108) rfl 3 (c1 := (12, [some (.ref 2), some (.int a1), some (.int v1_2), some (.int v1_3)], [.int v1_3, .ref 2, .int v1_2], (I, L, tw_P tw dr rt sc, A, J, 57))) rfl ?_
      refine tw_callE (cd := tw_c108) rfl rfl rfl rfl rfl (e_X8_twoOf_2 I L A J tw dr rt sc v1_3 _ rfl) (by exact Or.inl rfl) ?_
      refine tw_blk (cd := tw_c108) rfl 10 (c1 := (4, [some (.ref 2), some (.int a1), some (.int (v1_2 ||| ((((g_X8_twoOf_2 A v1_3) >>> (a1 &&& 31)) &&& (1 : Int32)) <<< (v1_3 &&& 31)))), some (.int (v1_3 + (1 : Int32)))], [], (I, L, tw_P tw dr rt sc, A, J, 57))) rfl ?_
      exact ih (v1_2 ||| ((((g_X8_twoOf_2 A v1_3) >>> (a1 &&& 31)) &&& (1 : Int32)) <<< (v1_3 &&& 31))) (v1_3 + (1 : Int32)) _ h K
theorem e_X8_quarrelsOf_2 (I : Nat → Int32) (L : Nat → Int64) (A : Nat → Nat → Int32) (J : Nat → Nat → Int64) (tw dr : Nat) (rt : Nat) (sc : Nat) (a1 : Int32) : ∀ r : Int32, g_X8_quarrelsOf_2 A a1 = some r → tw_ME 108 (0, [some (.ref 2), some (.int a1), none, none], [], (I, L, tw_P tw dr rt sc, A, J, 57)) (some (.int r), (I, L, tw_P tw dr rt sc, A, J, 57)) := by
  intro r h
  unfold g_X8_quarrelsOf_2 at h
  refine tw_blk (cd := tw_c108) rfl 4 (c1 := (4, [some (.ref 2), some (.int a1), some (.int 0), some (.int 0)], [], (I, L, tw_P tw dr rt sc, A, J, 57))) rfl ?_
  obtain ⟨x1, hx3, h⟩ := tw_bindE h
  refine g_X8_quarrelsOf_2_L1_ok I L A J tw dr rt sc a1 _ 4096 (0 : Int32) (0 : Int32) _ hx3 ?_
  refine tw_blk (cd := tw_c108) rfl 1 (c1 := (24, [none, none, some (.int x1), none], [.int x1], (I, L, tw_P tw dr rt sc, A, J, 57))) rfl ?_
  have h := Option.some.inj h
  subst h
  exact tw_retE (cd := tw_c108) rfl rfl rfl rfl
theorem e_X9_person (I : Nat → Int32) (L : Nat → Int64) (A : Nat → Nat → Int32) (J : Nat → Nat → Int64) (rt : Nat) (sc : Nat) (a1 : Int32) (a2 : Int32) : ∀ r : (Int32 × (Nat → Int32)), g_X9_person I A a1 a2 = some r → tw_ME 117 (0, [some (.ref 0), some (.int a1), some (.int a2)], [], (I, L, tw_P 2 14 rt sc, A, J, 57)) (some (.int r.1), ((r.2), L, tw_P 2 14 rt sc, A, J, 57)) := by
  intro r h
  unfold g_X9_person at h
  refine tw_blk (cd := tw_c117) rfl 2 (c1 := (2, [some (.ref 0), some (.int a1), some (.int a2)], [.int a1, .ref 0], (I, L, tw_P 2 14 rt sc, A, J, 57))) rfl ?_
  refine tw_callE (cd := tw_c117) rfl rfl rfl rfl rfl (e_X9_isPerson I L A J rt sc a1 _ rfl) (by exact Or.inl rfl) ?_
  by_cases hc1 : (g_X9_isPerson A a1) = true
  · rw [if_pos hc1] at h
    refine tw_br (cd := tw_c117) rfl rfl rfl (by exact if_neg (tw_b_t hc1)) ?_
    refine tw_blk (cd := tw_c117) rfl 1 (c1 := (5, [some (.ref 0), some (.int a1), some (.int a2)], [.int a2], (I, L, tw_P 2 14 rt sc, A, J, 57))) rfl ?_
    by_cases hc2 : a2 < 0
    · rw [if_pos hc2] at h
      refine tw_br (cd := tw_c117) rfl rfl rfl (by exact if_pos hc2) ?_
      refine tw_blk (cd := tw_c117) rfl 2 (c1 := (11, [some (.ref 0), some (.int a1), some (.int a2)], [.int 1, .ref 0], (I, L, tw_P 2 14 rt sc, A, J, 57))) rfl ?_
      obtain ⟨⟨x3, I4⟩, hx5, h⟩ := tw_letE h
      dsimp only at h
      refine tw_callE (cd := tw_c117) rfl rfl rfl rfl rfl (e_X9_refuse I L A J 2 14 rt sc (1 : Int32) _ hx5) (by exact Or.inl rfl) ?_
      have h := Option.some.inj h
      subst h
      exact tw_retE (cd := tw_c117) rfl rfl rfl rfl
    · rw [if_neg hc2] at h
      refine tw_br (cd := tw_c117) rfl rfl rfl (by exact if_neg hc2) ?_
      refine tw_blk (cd := tw_c117) rfl 2 (c1 := (8, [some (.ref 0), some (.int a1), some (.int a2)], [.int 5, .int a2], (I, L, tw_P 2 14 rt sc, A, J, 57))) rfl ?_
      by_cases hc6 : a2 ≤ (5 : Int32)
      · rw [if_pos hc6] at h
        refine tw_br (cd := tw_c117) rfl rfl rfl (by exact if_pos hc6) ?_
        refine tw_blk (cd := tw_c117) rfl 1 (c1 := (14, [some (.ref 0), some (.int a1), some (.int a2)], [.int a2], (I, L, tw_P 2 14 rt sc, A, J, 57))) rfl ?_
        by_cases hs7 : a2 = 0
        · rw [if_pos hs7] at h
          refine tw_swE (cd := tw_c117) rfl rfl rfl hs7 (by exact rfl) ?_
          refine tw_blk (cd := tw_c117) rfl 5 (c1 := (20, [some (.ref 0), some (.int a1), some (.int a2)], [.int a1, .ref 6, .ref 0], (I, L, tw_P 2 14 rt sc, A, J, 57))) rfl ?_
          refine tw_callE (cd := tw_c117) rfl rfl rfl rfl rfl (tw_e_get I L (tw_P 2 14 rt sc) A J (q := 6) (N := 6) rfl rfl (by decide) a1) (by exact Or.inl rfl) ?_
          obtain ⟨⟨x8, I9⟩, hx10, h⟩ := tw_letE h
          dsimp only at h
          refine tw_callE (cd := tw_c117) rfl rfl rfl rfl rfl (e_X9_grant I L A J 2 14 rt sc (tw_get0 6 (A 6) a1) _ hx10) (by exact Or.inl rfl) ?_
          have h := Option.some.inj h
          subst h
          exact tw_retE (cd := tw_c117) rfl rfl rfl rfl
        · rw [if_neg hs7] at h
          by_cases hs11 : a2 = 1
          · rw [if_pos hs11] at h
            refine tw_swE (cd := tw_c117) rfl rfl rfl hs11 (by exact rfl) ?_
            refine tw_blk (cd := tw_c117) rfl 5 (c1 := (28, [some (.ref 0), some (.int a1), some (.int a2)], [.int a1, .ref 7, .ref 0], (I, L, tw_P 2 14 rt sc, A, J, 57))) rfl ?_
            refine tw_callE (cd := tw_c117) rfl rfl rfl rfl rfl (tw_e_get I L (tw_P 2 14 rt sc) A J (q := 7) (N := 6) rfl rfl (by decide) a1) (by exact Or.inl rfl) ?_
            obtain ⟨⟨x12, I13⟩, hx14, h⟩ := tw_letE h
            dsimp only at h
            refine tw_callE (cd := tw_c117) rfl rfl rfl rfl rfl (e_X9_grant I L A J 2 14 rt sc (tw_get0 6 (A 7) a1) _ hx14) (by exact Or.inl rfl) ?_
            have h := Option.some.inj h
            subst h
            exact tw_retE (cd := tw_c117) rfl rfl rfl rfl
          · rw [if_neg hs11] at h
            by_cases hs15 : a2 = 2
            · rw [if_pos hs15] at h
              refine tw_swE (cd := tw_c117) rfl rfl rfl hs15 (by exact rfl) ?_
              refine tw_blk (cd := tw_c117) rfl 4 (c1 := (35, [some (.ref 0), some (.int a1), some (.int a2)], [.int a1, .ref 2, .ref 0], (I, L, tw_P 2 14 rt sc, A, J, 57))) rfl ?_
              refine tw_callE (cd := tw_c117) rfl rfl rfl rfl rfl (e_X8_eyesByKind_2 I L A J 2 14 rt sc a1 _ rfl) (by exact Or.inl rfl) ?_
              obtain ⟨⟨x16, I17⟩, hx18, h⟩ := tw_letE h
              dsimp only at h
              refine tw_callE (cd := tw_c117) rfl rfl rfl rfl rfl (e_X9_grant I L A J 2 14 rt sc (g_X8_eyesByKind_2 A a1) _ hx18) (by exact Or.inl rfl) ?_
              have h := Option.some.inj h
              subst h
              exact tw_retE (cd := tw_c117) rfl rfl rfl rfl
            · rw [if_neg hs15] at h
              by_cases hs19 : a2 = 3
              · rw [if_pos hs19] at h
                refine tw_swE (cd := tw_c117) rfl rfl rfl hs19 (by exact rfl) ?_
                refine tw_blk (cd := tw_c117) rfl 5 (c1 := (43, [some (.ref 0), some (.int a1), some (.int a2)], [.int a1, .ref 8, .ref 0], (I, L, tw_P 2 14 rt sc, A, J, 57))) rfl ?_
                refine tw_callE (cd := tw_c117) rfl rfl rfl rfl rfl (tw_e_get I L (tw_P 2 14 rt sc) A J (q := 8) (N := 6) rfl rfl (by decide) a1) (by exact Or.inl rfl) ?_
                obtain ⟨⟨x20, I21⟩, hx22, h⟩ := tw_letE h
                dsimp only at h
                refine tw_callE (cd := tw_c117) rfl rfl rfl rfl rfl (e_X9_grant I L A J 2 14 rt sc (tw_get0 6 (A 8) a1) _ hx22) (by exact Or.inl rfl) ?_
                have h := Option.some.inj h
                subst h
                exact tw_retE (cd := tw_c117) rfl rfl rfl rfl
              · rw [if_neg hs19] at h
                by_cases hs23 : a2 = 4
                · rw [if_pos hs23] at h
                  refine tw_swE (cd := tw_c117) rfl rfl rfl hs23 (by exact rfl) ?_
                  refine tw_blk (cd := tw_c117) rfl 4 (c1 := (50, [some (.ref 0), some (.int a1), some (.int a2)], [.int a1, .ref 33, .ref 0], (I, L, tw_P 2 14 rt sc, A, J, 57))) rfl ?_
                  refine tw_callE (cd := tw_c117) rfl rfl rfl rfl rfl (e_X0_isHired I L A J 2 14 rt sc a1 _ rfl) (by exact Or.inl rfl) ?_
                  obtain ⟨x25, hj26, h⟩ := tw_bindE h
                  have K : tw_ME 117 (59, [none, none, none], [.int x25, .ref 0], (I, L, tw_P 2 14 rt sc, A, J, 57)) (some (.int r.1), ((r.2), L, tw_P 2 14 rt sc, A, J, 57)) := by
                    obtain ⟨⟨x27, I28⟩, hx29, h⟩ := tw_letE h
                    dsimp only at h
                    refine tw_callE (cd := tw_c117) rfl rfl rfl rfl rfl (e_X9_grant I L A J 2 14 rt sc x25 _ hx29) (by exact Or.inl rfl) ?_
                    have h := Option.some.inj h
                    subst h
                    exact tw_retE (cd := tw_c117) rfl rfl rfl rfl
                  by_cases hc24 : (g_X0_isHired I a1) = true
                  · rw [if_pos hc24] at hj26
                    refine tw_br (cd := tw_c117) rfl rfl rfl (by exact if_neg (tw_b_t hc24)) ?_
                    refine tw_blk (cd := tw_c117) rfl 4 (c1 := (56, [some (.ref 0), some (.int a1), some (.int a2)], [.int a1, .int (I 3301), .ref 0], (I, L, tw_P 2 14 rt sc, A, J, 57))) rfl ?_
                    refine tw_callE (cd := tw_c117) rfl rfl rfl rfl rfl (e_X0_sentTo I L A J 2 14 rt sc (I 3301) a1 _ rfl) (by exact Or.inl rfl) ?_
                    refine tw_blk (cd := tw_c117) rfl 1 (c1 := (59, [some (.ref 0), some (.int a1), some (.int a2)], [.int (g_X0_sentTo (I 3301) a1), .ref 0], (I, L, tw_P 2 14 rt sc, A, J, 57))) rfl ?_
                    refine tw_forget (ls2 := [none, none, none]) trivial ?_
                    have hj26s := Option.some.inj hj26
                    subst hj26s
                    exact K
                  · rw [if_neg hc24] at hj26
                    refine tw_br (cd := tw_c117) rfl rfl rfl (by exact if_pos (tw_b_f hc24)) ?_
                    refine tw_blk (cd := tw_c117) rfl 1 (c1 := (59, [some (.ref 0), some (.int a1), some (.int a2)], [.int (-2), .ref 0], (I, L, tw_P 2 14 rt sc, A, J, 57))) rfl ?_
                    refine tw_forget (ls2 := [none, none, none]) trivial ?_
                    have hj26s := Option.some.inj hj26
                    subst hj26s
                    exact K
                · rw [if_neg hs23] at h
                  refine tw_tsD (cd := tw_c117) rfl rfl ?_ rfl ?_
                  · by_cases h8 : (a2).toInt < 0
                    · exact Or.inl h8
                    · by_cases h9 : 4 < (a2).toInt
                      · exact Or.inr h9
                      · exfalso
                        have h7 : (a2).toInt = 0 ∨ (a2).toInt = 1 ∨ (a2).toInt = 2 ∨ (a2).toInt = 3 ∨ (a2).toInt = 4 := by omega
                        rcases h7 with h7 | h7 | h7 | h7 | h7
                        · exact (fun e9 => hs7 (Int32.toInt_inj.mp (e9.trans (by decide)))) h7
                        · exact (fun e9 => hs11 (Int32.toInt_inj.mp (e9.trans (by decide)))) h7
                        · exact (fun e9 => hs15 (Int32.toInt_inj.mp (e9.trans (by decide)))) h7
                        · exact (fun e9 => hs19 (Int32.toInt_inj.mp (e9.trans (by decide)))) h7
                        · exact (fun e9 => hs23 (Int32.toInt_inj.mp (e9.trans (by decide)))) h7
                  refine tw_blk (cd := tw_c117) rfl 4 (c1 := (65, [some (.ref 0), some (.int a1), some (.int a2)], [.int a1, .ref 2, .ref 0], (I, L, tw_P 2 14 rt sc, A, J, 57))) rfl ?_
                  obtain ⟨x30, hx31, h⟩ := tw_bindE h
                  refine tw_callE (cd := tw_c117) rfl rfl rfl rfl rfl (e_X8_quarrelsOf_2 I L A J 2 14 rt sc a1 _ hx31) (by exact Or.inl rfl) ?_
                  obtain ⟨⟨x32, I33⟩, hx34, h⟩ := tw_letE h
                  dsimp only at h
                  refine tw_callE (cd := tw_c117) rfl rfl rfl rfl rfl (e_X9_grant I L A J 2 14 rt sc x30 _ hx34) (by exact Or.inl rfl) ?_
                  have h := Option.some.inj h
                  subst h
                  exact tw_retE (cd := tw_c117) rfl rfl rfl rfl
      · rw [if_neg hc6] at h
        refine tw_br (cd := tw_c117) rfl rfl rfl (by exact if_neg hc6) ?_
        refine tw_blk (cd := tw_c117) rfl 2 (c1 := (11, [some (.ref 0), some (.int a1), some (.int a2)], [.int 1, .ref 0], (I, L, tw_P 2 14 rt sc, A, J, 57))) rfl ?_
        obtain ⟨⟨x35, I36⟩, hx37, h⟩ := tw_letE h
        dsimp only at h
        refine tw_callE (cd := tw_c117) rfl rfl rfl rfl rfl (e_X9_refuse I L A J 2 14 rt sc (1 : Int32) _ hx37) (by exact Or.inl rfl) ?_
        have h := Option.some.inj h
        subst h
        exact tw_retE (cd := tw_c117) rfl rfl rfl rfl
  · rw [if_neg hc1] at h
    refine tw_br (cd := tw_c117) rfl rfl rfl (by exact if_pos (tw_b_f hc1)) ?_
    refine tw_blk (cd := tw_c117) rfl 2 (c1 := (11, [some (.ref 0), some (.int a1), some (.int a2)], [.int 1, .ref 0], (I, L, tw_P 2 14 rt sc, A, J, 57))) rfl ?_
    obtain ⟨⟨x38, I39⟩, hx40, h⟩ := tw_letE h
    dsimp only at h
    refine tw_callE (cd := tw_c117) rfl rfl rfl rfl rfl (e_X9_refuse I L A J 2 14 rt sc (1 : Int32) _ hx40) (by exact Or.inl rfl) ?_
    have h := Option.some.inj h
    subst h
    exact tw_retE (cd := tw_c117) rfl rfl rfl rfl
theorem e_X10_isPerson (I : Nat → Int32) (L : Nat → Int64) (A : Nat → Nat → Int32) (J : Nat → Nat → Int64) (tw dr : Nat) (rt : Nat) (sc : Nat) (a1 : Int32) : ∀ r : Bool, g_X10_isPerson I A a1 = some r → tw_ME 236 (0, [some (.ref 44), some (.int a1)], [], (I, L, tw_P tw dr rt sc, A, J, 57)) (some (.int (tw_b r)), (I, L, tw_P tw dr rt sc, A, J, 57)) := by
  intro r h
  unfold g_X10_isPerson at h
  refine tw_blk (cd := tw_c236) rfl 2 (c1 := (2, [some (.ref 44), some (.int a1)], [.int (I 4414)], (I, L, tw_P tw dr rt sc, A, J, 57))) rfl ?_
  by_cases hc1 : (I 4414) = 0
  · rw [if_pos hc1] at h
    refine tw_br (cd := tw_c236) rfl rfl rfl (by exact if_pos hc1) ?_
    refine tw_blk (cd := tw_c236) rfl 1 (c1 := (16, [some (.ref 44), some (.int a1)], [.int 0], (I, L, tw_P tw dr rt sc, A, J, 57))) rfl ?_
    have h := Option.some.inj h
    subst h
    exact tw_retZ (cd := tw_c236) (b := false) rfl rfl rfl rfl
  · rw [if_neg hc1] at h
    refine tw_br (cd := tw_c236) rfl rfl rfl (by exact if_neg hc1) ?_
    refine tw_blk (cd := tw_c236) rfl 5 (c1 := (8, [some (.ref 44), some (.int a1)], [.int 3, .ref 47, .int 0, .int a1], (I, L, tw_P tw dr rt sc, A, J, 57))) rfl ?_
    obtain ⟨x3, hx2, h⟩ := tw_bindE h
    refine tw_iald (cd := tw_c236) (N := 241) rfl rfl rfl rfl hx2 ?_
    refine tw_blk (cd := tw_c236) rfl 2 (c1 := (11, [some (.ref 44), some (.int a1)], [.int (x3 - (1 : Int32)), .int 0, .int a1], (I, L, tw_P tw dr rt sc, A, J, 57))) rfl ?_
    refine tw_callE (cd := tw_c236) rfl rfl rfl rfl rfl (e_X10_in I L A J tw dr rt sc a1 (0 : Int32) (x3 - (1 : Int32)) _ rfl) (by exact Or.inl rfl) ?_
    by_cases hc4 : (g_X10_in a1 (0 : Int32) (x3 - (1 : Int32))) = true
    · rw [if_pos hc4] at h
      refine tw_br (cd := tw_c236) rfl rfl rfl (by exact if_neg (tw_b_t hc4)) ?_
      refine tw_blk (cd := tw_c236) rfl 2 (c1 := (16, [some (.ref 44), some (.int a1)], [.int 1], (I, L, tw_P tw dr rt sc, A, J, 57))) rfl ?_
      have h := Option.some.inj h
      subst h
      exact tw_retZ (cd := tw_c236) (b := true) rfl rfl rfl rfl
    · rw [if_neg hc4] at h
      refine tw_br (cd := tw_c236) rfl rfl rfl (by exact if_pos (tw_b_f hc4)) ?_
      refine tw_blk (cd := tw_c236) rfl 1 (c1 := (16, [some (.ref 44), some (.int a1)], [.int 0], (I, L, tw_P tw dr rt sc, A, J, 57))) rfl ?_
      have h := Option.some.inj h
      subst h
      exact tw_retZ (cd := tw_c236) (b := false) rfl rfl rfl rfl
theorem e_X10_eyesOfKind (I : Nat → Int32) (L : Nat → Int64) (A : Nat → Nat → Int32) (J : Nat → Nat → Int64) (tw dr : Nat) (rt : Nat) (sc : Nat) (a0 : Int32) : ∀ r : Int32, g_X10_eyesOfKind a0 = r → tw_ME 239 (0, [some (.int a0)], [], (I, L, tw_P tw dr rt sc, A, J, 57)) (some (.int r), (I, L, tw_P tw dr rt sc, A, J, 57)) := by
  intro r h
  unfold g_X10_eyesOfKind at h
  refine tw_blk (cd := tw_c239) rfl 2 (c1 := (2, [some (.int a0)], [.int 2, .int a0], (I, L, tw_P tw dr rt sc, A, J, 57))) rfl ?_
  by_cases hc1 : a0 = (2 : Int32)
  · rw [if_pos hc1] at h
    refine tw_br (cd := tw_c239) rfl rfl rfl (by exact if_pos hc1) ?_
    refine tw_blk (cd := tw_c239) rfl 2 (c1 := (11, [some (.int a0)], [.int 0], (I, L, tw_P tw dr rt sc, A, J, 57))) rfl ?_
    subst h
    exact tw_retE (cd := tw_c239) rfl rfl rfl rfl
  · rw [if_neg hc1] at h
    refine tw_br (cd := tw_c239) rfl rfl rfl (by exact if_neg hc1) ?_
    refine tw_blk (cd := tw_c239) rfl 2 (c1 := (7, [some (.int a0)], [.int 3, .int a0], (I, L, tw_P tw dr rt sc, A, J, 57))) rfl ?_
    by_cases hc2 : a0 = (3 : Int32)
    · rw [if_pos hc2] at h
      refine tw_br (cd := tw_c239) rfl rfl rfl (by exact if_pos hc2) ?_
      refine tw_blk (cd := tw_c239) rfl 2 (c1 := (11, [some (.int a0)], [.int 1], (I, L, tw_P tw dr rt sc, A, J, 57))) rfl ?_
      subst h
      exact tw_retE (cd := tw_c239) rfl rfl rfl rfl
    · rw [if_neg hc2] at h
      refine tw_br (cd := tw_c239) rfl rfl rfl (by exact if_neg hc2) ?_
      refine tw_blk (cd := tw_c239) rfl 1 (c1 := (11, [some (.int a0)], [.int 2], (I, L, tw_P tw dr rt sc, A, J, 57))) rfl ?_
      subst h
      exact tw_retE (cd := tw_c239) rfl rfl rfl rfl
theorem g_X10_quarrelsOf_L1_ok (I : Nat → Int32) (L : Nat → Int64) (A : Nat → Nat → Int32) (J : Nat → Nat → Int64) (tw : Nat) (dr : Nat) (rt : Nat) (sc : Nat) (a1 : Int32) (out : Option Value × tw_S) : ∀ (n : Nat) (v1_2 : Int32) (v1_3 : Int32) (ex : Int32), g_X10_quarrelsOf_L1 A a1 n v1_2 v1_3 = some ex → tw_ME 250 (42, [none, none, some (.int ex), none], [], (I, L, tw_P tw dr rt sc, A, J, 57)) out → tw_ME 250 (4, [some (.ref 44), some (.int a1), some (.int v1_2), some (.int v1_3)], [], (I, L, tw_P tw dr rt sc, A, J, 57)) out := by
  intro n
  induction n with
  | zero =>
    intro v1_2 v1_3 ex h _
    cases h
  | succ n ih =>
    intro v1_2 v1_3 ex h K
    rw [g_X10_quarrelsOf_L1] at h
    refine tw_blk (cd := tw_c250) rfl 1 (c1 := (5, [some (.ref 44), some (.int a1), some (.int v1_2), some (.int v1_3)], [.int v1_3], (I, L, tw_P tw dr rt sc, A, J, 57))) rfl ?_
    refine tw_blk (cd := tw_c250) rfl 3 (c1 := (8, [some (.ref 44), some (.int a1), some (.int v1_2), some (.int v1_3)], [.int 5, .ref 47, .int v1_3], (I, L, tw_P tw dr rt sc, A, J, 57))) rfl ?_
    obtain ⟨x3, hx2, h⟩ := tw_bindE h
    refine tw_iald (cd := tw_c250) (N := 241) rfl rfl rfl rfl hx2 ?_
    by_cases hc4 : x3 ≤ v1_3
    · rw [if_pos hc4] at h
      refine tw_br (cd := tw_c250) rfl rfl rfl (by exact if_pos hc4) ?_
      refine tw_forget (ls2 := [none, none, some (.int v1_2), none]) ⟨rfl, trivial⟩ ?_
      have h := Option.some.inj h
      subst h
      exact K
    · rw [if_neg hc4] at h
      refine tw_br (cd := tw_c250) rfl rfl rfl (by exact if_neg hc4) ?_
      refine tw_blk (cd := tw_c250) rfl 8 (c1 := (18, [some (.ref 44), some (.int a1), some (.int v1_2), some (.int v1_3)], [.int ((80 : Int32) + ((5 : Int32) * v1_3)), .ref 47, .int v1_2], (I, L, tw_P tw dr rt sc, A, J, 57))) rfl ?_
      obtain ⟨x6, hx5, h⟩ := tw_bindE h
      refine tw_iald (cd := tw_c250) (N := 241) rfl rfl rfl rfl hx5 ?_
      refine tw_blk (cd := tw_c250) rfl 1 (c1 := (20, [some (.ref 44), some (.int a1), some (.int v1_2), some (.int v1_3)], [.int a1, .int x6, .int v1_2], (I, L, tw_P tw dr rt sc, A, J, 57))) rfl ?_
      obtain ⟨x8, hj9, h⟩ := tw_bindE h
      have K : tw_ME 250 (38, [some (.ref 44), some (.int a1), none, some (.int v1_3)], [.int x8, .int v1_2], (I, L, tw_P tw dr rt sc, A, J, 57)) out := by
        refine tw_blk (cd := tw_c250) rfl 4 (c1 := (4, [some (.ref 44), some (.int a1), some (.int (v1_2 ||| x8)), some (.int (v1_3 + (1 : Int32)))], [], (I, L, tw_P tw dr rt sc, A, J, 57))) rfl ?_
        exact ih (v1_2 ||| x8) (v1_3 + (1 : Int32)) _ h K
      by_cases hc7 : x6 = a1
      · rw [if_pos hc7] at hj9
        refine tw_br (cd := tw_c250) rfl rfl rfl (by exact if_pos hc7) ?_
        refine tw_blk (cd := tw_c250) rfl 4 (c1 := (38, [some (.ref 44), some (.int a1), some (.int v1_2), some (.int v1_3)], [.int ((1 : Int32) <<< (v1_3 &&& 31)), .int v1_2], (I, L, tw_P tw dr rt sc, A, J, 57))) rfl ?_
        refine tw_forget (ls2 := [some (.ref 44), some (.int a1), none, some (.int v1_3)]) ⟨rfl, rfl, rfl, trivial⟩ ?_
        have hj9s := Option.some.inj hj9
        subst hj9s
        exact K
      · rw [if_neg hc7] at hj9
        refine tw_br (cd := tw_c250) rfl rfl rfl (by exact if_neg hc7) ?_
        refine tw_blk (cd := tw_c250) rfl 9 (c1 := (30, [some (.ref 44), some (.int a1), some (.int v1_2), some (.int v1_3)], [.int (((80 : Int32) + ((5 : Int32) * v1_3)) + (1 : Int32)), .ref 47, .int v1_2], (I, L, tw_P tw dr rt sc, A, J, 57))) rfl ?_
        obtain ⟨x11, hx10, hj9⟩ := tw_bindE hj9
        refine tw_iald (cd := tw_c250) (N := 241) rfl rfl rfl rfl hx10 ?_
        refine tw_blk (cd := tw_c250) rfl 1 (c1 := (32, [some (.ref 44), some (.int a1), some (.int v1_2), some (.int v1_3)], [.int a1, .int x11, .int v1_2], (I, L, tw_P tw dr rt sc, A, J, 57))) rfl ?_
        by_cases hc12 : x11 = a1
        · rw [if_pos hc12] at hj9
          refine tw_br (cd := tw_c250) rfl rfl rfl (by exact if_pos hc12) ?_
          refine tw_blk (cd := tw_c250) rfl 4 (c1 := (38, [some (.ref 44), some (.int a1), some (.int v1_2), some (.int v1_3)], [.int ((1 : Int32) <<< (v1_3 &&& 31)), .int v1_2], (I, L, tw_P tw dr rt sc, A, J, 57))) rfl ?_
          refine tw_forget (ls2 := [some (.ref 44), some (.int a1), none, some (.int v1_3)]) ⟨rfl, rfl, rfl, trivial⟩ ?_
          have hj9s := Option.some.inj hj9
          subst hj9s
          exact K
        · rw [if_neg hc12] at hj9
          refine tw_br (cd := tw_c250) rfl rfl rfl (by exact if_neg hc12) ?_
          refine tw_blk (cd := tw_c250) rfl 1 (c1 := (38, [some (.ref 44), some (.int a1), some (.int v1_2), some (.int v1_3)], [.int 0, .int v1_2], (I, L, tw_P tw dr rt sc, A, J, 57))) rfl ?_
          refine tw_forget (ls2 := [some (.ref 44), some (.int a1), none, some (.int v1_3)]) ⟨rfl, rfl, rfl, trivial⟩ ?_
          have hj9s := Option.some.inj hj9
          subst hj9s
          exact K
theorem e_X10_quarrelsOf (I : Nat → Int32) (L : Nat → Int64) (A : Nat → Nat → Int32) (J : Nat → Nat → Int64) (tw dr : Nat) (rt : Nat) (sc : Nat) (a1 : Int32) : ∀ r : Int32, g_X10_quarrelsOf A a1 = some r → tw_ME 250 (0, [some (.ref 44), some (.int a1), none, none], [], (I, L, tw_P tw dr rt sc, A, J, 57)) (some (.int r), (I, L, tw_P tw dr rt sc, A, J, 57)) := by
  intro r h
  unfold g_X10_quarrelsOf at h
  refine tw_blk (cd := tw_c250) rfl 4 (c1 := (4, [some (.ref 44), some (.int a1), some (.int 0), some (.int 0)], [], (I, L, tw_P tw dr rt sc, A, J, 57))) rfl ?_
  obtain ⟨x1, hx13, h⟩ := tw_bindE h
  refine g_X10_quarrelsOf_L1_ok I L A J tw dr rt sc a1 _ 4096 (0 : Int32) (0 : Int32) _ hx13 ?_
  refine tw_blk (cd := tw_c250) rfl 1 (c1 := (43, [none, none, some (.int x1), none], [.int x1], (I, L, tw_P tw dr rt sc, A, J, 57))) rfl ?_
  have h := Option.some.inj h
  subst h
  exact tw_retE (cd := tw_c250) rfl rfl rfl rfl
theorem e_X10_person (I : Nat → Int32) (L : Nat → Int64) (A : Nat → Nat → Int32) (J : Nat → Nat → Int64) (tw dr : Nat) (rt : Nat) (sc : Nat) (a1 : Int32) (a2 : Int32) : ∀ r : (Int32 × (Nat → Int32)), g_X10_person I A a1 a2 = some r → tw_ME 251 (0, [some (.ref 44), some (.int a1), some (.int a2), none], [], (I, L, tw_P tw dr rt sc, A, J, 57)) (some (.int r.1), ((r.2), L, tw_P tw dr rt sc, A, J, 57)) := by
  intro r h
  unfold g_X10_person at h
  refine tw_blk (cd := tw_c251) rfl 1 (c1 := (1, [some (.ref 44), some (.int a1), some (.int a2), none], [.ref 44], (I, L, tw_P tw dr rt sc, A, J, 57))) rfl ?_
  obtain ⟨I1, hx2, h⟩ := tw_letE h
  refine tw_callE (cd := tw_c251) rfl rfl rfl rfl rfl (e_X10_good I L A J tw dr rt sc _ hx2) (by exact Or.inl rfl) ?_
  refine tw_blk (cd := tw_c251) rfl 2 (c1 := (4, [some (.ref 44), some (.int a1), some (.int a2), none], [.int a1, .ref 44], (I1, L, tw_P tw dr rt sc, A, J, 57))) rfl ?_
  obtain ⟨c3, hx4, h⟩ := tw_bindE h
  refine tw_callE (cd := tw_c251) rfl rfl rfl rfl rfl (e_X10_isPerson I1 L A J tw dr rt sc a1 _ hx4) (by exact Or.inl rfl) ?_
  by_cases hc5 : c3 = true
  · rw [if_pos hc5] at h
    refine tw_br (cd := tw_c251) rfl rfl rfl (by exact if_neg (tw_b_t hc5)) ?_
    refine tw_blk (cd := tw_c251) rfl 3 (c1 := (9, [some (.ref 44), some (.int a1), some (.int a2), none], [.int 5, .int 0, .int a2], (I1, L, tw_P tw dr rt sc, A, J, 57))) rfl ?_
    refine tw_callE (cd := tw_c251) rfl rfl rfl rfl rfl (e_X10_in I1 L A J tw dr rt sc a2 (0 : Int32) (5 : Int32) _ rfl) (by exact Or.inl rfl) ?_
    by_cases hc6 : (g_X10_in a2 (0 : Int32) (5 : Int32)) = true
    · rw [if_pos hc6] at h
      refine tw_br (cd := tw_c251) rfl rfl rfl (by exact if_neg (tw_b_t hc6)) ?_
      refine tw_blk (cd := tw_c251) rfl 7 (c1 := (22, [some (.ref 44), some (.int a1), some (.int a2), some (.int ((26 : Int32) + ((4 : Int32) * a1)))], [.int a2], (I1, L, tw_P tw dr rt sc, A, J, 57))) rfl ?_
      by_cases hs7 : a2 = 0
      · rw [if_pos hs7] at h
        refine tw_swE (cd := tw_c251) rfl rfl rfl hs7 (by exact rfl) ?_
        refine tw_blk (cd := tw_c251) rfl 3 (c1 := (26, [some (.ref 44), some (.int a1), some (.int a2), some (.int ((26 : Int32) + ((4 : Int32) * a1)))], [.int ((26 : Int32) + ((4 : Int32) * a1)), .ref 47], (I1, L, tw_P tw dr rt sc, A, J, 57))) rfl ?_
        obtain ⟨x9, hx8, h⟩ := tw_bindE h
        refine tw_iald (cd := tw_c251) (N := 241) rfl rfl rfl rfl hx8 ?_
        have h := Option.some.inj h
        subst h
        exact tw_retE (cd := tw_c251) rfl rfl rfl rfl
      · rw [if_neg hs7] at h
        by_cases hs10 : a2 = 1
        · rw [if_pos hs10] at h
          refine tw_swE (cd := tw_c251) rfl rfl rfl hs10 (by exact rfl) ?_
          refine tw_blk (cd := tw_c251) rfl 5 (c1 := (33, [some (.ref 44), some (.int a1), some (.int a2), some (.int ((26 : Int32) + ((4 : Int32) * a1)))], [.int (((26 : Int32) + ((4 : Int32) * a1)) + (2 : Int32)), .ref 47], (I1, L, tw_P tw dr rt sc, A, J, 57))) rfl ?_
          obtain ⟨x12, hx11, h⟩ := tw_bindE h
          refine tw_iald (cd := tw_c251) (N := 241) rfl rfl rfl rfl hx11 ?_
          have h := Option.some.inj h
          subst h
          exact tw_retE (cd := tw_c251) rfl rfl rfl rfl
        · rw [if_neg hs10] at h
          by_cases hs13 : a2 = 2
          · rw [if_pos hs13] at h
            refine tw_swE (cd := tw_c251) rfl rfl rfl hs13 (by exact rfl) ?_
            refine tw_blk (cd := tw_c251) rfl 3 (c1 := (38, [some (.ref 44), some (.int a1), some (.int a2), some (.int ((26 : Int32) + ((4 : Int32) * a1)))], [.int ((26 : Int32) + ((4 : Int32) * a1)), .ref 47], (I1, L, tw_P tw dr rt sc, A, J, 57))) rfl ?_
            obtain ⟨x15, hx14, h⟩ := tw_bindE h
            refine tw_iald (cd := tw_c251) (N := 241) rfl rfl rfl rfl hx14 ?_
            refine tw_callE (cd := tw_c251) rfl rfl rfl rfl rfl (e_X10_eyesOfKind I1 L A J tw dr rt sc x15 _ rfl) (by exact Or.inl rfl) ?_
            have h := Option.some.inj h
            subst h
            exact tw_retE (cd := tw_c251) rfl rfl rfl rfl
          · rw [if_neg hs13] at h
            by_cases hs16 : a2 = 3
            · rw [if_pos hs16] at h
              refine tw_swE (cd := tw_c251) rfl rfl rfl hs16 (by exact rfl) ?_
              refine tw_blk (cd := tw_c251) rfl 5 (c1 := (46, [some (.ref 44), some (.int a1), some (.int a2), some (.int ((26 : Int32) + ((4 : Int32) * a1)))], [.int (((26 : Int32) + ((4 : Int32) * a1)) + (3 : Int32)), .ref 47], (I1, L, tw_P tw dr rt sc, A, J, 57))) rfl ?_
              obtain ⟨x18, hx17, h⟩ := tw_bindE h
              refine tw_iald (cd := tw_c251) (N := 241) rfl rfl rfl rfl hx17 ?_
              by_cases hc19 : x18 = 0
              · rw [if_pos hc19] at h
                refine tw_br (cd := tw_c251) rfl rfl rfl (by exact if_pos hc19) ?_
                refine tw_blk (cd := tw_c251) rfl 2 (c1 := (58, [some (.ref 44), some (.int a1), some (.int a2), some (.int ((26 : Int32) + ((4 : Int32) * a1)))], [.int (-2)], (I1, L, tw_P tw dr rt sc, A, J, 57))) rfl ?_
                have h := Option.some.inj h
                subst h
                exact tw_retE (cd := tw_c251) rfl rfl rfl rfl
              · rw [if_neg hc19] at h
                refine tw_br (cd := tw_c251) rfl rfl rfl (by exact if_neg hc19) ?_
                refine tw_blk (cd := tw_c251) rfl 5 (c1 := (55, [some (.ref 44), some (.int a1), some (.int a2), some (.int ((26 : Int32) + ((4 : Int32) * a1)))], [.int (((26 : Int32) + ((4 : Int32) * a1)) + (3 : Int32)), .ref 47], (I1, L, tw_P tw dr rt sc, A, J, 57))) rfl ?_
                obtain ⟨x21, hx20, h⟩ := tw_bindE h
                refine tw_iald (cd := tw_c251) (N := 241) rfl rfl rfl rfl hx20 ?_
                refine tw_blk (cd := tw_c251) rfl 2 (c1 := (58, [some (.ref 44), some (.int a1), some (.int a2), some (.int ((26 : Int32) + ((4 : Int32) * a1)))], [.int (x21 - (1 : Int32))], (I1, L, tw_P tw dr rt sc, A, J, 57))) rfl ?_
                have h := Option.some.inj h
                subst h
                exact tw_retE (cd := tw_c251) rfl rfl rfl rfl
            · rw [if_neg hs16] at h
              by_cases hs22 : a2 = 4
              · rw [if_pos hs22] at h
                refine tw_swE (cd := tw_c251) rfl rfl rfl hs22 (by exact rfl) ?_
                refine tw_blk (cd := tw_c251) rfl 3 (c1 := (62, [some (.ref 44), some (.int a1), some (.int a2), some (.int ((26 : Int32) + ((4 : Int32) * a1)))], [.int a1, .ref 49], (I1, L, tw_P tw dr rt sc, A, J, 57))) rfl ?_
                obtain ⟨x24, hx23, h⟩ := tw_bindE h
                refine tw_iald (cd := tw_c251) (N := 8) rfl rfl rfl rfl hx23 ?_
                by_cases hc25 : x24 = 0
                · rw [if_pos hc25] at h
                  refine tw_br (cd := tw_c251) rfl rfl rfl (by exact if_pos hc25) ?_
                  refine tw_blk (cd := tw_c251) rfl 2 (c1 := (72, [some (.ref 44), some (.int a1), some (.int a2), some (.int ((26 : Int32) + ((4 : Int32) * a1)))], [.int (-2)], (I1, L, tw_P tw dr rt sc, A, J, 57))) rfl ?_
                  have h := Option.some.inj h
                  subst h
                  exact tw_retE (cd := tw_c251) rfl rfl rfl rfl
                · rw [if_neg hc25] at h
                  refine tw_br (cd := tw_c251) rfl rfl rfl (by exact if_neg hc25) ?_
                  refine tw_blk (cd := tw_c251) rfl 3 (c1 := (69, [some (.ref 44), some (.int a1), some (.int a2), some (.int ((26 : Int32) + ((4 : Int32) * a1)))], [.int a1, .ref 49], (I1, L, tw_P tw dr rt sc, A, J, 57))) rfl ?_
                  obtain ⟨x27, hx26, h⟩ := tw_bindE h
                  refine tw_iald (cd := tw_c251) (N := 8) rfl rfl rfl rfl hx26 ?_
                  refine tw_blk (cd := tw_c251) rfl 2 (c1 := (72, [some (.ref 44), some (.int a1), some (.int a2), some (.int ((26 : Int32) + ((4 : Int32) * a1)))], [.int (x27 - (1 : Int32))], (I1, L, tw_P tw dr rt sc, A, J, 57))) rfl ?_
                  have h := Option.some.inj h
                  subst h
                  exact tw_retE (cd := tw_c251) rfl rfl rfl rfl
              · rw [if_neg hs22] at h
                refine tw_tsD (cd := tw_c251) rfl rfl ?_ rfl ?_
                · by_cases h8 : (a2).toInt < 0
                  · exact Or.inl h8
                  · by_cases h9 : 4 < (a2).toInt
                    · exact Or.inr h9
                    · exfalso
                      have h7 : (a2).toInt = 0 ∨ (a2).toInt = 1 ∨ (a2).toInt = 2 ∨ (a2).toInt = 3 ∨ (a2).toInt = 4 := by omega
                      rcases h7 with h7 | h7 | h7 | h7 | h7
                      · exact (fun e9 => hs7 (Int32.toInt_inj.mp (e9.trans (by decide)))) h7
                      · exact (fun e9 => hs10 (Int32.toInt_inj.mp (e9.trans (by decide)))) h7
                      · exact (fun e9 => hs13 (Int32.toInt_inj.mp (e9.trans (by decide)))) h7
                      · exact (fun e9 => hs16 (Int32.toInt_inj.mp (e9.trans (by decide)))) h7
                      · exact (fun e9 => hs22 (Int32.toInt_inj.mp (e9.trans (by decide)))) h7
                refine tw_blk (cd := tw_c251) rfl 2 (c1 := (75, [some (.ref 44), some (.int a1), some (.int a2), some (.int ((26 : Int32) + ((4 : Int32) * a1)))], [.int a1, .ref 44], (I1, L, tw_P tw dr rt sc, A, J, 57))) rfl ?_
                obtain ⟨x28, hx29, h⟩ := tw_bindE h
                refine tw_callE (cd := tw_c251) rfl rfl rfl rfl rfl (e_X10_quarrelsOf I1 L A J tw dr rt sc a1 _ hx29) (by exact Or.inl rfl) ?_
                have h := Option.some.inj h
                subst h
                exact tw_retE (cd := tw_c251) rfl rfl rfl rfl
    · rw [if_neg hc6] at h
      refine tw_br (cd := tw_c251) rfl rfl rfl (by exact if_pos (tw_b_f hc6)) ?_
      refine tw_blk (cd := tw_c251) rfl 2 (c1 := (13, [some (.ref 44), some (.int a1), some (.int a2), none], [.int 1, .ref 44], (I1, L, tw_P tw dr rt sc, A, J, 57))) rfl ?_
      obtain ⟨⟨x30, I31⟩, hx32, h⟩ := tw_letE h
      dsimp only at h
      refine tw_callE (cd := tw_c251) rfl rfl rfl rfl rfl (e_X10_no I1 L A J tw dr rt sc (1 : Int32) _ hx32) (by exact Or.inl rfl) ?_
      have h := Option.some.inj h
      subst h
      exact tw_retE (cd := tw_c251) rfl rfl rfl rfl
  · rw [if_neg hc5] at h
    refine tw_br (cd := tw_c251) rfl rfl rfl (by exact if_pos (tw_b_f hc5)) ?_
    refine tw_blk (cd := tw_c251) rfl 2 (c1 := (13, [some (.ref 44), some (.int a1), some (.int a2), none], [.int 1, .ref 44], (I1, L, tw_P tw dr rt sc, A, J, 57))) rfl ?_
    obtain ⟨⟨x33, I34⟩, hx35, h⟩ := tw_letE h
    dsimp only at h
    refine tw_callE (cd := tw_c251) rfl rfl rfl rfl rfl (e_X10_no I1 L A J tw dr rt sc (1 : Int32) _ hx35) (by exact Or.inl rfl) ?_
    have h := Option.some.inj h
    subst h
    exact tw_retE (cd := tw_c251) rfl rfl rfl rfl
