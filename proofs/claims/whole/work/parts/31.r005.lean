/-! the machine does what the functions say -/
set_option maxRecDepth 16000
theorem e_X10_personLine (I : Nat → Int32) (L : Nat → Int64) (A : Nat → Nat → Int32) (J : Nat → Nat → Int64) (tw dr : Nat) (rt : Nat) (sc : Nat) : ∀ r : ((Nat → Int32) × (Nat → Nat → Int32)), g_X10_personLine I A = some r → tw_ME 227 (0, [some (.ref 44), none, none, none, none], [], (I, L, tw_P tw dr rt sc, A, J, 57)) (none, ((r.1), L, tw_P tw dr rt sc, (r.2), J, 57)) := by
  intro r h
  unfold g_X10_personLine at h
  refine tw_blk (cd := tw_c227) rfl 2 (c1 := (2, [some (.ref 44), none, none, none, none], [.int (I 4413)], (I, L, tw_P tw dr rt sc, A, J, 57))) rfl ?_
  by_cases hc1 : (I 4413) = 0
  · rw [if_pos hc1] at h
    refine tw_br (cd := tw_c227) rfl rfl rfl (by exact if_pos hc1) ?_
    refine tw_blk (cd := tw_c227) rfl 5 (c1 := (9, [some (.ref 44), none, none, none, none], [.int 3, .ref 48, .int 4, .int 26], (I, L, tw_P tw dr rt sc, A, J, 57))) rfl ?_
    obtain ⟨x3, hx2, h⟩ := tw_bindE h
    refine tw_iald (cd := tw_c227) (N := 241) rfl rfl rfl rfl hx2 ?_
    refine tw_blk (cd := tw_c227) rfl 8 (c1 := (18, [some (.ref 44), some (.int ((26 : Int32) + ((4 : Int32) * x3))), none, none, none], [.int 3, .ref 48, .int 6, .ref 44], (I, L, tw_P tw dr rt sc, A, J, 57))) rfl ?_
    obtain ⟨x5, hx4, h⟩ := tw_bindE h
    refine tw_iald (cd := tw_c227) (N := 241) rfl rfl rfl rfl hx4 ?_
    refine tw_blk (cd := tw_c227) rfl 1 (c1 := (20, [some (.ref 44), some (.int ((26 : Int32) + ((4 : Int32) * x3))), none, none, none], [.int ((6 : Int32) + x5), .ref 44], (I, L, tw_P tw dr rt sc, A, J, 57))) rfl ?_
    obtain ⟨⟨I6, A7⟩, hx8, h⟩ := tw_bindE h
    dsimp only at h
    refine tw_callE (cd := tw_c227) rfl rfl rfl rfl rfl (e_X10_newName I L A J tw dr rt sc ((6 : Int32) + x5) _ hx8) (by exact Or.inl rfl) ?_
    refine tw_blk (cd := tw_c227) rfl 2 (c1 := (23, [some (.ref 44), some (.int ((26 : Int32) + ((4 : Int32) * x3))), none, none, none], [.ref 1013, .ref 44], (I6, L, tw_P tw dr rt sc, A7, J, 57))) rfl ?_
    obtain ⟨c9, hx10, h⟩ := tw_bindE h
    refine tw_callE (cd := tw_c227) rfl rfl rfl rfl rfl (e_X10_isWord I6 L A7 J tw dr rt sc 1013 (by decide) _ hx10) (by exact Or.inl rfl) ?_
    obtain ⟨x12, hj13, h⟩ := tw_bindE h
    have K : tw_ME 227 (46, [some (.ref 44), some (.int ((26 : Int32) + ((4 : Int32) * x3))), none, none, none], [.int x12], (I6, L, tw_P tw dr rt sc, A7, J, 57)) (none, ((r.1), L, tw_P tw dr rt sc, (r.2), J, 57)) := by
      refine tw_blk (cd := tw_c227) rfl 2 (c1 := (48, [some (.ref 44), some (.int ((26 : Int32) + ((4 : Int32) * x3))), some (.int x12), none, none], [.int x12], (I6, L, tw_P tw dr rt sc, A7, J, 57))) rfl ?_
      obtain ⟨I24, hj25, h⟩ := tw_bindE h
      have K : tw_ME 227 (54, [some (.ref 44), some (.int ((26 : Int32) + ((4 : Int32) * x3))), some (.int x12), none, none], [], (I24, L, tw_P tw dr rt sc, A7, J, 57)) (none, ((r.1), L, tw_P tw dr rt sc, (r.2), J, 57)) := by
        refine tw_blk (cd := tw_c227) rfl 1 (c1 := (55, [some (.ref 44), some (.int ((26 : Int32) + ((4 : Int32) * x3))), some (.int x12), none, none], [.ref 44], (I24, L, tw_P tw dr rt sc, A7, J, 57))) rfl ?_
        obtain ⟨⟨I28, A29⟩, hx30, h⟩ := tw_bindE h
        dsimp only at h
        refine tw_callE (cd := tw_c227) rfl rfl rfl rfl rfl (e_X10_pass I24 L A7 J tw dr rt sc _ hx30) (by exact Or.inl rfl) ?_
        refine tw_blk (cd := tw_c227) rfl 2 (c1 := (58, [some (.ref 44), some (.int ((26 : Int32) + ((4 : Int32) * x3))), some (.int x12), none, none], [.ref 1000, .ref 44], (I28, L, tw_P tw dr rt sc, A29, J, 57))) rfl ?_
        obtain ⟨⟨I31, A32⟩, hx33, h⟩ := tw_bindE h
        dsimp only at h
        refine tw_callE (cd := tw_c227) rfl rfl rfl rfl rfl (e_X10_must I28 L A29 J tw dr rt sc 1000 (by decide) _ hx33) (by exact Or.inl rfl) ?_
        refine tw_blk (cd := tw_c227) rfl 1 (c1 := (60, [some (.ref 44), some (.int ((26 : Int32) + ((4 : Int32) * x3))), some (.int x12), none, none], [.ref 44], (I31, L, tw_P tw dr rt sc, A32, J, 57))) rfl ?_
        obtain ⟨⟨x34, I35, A36⟩, hx37, h⟩ := tw_bindE h
        dsimp only at h
        refine tw_callE (cd := tw_c227) rfl rfl rfl rfl rfl (e_X10_placePassed I31 L A32 J tw dr rt sc _ hx37) (by exact Or.inl rfl) ?_
        refine tw_blk (cd := tw_c227) rfl 5 (c1 := (66, [some (.ref 44), some (.int ((26 : Int32) + ((4 : Int32) * x3))), some (.int x12), some (.int x34), none], [.int 9, .int 0, .ref 1018, .ref 44], (I35, L, tw_P tw dr rt sc, A36, J, 57))) rfl ?_
        obtain ⟨⟨x38, I39, A40⟩, hx41, h⟩ := tw_bindE h
        dsimp only at h
        refine tw_callE (cd := tw_c227) rfl rfl rfl rfl rfl (e_X10_after I35 L A36 J tw dr rt sc 1018 (0 : Int32) (9 : Int32) (by decide) _ hx41) (by exact Or.inl rfl) ?_
        refine tw_blk (cd := tw_c227) rfl 3 (c1 := (70, [some (.ref 44), some (.int ((26 : Int32) + ((4 : Int32) * x3))), some (.int x12), some (.int x34), some (.int x38)], [.int (I39 4413)], (I39, L, tw_P tw dr rt sc, A40, J, 57))) rfl ?_
        by_cases hc42 : (I39 4413) = 0
        · rw [if_pos hc42] at h
          refine tw_br (cd := tw_c227) rfl rfl rfl (by exact if_pos hc42) ?_
          refine tw_blk (cd := tw_c227) rfl 4 (c1 := (76, [some (.ref 44), some (.int ((26 : Int32) + ((4 : Int32) * x3))), some (.int x12), some (.int x34), some (.int x38)], [.int x12, .int ((26 : Int32) + ((4 : Int32) * x3)), .ref 48], (I39, L, tw_P tw dr rt sc, A40, J, 57))) rfl ?_
          obtain ⟨w44, hx43, h⟩ := tw_bindE h
          refine tw_iast (cd := tw_c227) (N := 241) rfl rfl rfl rfl hx43 ?_
          refine tw_blk (cd := tw_c227) rfl 6 (c1 := (83, [some (.ref 44), some (.int ((26 : Int32) + ((4 : Int32) * x3))), some (.int x12), some (.int x34), some (.int x38)], [.int x34, .int (((26 : Int32) + ((4 : Int32) * x3)) + (1 : Int32)), .ref 48], (I39, L, tw_P tw dr rt sc, (va_up A40 48 w44), J, 57))) rfl ?_
          obtain ⟨w46, hx45, h⟩ := tw_bindE h
          refine tw_iast (cd := tw_c227) (N := 241) rfl rfl rfl rfl hx45 ?_
          refine tw_blk (cd := tw_c227) rfl 6 (c1 := (90, [some (.ref 44), some (.int ((26 : Int32) + ((4 : Int32) * x3))), some (.int x12), some (.int x34), some (.int x38)], [.int x38, .int (((26 : Int32) + ((4 : Int32) * x3)) + (2 : Int32)), .ref 48], (I39, L, tw_P tw dr rt sc, (va_up (va_up A40 48 w44) 48 w46), J, 57))) rfl ?_
          obtain ⟨w48, hx47, h⟩ := tw_bindE h
          refine tw_iast (cd := tw_c227) (N := 241) rfl rfl rfl rfl hx47 ?_
          refine tw_blk (cd := tw_c227) rfl 4 (c1 := (95, [some (.ref 44), some (.int ((26 : Int32) + ((4 : Int32) * x3))), some (.int x12), some (.int x34), some (.int x38)], [.int 3, .ref 48, .int 3, .ref 48], (I39, L, tw_P tw dr rt sc, (va_up (va_up (va_up A40 48 w44) 48 w46) 48 w48), J, 57))) rfl ?_
          obtain ⟨x50, hx49, h⟩ := tw_bindE h
          refine tw_iald (cd := tw_c227) (N := 241) rfl rfl rfl rfl hx49 ?_
          refine tw_blk (cd := tw_c227) rfl 2 (c1 := (98, [some (.ref 44), some (.int ((26 : Int32) + ((4 : Int32) * x3))), some (.int x12), some (.int x34), some (.int x38)], [.int (x50 + (1 : Int32)), .int 3, .ref 48], (I39, L, tw_P tw dr rt sc, (va_up (va_up (va_up A40 48 w44) 48 w46) 48 w48), J, 57))) rfl ?_
          obtain ⟨w52, hx51, h⟩ := tw_bindE h
          refine tw_iast (cd := tw_c227) (N := 241) rfl rfl rfl rfl hx51 ?_
          have h := Option.some.inj h
          subst h
          exact tw_retE (cd := tw_c227) rfl rfl rfl rfl
        · rw [if_neg hc42] at h
          refine tw_br (cd := tw_c227) rfl rfl rfl (by exact if_neg hc42) ?_
          have h := Option.some.inj h
          subst h
          exact tw_retE (cd := tw_c227) rfl rfl rfl rfl
      by_cases hc23 : 0 ≤ x12
      · rw [if_pos hc23] at hj25
        refine tw_br (cd := tw_c227) rfl rfl rfl (by exact if_pos hc23) ?_
        have hj25s := Option.some.inj hj25
        subst hj25s
        exact K
      · rw [if_neg hc23] at hj25
        refine tw_br (cd := tw_c227) rfl rfl rfl (by exact if_neg hc23) ?_
        refine tw_blk (cd := tw_c227) rfl 4 (c1 := (53, [some (.ref 44), some (.int ((26 : Int32) + ((4 : Int32) * x3))), some (.int x12), none, none], [.int (I6 4404), .int 1, .ref 44], (I6, L, tw_P tw dr rt sc, A7, J, 57))) rfl ?_
        obtain ⟨I26, hx27, hj25⟩ := tw_letE hj25
        refine tw_callE (cd := tw_c227) rfl rfl rfl rfl rfl (e_X10_wrong I6 L A7 J tw dr rt sc (1 : Int32) (I6 4404) _ hx27) (by exact Or.inl rfl) ?_
        have hj25s := Option.some.inj hj25
        subst hj25s
        exact K
    by_cases hc11 : c9 = true
    · rw [if_pos hc11] at hj13
      refine tw_br (cd := tw_c227) rfl rfl rfl (by exact if_neg (tw_b_t hc11)) ?_
      refine tw_blk (cd := tw_c227) rfl 2 (c1 := (46, [some (.ref 44), some (.int ((26 : Int32) + ((4 : Int32) * x3))), none, none, none], [.int 0], (I6, L, tw_P tw dr rt sc, A7, J, 57))) rfl ?_
      have hj13s := Option.some.inj hj13
      subst hj13s
      exact K
    · rw [if_neg hc11] at hj13
      refine tw_br (cd := tw_c227) rfl rfl rfl (by exact if_pos (tw_b_f hc11)) ?_
      refine tw_blk (cd := tw_c227) rfl 2 (c1 := (29, [some (.ref 44), some (.int ((26 : Int32) + ((4 : Int32) * x3))), none, none, none], [.ref 1004, .ref 44], (I6, L, tw_P tw dr rt sc, A7, J, 57))) rfl ?_
      obtain ⟨c14, hx15, hj13⟩ := tw_bindE hj13
      refine tw_callE (cd := tw_c227) rfl rfl rfl rfl rfl (e_X10_isWord I6 L A7 J tw dr rt sc 1004 (by decide) _ hx15) (by exact Or.inl rfl) ?_
      by_cases hc16 : c14 = true
      · rw [if_pos hc16] at hj13
        refine tw_br (cd := tw_c227) rfl rfl rfl (by exact if_neg (tw_b_t hc16)) ?_
        refine tw_blk (cd := tw_c227) rfl 2 (c1 := (46, [some (.ref 44), some (.int ((26 : Int32) + ((4 : Int32) * x3))), none, none, none], [.int 1], (I6, L, tw_P tw dr rt sc, A7, J, 57))) rfl ?_
        have hj13s := Option.some.inj hj13
        subst hj13s
        exact K
      · rw [if_neg hc16] at hj13
        refine tw_br (cd := tw_c227) rfl rfl rfl (by exact if_pos (tw_b_f hc16)) ?_
        refine tw_blk (cd := tw_c227) rfl 2 (c1 := (35, [some (.ref 44), some (.int ((26 : Int32) + ((4 : Int32) * x3))), none, none, none], [.ref 1002, .ref 44], (I6, L, tw_P tw dr rt sc, A7, J, 57))) rfl ?_
        obtain ⟨c17, hx18, hj13⟩ := tw_bindE hj13
        refine tw_callE (cd := tw_c227) rfl rfl rfl rfl rfl (e_X10_isWord I6 L A7 J tw dr rt sc 1002 (by decide) _ hx18) (by exact Or.inl rfl) ?_
        by_cases hc19 : c17 = true
        · rw [if_pos hc19] at hj13
          refine tw_br (cd := tw_c227) rfl rfl rfl (by exact if_neg (tw_b_t hc19)) ?_
          refine tw_blk (cd := tw_c227) rfl 2 (c1 := (46, [some (.ref 44), some (.int ((26 : Int32) + ((4 : Int32) * x3))), none, none, none], [.int 2], (I6, L, tw_P tw dr rt sc, A7, J, 57))) rfl ?_
          have hj13s := Option.some.inj hj13
          subst hj13s
          exact K
        · rw [if_neg hc19] at hj13
          refine tw_br (cd := tw_c227) rfl rfl rfl (by exact if_pos (tw_b_f hc19)) ?_
          refine tw_blk (cd := tw_c227) rfl 2 (c1 := (41, [some (.ref 44), some (.int ((26 : Int32) + ((4 : Int32) * x3))), none, none, none], [.ref 1001, .ref 44], (I6, L, tw_P tw dr rt sc, A7, J, 57))) rfl ?_
          obtain ⟨c20, hx21, hj13⟩ := tw_bindE hj13
          refine tw_callE (cd := tw_c227) rfl rfl rfl rfl rfl (e_X10_isWord I6 L A7 J tw dr rt sc 1001 (by decide) _ hx21) (by exact Or.inl rfl) ?_
          by_cases hc22 : c20 = true
          · rw [if_pos hc22] at hj13
            refine tw_br (cd := tw_c227) rfl rfl rfl (by exact if_neg (tw_b_t hc22)) ?_
            refine tw_blk (cd := tw_c227) rfl 2 (c1 := (46, [some (.ref 44), some (.int ((26 : Int32) + ((4 : Int32) * x3))), none, none, none], [.int 3], (I6, L, tw_P tw dr rt sc, A7, J, 57))) rfl ?_
            have hj13s := Option.some.inj hj13
            subst hj13s
            exact K
          · rw [if_neg hc22] at hj13
            refine tw_br (cd := tw_c227) rfl rfl rfl (by exact if_pos (tw_b_f hc22)) ?_
            refine tw_blk (cd := tw_c227) rfl 1 (c1 := (46, [some (.ref 44), some (.int ((26 : Int32) + ((4 : Int32) * x3))), none, none, none], [.int (-1)], (I6, L, tw_P tw dr rt sc, A7, J, 57))) rfl ?_
            have hj13s := Option.some.inj hj13
            subst hj13s
            exact K
  · rw [if_neg hc1] at h
    refine tw_br (cd := tw_c227) rfl rfl rfl (by exact if_neg hc1) ?_
    have h := Option.some.inj h
    subst h
    exact tw_retE (cd := tw_c227) rfl rfl rfl rfl
theorem e_X10_personHere (I : Nat → Int32) (L : Nat → Int64) (A : Nat → Nat → Int32) (J : Nat → Nat → Int64) (tw dr : Nat) (rt : Nat) (sc : Nat) : ∀ r : (Int32 × (Nat → Int32)), g_X10_personHere I A = some r → tw_ME 215 (0, [some (.ref 44)], [], (I, L, tw_P tw dr rt sc, A, J, 57)) (some (.int r.1), ((r.2), L, tw_P tw dr rt sc, A, J, 57)) := by
  intro r h
  unfold g_X10_personHere at h
  refine tw_blk (cd := tw_c215) rfl 3 (c1 := (3, [some (.ref 44)], [.int 11, .int 6, .ref 44], (I, L, tw_P tw dr rt sc, A, J, 57))) rfl ?_
  obtain ⟨⟨x1, I2⟩, hx3, h⟩ := tw_bindE h
  dsimp only at h
  refine tw_callE (cd := tw_c215) rfl rfl rfl rfl rfl (e_X10_named I L A J tw dr rt sc (6 : Int32) (11 : Int32) _ hx3) (by exact Or.inl rfl) ?_
  have h := Option.some.inj h
  subst h
  exact tw_retE (cd := tw_c215) rfl rfl rfl rfl
theorem g_X10_goesLine_L1_ok (I : Nat → Int32) (L : Nat → Int64) (A : Nat → Nat → Int32) (J : Nat → Nat → Int64) (tw : Nat) (dr : Nat) (rt : Nat) (sc : Nat) (x3 : Int32) (x4 : Int32) (I5 : Nat → Int32) (I7 : Nat → Int32) (A8 : Nat → Nat → Int32) (x10 : Int32) (I11 : Nat → Int32) (A12 : Nat → Nat → Int32) (I14 : Nat → Int32) (A15 : Nat → Nat → Int32) (x17 : Int32) (I18 : Nat → Int32) (out : Option Value × tw_S) : ∀ (n : Nat) (v1_5 : Int32) (I_1 : Nat → Int32) (ex : Nat → Int32), g_X10_goesLine_L1 x4 A15 x17 n v1_5 I_1 = some ex → tw_ME 228 (69, [some (.ref 44), some (.int ((50 : Int32) + ((3 : Int32) * x3))), some (.int x4), some (.int x10), some (.int x17), none], [], (ex, L, tw_P tw dr rt sc, A15, J, 57)) out → tw_ME 228 (31, [some (.ref 44), some (.int ((50 : Int32) + ((3 : Int32) * x3))), some (.int x4), some (.int x10), some (.int x17), some (.int v1_5)], [], (I_1, L, tw_P tw dr rt sc, A15, J, 57)) out := by
  intro n
  induction n with
  | zero =>
    intro v1_5 I_1 ex h _
    cases h
  | succ n ih =>
    intro v1_5 I_1 ex h K
    rw [g_X10_goesLine_L1] at h
    refine tw_blk (cd := tw_c228) rfl 1 (c1 := (32, [some (.ref 44), some (.int ((50 : Int32) + ((3 : Int32) * x3))), some (.int x4), some (.int x10), some (.int x17), some (.int v1_5)], [.int v1_5], (I_1, L, tw_P tw dr rt sc, A15, J, 57))) rfl ?_
    refine tw_blk (cd := tw_c228) rfl 3 (c1 := (35, [some (.ref 44), some (.int ((50 : Int32) + ((3 : Int32) * x3))), some (.int x4), some (.int x10), some (.int x17), some (.int v1_5)], [.int 4, .ref 48, .int v1_5], (I_1, L, tw_P tw dr rt sc, A15, J, 57))) rfl ?_
    obtain ⟨x22, hx21, h⟩ := tw_bindE h
    refine tw_iald (cd := tw_c228) (N := 241) rfl rfl rfl rfl hx21 ?_
    by_cases hc23 : x22 ≤ v1_5
    · rw [if_pos hc23] at h
      refine tw_br (cd := tw_c228) rfl rfl rfl (by exact if_pos hc23) ?_
      refine tw_forget (ls2 := [some (.ref 44), some (.int ((50 : Int32) + ((3 : Int32) * x3))), some (.int x4), some (.int x10), some (.int x17), none]) ⟨rfl, rfl, rfl, rfl, rfl, trivial⟩ ?_
      have h := Option.some.inj h
      subst h
      exact K
    · rw [if_neg hc23] at h
      refine tw_br (cd := tw_c228) rfl rfl rfl (by exact if_neg hc23) ?_
      refine tw_blk (cd := tw_c228) rfl 2 (c1 := (39, [some (.ref 44), some (.int ((50 : Int32) + ((3 : Int32) * x3))), some (.int x4), some (.int x10), some (.int x17), some (.int v1_5)], [.int (I_1 4413)], (I_1, L, tw_P tw dr rt sc, A15, J, 57))) rfl ?_
      obtain ⟨I25, hj26, h⟩ := tw_bindE h
      have K : tw_ME 228 (67, [some (.ref 44), some (.int ((50 : Int32) + ((3 : Int32) * x3))), some (.int x4), some (.int x10), some (.int x17), some (.int v1_5)], [], (I25, L, tw_P tw dr rt sc, A15, J, 57)) out := by
        refine tw_blk (cd := tw_c228) rfl 2 (c1 := (31, [some (.ref 44), some (.int ((50 : Int32) + ((3 : Int32) * x3))), some (.int x4), some (.int x10), some (.int x17), some (.int (v1_5 + (1 : Int32)))], [], (I25, L, tw_P tw dr rt sc, A15, J, 57))) rfl ?_
        exact ih (v1_5 + (1 : Int32)) I25 _ h K
      by_cases hc24 : (I_1 4413) = 0
      · rw [if_pos hc24] at hj26
        refine tw_br (cd := tw_c228) rfl rfl rfl (by exact if_pos hc24) ?_
        refine tw_blk (cd := tw_c228) rfl 7 (c1 := (47, [some (.ref 44), some (.int ((50 : Int32) + ((3 : Int32) * x3))), some (.int x4), some (.int x10), some (.int x17), some (.int v1_5)], [.int ((50 : Int32) + ((3 : Int32) * v1_5)), .ref 48], (I_1, L, tw_P tw dr rt sc, A15, J, 57))) rfl ?_
        obtain ⟨x28, hx27, hj26⟩ := tw_bindE hj26
        refine tw_iald (cd := tw_c228) (N := 241) rfl rfl rfl rfl hx27 ?_
        refine tw_blk (cd := tw_c228) rfl 1 (c1 := (49, [some (.ref 44), some (.int ((50 : Int32) + ((3 : Int32) * x3))), some (.int x4), some (.int x10), some (.int x17), some (.int v1_5)], [.int x4, .int x28], (I_1, L, tw_P tw dr rt sc, A15, J, 57))) rfl ?_
        by_cases hc29 : x28 = x4
        · rw [if_pos hc29] at hj26
          refine tw_br (cd := tw_c228) rfl rfl rfl (by exact if_pos hc29) ?_
          refine tw_blk (cd := tw_c228) rfl 9 (c1 := (59, [some (.ref 44), some (.int ((50 : Int32) + ((3 : Int32) * x3))), some (.int x4), some (.int x10), some (.int x17), some (.int v1_5)], [.int (((50 : Int32) + ((3 : Int32) * v1_5)) + (2 : Int32)), .ref 48], (I_1, L, tw_P tw dr rt sc, A15, J, 57))) rfl ?_
          obtain ⟨x31, hx30, hj26⟩ := tw_bindE hj26
          refine tw_iald (cd := tw_c228) (N := 241) rfl rfl rfl rfl hx30 ?_
          refine tw_blk (cd := tw_c228) rfl 1 (c1 := (61, [some (.ref 44), some (.int ((50 : Int32) + ((3 : Int32) * x3))), some (.int x4), some (.int x10), some (.int x17), some (.int v1_5)], [.int x17, .int x31], (I_1, L, tw_P tw dr rt sc, A15, J, 57))) rfl ?_
          by_cases hc32 : x31 < x17
          · rw [if_pos hc32] at hj26
            refine tw_br (cd := tw_c228) rfl rfl rfl (by exact if_pos hc32) ?_
            have hj26s := Option.some.inj hj26
            subst hj26s
            exact K
          · rw [if_neg hc32] at hj26
            refine tw_br (cd := tw_c228) rfl rfl rfl (by exact if_neg hc32) ?_
            refine tw_blk (cd := tw_c228) rfl 4 (c1 := (66, [some (.ref 44), some (.int ((50 : Int32) + ((3 : Int32) * x3))), some (.int x4), some (.int x10), some (.int x17), some (.int v1_5)], [.int (I_1 4404), .int 7, .ref 44], (I_1, L, tw_P tw dr rt sc, A15, J, 57))) rfl ?_
            obtain ⟨I33, hx34, hj26⟩ := tw_letE hj26
            refine tw_callE (cd := tw_c228) rfl rfl rfl rfl rfl (e_X10_wrong I_1 L A15 J tw dr rt sc (7 : Int32) (I_1 4404) _ hx34) (by exact Or.inl rfl) ?_
            have hj26s := Option.some.inj hj26
            subst hj26s
            exact K
        · rw [if_neg hc29] at hj26
          refine tw_br (cd := tw_c228) rfl rfl rfl (by exact if_neg hc29) ?_
          have hj26s := Option.some.inj hj26
          subst hj26s
          exact K
      · rw [if_neg hc24] at hj26
        refine tw_br (cd := tw_c228) rfl rfl rfl (by exact if_neg hc24) ?_
        have hj26s := Option.some.inj hj26
        subst hj26s
        exact K
theorem e_X10_goesLine (I : Nat → Int32) (L : Nat → Int64) (A : Nat → Nat → Int32) (J : Nat → Nat → Int64) (tw dr : Nat) (rt : Nat) (sc : Nat) : ∀ r : ((Nat → Int32) × (Nat → Nat → Int32)), g_X10_goesLine I A = some r → tw_ME 228 (0, [some (.ref 44), none, none, none, none, none], [], (I, L, tw_P tw dr rt sc, A, J, 57)) (none, ((r.1), L, tw_P tw dr rt sc, (r.2), J, 57)) := by
  intro r h
  unfold g_X10_goesLine at h
  refine tw_blk (cd := tw_c228) rfl 2 (c1 := (2, [some (.ref 44), none, none, none, none, none], [.int (I 4413)], (I, L, tw_P tw dr rt sc, A, J, 57))) rfl ?_
  by_cases hc1 : (I 4413) = 0
  · rw [if_pos hc1] at h
    refine tw_br (cd := tw_c228) rfl rfl rfl (by exact if_pos hc1) ?_
    refine tw_blk (cd := tw_c228) rfl 5 (c1 := (9, [some (.ref 44), none, none, none, none, none], [.int 4, .ref 48, .int 3, .int 50], (I, L, tw_P tw dr rt sc, A, J, 57))) rfl ?_
    obtain ⟨x3, hx2, h⟩ := tw_bindE h
    refine tw_iald (cd := tw_c228) (N := 241) rfl rfl rfl rfl hx2 ?_
    refine tw_blk (cd := tw_c228) rfl 4 (c1 := (14, [some (.ref 44), some (.int ((50 : Int32) + ((3 : Int32) * x3))), none, none, none, none], [.ref 44], (I, L, tw_P tw dr rt sc, A, J, 57))) rfl ?_
    obtain ⟨⟨x4, I5⟩, hx6, h⟩ := tw_bindE h
    dsimp only at h
    refine tw_callE (cd := tw_c228) rfl rfl rfl rfl rfl (e_X10_personHere I L A J tw dr rt sc _ hx6) (by exact Or.inl rfl) ?_
    refine tw_blk (cd := tw_c228) rfl 2 (c1 := (17, [some (.ref 44), some (.int ((50 : Int32) + ((3 : Int32) * x3))), some (.int x4), none, none, none], [.ref 44], (I5, L, tw_P tw dr rt sc, A, J, 57))) rfl ?_
    obtain ⟨⟨I7, A8⟩, hx9, h⟩ := tw_bindE h
    dsimp only at h
    refine tw_callE (cd := tw_c228) rfl rfl rfl rfl rfl (e_X10_pass I5 L A J tw dr rt sc _ hx9) (by exact Or.inl rfl) ?_
    refine tw_blk (cd := tw_c228) rfl 1 (c1 := (19, [some (.ref 44), some (.int ((50 : Int32) + ((3 : Int32) * x3))), some (.int x4), none, none, none], [.ref 44], (I7, L, tw_P tw dr rt sc, A8, J, 57))) rfl ?_
    obtain ⟨⟨x10, I11, A12⟩, hx13, h⟩ := tw_bindE h
    dsimp only at h
    refine tw_callE (cd := tw_c228) rfl rfl rfl rfl rfl (e_X10_placePassed I7 L A8 J tw dr rt sc _ hx13) (by exact Or.inl rfl) ?_
    refine tw_blk (cd := tw_c228) rfl 3 (c1 := (23, [some (.ref 44), some (.int ((50 : Int32) + ((3 : Int32) * x3))), some (.int x4), some (.int x10), none, none], [.ref 1000, .ref 44], (I11, L, tw_P tw dr rt sc, A12, J, 57))) rfl ?_
    obtain ⟨⟨I14, A15⟩, hx16, h⟩ := tw_bindE h
    dsimp only at h
    refine tw_callE (cd := tw_c228) rfl rfl rfl rfl rfl (e_X10_must I11 L A12 J tw dr rt sc 1000 (by decide) _ hx16) (by exact Or.inl rfl) ?_
    refine tw_blk (cd := tw_c228) rfl 3 (c1 := (27, [some (.ref 44), some (.int ((50 : Int32) + ((3 : Int32) * x3))), some (.int x4), some (.int x10), none, none], [.int 59, .int 1, .ref 44], (I14, L, tw_P tw dr rt sc, A15, J, 57))) rfl ?_
    obtain ⟨⟨x17, I18⟩, hx19, h⟩ := tw_letE h
    dsimp only at h
    refine tw_callE (cd := tw_c228) rfl rfl rfl rfl rfl (e_X10_numberHere I14 L A15 J tw dr rt sc (1 : Int32) (59 : Int32) _ hx19) (by exact Or.inl rfl) ?_
    refine tw_blk (cd := tw_c228) rfl 3 (c1 := (31, [some (.ref 44), some (.int ((50 : Int32) + ((3 : Int32) * x3))), some (.int x4), some (.int x10), some (.int x17), some (.int 0)], [], (I18, L, tw_P tw dr rt sc, A15, J, 57))) rfl ?_
    obtain ⟨I20, hx49, h⟩ := tw_bindE h
    refine g_X10_goesLine_L1_ok I L A J tw dr rt sc x3 x4 I5 I7 A8 x10 I11 A12 I14 A15 x17 I18 _ 4096 (0 : Int32) I18 _ hx49 ?_
    refine tw_blk (cd := tw_c228) rfl 1 (c1 := (70, [some (.ref 44), some (.int ((50 : Int32) + ((3 : Int32) * x3))), some (.int x4), some (.int x10), some (.int x17), none], [.ref 44], (I20, L, tw_P tw dr rt sc, A15, J, 57))) rfl ?_
    obtain ⟨⟨I35, A36⟩, hx37, h⟩ := tw_bindE h
    dsimp only at h
    refine tw_callE (cd := tw_c228) rfl rfl rfl rfl rfl (e_X10_pass I20 L A15 J tw dr rt sc _ hx37) (by exact Or.inl rfl) ?_
    refine tw_blk (cd := tw_c228) rfl 2 (c1 := (73, [some (.ref 44), some (.int ((50 : Int32) + ((3 : Int32) * x3))), some (.int x4), some (.int x10), some (.int x17), none], [.int (I35 4413)], (I35, L, tw_P tw dr rt sc, A36, J, 57))) rfl ?_
    by_cases hc38 : (I35 4413) = 0
    · rw [if_pos hc38] at h
      refine tw_br (cd := tw_c228) rfl rfl rfl (by exact if_pos hc38) ?_
      refine tw_blk (cd := tw_c228) rfl 4 (c1 := (79, [some (.ref 44), some (.int ((50 : Int32) + ((3 : Int32) * x3))), some (.int x4), some (.int x10), some (.int x17), none], [.int x4, .int ((50 : Int32) + ((3 : Int32) * x3)), .ref 48], (I35, L, tw_P tw dr rt sc, A36, J, 57))) rfl ?_
      obtain ⟨w40, hx39, h⟩ := tw_bindE h
      refine tw_iast (cd := tw_c228) (N := 241) rfl rfl rfl rfl hx39 ?_
      refine tw_blk (cd := tw_c228) rfl 6 (c1 := (86, [some (.ref 44), some (.int ((50 : Int32) + ((3 : Int32) * x3))), some (.int x4), some (.int x10), some (.int x17), none], [.int x10, .int (((50 : Int32) + ((3 : Int32) * x3)) + (1 : Int32)), .ref 48], (I35, L, tw_P tw dr rt sc, (va_up A36 48 w40), J, 57))) rfl ?_
      obtain ⟨w42, hx41, h⟩ := tw_bindE h
      refine tw_iast (cd := tw_c228) (N := 241) rfl rfl rfl rfl hx41 ?_
      refine tw_blk (cd := tw_c228) rfl 6 (c1 := (93, [some (.ref 44), some (.int ((50 : Int32) + ((3 : Int32) * x3))), some (.int x4), some (.int x10), some (.int x17), none], [.int x17, .int (((50 : Int32) + ((3 : Int32) * x3)) + (2 : Int32)), .ref 48], (I35, L, tw_P tw dr rt sc, (va_up (va_up A36 48 w40) 48 w42), J, 57))) rfl ?_
      obtain ⟨w44, hx43, h⟩ := tw_bindE h
      refine tw_iast (cd := tw_c228) (N := 241) rfl rfl rfl rfl hx43 ?_
      refine tw_blk (cd := tw_c228) rfl 4 (c1 := (98, [some (.ref 44), some (.int ((50 : Int32) + ((3 : Int32) * x3))), some (.int x4), some (.int x10), some (.int x17), none], [.int 4, .ref 48, .int 4, .ref 48], (I35, L, tw_P tw dr rt sc, (va_up (va_up (va_up A36 48 w40) 48 w42) 48 w44), J, 57))) rfl ?_
      obtain ⟨x46, hx45, h⟩ := tw_bindE h
      refine tw_iald (cd := tw_c228) (N := 241) rfl rfl rfl rfl hx45 ?_
      refine tw_blk (cd := tw_c228) rfl 2 (c1 := (101, [some (.ref 44), some (.int ((50 : Int32) + ((3 : Int32) * x3))), some (.int x4), some (.int x10), some (.int x17), none], [.int (x46 + (1 : Int32)), .int 4, .ref 48], (I35, L, tw_P tw dr rt sc, (va_up (va_up (va_up A36 48 w40) 48 w42) 48 w44), J, 57))) rfl ?_
      obtain ⟨w48, hx47, h⟩ := tw_bindE h
      refine tw_iast (cd := tw_c228) (N := 241) rfl rfl rfl rfl hx47 ?_
      have h := Option.some.inj h
      subst h
      exact tw_retE (cd := tw_c228) rfl rfl rfl rfl
    · rw [if_neg hc38] at h
      refine tw_br (cd := tw_c228) rfl rfl rfl (by exact if_neg hc38) ?_
      have h := Option.some.inj h
      subst h
      exact tw_retE (cd := tw_c228) rfl rfl rfl rfl
  · rw [if_neg hc1] at h
    refine tw_br (cd := tw_c228) rfl rfl rfl (by exact if_neg hc1) ?_
    have h := Option.some.inj h
    subst h
    exact tw_retE (cd := tw_c228) rfl rfl rfl rfl
theorem e_X10_quarrelLine (I : Nat → Int32) (L : Nat → Int64) (A : Nat → Nat → Int32) (J : Nat → Nat → Int64) (tw dr : Nat) (rt : Nat) (sc : Nat) : ∀ r : ((Nat → Int32) × (Nat → Nat → Int32)), g_X10_quarrelLine I A = some r → tw_ME 229 (0, [some (.ref 44), none, none, none, none, none, none], [], (I, L, tw_P tw dr rt sc, A, J, 57)) (none, ((r.1), L, tw_P tw dr rt sc, (r.2), J, 57)) := by
  intro r h
  unfold g_X10_quarrelLine at h
  refine tw_blk (cd := tw_c229) rfl 2 (c1 := (2, [some (.ref 44), none, none, none, none, none, none], [.int (I 4413)], (I, L, tw_P tw dr rt sc, A, J, 57))) rfl ?_
  by_cases hc1 : (I 4413) = 0
  · rw [if_pos hc1] at h
    refine tw_br (cd := tw_c229) rfl rfl rfl (by exact if_pos hc1) ?_
    refine tw_blk (cd := tw_c229) rfl 5 (c1 := (9, [some (.ref 44), none, none, none, none, none, none], [.int 5, .ref 48, .int 5, .int 80], (I, L, tw_P tw dr rt sc, A, J, 57))) rfl ?_
    obtain ⟨x3, hx2, h⟩ := tw_bindE h
    refine tw_iald (cd := tw_c229) (N := 241) rfl rfl rfl rfl hx2 ?_
    refine tw_blk (cd := tw_c229) rfl 8 (c1 := (18, [some (.ref 44), some (.int ((80 : Int32) + ((5 : Int32) * x3))), none, none, none, none, none], [.int 5, .ref 48, .int 12, .ref 44], (I, L, tw_P tw dr rt sc, A, J, 57))) rfl ?_
    obtain ⟨x5, hx4, h⟩ := tw_bindE h
    refine tw_iald (cd := tw_c229) (N := 241) rfl rfl rfl rfl hx4 ?_
    refine tw_blk (cd := tw_c229) rfl 1 (c1 := (20, [some (.ref 44), some (.int ((80 : Int32) + ((5 : Int32) * x3))), none, none, none, none, none], [.int ((12 : Int32) + x5), .ref 44], (I, L, tw_P tw dr rt sc, A, J, 57))) rfl ?_
    obtain ⟨⟨I6, A7⟩, hx8, h⟩ := tw_bindE h
    dsimp only at h
    refine tw_callE (cd := tw_c229) rfl rfl rfl rfl rfl (e_X10_newName I L A J tw dr rt sc ((12 : Int32) + x5) _ hx8) (by exact Or.inl rfl) ?_
    refine tw_blk (cd := tw_c229) rfl 1 (c1 := (22, [some (.ref 44), some (.int ((80 : Int32) + ((5 : Int32) * x3))), none, none, none, none, none], [.ref 44], (I6, L, tw_P tw dr rt sc, A7, J, 57))) rfl ?_
    obtain ⟨⟨x9, I10⟩, hx11, h⟩ := tw_bindE h
    dsimp only at h
    refine tw_callE (cd := tw_c229) rfl rfl rfl rfl rfl (e_X10_personHere I6 L A7 J tw dr rt sc _ hx11) (by exact Or.inl rfl) ?_
    refine tw_blk (cd := tw_c229) rfl 2 (c1 := (25, [some (.ref 44), some (.int ((80 : Int32) + ((5 : Int32) * x3))), some (.int x9), none, none, none, none], [.ref 44], (I10, L, tw_P tw dr rt sc, A7, J, 57))) rfl ?_
    obtain ⟨⟨I12, A13⟩, hx14, h⟩ := tw_bindE h
    dsimp only at h
    refine tw_callE (cd := tw_c229) rfl rfl rfl rfl rfl (e_X10_pass I10 L A7 J tw dr rt sc _ hx14) (by exact Or.inl rfl) ?_
    refine tw_blk (cd := tw_c229) rfl 1 (c1 := (27, [some (.ref 44), some (.int ((80 : Int32) + ((5 : Int32) * x3))), some (.int x9), none, none, none, none], [.ref 44], (I12, L, tw_P tw dr rt sc, A13, J, 57))) rfl ?_
    obtain ⟨⟨x15, I16⟩, hx17, h⟩ := tw_bindE h
    dsimp only at h
    refine tw_callE (cd := tw_c229) rfl rfl rfl rfl rfl (e_X10_personHere I12 L A13 J tw dr rt sc _ hx17) (by exact Or.inl rfl) ?_
    refine tw_blk (cd := tw_c229) rfl 3 (c1 := (31, [some (.ref 44), some (.int ((80 : Int32) + ((5 : Int32) * x3))), some (.int x9), some (.int x15), none, none, none], [.int (I16 4413)], (I16, L, tw_P tw dr rt sc, A13, J, 57))) rfl ?_
    obtain ⟨I19, hj20, h⟩ := tw_bindE h
    have K : tw_ME 229 (40, [some (.ref 44), some (.int ((80 : Int32) + ((5 : Int32) * x3))), some (.int x9), some (.int x15), none, none, none], [], (I19, L, tw_P tw dr rt sc, A13, J, 57)) (none, ((r.1), L, tw_P tw dr rt sc, (r.2), J, 57)) := by
      refine tw_blk (cd := tw_c229) rfl 1 (c1 := (41, [some (.ref 44), some (.int ((80 : Int32) + ((5 : Int32) * x3))), some (.int x9), some (.int x15), none, none, none], [.ref 44], (I19, L, tw_P tw dr rt sc, A13, J, 57))) rfl ?_
      obtain ⟨⟨I24, A25⟩, hx26, h⟩ := tw_bindE h
      dsimp only at h
      refine tw_callE (cd := tw_c229) rfl rfl rfl rfl rfl (e_X10_pass I19 L A13 J tw dr rt sc _ hx26) (by exact Or.inl rfl) ?_
      refine tw_blk (cd := tw_c229) rfl 2 (c1 := (44, [some (.ref 44), some (.int ((80 : Int32) + ((5 : Int32) * x3))), some (.int x9), some (.int x15), none, none, none], [.ref 1000, .ref 44], (I24, L, tw_P tw dr rt sc, A25, J, 57))) rfl ?_
      obtain ⟨⟨I27, A28⟩, hx29, h⟩ := tw_bindE h
      dsimp only at h
      refine tw_callE (cd := tw_c229) rfl rfl rfl rfl rfl (e_X10_must I24 L A25 J tw dr rt sc 1000 (by decide) _ hx29) (by exact Or.inl rfl) ?_
      refine tw_blk (cd := tw_c229) rfl 1 (c1 := (46, [some (.ref 44), some (.int ((80 : Int32) + ((5 : Int32) * x3))), some (.int x9), some (.int x15), none, none, none], [.ref 44], (I27, L, tw_P tw dr rt sc, A28, J, 57))) rfl ?_
      obtain ⟨⟨x30, I31, A32⟩, hx33, h⟩ := tw_bindE h
      dsimp only at h
      refine tw_callE (cd := tw_c229) rfl rfl rfl rfl rfl (e_X10_placePassed I27 L A28 J tw dr rt sc _ hx33) (by exact Or.inl rfl) ?_
      refine tw_blk (cd := tw_c229) rfl 5 (c1 := (52, [some (.ref 44), some (.int ((80 : Int32) + ((5 : Int32) * x3))), some (.int x9), some (.int x15), some (.int x30), none, none], [.int 59, .int 0, .ref 1007, .ref 44], (I31, L, tw_P tw dr rt sc, A32, J, 57))) rfl ?_
      obtain ⟨⟨x34, I35, A36⟩, hx37, h⟩ := tw_bindE h
      dsimp only at h
      refine tw_callE (cd := tw_c229) rfl rfl rfl rfl rfl (e_X10_after I31 L A32 J tw dr rt sc 1007 (0 : Int32) (59 : Int32) (by decide) _ hx37) (by exact Or.inl rfl) ?_
      refine tw_blk (cd := tw_c229) rfl 5 (c1 := (58, [some (.ref 44), some (.int ((80 : Int32) + ((5 : Int32) * x3))), some (.int x9), some (.int x15), some (.int x30), some (.int x34), none], [.int 99, .int 1, .ref 1010, .ref 44], (I35, L, tw_P tw dr rt sc, A36, J, 57))) rfl ?_
      obtain ⟨⟨x38, I39, A40⟩, hx41, h⟩ := tw_bindE h
      dsimp only at h
      refine tw_callE (cd := tw_c229) rfl rfl rfl rfl rfl (e_X10_after I35 L A36 J tw dr rt sc 1010 (1 : Int32) (99 : Int32) (by decide) _ hx41) (by exact Or.inl rfl) ?_
      refine tw_blk (cd := tw_c229) rfl 3 (c1 := (62, [some (.ref 44), some (.int ((80 : Int32) + ((5 : Int32) * x3))), some (.int x9), some (.int x15), some (.int x30), some (.int x34), some (.int x38)], [.int (I39 4413)], (I39, L, tw_P tw dr rt sc, A40, J, 57))) rfl ?_
      by_cases hc42 : (I39 4413) = 0
      · rw [if_pos hc42] at h
        refine tw_br (cd := tw_c229) rfl rfl rfl (by exact if_pos hc42) ?_
        refine tw_blk (cd := tw_c229) rfl 4 (c1 := (68, [some (.ref 44), some (.int ((80 : Int32) + ((5 : Int32) * x3))), some (.int x9), some (.int x15), some (.int x30), some (.int x34), some (.int x38)], [.int x9, .int ((80 : Int32) + ((5 : Int32) * x3)), .ref 48], (I39, L, tw_P tw dr rt sc, A40, J, 57))) rfl ?_
        obtain ⟨w44, hx43, h⟩ := tw_bindE h
        refine tw_iast (cd := tw_c229) (N := 241) rfl rfl rfl rfl hx43 ?_
        refine tw_blk (cd := tw_c229) rfl 6 (c1 := (75, [some (.ref 44), some (.int ((80 : Int32) + ((5 : Int32) * x3))), some (.int x9), some (.int x15), some (.int x30), some (.int x34), some (.int x38)], [.int x15, .int (((80 : Int32) + ((5 : Int32) * x3)) + (1 : Int32)), .ref 48], (I39, L, tw_P tw dr rt sc, (va_up A40 48 w44), J, 57))) rfl ?_
        obtain ⟨w46, hx45, h⟩ := tw_bindE h
        refine tw_iast (cd := tw_c229) (N := 241) rfl rfl rfl rfl hx45 ?_
        refine tw_blk (cd := tw_c229) rfl 6 (c1 := (82, [some (.ref 44), some (.int ((80 : Int32) + ((5 : Int32) * x3))), some (.int x9), some (.int x15), some (.int x30), some (.int x34), some (.int x38)], [.int x30, .int (((80 : Int32) + ((5 : Int32) * x3)) + (2 : Int32)), .ref 48], (I39, L, tw_P tw dr rt sc, (va_up (va_up A40 48 w44) 48 w46), J, 57))) rfl ?_
        obtain ⟨w48, hx47, h⟩ := tw_bindE h
        refine tw_iast (cd := tw_c229) (N := 241) rfl rfl rfl rfl hx47 ?_
        refine tw_blk (cd := tw_c229) rfl 6 (c1 := (89, [some (.ref 44), some (.int ((80 : Int32) + ((5 : Int32) * x3))), some (.int x9), some (.int x15), some (.int x30), some (.int x34), some (.int x38)], [.int x34, .int (((80 : Int32) + ((5 : Int32) * x3)) + (3 : Int32)), .ref 48], (I39, L, tw_P tw dr rt sc, (va_up (va_up (va_up A40 48 w44) 48 w46) 48 w48), J, 57))) rfl ?_
        obtain ⟨w50, hx49, h⟩ := tw_bindE h
        refine tw_iast (cd := tw_c229) (N := 241) rfl rfl rfl rfl hx49 ?_
        refine tw_blk (cd := tw_c229) rfl 6 (c1 := (96, [some (.ref 44), some (.int ((80 : Int32) + ((5 : Int32) * x3))), some (.int x9), some (.int x15), some (.int x30), some (.int x34), some (.int x38)], [.int x38, .int (((80 : Int32) + ((5 : Int32) * x3)) + (4 : Int32)), .ref 48], (I39, L, tw_P tw dr rt sc, (va_up (va_up (va_up (va_up A40 48 w44) 48 w46) 48 w48) 48 w50), J, 57))) rfl ?_
        obtain ⟨w52, hx51, h⟩ := tw_bindE h
        refine tw_iast (cd := tw_c229) (N := 241) rfl rfl rfl rfl hx51 ?_
        refine tw_blk (cd := tw_c229) rfl 4 (c1 := (101, [some (.ref 44), some (.int ((80 : Int32) + ((5 : Int32) * x3))), some (.int x9), some (.int x15), some (.int x30), some (.int x34), some (.int x38)], [.int 5, .ref 48, .int 5, .ref 48], (I39, L, tw_P tw dr rt sc, (va_up (va_up (va_up (va_up (va_up A40 48 w44) 48 w46) 48 w48) 48 w50) 48 w52), J, 57))) rfl ?_
        obtain ⟨x54, hx53, h⟩ := tw_bindE h
        refine tw_iald (cd := tw_c229) (N := 241) rfl rfl rfl rfl hx53 ?_
        refine tw_blk (cd := tw_c229) rfl 2 (c1 := (104, [some (.ref 44), some (.int ((80 : Int32) + ((5 : Int32) * x3))), some (.int x9), some (.int x15), some (.int x30), some (.int x34), some (.int x38)], [.int (x54 + (1 : Int32)), .int 5, .ref 48], (I39, L, tw_P tw dr rt sc, (va_up (va_up (va_up (va_up (va_up A40 48 w44) 48 w46) 48 w48) 48 w50) 48 w52), J, 57))) rfl ?_
        obtain ⟨w56, hx55, h⟩ := tw_bindE h
        refine tw_iast (cd := tw_c229) (N := 241) rfl rfl rfl rfl hx55 ?_
        have h := Option.some.inj h
        subst h
        exact tw_retE (cd := tw_c229) rfl rfl rfl rfl
      · rw [if_neg hc42] at h
        refine tw_br (cd := tw_c229) rfl rfl rfl (by exact if_neg hc42) ?_
        have h := Option.some.inj h
        subst h
        exact tw_retE (cd := tw_c229) rfl rfl rfl rfl
    by_cases hc18 : (I16 4413) = 0
    · rw [if_pos hc18] at hj20
      refine tw_br (cd := tw_c229) rfl rfl rfl (by exact if_pos hc18) ?_
      refine tw_blk (cd := tw_c229) rfl 2 (c1 := (34, [some (.ref 44), some (.int ((80 : Int32) + ((5 : Int32) * x3))), some (.int x9), some (.int x15), none, none, none], [.int x15, .int x9], (I16, L, tw_P tw dr rt sc, A13, J, 57))) rfl ?_
      by_cases hc21 : x9 = x15
      · rw [if_pos hc21] at hj20
        refine tw_br (cd := tw_c229) rfl rfl rfl (by exact if_pos hc21) ?_
        refine tw_blk (cd := tw_c229) rfl 4 (c1 := (39, [some (.ref 44), some (.int ((80 : Int32) + ((5 : Int32) * x3))), some (.int x9), some (.int x15), none, none, none], [.int (I16 4404), .int 3, .ref 44], (I16, L, tw_P tw dr rt sc, A13, J, 57))) rfl ?_
        obtain ⟨I22, hx23, hj20⟩ := tw_letE hj20
        refine tw_callE (cd := tw_c229) rfl rfl rfl rfl rfl (e_X10_wrong I16 L A13 J tw dr rt sc (3 : Int32) (I16 4404) _ hx23) (by exact Or.inl rfl) ?_
        have hj20s := Option.some.inj hj20
        subst hj20s
        exact K
      · rw [if_neg hc21] at hj20
        refine tw_br (cd := tw_c229) rfl rfl rfl (by exact if_neg hc21) ?_
        have hj20s := Option.some.inj hj20
        subst hj20s
        exact K
    · rw [if_neg hc18] at hj20
      refine tw_br (cd := tw_c229) rfl rfl rfl (by exact if_neg hc18) ?_
      have hj20s := Option.some.inj hj20
      subst hj20s
      exact K
  · rw [if_neg hc1] at h
    refine tw_br (cd := tw_c229) rfl rfl rfl (by exact if_neg hc1) ?_
    have h := Option.some.inj h
    subst h
    exact tw_retE (cd := tw_c229) rfl rfl rfl rfl
theorem e_X10_hireLine (I : Nat → Int32) (L : Nat → Int64) (A : Nat → Nat → Int32) (J : Nat → Nat → Int64) (tw dr : Nat) (rt : Nat) (sc : Nat) : ∀ r : ((Nat → Int32) × (Nat → Nat → Int32)), g_X10_hireLine I A = some r → tw_ME 230 (0, [some (.ref 44), none, none], [], (I, L, tw_P tw dr rt sc, A, J, 57)) (none, ((r.1), L, tw_P tw dr rt sc, (r.2), J, 57)) := by
  intro r h
  unfold g_X10_hireLine at h
  refine tw_blk (cd := tw_c230) rfl 1 (c1 := (1, [some (.ref 44), none, none], [.ref 44], (I, L, tw_P tw dr rt sc, A, J, 57))) rfl ?_
  obtain ⟨⟨x1, I2⟩, hx3, h⟩ := tw_bindE h
  dsimp only at h
  refine tw_callE (cd := tw_c230) rfl rfl rfl rfl rfl (e_X10_personHere I L A J tw dr rt sc _ hx3) (by exact Or.inl rfl) ?_
  refine tw_blk (cd := tw_c230) rfl 3 (c1 := (5, [some (.ref 44), some (.int x1), none], [.int (I2 4413)], (I2, L, tw_P tw dr rt sc, A, J, 57))) rfl ?_
  obtain ⟨I5, hj6, h⟩ := tw_bindE h
  have K : tw_ME 230 (22, [some (.ref 44), some (.int x1), none], [], (I5, L, tw_P tw dr rt sc, A, J, 57)) (none, ((r.1), L, tw_P tw dr rt sc, (r.2), J, 57)) := by
    refine tw_blk (cd := tw_c230) rfl 1 (c1 := (23, [some (.ref 44), some (.int x1), none], [.ref 44], (I5, L, tw_P tw dr rt sc, A, J, 57))) rfl ?_
    obtain ⟨⟨I12, A13⟩, hx14, h⟩ := tw_bindE h
    dsimp only at h
    refine tw_callE (cd := tw_c230) rfl rfl rfl rfl rfl (e_X10_pass I5 L A J tw dr rt sc _ hx14) (by exact Or.inl rfl) ?_
    refine tw_blk (cd := tw_c230) rfl 4 (c1 := (28, [some (.ref 44), some (.int x1), none], [.int 20, .int 0, .ref 1006, .ref 44], (I12, L, tw_P tw dr rt sc, A13, J, 57))) rfl ?_
    obtain ⟨⟨x15, I16, A17⟩, hx18, h⟩ := tw_bindE h
    dsimp only at h
    refine tw_callE (cd := tw_c230) rfl rfl rfl rfl rfl (e_X10_after I12 L A13 J tw dr rt sc 1006 (0 : Int32) (20 : Int32) (by decide) _ hx18) (by exact Or.inl rfl) ?_
    refine tw_blk (cd := tw_c230) rfl 3 (c1 := (32, [some (.ref 44), some (.int x1), some (.int x15)], [.int (I16 4413)], (I16, L, tw_P tw dr rt sc, A17, J, 57))) rfl ?_
    by_cases hc19 : (I16 4413) = 0
    · rw [if_pos hc19] at h
      refine tw_br (cd := tw_c230) rfl rfl rfl (by exact if_pos hc19) ?_
      refine tw_blk (cd := tw_c230) rfl 12 (c1 := (46, [some (.ref 44), some (.int x1), some (.int x15)], [.int (x15 + (1 : Int32)), .int (((26 : Int32) + ((4 : Int32) * x1)) + (3 : Int32)), .ref 48], (I16, L, tw_P tw dr rt sc, A17, J, 57))) rfl ?_
      obtain ⟨w21, hx20, h⟩ := tw_bindE h
      refine tw_iast (cd := tw_c230) (N := 241) rfl rfl rfl rfl hx20 ?_
      refine tw_blk (cd := tw_c230) rfl 4 (c1 := (51, [some (.ref 44), some (.int x1), some (.int x15)], [.int 6, .ref 48, .int 6, .ref 48], (I16, L, tw_P tw dr rt sc, (va_up A17 48 w21), J, 57))) rfl ?_
      obtain ⟨x23, hx22, h⟩ := tw_bindE h
      refine tw_iald (cd := tw_c230) (N := 241) rfl rfl rfl rfl hx22 ?_
      refine tw_blk (cd := tw_c230) rfl 2 (c1 := (54, [some (.ref 44), some (.int x1), some (.int x15)], [.int (x23 + (1 : Int32)), .int 6, .ref 48], (I16, L, tw_P tw dr rt sc, (va_up A17 48 w21), J, 57))) rfl ?_
      obtain ⟨w25, hx24, h⟩ := tw_bindE h
      refine tw_iast (cd := tw_c230) (N := 241) rfl rfl rfl rfl hx24 ?_
      have h := Option.some.inj h
      subst h
      exact tw_retE (cd := tw_c230) rfl rfl rfl rfl
    · rw [if_neg hc19] at h
      refine tw_br (cd := tw_c230) rfl rfl rfl (by exact if_neg hc19) ?_
      have h := Option.some.inj h
      subst h
      exact tw_retE (cd := tw_c230) rfl rfl rfl rfl
  by_cases hc4 : (I2 4413) = 0
  · rw [if_pos hc4] at hj6
    refine tw_br (cd := tw_c230) rfl rfl rfl (by exact if_pos hc4) ?_
    refine tw_blk (cd := tw_c230) rfl 9 (c1 := (15, [some (.ref 44), some (.int x1), none], [.int (((26 : Int32) + ((4 : Int32) * x1)) + (3 : Int32)), .ref 48], (I2, L, tw_P tw dr rt sc, A, J, 57))) rfl ?_
    obtain ⟨x8, hx7, hj6⟩ := tw_bindE hj6
    refine tw_iald (cd := tw_c230) (N := 241) rfl rfl rfl rfl hx7 ?_
    by_cases hc9 : x8 ≤ 0
    · rw [if_pos hc9] at hj6
      refine tw_br (cd := tw_c230) rfl rfl rfl (by exact if_pos hc9) ?_
      have hj6s := Option.some.inj hj6
      subst hj6s
      exact K
    · rw [if_neg hc9] at hj6
      refine tw_br (cd := tw_c230) rfl rfl rfl (by exact if_neg hc9) ?_
      refine tw_blk (cd := tw_c230) rfl 4 (c1 := (21, [some (.ref 44), some (.int x1), none], [.int (I2 4404), .int 3, .ref 44], (I2, L, tw_P tw dr rt sc, A, J, 57))) rfl ?_
      obtain ⟨I10, hx11, hj6⟩ := tw_letE hj6
      refine tw_callE (cd := tw_c230) rfl rfl rfl rfl rfl (e_X10_wrong I2 L A J tw dr rt sc (3 : Int32) (I2 4404) _ hx11) (by exact Or.inl rfl) ?_
      have hj6s := Option.some.inj hj6
      subst hj6s
      exact K
  · rw [if_neg hc4] at hj6
    refine tw_br (cd := tw_c230) rfl rfl rfl (by exact if_neg hc4) ?_
    have hj6s := Option.some.inj hj6
    subst hj6s
    exact K
theorem g_X10_unsureLine_L1_ok (I : Nat → Int32) (L : Nat → Int64) (A : Nat → Nat → Int32) (J : Nat → Nat → Int64) (tw : Nat) (dr : Nat) (rt : Nat) (sc : Nat) (x3 : Int32) (x4 : Int32) (I5 : Nat → Int32) (out : Option Value × tw_S) : ∀ (n : Nat) (v1_3 : Int32) (I_1 : Nat → Int32) (ex : Nat → Int32), g_X10_unsureLine_L1 A x4 n v1_3 I_1 = some ex → tw_ME 231 (44, [some (.ref 44), some (.int ((95 : Int32) + ((2 : Int32) * x3))), some (.int x4), none], [], (ex, L, tw_P tw dr rt sc, A, J, 57)) out → tw_ME 231 (18, [some (.ref 44), some (.int ((95 : Int32) + ((2 : Int32) * x3))), some (.int x4), some (.int v1_3)], [], (I_1, L, tw_P tw dr rt sc, A, J, 57)) out := by
  intro n
  induction n with
  | zero =>
    intro v1_3 I_1 ex h _
    cases h
  | succ n ih =>
    intro v1_3 I_1 ex h K
    rw [g_X10_unsureLine_L1] at h
    refine tw_blk (cd := tw_c231) rfl 1 (c1 := (19, [some (.ref 44), some (.int ((95 : Int32) + ((2 : Int32) * x3))), some (.int x4), some (.int v1_3)], [.int v1_3], (I_1, L, tw_P tw dr rt sc, A, J, 57))) rfl ?_
    refine tw_blk (cd := tw_c231) rfl 3 (c1 := (22, [some (.ref 44), some (.int ((95 : Int32) + ((2 : Int32) * x3))), some (.int x4), some (.int v1_3)], [.int 7, .ref 48, .int v1_3], (I_1, L, tw_P tw dr rt sc, A, J, 57))) rfl ?_
    obtain ⟨x9, hx8, h⟩ := tw_bindE h
    refine tw_iald (cd := tw_c231) (N := 241) rfl rfl rfl rfl hx8 ?_
    by_cases hc10 : x9 ≤ v1_3
    · rw [if_pos hc10] at h
      refine tw_br (cd := tw_c231) rfl rfl rfl (by exact if_pos hc10) ?_
      refine tw_forget (ls2 := [some (.ref 44), some (.int ((95 : Int32) + ((2 : Int32) * x3))), some (.int x4), none]) ⟨rfl, rfl, rfl, trivial⟩ ?_
      have h := Option.some.inj h
      subst h
      exact K
    · rw [if_neg hc10] at h
      refine tw_br (cd := tw_c231) rfl rfl rfl (by exact if_neg hc10) ?_
      refine tw_blk (cd := tw_c231) rfl 2 (c1 := (26, [some (.ref 44), some (.int ((95 : Int32) + ((2 : Int32) * x3))), some (.int x4), some (.int v1_3)], [.int (I_1 4413)], (I_1, L, tw_P tw dr rt sc, A, J, 57))) rfl ?_
      obtain ⟨I12, hj13, h⟩ := tw_bindE h
      have K : tw_ME 231 (42, [some (.ref 44), some (.int ((95 : Int32) + ((2 : Int32) * x3))), some (.int x4), some (.int v1_3)], [], (I12, L, tw_P tw dr rt sc, A, J, 57)) out := by
        refine tw_blk (cd := tw_c231) rfl 2 (c1 := (18, [some (.ref 44), some (.int ((95 : Int32) + ((2 : Int32) * x3))), some (.int x4), some (.int (v1_3 + (1 : Int32)))], [], (I12, L, tw_P tw dr rt sc, A, J, 57))) rfl ?_
        exact ih (v1_3 + (1 : Int32)) I12 _ h K
      by_cases hc11 : (I_1 4413) = 0
      · rw [if_pos hc11] at hj13
        refine tw_br (cd := tw_c231) rfl rfl rfl (by exact if_pos hc11) ?_
        refine tw_blk (cd := tw_c231) rfl 7 (c1 := (34, [some (.ref 44), some (.int ((95 : Int32) + ((2 : Int32) * x3))), some (.int x4), some (.int v1_3)], [.int ((95 : Int32) + ((2 : Int32) * v1_3)), .ref 48], (I_1, L, tw_P tw dr rt sc, A, J, 57))) rfl ?_
        obtain ⟨x15, hx14, hj13⟩ := tw_bindE hj13
        refine tw_iald (cd := tw_c231) (N := 241) rfl rfl rfl rfl hx14 ?_
        refine tw_blk (cd := tw_c231) rfl 1 (c1 := (36, [some (.ref 44), some (.int ((95 : Int32) + ((2 : Int32) * x3))), some (.int x4), some (.int v1_3)], [.int x4, .int x15], (I_1, L, tw_P tw dr rt sc, A, J, 57))) rfl ?_
        by_cases hc16 : x15 = x4
        · rw [if_pos hc16] at hj13
          refine tw_br (cd := tw_c231) rfl rfl rfl (by exact if_pos hc16) ?_
          refine tw_blk (cd := tw_c231) rfl 4 (c1 := (41, [some (.ref 44), some (.int ((95 : Int32) + ((2 : Int32) * x3))), some (.int x4), some (.int v1_3)], [.int (I_1 4404), .int 3, .ref 44], (I_1, L, tw_P tw dr rt sc, A, J, 57))) rfl ?_
          obtain ⟨I17, hx18, hj13⟩ := tw_letE hj13
          refine tw_callE (cd := tw_c231) rfl rfl rfl rfl rfl (e_X10_wrong I_1 L A J tw dr rt sc (3 : Int32) (I_1 4404) _ hx18) (by exact Or.inl rfl) ?_
          have hj13s := Option.some.inj hj13
          subst hj13s
          exact K
        · rw [if_neg hc16] at hj13
          refine tw_br (cd := tw_c231) rfl rfl rfl (by exact if_neg hc16) ?_
          have hj13s := Option.some.inj hj13
          subst hj13s
          exact K
      · rw [if_neg hc11] at hj13
        refine tw_br (cd := tw_c231) rfl rfl rfl (by exact if_neg hc11) ?_
        have hj13s := Option.some.inj hj13
        subst hj13s
        exact K
theorem e_X10_unsureLine (I : Nat → Int32) (L : Nat → Int64) (A : Nat → Nat → Int32) (J : Nat → Nat → Int64) (tw dr : Nat) (rt : Nat) (sc : Nat) : ∀ r : ((Nat → Int32) × (Nat → Nat → Int32)), g_X10_unsureLine I A = some r → tw_ME 231 (0, [some (.ref 44), none, none, none], [], (I, L, tw_P tw dr rt sc, A, J, 57)) (none, ((r.1), L, tw_P tw dr rt sc, (r.2), J, 57)) := by
  intro r h
  unfold g_X10_unsureLine at h
  refine tw_blk (cd := tw_c231) rfl 2 (c1 := (2, [some (.ref 44), none, none, none], [.int (I 4413)], (I, L, tw_P tw dr rt sc, A, J, 57))) rfl ?_
  by_cases hc1 : (I 4413) = 0
  · rw [if_pos hc1] at h
    refine tw_br (cd := tw_c231) rfl rfl rfl (by exact if_pos hc1) ?_
    refine tw_blk (cd := tw_c231) rfl 5 (c1 := (9, [some (.ref 44), none, none, none], [.int 7, .ref 48, .int 2, .int 95], (I, L, tw_P tw dr rt sc, A, J, 57))) rfl ?_
    obtain ⟨x3, hx2, h⟩ := tw_bindE h
    refine tw_iald (cd := tw_c231) (N := 241) rfl rfl rfl rfl hx2 ?_
    refine tw_blk (cd := tw_c231) rfl 4 (c1 := (14, [some (.ref 44), some (.int ((95 : Int32) + ((2 : Int32) * x3))), none, none], [.ref 44], (I, L, tw_P tw dr rt sc, A, J, 57))) rfl ?_
    obtain ⟨⟨x4, I5⟩, hx6, h⟩ := tw_bindE h
    dsimp only at h
    refine tw_callE (cd := tw_c231) rfl rfl rfl rfl rfl (e_X10_personHere I L A J tw dr rt sc _ hx6) (by exact Or.inl rfl) ?_
    refine tw_blk (cd := tw_c231) rfl 3 (c1 := (18, [some (.ref 44), some (.int ((95 : Int32) + ((2 : Int32) * x3))), some (.int x4), some (.int 0)], [], (I5, L, tw_P tw dr rt sc, A, J, 57))) rfl ?_
    obtain ⟨I7, hx35, h⟩ := tw_bindE h
    refine g_X10_unsureLine_L1_ok I L A J tw dr rt sc x3 x4 I5 _ 4096 (0 : Int32) I5 _ hx35 ?_
    refine tw_blk (cd := tw_c231) rfl 1 (c1 := (45, [some (.ref 44), some (.int ((95 : Int32) + ((2 : Int32) * x3))), some (.int x4), none], [.ref 44], (I7, L, tw_P tw dr rt sc, A, J, 57))) rfl ?_
    obtain ⟨⟨I19, A20⟩, hx21, h⟩ := tw_bindE h
    dsimp only at h
    refine tw_callE (cd := tw_c231) rfl rfl rfl rfl rfl (e_X10_pass I7 L A J tw dr rt sc _ hx21) (by exact Or.inl rfl) ?_
    refine tw_blk (cd := tw_c231) rfl 3 (c1 := (49, [some (.ref 44), some (.int ((95 : Int32) + ((2 : Int32) * x3))), some (.int x4), none], [.int 9, .int 0, .ref 44], (I19, L, tw_P tw dr rt sc, A20, J, 57))) rfl ?_
    obtain ⟨⟨x22, I23, A24⟩, hx25, h⟩ := tw_bindE h
    dsimp only at h
    refine tw_callE (cd := tw_c231) rfl rfl rfl rfl rfl (e_X10_number I19 L A20 J tw dr rt sc (0 : Int32) (9 : Int32) _ hx25) (by exact Or.inl rfl) ?_
    refine tw_blk (cd := tw_c231) rfl 3 (c1 := (53, [some (.ref 44), some (.int ((95 : Int32) + ((2 : Int32) * x3))), some (.int x4), some (.int x22)], [.int (I23 4413)], (I23, L, tw_P tw dr rt sc, A24, J, 57))) rfl ?_
    by_cases hc26 : (I23 4413) = 0
    · rw [if_pos hc26] at h
      refine tw_br (cd := tw_c231) rfl rfl rfl (by exact if_pos hc26) ?_
      refine tw_blk (cd := tw_c231) rfl 4 (c1 := (59, [some (.ref 44), some (.int ((95 : Int32) + ((2 : Int32) * x3))), some (.int x4), some (.int x22)], [.int x4, .int ((95 : Int32) + ((2 : Int32) * x3)), .ref 48], (I23, L, tw_P tw dr rt sc, A24, J, 57))) rfl ?_
      obtain ⟨w28, hx27, h⟩ := tw_bindE h
      refine tw_iast (cd := tw_c231) (N := 241) rfl rfl rfl rfl hx27 ?_
      refine tw_blk (cd := tw_c231) rfl 6 (c1 := (66, [some (.ref 44), some (.int ((95 : Int32) + ((2 : Int32) * x3))), some (.int x4), some (.int x22)], [.int x22, .int (((95 : Int32) + ((2 : Int32) * x3)) + (1 : Int32)), .ref 48], (I23, L, tw_P tw dr rt sc, (va_up A24 48 w28), J, 57))) rfl ?_
      obtain ⟨w30, hx29, h⟩ := tw_bindE h
      refine tw_iast (cd := tw_c231) (N := 241) rfl rfl rfl rfl hx29 ?_
      refine tw_blk (cd := tw_c231) rfl 4 (c1 := (71, [some (.ref 44), some (.int ((95 : Int32) + ((2 : Int32) * x3))), some (.int x4), some (.int x22)], [.int 7, .ref 48, .int 7, .ref 48], (I23, L, tw_P tw dr rt sc, (va_up (va_up A24 48 w28) 48 w30), J, 57))) rfl ?_
      obtain ⟨x32, hx31, h⟩ := tw_bindE h
      refine tw_iald (cd := tw_c231) (N := 241) rfl rfl rfl rfl hx31 ?_
      refine tw_blk (cd := tw_c231) rfl 2 (c1 := (74, [some (.ref 44), some (.int ((95 : Int32) + ((2 : Int32) * x3))), some (.int x4), some (.int x22)], [.int (x32 + (1 : Int32)), .int 7, .ref 48], (I23, L, tw_P tw dr rt sc, (va_up (va_up A24 48 w28) 48 w30), J, 57))) rfl ?_
      obtain ⟨w34, hx33, h⟩ := tw_bindE h
      refine tw_iast (cd := tw_c231) (N := 241) rfl rfl rfl rfl hx33 ?_
      have h := Option.some.inj h
      subst h
      exact tw_retE (cd := tw_c231) rfl rfl rfl rfl
    · rw [if_neg hc26] at h
      refine tw_br (cd := tw_c231) rfl rfl rfl (by exact if_neg hc26) ?_
      have h := Option.some.inj h
      subst h
      exact tw_retE (cd := tw_c231) rfl rfl rfl rfl
  · rw [if_neg hc1] at h
    refine tw_br (cd := tw_c231) rfl rfl rfl (by exact if_neg hc1) ?_
    have h := Option.some.inj h
    subst h
    exact tw_retE (cd := tw_c231) rfl rfl rfl rfl
theorem e_X10_endedLine (I : Nat → Int32) (L : Nat → Int64) (A : Nat → Nat → Int32) (J : Nat → Nat → Int64) (tw dr : Nat) (rt : Nat) (sc : Nat) : ∀ r : ((Nat → Int32) × (Nat → Nat → Int32)), g_X10_endedLine I A = some r → tw_ME 232 (0, [some (.ref 44), none, none], [], (I, L, tw_P tw dr rt sc, A, J, 57)) (none, ((r.1), L, tw_P tw dr rt sc, (r.2), J, 57)) := by
  intro r h
  unfold g_X10_endedLine at h
  refine tw_blk (cd := tw_c232) rfl 3 (c1 := (3, [some (.ref 44), none, none], [.int 14, .int 12, .ref 44], (I, L, tw_P tw dr rt sc, A, J, 57))) rfl ?_
  obtain ⟨⟨x1, I2⟩, hx3, h⟩ := tw_bindE h
  dsimp only at h
  refine tw_callE (cd := tw_c232) rfl rfl rfl rfl rfl (e_X10_named I L A J tw dr rt sc (12 : Int32) (14 : Int32) _ hx3) (by exact Or.inl rfl) ?_
  refine tw_blk (cd := tw_c232) rfl 3 (c1 := (7, [some (.ref 44), some (.int x1), none], [.int (I2 4413)], (I2, L, tw_P tw dr rt sc, A, J, 57))) rfl ?_
  obtain ⟨I5, hj6, h⟩ := tw_bindE h
  have K : tw_ME 232 (20, [some (.ref 44), some (.int x1), none], [], (I5, L, tw_P tw dr rt sc, A, J, 57)) (none, ((r.1), L, tw_P tw dr rt sc, (r.2), J, 57)) := by
    refine tw_blk (cd := tw_c232) rfl 1 (c1 := (21, [some (.ref 44), some (.int x1), none], [.ref 44], (I5, L, tw_P tw dr rt sc, A, J, 57))) rfl ?_
    obtain ⟨⟨I12, A13⟩, hx14, h⟩ := tw_bindE h
    dsimp only at h
    refine tw_callE (cd := tw_c232) rfl rfl rfl rfl rfl (e_X10_pass I5 L A J tw dr rt sc _ hx14) (by exact Or.inl rfl) ?_
    refine tw_blk (cd := tw_c232) rfl 4 (c1 := (26, [some (.ref 44), some (.int x1), none], [.int 59, .int 0, .ref 1000, .ref 44], (I12, L, tw_P tw dr rt sc, A13, J, 57))) rfl ?_
    obtain ⟨⟨x15, I16, A17⟩, hx18, h⟩ := tw_bindE h
    dsimp only at h
    refine tw_callE (cd := tw_c232) rfl rfl rfl rfl rfl (e_X10_after I12 L A13 J tw dr rt sc 1000 (0 : Int32) (59 : Int32) (by decide) _ hx18) (by exact Or.inl rfl) ?_
    refine tw_blk (cd := tw_c232) rfl 3 (c1 := (30, [some (.ref 44), some (.int x1), some (.int x15)], [.int (I16 4413)], (I16, L, tw_P tw dr rt sc, A17, J, 57))) rfl ?_
    by_cases hc19 : (I16 4413) = 0
    · rw [if_pos hc19] at h
      refine tw_br (cd := tw_c232) rfl rfl rfl (by exact if_pos hc19) ?_
      refine tw_blk (cd := tw_c232) rfl 8 (c1 := (40, [some (.ref 44), some (.int x1), some (.int x15)], [.int (x15 + (1 : Int32)), .int ((103 : Int32) + x1), .ref 48], (I16, L, tw_P tw dr rt sc, A17, J, 57))) rfl ?_
      obtain ⟨w21, hx20, h⟩ := tw_bindE h
      refine tw_iast (cd := tw_c232) (N := 241) rfl rfl rfl rfl hx20 ?_
      refine tw_blk (cd := tw_c232) rfl 4 (c1 := (45, [some (.ref 44), some (.int x1), some (.int x15)], [.int 8, .ref 48, .int 8, .ref 48], (I16, L, tw_P tw dr rt sc, (va_up A17 48 w21), J, 57))) rfl ?_
      obtain ⟨x23, hx22, h⟩ := tw_bindE h
      refine tw_iald (cd := tw_c232) (N := 241) rfl rfl rfl rfl hx22 ?_
      refine tw_blk (cd := tw_c232) rfl 2 (c1 := (48, [some (.ref 44), some (.int x1), some (.int x15)], [.int (x23 + (1 : Int32)), .int 8, .ref 48], (I16, L, tw_P tw dr rt sc, (va_up A17 48 w21), J, 57))) rfl ?_
      obtain ⟨w25, hx24, h⟩ := tw_bindE h
      refine tw_iast (cd := tw_c232) (N := 241) rfl rfl rfl rfl hx24 ?_
      have h := Option.some.inj h
      subst h
      exact tw_retE (cd := tw_c232) rfl rfl rfl rfl
    · rw [if_neg hc19] at h
      refine tw_br (cd := tw_c232) rfl rfl rfl (by exact if_neg hc19) ?_
      have h := Option.some.inj h
      subst h
      exact tw_retE (cd := tw_c232) rfl rfl rfl rfl
  by_cases hc4 : (I2 4413) = 0
  · rw [if_pos hc4] at hj6
    refine tw_br (cd := tw_c232) rfl rfl rfl (by exact if_pos hc4) ?_
    refine tw_blk (cd := tw_c232) rfl 5 (c1 := (13, [some (.ref 44), some (.int x1), none], [.int ((103 : Int32) + x1), .ref 48], (I2, L, tw_P tw dr rt sc, A, J, 57))) rfl ?_
    obtain ⟨x8, hx7, hj6⟩ := tw_bindE hj6
    refine tw_iald (cd := tw_c232) (N := 241) rfl rfl rfl rfl hx7 ?_
    by_cases hc9 : x8 ≤ 0
    · rw [if_pos hc9] at hj6
      refine tw_br (cd := tw_c232) rfl rfl rfl (by exact if_pos hc9) ?_
      have hj6s := Option.some.inj hj6
      subst hj6s
      exact K
    · rw [if_neg hc9] at hj6
      refine tw_br (cd := tw_c232) rfl rfl rfl (by exact if_neg hc9) ?_
      refine tw_blk (cd := tw_c232) rfl 4 (c1 := (19, [some (.ref 44), some (.int x1), none], [.int (I2 4404), .int 3, .ref 44], (I2, L, tw_P tw dr rt sc, A, J, 57))) rfl ?_
      obtain ⟨I10, hx11, hj6⟩ := tw_letE hj6
      refine tw_callE (cd := tw_c232) rfl rfl rfl rfl rfl (e_X10_wrong I2 L A J tw dr rt sc (3 : Int32) (I2 4404) _ hx11) (by exact Or.inl rfl) ?_
      have hj6s := Option.some.inj hj6
      subst hj6s
      exact K
  · rw [if_neg hc4] at hj6
    refine tw_br (cd := tw_c232) rfl rfl rfl (by exact if_neg hc4) ?_
    have hj6s := Option.some.inj hj6
    subst hj6s
    exact K
theorem e_X10_readLine (I : Nat → Int32) (L : Nat → Int64) (A : Nat → Nat → Int32) (J : Nat → Nat → Int64) (tw dr : Nat) (rt : Nat) (sc : Nat) : ∀ r : ((Nat → Int32) × (Nat → Nat → Int32)), g_X10_readLine I A = some r → tw_ME 223 (0, [some (.ref 44)], [], (I, L, tw_P tw dr rt sc, A, J, 57)) (none, ((r.1), L, tw_P tw dr rt sc, (r.2), J, 57)) := by
  intro r h
  unfold g_X10_readLine at h
  refine tw_blk (cd := tw_c223) rfl 2 (c1 := (2, [some (.ref 44)], [.ref 1016, .ref 44], (I, L, tw_P tw dr rt sc, A, J, 57))) rfl ?_
  obtain ⟨c1, hx2, h⟩ := tw_bindE h
  refine tw_callE (cd := tw_c223) rfl rfl rfl rfl rfl (e_X10_isWord I L A J tw dr rt sc 1016 (by decide) _ hx2) (by exact Or.inl rfl) ?_
  by_cases hc3 : c1 = true
  · rw [if_pos hc3] at h
    refine tw_br (cd := tw_c223) rfl rfl rfl (by exact if_neg (tw_b_t hc3)) ?_
    refine tw_blk (cd := tw_c223) rfl 1 (c1 := (5, [some (.ref 44)], [.ref 44], (I, L, tw_P tw dr rt sc, A, J, 57))) rfl ?_
    obtain ⟨⟨I4, A5⟩, hx6, h⟩ := tw_bindE h
    dsimp only at h
    refine tw_callE (cd := tw_c223) rfl rfl rfl rfl rfl (e_X10_townLine I L A J tw dr rt sc _ hx6) (by exact Or.inl rfl) ?_
    refine tw_blk (cd := tw_c223) rfl 1 (c1 := (124, [some (.ref 44)], [], (I4, L, tw_P tw dr rt sc, A5, J, 57))) rfl ?_
    have h := Option.some.inj h
    subst h
    exact tw_retE (cd := tw_c223) rfl rfl rfl rfl
  · rw [if_neg hc3] at h
    refine tw_br (cd := tw_c223) rfl rfl rfl (by exact if_pos (tw_b_f hc3)) ?_
    refine tw_blk (cd := tw_c223) rfl 5 (c1 := (12, [some (.ref 44)], [.int 1, .ref 48, .ref 1012, .ref 44], (I, L, tw_P tw dr rt sc, A, J, 57))) rfl ?_
    obtain ⟨x8, hx7, h⟩ := tw_bindE h
    refine tw_iald (cd := tw_c223) (N := 241) rfl rfl rfl rfl hx7 ?_
    refine tw_blk (cd := tw_c223) rfl 1 (c1 := (14, [some (.ref 44)], [.int 6, .int x8, .ref 1012, .ref 44], (I, L, tw_P tw dr rt sc, A, J, 57))) rfl ?_
    obtain ⟨x10, hj11, h⟩ := tw_bindE h
    have K : tw_ME 223 (18, [some (.ref 44)], [.int x10, .ref 1012, .ref 44], (I, L, tw_P tw dr rt sc, A, J, 57)) (none, ((r.1), L, tw_P tw dr rt sc, (r.2), J, 57)) := by
      obtain ⟨⟨c12, I13, A14⟩, hx15, h⟩ := tw_bindE h
      dsimp only at h
      refine tw_callE (cd := tw_c223) rfl rfl rfl rfl rfl (e_X10_begins I L A J tw dr rt sc 1012 x10 (by decide) _ hx15) (by exact Or.inl rfl) ?_
      by_cases hc16 : c12 = true
      · rw [if_pos hc16] at h
        refine tw_br (cd := tw_c223) rfl rfl rfl (by exact if_neg (tw_b_t hc16)) ?_
        refine tw_blk (cd := tw_c223) rfl 1 (c1 := (21, [some (.ref 44)], [.ref 44], (I13, L, tw_P tw dr rt sc, A14, J, 57))) rfl ?_
        obtain ⟨⟨I17, A18⟩, hx19, h⟩ := tw_bindE h
        dsimp only at h
        refine tw_callE (cd := tw_c223) rfl rfl rfl rfl rfl (e_X10_placeLine I13 L A14 J tw dr rt sc _ hx19) (by exact Or.inl rfl) ?_
        refine tw_blk (cd := tw_c223) rfl 1 (c1 := (124, [some (.ref 44)], [], (I17, L, tw_P tw dr rt sc, A18, J, 57))) rfl ?_
        have h := Option.some.inj h
        subst h
        exact tw_retE (cd := tw_c223) rfl rfl rfl rfl
      · rw [if_neg hc16] at h
        refine tw_br (cd := tw_c223) rfl rfl rfl (by exact if_pos (tw_b_f hc16)) ?_
        refine tw_blk (cd := tw_c223) rfl 5 (c1 := (28, [some (.ref 44)], [.int 2, .ref 48, .ref 1015, .ref 44], (I13, L, tw_P tw dr rt sc, A14, J, 57))) rfl ?_
        obtain ⟨x21, hx20, h⟩ := tw_bindE h
        refine tw_iald (cd := tw_c223) (N := 241) rfl rfl rfl rfl hx20 ?_
        refine tw_blk (cd := tw_c223) rfl 1 (c1 := (30, [some (.ref 44)], [.int 8, .int x21, .ref 1015, .ref 44], (I13, L, tw_P tw dr rt sc, A14, J, 57))) rfl ?_
        obtain ⟨x23, hj24, h⟩ := tw_bindE h
        have K : tw_ME 223 (34, [some (.ref 44)], [.int x23, .ref 1015, .ref 44], (I13, L, tw_P tw dr rt sc, A14, J, 57)) (none, ((r.1), L, tw_P tw dr rt sc, (r.2), J, 57)) := by
          obtain ⟨⟨c25, I26, A27⟩, hx28, h⟩ := tw_bindE h
          dsimp only at h
          refine tw_callE (cd := tw_c223) rfl rfl rfl rfl rfl (e_X10_begins I13 L A14 J tw dr rt sc 1015 x23 (by decide) _ hx28) (by exact Or.inl rfl) ?_
          by_cases hc29 : c25 = true
          · rw [if_pos hc29] at h
            refine tw_br (cd := tw_c223) rfl rfl rfl (by exact if_neg (tw_b_t hc29)) ?_
            refine tw_blk (cd := tw_c223) rfl 1 (c1 := (37, [some (.ref 44)], [.ref 44], (I26, L, tw_P tw dr rt sc, A27, J, 57))) rfl ?_
            obtain ⟨⟨I30, A31⟩, hx32, h⟩ := tw_bindE h
            dsimp only at h
            refine tw_callE (cd := tw_c223) rfl rfl rfl rfl rfl (e_X10_seesLine I26 L A27 J tw dr rt sc _ hx32) (by exact Or.inl rfl) ?_
            refine tw_blk (cd := tw_c223) rfl 1 (c1 := (124, [some (.ref 44)], [], (I30, L, tw_P tw dr rt sc, A31, J, 57))) rfl ?_
            have h := Option.some.inj h
            subst h
            exact tw_retE (cd := tw_c223) rfl rfl rfl rfl
          · rw [if_neg hc29] at h
            refine tw_br (cd := tw_c223) rfl rfl rfl (by exact if_pos (tw_b_f hc29)) ?_
            refine tw_blk (cd := tw_c223) rfl 5 (c1 := (44, [some (.ref 44)], [.int 3, .ref 48, .ref 1011, .ref 44], (I26, L, tw_P tw dr rt sc, A27, J, 57))) rfl ?_
            obtain ⟨x34, hx33, h⟩ := tw_bindE h
            refine tw_iald (cd := tw_c223) (N := 241) rfl rfl rfl rfl hx33 ?_
            refine tw_blk (cd := tw_c223) rfl 1 (c1 := (46, [some (.ref 44)], [.int 6, .int x34, .ref 1011, .ref 44], (I26, L, tw_P tw dr rt sc, A27, J, 57))) rfl ?_
            obtain ⟨x36, hj37, h⟩ := tw_bindE h
            have K : tw_ME 223 (50, [some (.ref 44)], [.int x36, .ref 1011, .ref 44], (I26, L, tw_P tw dr rt sc, A27, J, 57)) (none, ((r.1), L, tw_P tw dr rt sc, (r.2), J, 57)) := by
              obtain ⟨⟨c38, I39, A40⟩, hx41, h⟩ := tw_bindE h
              dsimp only at h
              refine tw_callE (cd := tw_c223) rfl rfl rfl rfl rfl (e_X10_begins I26 L A27 J tw dr rt sc 1011 x36 (by decide) _ hx41) (by exact Or.inl rfl) ?_
              by_cases hc42 : c38 = true
              · rw [if_pos hc42] at h
                refine tw_br (cd := tw_c223) rfl rfl rfl (by exact if_neg (tw_b_t hc42)) ?_
                refine tw_blk (cd := tw_c223) rfl 1 (c1 := (53, [some (.ref 44)], [.ref 44], (I39, L, tw_P tw dr rt sc, A40, J, 57))) rfl ?_
                obtain ⟨⟨I43, A44⟩, hx45, h⟩ := tw_bindE h
                dsimp only at h
                refine tw_callE (cd := tw_c223) rfl rfl rfl rfl rfl (e_X10_personLine I39 L A40 J tw dr rt sc _ hx45) (by exact Or.inl rfl) ?_
                refine tw_blk (cd := tw_c223) rfl 1 (c1 := (124, [some (.ref 44)], [], (I43, L, tw_P tw dr rt sc, A44, J, 57))) rfl ?_
                have h := Option.some.inj h
                subst h
                exact tw_retE (cd := tw_c223) rfl rfl rfl rfl
              · rw [if_neg hc42] at h
                refine tw_br (cd := tw_c223) rfl rfl rfl (by exact if_pos (tw_b_f hc42)) ?_
                refine tw_blk (cd := tw_c223) rfl 5 (c1 := (60, [some (.ref 44)], [.int 4, .ref 48, .ref 1008, .ref 44], (I39, L, tw_P tw dr rt sc, A40, J, 57))) rfl ?_
                obtain ⟨x47, hx46, h⟩ := tw_bindE h
                refine tw_iald (cd := tw_c223) (N := 241) rfl rfl rfl rfl hx46 ?_
                refine tw_blk (cd := tw_c223) rfl 1 (c1 := (62, [some (.ref 44)], [.int 10, .int x47, .ref 1008, .ref 44], (I39, L, tw_P tw dr rt sc, A40, J, 57))) rfl ?_
                obtain ⟨x49, hj50, h⟩ := tw_bindE h
                have K : tw_ME 223 (66, [some (.ref 44)], [.int x49, .ref 1008, .ref 44], (I39, L, tw_P tw dr rt sc, A40, J, 57)) (none, ((r.1), L, tw_P tw dr rt sc, (r.2), J, 57)) := by
                  obtain ⟨⟨c51, I52, A53⟩, hx54, h⟩ := tw_bindE h
                  dsimp only at h
                  refine tw_callE (cd := tw_c223) rfl rfl rfl rfl rfl (e_X10_begins I39 L A40 J tw dr rt sc 1008 x49 (by decide) _ hx54) (by exact Or.inl rfl) ?_
                  by_cases hc55 : c51 = true
                  · rw [if_pos hc55] at h
                    refine tw_br (cd := tw_c223) rfl rfl rfl (by exact if_neg (tw_b_t hc55)) ?_
                    refine tw_blk (cd := tw_c223) rfl 1 (c1 := (69, [some (.ref 44)], [.ref 44], (I52, L, tw_P tw dr rt sc, A53, J, 57))) rfl ?_
                    obtain ⟨⟨I56, A57⟩, hx58, h⟩ := tw_bindE h
                    dsimp only at h
                    refine tw_callE (cd := tw_c223) rfl rfl rfl rfl rfl (e_X10_goesLine I52 L A53 J tw dr rt sc _ hx58) (by exact Or.inl rfl) ?_
                    refine tw_blk (cd := tw_c223) rfl 1 (c1 := (124, [some (.ref 44)], [], (I56, L, tw_P tw dr rt sc, A57, J, 57))) rfl ?_
                    have h := Option.some.inj h
                    subst h
                    exact tw_retE (cd := tw_c223) rfl rfl rfl rfl
                  · rw [if_neg hc55] at h
                    refine tw_br (cd := tw_c223) rfl rfl rfl (by exact if_pos (tw_b_f hc55)) ?_
                    refine tw_blk (cd := tw_c223) rfl 5 (c1 := (76, [some (.ref 44)], [.int 5, .ref 48, .ref 1014, .ref 44], (I52, L, tw_P tw dr rt sc, A53, J, 57))) rfl ?_
                    obtain ⟨x60, hx59, h⟩ := tw_bindE h
                    refine tw_iald (cd := tw_c223) (N := 241) rfl rfl rfl rfl hx59 ?_
                    refine tw_blk (cd := tw_c223) rfl 1 (c1 := (78, [some (.ref 44)], [.int 3, .int x60, .ref 1014, .ref 44], (I52, L, tw_P tw dr rt sc, A53, J, 57))) rfl ?_
                    obtain ⟨x62, hj63, h⟩ := tw_bindE h
                    have K : tw_ME 223 (82, [some (.ref 44)], [.int x62, .ref 1014, .ref 44], (I52, L, tw_P tw dr rt sc, A53, J, 57)) (none, ((r.1), L, tw_P tw dr rt sc, (r.2), J, 57)) := by
                      obtain ⟨⟨c64, I65, A66⟩, hx67, h⟩ := tw_bindE h
                      dsimp only at h
                      refine tw_callE (cd := tw_c223) rfl rfl rfl rfl rfl (e_X10_begins I52 L A53 J tw dr rt sc 1014 x62 (by decide) _ hx67) (by exact Or.inl rfl) ?_
                      by_cases hc68 : c64 = true
                      · rw [if_pos hc68] at h
                        refine tw_br (cd := tw_c223) rfl rfl rfl (by exact if_neg (tw_b_t hc68)) ?_
                        refine tw_blk (cd := tw_c223) rfl 1 (c1 := (85, [some (.ref 44)], [.ref 44], (I65, L, tw_P tw dr rt sc, A66, J, 57))) rfl ?_
                        obtain ⟨⟨I69, A70⟩, hx71, h⟩ := tw_bindE h
                        dsimp only at h
                        refine tw_callE (cd := tw_c223) rfl rfl rfl rfl rfl (e_X10_quarrelLine I65 L A66 J tw dr rt sc _ hx71) (by exact Or.inl rfl) ?_
                        refine tw_blk (cd := tw_c223) rfl 1 (c1 := (124, [some (.ref 44)], [], (I69, L, tw_P tw dr rt sc, A70, J, 57))) rfl ?_
                        have h := Option.some.inj h
                        subst h
                        exact tw_retE (cd := tw_c223) rfl rfl rfl rfl
                      · rw [if_neg hc68] at h
                        refine tw_br (cd := tw_c223) rfl rfl rfl (by exact if_pos (tw_b_f hc68)) ?_
                        refine tw_blk (cd := tw_c223) rfl 3 (c1 := (90, [some (.ref 44)], [.int 1, .ref 1009, .ref 44], (I65, L, tw_P tw dr rt sc, A66, J, 57))) rfl ?_
                        obtain ⟨⟨c72, I73, A74⟩, hx75, h⟩ := tw_bindE h
                        dsimp only at h
                        refine tw_callE (cd := tw_c223) rfl rfl rfl rfl rfl (e_X10_begins I65 L A66 J tw dr rt sc 1009 (1 : Int32) (by decide) _ hx75) (by exact Or.inl rfl) ?_
                        by_cases hc76 : c72 = true
                        · rw [if_pos hc76] at h
                          refine tw_br (cd := tw_c223) rfl rfl rfl (by exact if_neg (tw_b_t hc76)) ?_
                          refine tw_blk (cd := tw_c223) rfl 1 (c1 := (93, [some (.ref 44)], [.ref 44], (I73, L, tw_P tw dr rt sc, A74, J, 57))) rfl ?_
                          obtain ⟨⟨I77, A78⟩, hx79, h⟩ := tw_bindE h
                          dsimp only at h
                          refine tw_callE (cd := tw_c223) rfl rfl rfl rfl rfl (e_X10_hireLine I73 L A74 J tw dr rt sc _ hx79) (by exact Or.inl rfl) ?_
                          refine tw_blk (cd := tw_c223) rfl 1 (c1 := (124, [some (.ref 44)], [], (I77, L, tw_P tw dr rt sc, A78, J, 57))) rfl ?_
                          have h := Option.some.inj h
                          subst h
                          exact tw_retE (cd := tw_c223) rfl rfl rfl rfl
                        · rw [if_neg hc76] at h
                          refine tw_br (cd := tw_c223) rfl rfl rfl (by exact if_pos (tw_b_f hc76)) ?_
                          refine tw_blk (cd := tw_c223) rfl 5 (c1 := (100, [some (.ref 44)], [.int 7, .ref 48, .ref 1017, .ref 44], (I73, L, tw_P tw dr rt sc, A74, J, 57))) rfl ?_
                          obtain ⟨x81, hx80, h⟩ := tw_bindE h
                          refine tw_iald (cd := tw_c223) (N := 241) rfl rfl rfl rfl hx80 ?_
                          refine tw_blk (cd := tw_c223) rfl 1 (c1 := (102, [some (.ref 44)], [.int 4, .int x81, .ref 1017, .ref 44], (I73, L, tw_P tw dr rt sc, A74, J, 57))) rfl ?_
                          obtain ⟨x83, hj84, h⟩ := tw_bindE h
                          have K : tw_ME 223 (106, [some (.ref 44)], [.int x83, .ref 1017, .ref 44], (I73, L, tw_P tw dr rt sc, A74, J, 57)) (none, ((r.1), L, tw_P tw dr rt sc, (r.2), J, 57)) := by
                            obtain ⟨⟨c85, I86, A87⟩, hx88, h⟩ := tw_bindE h
                            dsimp only at h
                            refine tw_callE (cd := tw_c223) rfl rfl rfl rfl rfl (e_X10_begins I73 L A74 J tw dr rt sc 1017 x83 (by decide) _ hx88) (by exact Or.inl rfl) ?_
                            by_cases hc89 : c85 = true
                            · rw [if_pos hc89] at h
                              refine tw_br (cd := tw_c223) rfl rfl rfl (by exact if_neg (tw_b_t hc89)) ?_
                              refine tw_blk (cd := tw_c223) rfl 1 (c1 := (109, [some (.ref 44)], [.ref 44], (I86, L, tw_P tw dr rt sc, A87, J, 57))) rfl ?_
                              obtain ⟨⟨I90, A91⟩, hx92, h⟩ := tw_bindE h
                              dsimp only at h
                              refine tw_callE (cd := tw_c223) rfl rfl rfl rfl rfl (e_X10_unsureLine I86 L A87 J tw dr rt sc _ hx92) (by exact Or.inl rfl) ?_
                              refine tw_blk (cd := tw_c223) rfl 1 (c1 := (124, [some (.ref 44)], [], (I90, L, tw_P tw dr rt sc, A91, J, 57))) rfl ?_
                              have h := Option.some.inj h
                              subst h
                              exact tw_retE (cd := tw_c223) rfl rfl rfl rfl
                            · rw [if_neg hc89] at h
                              refine tw_br (cd := tw_c223) rfl rfl rfl (by exact if_pos (tw_b_f hc89)) ?_
                              refine tw_blk (cd := tw_c223) rfl 3 (c1 := (114, [some (.ref 44)], [.int 1, .ref 1005, .ref 44], (I86, L, tw_P tw dr rt sc, A87, J, 57))) rfl ?_
                              obtain ⟨⟨c93, I94, A95⟩, hx96, h⟩ := tw_bindE h
                              dsimp only at h
                              refine tw_callE (cd := tw_c223) rfl rfl rfl rfl rfl (e_X10_begins I86 L A87 J tw dr rt sc 1005 (1 : Int32) (by decide) _ hx96) (by exact Or.inl rfl) ?_
                              by_cases hc97 : c93 = true
                              · rw [if_pos hc97] at h
                                refine tw_br (cd := tw_c223) rfl rfl rfl (by exact if_neg (tw_b_t hc97)) ?_
                                refine tw_blk (cd := tw_c223) rfl 1 (c1 := (117, [some (.ref 44)], [.ref 44], (I94, L, tw_P tw dr rt sc, A95, J, 57))) rfl ?_
                                obtain ⟨⟨I98, A99⟩, hx100, h⟩ := tw_bindE h
                                dsimp only at h
                                refine tw_callE (cd := tw_c223) rfl rfl rfl rfl rfl (e_X10_endedLine I94 L A95 J tw dr rt sc _ hx100) (by exact Or.inl rfl) ?_
                                refine tw_blk (cd := tw_c223) rfl 1 (c1 := (124, [some (.ref 44)], [], (I98, L, tw_P tw dr rt sc, A99, J, 57))) rfl ?_
                                have h := Option.some.inj h
                                subst h
                                exact tw_retE (cd := tw_c223) rfl rfl rfl rfl
                              · rw [if_neg hc97] at h
                                refine tw_br (cd := tw_c223) rfl rfl rfl (by exact if_pos (tw_b_f hc97)) ?_
                                refine tw_blk (cd := tw_c223) rfl 4 (c1 := (123, [some (.ref 44)], [.int (I94 4404), .int 1, .ref 44], (I94, L, tw_P tw dr rt sc, A95, J, 57))) rfl ?_
                                obtain ⟨I101, hx102, h⟩ := tw_letE h
                                refine tw_callE (cd := tw_c223) rfl rfl rfl rfl rfl (e_X10_wrong I94 L A95 J tw dr rt sc (1 : Int32) (I94 4404) _ hx102) (by exact Or.inl rfl) ?_
                                have h := Option.some.inj h
                                subst h
                                exact tw_retE (cd := tw_c223) rfl rfl rfl rfl
                          by_cases hc82 : (4 : Int32) ≤ x81
                          · rw [if_pos hc82] at hj84
                            refine tw_br (cd := tw_c223) rfl rfl rfl (by exact if_pos hc82) ?_
                            refine tw_blk (cd := tw_c223) rfl 1 (c1 := (106, [some (.ref 44)], [.int 0, .ref 1017, .ref 44], (I73, L, tw_P tw dr rt sc, A74, J, 57))) rfl ?_
                            have hj84s := Option.some.inj hj84
                            subst hj84s
                            exact K
                          · rw [if_neg hc82] at hj84
                            refine tw_br (cd := tw_c223) rfl rfl rfl (by exact if_neg hc82) ?_
                            refine tw_blk (cd := tw_c223) rfl 2 (c1 := (106, [some (.ref 44)], [.int 1, .ref 1017, .ref 44], (I73, L, tw_P tw dr rt sc, A74, J, 57))) rfl ?_
                            have hj84s := Option.some.inj hj84
                            subst hj84s
                            exact K
                    by_cases hc61 : (3 : Int32) ≤ x60
                    · rw [if_pos hc61] at hj63
                      refine tw_br (cd := tw_c223) rfl rfl rfl (by exact if_pos hc61) ?_
                      refine tw_blk (cd := tw_c223) rfl 1 (c1 := (82, [some (.ref 44)], [.int 0, .ref 1014, .ref 44], (I52, L, tw_P tw dr rt sc, A53, J, 57))) rfl ?_
                      have hj63s := Option.some.inj hj63
                      subst hj63s
                      exact K
                    · rw [if_neg hc61] at hj63
                      refine tw_br (cd := tw_c223) rfl rfl rfl (by exact if_neg hc61) ?_
                      refine tw_blk (cd := tw_c223) rfl 2 (c1 := (82, [some (.ref 44)], [.int 1, .ref 1014, .ref 44], (I52, L, tw_P tw dr rt sc, A53, J, 57))) rfl ?_
                      have hj63s := Option.some.inj hj63
                      subst hj63s
                      exact K
                by_cases hc48 : (10 : Int32) ≤ x47
                · rw [if_pos hc48] at hj50
                  refine tw_br (cd := tw_c223) rfl rfl rfl (by exact if_pos hc48) ?_
                  refine tw_blk (cd := tw_c223) rfl 1 (c1 := (66, [some (.ref 44)], [.int 0, .ref 1008, .ref 44], (I39, L, tw_P tw dr rt sc, A40, J, 57))) rfl ?_
                  have hj50s := Option.some.inj hj50
                  subst hj50s
                  exact K
                · rw [if_neg hc48] at hj50
                  refine tw_br (cd := tw_c223) rfl rfl rfl (by exact if_neg hc48) ?_
                  refine tw_blk (cd := tw_c223) rfl 2 (c1 := (66, [some (.ref 44)], [.int 1, .ref 1008, .ref 44], (I39, L, tw_P tw dr rt sc, A40, J, 57))) rfl ?_
                  have hj50s := Option.some.inj hj50
                  subst hj50s
                  exact K
            by_cases hc35 : (6 : Int32) ≤ x34
            · rw [if_pos hc35] at hj37
              refine tw_br (cd := tw_c223) rfl rfl rfl (by exact if_pos hc35) ?_
              refine tw_blk (cd := tw_c223) rfl 1 (c1 := (50, [some (.ref 44)], [.int 0, .ref 1011, .ref 44], (I26, L, tw_P tw dr rt sc, A27, J, 57))) rfl ?_
              have hj37s := Option.some.inj hj37
              subst hj37s
              exact K
            · rw [if_neg hc35] at hj37
              refine tw_br (cd := tw_c223) rfl rfl rfl (by exact if_neg hc35) ?_
              refine tw_blk (cd := tw_c223) rfl 2 (c1 := (50, [some (.ref 44)], [.int 1, .ref 1011, .ref 44], (I26, L, tw_P tw dr rt sc, A27, J, 57))) rfl ?_
              have hj37s := Option.some.inj hj37
              subst hj37s
              exact K
        by_cases hc22 : (8 : Int32) ≤ x21
        · rw [if_pos hc22] at hj24
          refine tw_br (cd := tw_c223) rfl rfl rfl (by exact if_pos hc22) ?_
          refine tw_blk (cd := tw_c223) rfl 1 (c1 := (34, [some (.ref 44)], [.int 0, .ref 1015, .ref 44], (I13, L, tw_P tw dr rt sc, A14, J, 57))) rfl ?_
          have hj24s := Option.some.inj hj24
          subst hj24s
          exact K
        · rw [if_neg hc22] at hj24
          refine tw_br (cd := tw_c223) rfl rfl rfl (by exact if_neg hc22) ?_
          refine tw_blk (cd := tw_c223) rfl 2 (c1 := (34, [some (.ref 44)], [.int 1, .ref 1015, .ref 44], (I13, L, tw_P tw dr rt sc, A14, J, 57))) rfl ?_
          have hj24s := Option.some.inj hj24
          subst hj24s
          exact K
    by_cases hc9 : (6 : Int32) ≤ x8
    · rw [if_pos hc9] at hj11
      refine tw_br (cd := tw_c223) rfl rfl rfl (by exact if_pos hc9) ?_
      refine tw_blk (cd := tw_c223) rfl 1 (c1 := (18, [some (.ref 44)], [.int 0, .ref 1012, .ref 44], (I, L, tw_P tw dr rt sc, A, J, 57))) rfl ?_
      have hj11s := Option.some.inj hj11
      subst hj11s
      exact K
    · rw [if_neg hc9] at hj11
      refine tw_br (cd := tw_c223) rfl rfl rfl (by exact if_neg hc9) ?_
      refine tw_blk (cd := tw_c223) rfl 2 (c1 := (18, [some (.ref 44)], [.int 1, .ref 1012, .ref 44], (I, L, tw_P tw dr rt sc, A, J, 57))) rfl ?_
      have hj11s := Option.some.inj hj11
      subst hj11s
      exact K
