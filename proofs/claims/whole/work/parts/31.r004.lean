/-! the machine does what the functions say -/
set_option maxRecDepth 16000
theorem e_X10_pass (I : Nat → Int32) (L : Nat → Int64) (A : Nat → Nat → Int32) (J : Nat → Nat → Int64) (tw dr : Nat) (rt : Nat) (sc : Nat) : ∀ r : ((Nat → Int32) × (Nat → Nat → Int32)), g_X10_pass I A = some r → tw_ME 216 (0, [some (.ref 44)], [], (I, L, tw_P tw dr rt sc, A, J, 57)) (none, ((r.1), L, tw_P tw dr rt sc, (r.2), J, 57)) := by
  intro r h
  unfold g_X10_pass at h
  refine tw_blk (cd := tw_c216) rfl 2 (c1 := (2, [some (.ref 44)], [.int (I 4413)], (I, L, tw_P tw dr rt sc, A, J, 57))) rfl ?_
  by_cases hc1 : (I 4413) = 0
  · rw [if_pos hc1] at h
    refine tw_br (cd := tw_c216) rfl rfl rfl (by exact if_pos hc1) ?_
    refine tw_blk (cd := tw_c216) rfl 1 (c1 := (4, [some (.ref 44)], [.ref 44], (I, L, tw_P tw dr rt sc, A, J, 57))) rfl ?_
    obtain ⟨⟨I2, A3⟩, hx4, h⟩ := tw_bindE h
    dsimp only at h
    refine tw_callE (cd := tw_c216) rfl rfl rfl rfl rfl (e_X10_next I L A J tw dr rt sc _ hx4) (by exact Or.inl rfl) ?_
    have h := Option.some.inj h
    subst h
    exact tw_retE (cd := tw_c216) rfl rfl rfl rfl
  · rw [if_neg hc1] at h
    refine tw_br (cd := tw_c216) rfl rfl rfl (by exact if_neg hc1) ?_
    have h := Option.some.inj h
    subst h
    exact tw_retE (cd := tw_c216) rfl rfl rfl rfl
theorem e_X10_number (I : Nat → Int32) (L : Nat → Int64) (A : Nat → Nat → Int32) (J : Nat → Nat → Int64) (tw dr : Nat) (rt : Nat) (sc : Nat) (a1 : Int32) (a2 : Int32) : ∀ r : (Int32 × (Nat → Int32) × (Nat → Nat → Int32)), g_X10_number I A a1 a2 = some r → tw_ME 219 (0, [some (.ref 44), some (.int a1), some (.int a2), none], [], (I, L, tw_P tw dr rt sc, A, J, 57)) (some (.int r.1), ((r.2.1), L, tw_P tw dr rt sc, (r.2.2), J, 57)) := by
  intro r h
  unfold g_X10_number at h
  refine tw_blk (cd := tw_c219) rfl 3 (c1 := (3, [some (.ref 44), some (.int a1), some (.int a2), none], [.int a2, .int a1, .ref 44], (I, L, tw_P tw dr rt sc, A, J, 57))) rfl ?_
  obtain ⟨⟨x1, I2⟩, hx3, h⟩ := tw_letE h
  dsimp only at h
  refine tw_callE (cd := tw_c219) rfl rfl rfl rfl rfl (e_X10_numberHere I L A J tw dr rt sc a1 a2 _ hx3) (by exact Or.inl rfl) ?_
  refine tw_blk (cd := tw_c219) rfl 2 (c1 := (6, [some (.ref 44), some (.int a1), some (.int a2), some (.int x1)], [.ref 44], (I2, L, tw_P tw dr rt sc, A, J, 57))) rfl ?_
  obtain ⟨⟨I4, A5⟩, hx6, h⟩ := tw_bindE h
  dsimp only at h
  refine tw_callE (cd := tw_c219) rfl rfl rfl rfl rfl (e_X10_pass I2 L A J tw dr rt sc _ hx6) (by exact Or.inl rfl) ?_
  refine tw_blk (cd := tw_c219) rfl 1 (c1 := (8, [some (.ref 44), some (.int a1), some (.int a2), some (.int x1)], [.int x1], (I4, L, tw_P tw dr rt sc, A5, J, 57))) rfl ?_
  have h := Option.some.inj h
  subst h
  exact tw_retE (cd := tw_c219) rfl rfl rfl rfl
theorem e_X10_after (I : Nat → Int32) (L : Nat → Int64) (A : Nat → Nat → Int32) (J : Nat → Nat → Int64) (tw dr : Nat) (rt : Nat) (sc : Nat) (q1 : Nat) (a2 : Int32) (a3 : Int32) (hq1 : 1000 ≤ q1 ∧ q1 < 1019) : ∀ r : (Int32 × (Nat → Int32) × (Nat → Nat → Int32)), g_X10_after I A q1 a2 a3 = some r → tw_ME 220 (0, [some (.ref 44), some (.ref q1), some (.int a2), some (.int a3)], [], (I, L, tw_P tw dr rt sc, A, J, 57)) (some (.int r.1), ((r.2.1), L, tw_P tw dr rt sc, (r.2.2), J, 57)) := by
  intro r h
  unfold g_X10_after at h
  refine tw_blk (cd := tw_c220) rfl 2 (c1 := (2, [some (.ref 44), some (.ref q1), some (.int a2), some (.int a3)], [.ref q1, .ref 44], (I, L, tw_P tw dr rt sc, A, J, 57))) rfl ?_
  obtain ⟨⟨I1, A2⟩, hx3, h⟩ := tw_bindE h
  dsimp only at h
  refine tw_callE (cd := tw_c220) rfl rfl rfl rfl rfl (e_X10_must I L A J tw dr rt sc q1 hq1 _ hx3) (by exact Or.inl rfl) ?_
  refine tw_blk (cd := tw_c220) rfl 3 (c1 := (6, [some (.ref 44), some (.ref q1), some (.int a2), some (.int a3)], [.int a3, .int a2, .ref 44], (I1, L, tw_P tw dr rt sc, A2, J, 57))) rfl ?_
  obtain ⟨⟨x4, I5, A6⟩, hx7, h⟩ := tw_bindE h
  dsimp only at h
  refine tw_callE (cd := tw_c220) rfl rfl rfl rfl rfl (e_X10_number I1 L A2 J tw dr rt sc a2 a3 _ hx7) (by exact Or.inl rfl) ?_
  have h := Option.some.inj h
  subst h
  exact tw_retE (cd := tw_c220) rfl rfl rfl rfl
theorem e_X10_townLine (I : Nat → Int32) (L : Nat → Int64) (A : Nat → Nat → Int32) (J : Nat → Nat → Int64) (tw dr : Nat) (rt : Nat) (sc : Nat) : ∀ r : ((Nat → Int32) × (Nat → Nat → Int32)), g_X10_townLine I A = some r → tw_ME 224 (0, [some (.ref 44)], [], (I, L, tw_P tw dr rt sc, A, J, 57)) (none, ((r.1), L, tw_P tw dr rt sc, (r.2), J, 57)) := by
  intro r h
  unfold g_X10_townLine at h
  refine tw_blk (cd := tw_c224) rfl 3 (c1 := (3, [some (.ref 44)], [.int 9, .ref 48], (I, L, tw_P tw dr rt sc, A, J, 57))) rfl ?_
  obtain ⟨x2, hx1, h⟩ := tw_bindE h
  refine tw_iald (cd := tw_c224) (N := 241) rfl rfl rfl rfl hx1 ?_
  obtain ⟨I4, hj5, h⟩ := tw_bindE h
  have K : tw_ME 224 (10, [some (.ref 44)], [], (I4, L, tw_P tw dr rt sc, A, J, 57)) (none, ((r.1), L, tw_P tw dr rt sc, (r.2), J, 57)) := by
    refine tw_blk (cd := tw_c224) rfl 2 (c1 := (12, [some (.ref 44)], [.int (I4 4413)], (I4, L, tw_P tw dr rt sc, A, J, 57))) rfl ?_
    by_cases hc8 : (I4 4413) = 0
    · rw [if_pos hc8] at h
      refine tw_br (cd := tw_c224) rfl rfl rfl (by exact if_pos hc8) ?_
      refine tw_blk (cd := tw_c224) rfl 1 (c1 := (15, [some (.ref 44)], [.ref 44], (I4, L, tw_P tw dr rt sc, A, J, 57))) rfl ?_
      obtain ⟨⟨I9, A10⟩, hx11, h⟩ := tw_bindE h
      dsimp only at h
      refine tw_callE (cd := tw_c224) rfl rfl rfl rfl rfl (e_X10_next I4 L A J tw dr rt sc _ hx11) (by exact Or.inl rfl) ?_
      refine tw_blk (cd := tw_c224) rfl 7 (c1 := (23, [some (.ref 44)], [.int 100, .int 0, .ref 1003, .ref 44, .int 0, .ref 48], (I9, L, tw_P tw dr rt sc, A10, J, 57))) rfl ?_
      obtain ⟨⟨x12, I13, A14⟩, hx15, h⟩ := tw_bindE h
      dsimp only at h
      refine tw_callE (cd := tw_c224) rfl rfl rfl rfl rfl (e_X10_after I9 L A10 J tw dr rt sc 1003 (0 : Int32) (100 : Int32) (by decide) _ hx15) (by exact Or.inl rfl) ?_
      obtain ⟨w17, hx16, h⟩ := tw_bindE h
      refine tw_iast (cd := tw_c224) (N := 241) rfl rfl rfl rfl hx16 ?_
      refine tw_blk (cd := tw_c224) rfl 2 (c1 := (27, [some (.ref 44)], [.int (I13 4413)], (I13, L, tw_P tw dr rt sc, (va_up A14 48 w17), J, 57))) rfl ?_
      by_cases hc18 : (I13 4413) = 0
      · rw [if_pos hc18] at h
        refine tw_br (cd := tw_c224) rfl rfl rfl (by exact if_pos hc18) ?_
        refine tw_blk (cd := tw_c224) rfl 4 (c1 := (32, [some (.ref 44)], [.int 1, .int 9, .ref 48], (I13, L, tw_P tw dr rt sc, (va_up A14 48 w17), J, 57))) rfl ?_
        obtain ⟨w20, hx19, h⟩ := tw_bindE h
        refine tw_iast (cd := tw_c224) (N := 241) rfl rfl rfl rfl hx19 ?_
        have h := Option.some.inj h
        subst h
        exact tw_retE (cd := tw_c224) rfl rfl rfl rfl
      · rw [if_neg hc18] at h
        refine tw_br (cd := tw_c224) rfl rfl rfl (by exact if_neg hc18) ?_
        have h := Option.some.inj h
        subst h
        exact tw_retE (cd := tw_c224) rfl rfl rfl rfl
    · rw [if_neg hc8] at h
      refine tw_br (cd := tw_c224) rfl rfl rfl (by exact if_neg hc8) ?_
      have h := Option.some.inj h
      subst h
      exact tw_retE (cd := tw_c224) rfl rfl rfl rfl
  by_cases hc3 : x2 ≤ 0
  · rw [if_pos hc3] at hj5
    refine tw_br (cd := tw_c224) rfl rfl rfl (by exact if_pos hc3) ?_
    have hj5s := Option.some.inj hj5
    subst hj5s
    exact K
  · rw [if_neg hc3] at hj5
    refine tw_br (cd := tw_c224) rfl rfl rfl (by exact if_neg hc3) ?_
    refine tw_blk (cd := tw_c224) rfl 4 (c1 := (9, [some (.ref 44)], [.int (I 4404), .int 3, .ref 44], (I, L, tw_P tw dr rt sc, A, J, 57))) rfl ?_
    obtain ⟨I6, hx7, hj5⟩ := tw_letE hj5
    refine tw_callE (cd := tw_c224) rfl rfl rfl rfl rfl (e_X10_wrong I L A J tw dr rt sc (3 : Int32) (I 4404) _ hx7) (by exact Or.inl rfl) ?_
    have hj5s := Option.some.inj hj5
    subst hj5s
    exact K
theorem e_X10_begins (I : Nat → Int32) (L : Nat → Int64) (A : Nat → Nat → Int32) (J : Nat → Nat → Int64) (tw dr : Nat) (rt : Nat) (sc : Nat) (q1 : Nat) (a2 : Int32) (hq1 : 1000 ≤ q1 ∧ q1 < 1019) : ∀ r : (Bool × (Nat → Int32) × (Nat → Nat → Int32)), g_X10_begins I A q1 a2 = some r → tw_ME 222 (0, [some (.ref 44), some (.ref q1), some (.int a2)], [], (I, L, tw_P tw dr rt sc, A, J, 57)) (some (.int (tw_b r.1)), ((r.2.1), L, tw_P tw dr rt sc, (r.2.2), J, 57)) := by
  intro r h
  unfold g_X10_begins at h
  refine tw_blk (cd := tw_c222) rfl 2 (c1 := (2, [some (.ref 44), some (.ref q1), some (.int a2)], [.ref q1, .ref 44], (I, L, tw_P tw dr rt sc, A, J, 57))) rfl ?_
  obtain ⟨c1, hx2, h⟩ := tw_bindE h
  refine tw_callE (cd := tw_c222) rfl rfl rfl rfl rfl (e_X10_isWord I L A J tw dr rt sc q1 hq1 _ hx2) (by exact Or.inl rfl) ?_
  by_cases hc3 : c1 = true
  · rw [if_pos hc3] at h
    refine tw_br (cd := tw_c222) rfl rfl rfl (by exact if_neg (tw_b_t hc3)) ?_
    refine tw_blk (cd := tw_c222) rfl 1 (c1 := (7, [some (.ref 44), some (.ref q1), some (.int a2)], [.int a2], (I, L, tw_P tw dr rt sc, A, J, 57))) rfl ?_
    obtain ⟨I5, hj6, h⟩ := tw_bindE h
    have K : tw_ME 222 (13, [some (.ref 44), none, none], [], (I5, L, tw_P tw dr rt sc, A, J, 57)) (some (.int (tw_b r.1)), ((r.2.1), L, tw_P tw dr rt sc, (r.2.2), J, 57)) := by
      refine tw_blk (cd := tw_c222) rfl 3 (c1 := (16, [some (.ref 44), none, none], [.int 9, .ref 48], (I5, L, tw_P tw dr rt sc, A, J, 57))) rfl ?_
      obtain ⟨x10, hx9, h⟩ := tw_bindE h
      refine tw_iald (cd := tw_c222) (N := 241) rfl rfl rfl rfl hx9 ?_
      obtain ⟨I12, hj13, h⟩ := tw_bindE h
      have K : tw_ME 222 (23, [some (.ref 44), none, none], [], (I12, L, tw_P tw dr rt sc, A, J, 57)) (some (.int (tw_b r.1)), ((r.2.1), L, tw_P tw dr rt sc, (r.2.2), J, 57)) := by
        refine tw_blk (cd := tw_c222) rfl 1 (c1 := (24, [some (.ref 44), none, none], [.ref 44], (I12, L, tw_P tw dr rt sc, A, J, 57))) rfl ?_
        obtain ⟨⟨I16, A17⟩, hx18, h⟩ := tw_bindE h
        dsimp only at h
        refine tw_callE (cd := tw_c222) rfl rfl rfl rfl rfl (e_X10_pass I12 L A J tw dr rt sc _ hx18) (by exact Or.inl rfl) ?_
        refine tw_blk (cd := tw_c222) rfl 1 (c1 := (26, [some (.ref 44), none, none], [.int 1], (I16, L, tw_P tw dr rt sc, A17, J, 57))) rfl ?_
        have h := Option.some.inj h
        subst h
        exact tw_retZ (cd := tw_c222) (b := true) rfl rfl rfl rfl
      by_cases hc11 : x10 = 0
      · rw [if_pos hc11] at hj13
        refine tw_br (cd := tw_c222) rfl rfl rfl (by exact if_pos hc11) ?_
        refine tw_blk (cd := tw_c222) rfl 4 (c1 := (22, [some (.ref 44), none, none], [.int (I5 4404), .int 6, .ref 44], (I5, L, tw_P tw dr rt sc, A, J, 57))) rfl ?_
        obtain ⟨I14, hx15, hj13⟩ := tw_letE hj13
        refine tw_callE (cd := tw_c222) rfl rfl rfl rfl rfl (e_X10_wrong I5 L A J tw dr rt sc (6 : Int32) (I5 4404) _ hx15) (by exact Or.inl rfl) ?_
        have hj13s := Option.some.inj hj13
        subst hj13s
        exact K
      · rw [if_neg hc11] at hj13
        refine tw_br (cd := tw_c222) rfl rfl rfl (by exact if_neg hc11) ?_
        have hj13s := Option.some.inj hj13
        subst hj13s
        exact K
    by_cases hc4 : a2 = 0
    · rw [if_pos hc4] at hj6
      refine tw_br (cd := tw_c222) rfl rfl rfl (by exact if_pos hc4) ?_
      refine tw_blk (cd := tw_c222) rfl 4 (c1 := (12, [some (.ref 44), some (.ref q1), some (.int a2)], [.int (I 4404), .int 5, .ref 44], (I, L, tw_P tw dr rt sc, A, J, 57))) rfl ?_
      obtain ⟨I7, hx8, hj6⟩ := tw_letE hj6
      refine tw_callE (cd := tw_c222) rfl rfl rfl rfl rfl (e_X10_wrong I L A J tw dr rt sc (5 : Int32) (I 4404) _ hx8) (by exact Or.inl rfl) ?_
      refine tw_forget (ls2 := [some (.ref 44), none, none]) ⟨rfl, trivial⟩ ?_
      have hj6s := Option.some.inj hj6
      subst hj6s
      exact K
    · rw [if_neg hc4] at hj6
      refine tw_br (cd := tw_c222) rfl rfl rfl (by exact if_neg hc4) ?_
      refine tw_forget (ls2 := [some (.ref 44), none, none]) ⟨rfl, trivial⟩ ?_
      have hj6s := Option.some.inj hj6
      subst hj6s
      exact K
  · rw [if_neg hc3] at h
    refine tw_br (cd := tw_c222) rfl rfl rfl (by exact if_pos (tw_b_f hc3)) ?_
    refine tw_blk (cd := tw_c222) rfl 1 (c1 := (5, [some (.ref 44), some (.ref q1), some (.int a2)], [.int 0], (I, L, tw_P tw dr rt sc, A, J, 57))) rfl ?_
    have h := Option.some.inj h
    subst h
    exact tw_retZ (cd := tw_c222) (b := false) rfl rfl rfl rfl
theorem e_X10_mustName (I : Nat → Int32) (L : Nat → Int64) (A : Nat → Nat → Int32) (J : Nat → Nat → Int64) (tw dr : Nat) (rt : Nat) (sc : Nat) : ∀ r : Nat → Int32, g_X10_mustName I A = some r → tw_ME 210 (0, [some (.ref 44)], [], (I, L, tw_P tw dr rt sc, A, J, 57)) (none, (r, L, tw_P tw dr rt sc, A, J, 57)) := by
  intro r h
  unfold g_X10_mustName at h
  refine tw_blk (cd := tw_c210) rfl 3 (c1 := (3, [some (.ref 44)], [.int 2, .int (I 4406)], (I, L, tw_P tw dr rt sc, A, J, 57))) rfl ?_
  by_cases hc1 : (I 4406) = (2 : Int32)
  · rw [if_pos hc1] at h
    refine tw_br (cd := tw_c210) rfl rfl rfl (by exact if_pos hc1) ?_
    refine tw_blk (cd := tw_c210) rfl 2 (c1 := (6, [some (.ref 44)], [.ref 1016, .ref 44], (I, L, tw_P tw dr rt sc, A, J, 57))) rfl ?_
    obtain ⟨c2, hx3, h⟩ := tw_bindE h
    refine tw_callE (cd := tw_c210) rfl rfl rfl rfl rfl (e_X10_isWord I L A J tw dr rt sc 1016 (by decide) _ hx3) (by exact Or.inl rfl) ?_
    by_cases hc4 : c2 = true
    · rw [if_pos hc4] at h
      refine tw_br (cd := tw_c210) rfl rfl rfl (by exact if_neg (tw_b_t hc4)) ?_
      refine tw_blk (cd := tw_c210) rfl 4 (c1 := (44, [some (.ref 44)], [.int (I 4404), .int 1, .ref 44], (I, L, tw_P tw dr rt sc, A, J, 57))) rfl ?_
      obtain ⟨I5, hx6, h⟩ := tw_letE h
      refine tw_callE (cd := tw_c210) rfl rfl rfl rfl rfl (e_X10_wrong I L A J tw dr rt sc (1 : Int32) (I 4404) _ hx6) (by exact Or.inl rfl) ?_
      have h := Option.some.inj h
      subst h
      exact tw_retE (cd := tw_c210) rfl rfl rfl rfl
    · rw [if_neg hc4] at h
      refine tw_br (cd := tw_c210) rfl rfl rfl (by exact if_pos (tw_b_f hc4)) ?_
      refine tw_blk (cd := tw_c210) rfl 2 (c1 := (10, [some (.ref 44)], [.ref 1012, .ref 44], (I, L, tw_P tw dr rt sc, A, J, 57))) rfl ?_
      obtain ⟨c7, hx8, h⟩ := tw_bindE h
      refine tw_callE (cd := tw_c210) rfl rfl rfl rfl rfl (e_X10_isWord I L A J tw dr rt sc 1012 (by decide) _ hx8) (by exact Or.inl rfl) ?_
      by_cases hc9 : c7 = true
      · rw [if_pos hc9] at h
        refine tw_br (cd := tw_c210) rfl rfl rfl (by exact if_neg (tw_b_t hc9)) ?_
        refine tw_blk (cd := tw_c210) rfl 4 (c1 := (44, [some (.ref 44)], [.int (I 4404), .int 1, .ref 44], (I, L, tw_P tw dr rt sc, A, J, 57))) rfl ?_
        obtain ⟨I10, hx11, h⟩ := tw_letE h
        refine tw_callE (cd := tw_c210) rfl rfl rfl rfl rfl (e_X10_wrong I L A J tw dr rt sc (1 : Int32) (I 4404) _ hx11) (by exact Or.inl rfl) ?_
        have h := Option.some.inj h
        subst h
        exact tw_retE (cd := tw_c210) rfl rfl rfl rfl
      · rw [if_neg hc9] at h
        refine tw_br (cd := tw_c210) rfl rfl rfl (by exact if_pos (tw_b_f hc9)) ?_
        refine tw_blk (cd := tw_c210) rfl 2 (c1 := (14, [some (.ref 44)], [.ref 1015, .ref 44], (I, L, tw_P tw dr rt sc, A, J, 57))) rfl ?_
        obtain ⟨c12, hx13, h⟩ := tw_bindE h
        refine tw_callE (cd := tw_c210) rfl rfl rfl rfl rfl (e_X10_isWord I L A J tw dr rt sc 1015 (by decide) _ hx13) (by exact Or.inl rfl) ?_
        by_cases hc14 : c12 = true
        · rw [if_pos hc14] at h
          refine tw_br (cd := tw_c210) rfl rfl rfl (by exact if_neg (tw_b_t hc14)) ?_
          refine tw_blk (cd := tw_c210) rfl 4 (c1 := (44, [some (.ref 44)], [.int (I 4404), .int 1, .ref 44], (I, L, tw_P tw dr rt sc, A, J, 57))) rfl ?_
          obtain ⟨I15, hx16, h⟩ := tw_letE h
          refine tw_callE (cd := tw_c210) rfl rfl rfl rfl rfl (e_X10_wrong I L A J tw dr rt sc (1 : Int32) (I 4404) _ hx16) (by exact Or.inl rfl) ?_
          have h := Option.some.inj h
          subst h
          exact tw_retE (cd := tw_c210) rfl rfl rfl rfl
        · rw [if_neg hc14] at h
          refine tw_br (cd := tw_c210) rfl rfl rfl (by exact if_pos (tw_b_f hc14)) ?_
          refine tw_blk (cd := tw_c210) rfl 2 (c1 := (18, [some (.ref 44)], [.ref 1011, .ref 44], (I, L, tw_P tw dr rt sc, A, J, 57))) rfl ?_
          obtain ⟨c17, hx18, h⟩ := tw_bindE h
          refine tw_callE (cd := tw_c210) rfl rfl rfl rfl rfl (e_X10_isWord I L A J tw dr rt sc 1011 (by decide) _ hx18) (by exact Or.inl rfl) ?_
          by_cases hc19 : c17 = true
          · rw [if_pos hc19] at h
            refine tw_br (cd := tw_c210) rfl rfl rfl (by exact if_neg (tw_b_t hc19)) ?_
            refine tw_blk (cd := tw_c210) rfl 4 (c1 := (44, [some (.ref 44)], [.int (I 4404), .int 1, .ref 44], (I, L, tw_P tw dr rt sc, A, J, 57))) rfl ?_
            obtain ⟨I20, hx21, h⟩ := tw_letE h
            refine tw_callE (cd := tw_c210) rfl rfl rfl rfl rfl (e_X10_wrong I L A J tw dr rt sc (1 : Int32) (I 4404) _ hx21) (by exact Or.inl rfl) ?_
            have h := Option.some.inj h
            subst h
            exact tw_retE (cd := tw_c210) rfl rfl rfl rfl
          · rw [if_neg hc19] at h
            refine tw_br (cd := tw_c210) rfl rfl rfl (by exact if_pos (tw_b_f hc19)) ?_
            refine tw_blk (cd := tw_c210) rfl 2 (c1 := (22, [some (.ref 44)], [.ref 1008, .ref 44], (I, L, tw_P tw dr rt sc, A, J, 57))) rfl ?_
            obtain ⟨c22, hx23, h⟩ := tw_bindE h
            refine tw_callE (cd := tw_c210) rfl rfl rfl rfl rfl (e_X10_isWord I L A J tw dr rt sc 1008 (by decide) _ hx23) (by exact Or.inl rfl) ?_
            by_cases hc24 : c22 = true
            · rw [if_pos hc24] at h
              refine tw_br (cd := tw_c210) rfl rfl rfl (by exact if_neg (tw_b_t hc24)) ?_
              refine tw_blk (cd := tw_c210) rfl 4 (c1 := (44, [some (.ref 44)], [.int (I 4404), .int 1, .ref 44], (I, L, tw_P tw dr rt sc, A, J, 57))) rfl ?_
              obtain ⟨I25, hx26, h⟩ := tw_letE h
              refine tw_callE (cd := tw_c210) rfl rfl rfl rfl rfl (e_X10_wrong I L A J tw dr rt sc (1 : Int32) (I 4404) _ hx26) (by exact Or.inl rfl) ?_
              have h := Option.some.inj h
              subst h
              exact tw_retE (cd := tw_c210) rfl rfl rfl rfl
            · rw [if_neg hc24] at h
              refine tw_br (cd := tw_c210) rfl rfl rfl (by exact if_pos (tw_b_f hc24)) ?_
              refine tw_blk (cd := tw_c210) rfl 2 (c1 := (26, [some (.ref 44)], [.ref 1014, .ref 44], (I, L, tw_P tw dr rt sc, A, J, 57))) rfl ?_
              obtain ⟨c27, hx28, h⟩ := tw_bindE h
              refine tw_callE (cd := tw_c210) rfl rfl rfl rfl rfl (e_X10_isWord I L A J tw dr rt sc 1014 (by decide) _ hx28) (by exact Or.inl rfl) ?_
              by_cases hc29 : c27 = true
              · rw [if_pos hc29] at h
                refine tw_br (cd := tw_c210) rfl rfl rfl (by exact if_neg (tw_b_t hc29)) ?_
                refine tw_blk (cd := tw_c210) rfl 4 (c1 := (44, [some (.ref 44)], [.int (I 4404), .int 1, .ref 44], (I, L, tw_P tw dr rt sc, A, J, 57))) rfl ?_
                obtain ⟨I30, hx31, h⟩ := tw_letE h
                refine tw_callE (cd := tw_c210) rfl rfl rfl rfl rfl (e_X10_wrong I L A J tw dr rt sc (1 : Int32) (I 4404) _ hx31) (by exact Or.inl rfl) ?_
                have h := Option.some.inj h
                subst h
                exact tw_retE (cd := tw_c210) rfl rfl rfl rfl
              · rw [if_neg hc29] at h
                refine tw_br (cd := tw_c210) rfl rfl rfl (by exact if_pos (tw_b_f hc29)) ?_
                refine tw_blk (cd := tw_c210) rfl 2 (c1 := (30, [some (.ref 44)], [.ref 1009, .ref 44], (I, L, tw_P tw dr rt sc, A, J, 57))) rfl ?_
                obtain ⟨c32, hx33, h⟩ := tw_bindE h
                refine tw_callE (cd := tw_c210) rfl rfl rfl rfl rfl (e_X10_isWord I L A J tw dr rt sc 1009 (by decide) _ hx33) (by exact Or.inl rfl) ?_
                by_cases hc34 : c32 = true
                · rw [if_pos hc34] at h
                  refine tw_br (cd := tw_c210) rfl rfl rfl (by exact if_neg (tw_b_t hc34)) ?_
                  refine tw_blk (cd := tw_c210) rfl 4 (c1 := (44, [some (.ref 44)], [.int (I 4404), .int 1, .ref 44], (I, L, tw_P tw dr rt sc, A, J, 57))) rfl ?_
                  obtain ⟨I35, hx36, h⟩ := tw_letE h
                  refine tw_callE (cd := tw_c210) rfl rfl rfl rfl rfl (e_X10_wrong I L A J tw dr rt sc (1 : Int32) (I 4404) _ hx36) (by exact Or.inl rfl) ?_
                  have h := Option.some.inj h
                  subst h
                  exact tw_retE (cd := tw_c210) rfl rfl rfl rfl
                · rw [if_neg hc34] at h
                  refine tw_br (cd := tw_c210) rfl rfl rfl (by exact if_pos (tw_b_f hc34)) ?_
                  refine tw_blk (cd := tw_c210) rfl 2 (c1 := (34, [some (.ref 44)], [.ref 1017, .ref 44], (I, L, tw_P tw dr rt sc, A, J, 57))) rfl ?_
                  obtain ⟨c37, hx38, h⟩ := tw_bindE h
                  refine tw_callE (cd := tw_c210) rfl rfl rfl rfl rfl (e_X10_isWord I L A J tw dr rt sc 1017 (by decide) _ hx38) (by exact Or.inl rfl) ?_
                  by_cases hc39 : c37 = true
                  · rw [if_pos hc39] at h
                    refine tw_br (cd := tw_c210) rfl rfl rfl (by exact if_neg (tw_b_t hc39)) ?_
                    refine tw_blk (cd := tw_c210) rfl 4 (c1 := (44, [some (.ref 44)], [.int (I 4404), .int 1, .ref 44], (I, L, tw_P tw dr rt sc, A, J, 57))) rfl ?_
                    obtain ⟨I40, hx41, h⟩ := tw_letE h
                    refine tw_callE (cd := tw_c210) rfl rfl rfl rfl rfl (e_X10_wrong I L A J tw dr rt sc (1 : Int32) (I 4404) _ hx41) (by exact Or.inl rfl) ?_
                    have h := Option.some.inj h
                    subst h
                    exact tw_retE (cd := tw_c210) rfl rfl rfl rfl
                  · rw [if_neg hc39] at h
                    refine tw_br (cd := tw_c210) rfl rfl rfl (by exact if_pos (tw_b_f hc39)) ?_
                    refine tw_blk (cd := tw_c210) rfl 2 (c1 := (38, [some (.ref 44)], [.ref 1005, .ref 44], (I, L, tw_P tw dr rt sc, A, J, 57))) rfl ?_
                    obtain ⟨c42, hx43, h⟩ := tw_bindE h
                    refine tw_callE (cd := tw_c210) rfl rfl rfl rfl rfl (e_X10_isWord I L A J tw dr rt sc 1005 (by decide) _ hx43) (by exact Or.inl rfl) ?_
                    by_cases hc44 : c42 = true
                    · rw [if_pos hc44] at h
                      refine tw_br (cd := tw_c210) rfl rfl rfl (by exact if_neg (tw_b_t hc44)) ?_
                      refine tw_blk (cd := tw_c210) rfl 4 (c1 := (44, [some (.ref 44)], [.int (I 4404), .int 1, .ref 44], (I, L, tw_P tw dr rt sc, A, J, 57))) rfl ?_
                      obtain ⟨I45, hx46, h⟩ := tw_letE h
                      refine tw_callE (cd := tw_c210) rfl rfl rfl rfl rfl (e_X10_wrong I L A J tw dr rt sc (1 : Int32) (I 4404) _ hx46) (by exact Or.inl rfl) ?_
                      have h := Option.some.inj h
                      subst h
                      exact tw_retE (cd := tw_c210) rfl rfl rfl rfl
                    · rw [if_neg hc44] at h
                      refine tw_br (cd := tw_c210) rfl rfl rfl (by exact if_pos (tw_b_f hc44)) ?_
                      have h := Option.some.inj h
                      subst h
                      exact tw_retE (cd := tw_c210) rfl rfl rfl rfl
  · rw [if_neg hc1] at h
    refine tw_br (cd := tw_c210) rfl rfl rfl (by exact if_neg hc1) ?_
    refine tw_blk (cd := tw_c210) rfl 4 (c1 := (44, [some (.ref 44)], [.int (I 4404), .int 1, .ref 44], (I, L, tw_P tw dr rt sc, A, J, 57))) rfl ?_
    obtain ⟨I47, hx48, h⟩ := tw_letE h
    refine tw_callE (cd := tw_c210) rfl rfl rfl rfl rfl (e_X10_wrong I L A J tw dr rt sc (1 : Int32) (I 4404) _ hx48) (by exact Or.inl rfl) ?_
    have h := Option.some.inj h
    subst h
    exact tw_retE (cd := tw_c210) rfl rfl rfl rfl
theorem g_X10_find_L2_ok (I : Nat → Int32) (L : Nat → Int64) (A : Nat → Nat → Int32) (J : Nat → Nat → Int64) (tw : Nat) (dr : Nat) (rt : Nat) (sc : Nat) (v1_1 : Int32) (x3 : Int32) (x5 : Int32) (out : Option Value × tw_S) : ∀ (n : Nat) (v2_2 : Int32) (v2_3 : Int32) (ex : Int32), g_X10_find_L2 I A v1_1 n v2_2 v2_3 = some ex → tw_ME 211 (54, [some (.ref 44), some (.int v1_1), some (.int ex), none], [], (I, L, tw_P tw dr rt sc, A, J, 57)) out → tw_ME 211 (27, [some (.ref 44), some (.int v1_1), some (.int v2_2), some (.int v2_3)], [], (I, L, tw_P tw dr rt sc, A, J, 57)) out := by
  intro n
  induction n with
  | zero =>
    intro v2_2 v2_3 ex h _
    cases h
  | succ n ih =>
    intro v2_2 v2_3 ex h K
    rw [g_X10_find_L2] at h
    refine tw_blk (cd := tw_c211) rfl 1 (c1 := (28, [some (.ref 44), some (.int v1_1), some (.int v2_2), some (.int v2_3)], [.int v2_3], (I, L, tw_P tw dr rt sc, A, J, 57))) rfl ?_
    refine tw_blk (cd := tw_c211) rfl 2 (c1 := (30, [some (.ref 44), some (.int v1_1), some (.int v2_2), some (.int v2_3)], [.int (I 4408), .int v2_3], (I, L, tw_P tw dr rt sc, A, J, 57))) rfl ?_
    by_cases hc11 : (I 4408) ≤ v2_3
    · rw [if_pos hc11] at h
      refine tw_br (cd := tw_c211) rfl rfl rfl (by exact if_pos hc11) ?_
      refine tw_forget (ls2 := [some (.ref 44), some (.int v1_1), some (.int v2_2), none]) ⟨rfl, rfl, rfl, trivial⟩ ?_
      have h := Option.some.inj h
      subst h
      exact K
    · rw [if_neg hc11] at h
      refine tw_br (cd := tw_c211) rfl rfl rfl (by exact if_neg hc11) ?_
      refine tw_blk (cd := tw_c211) rfl 1 (c1 := (32, [some (.ref 44), some (.int v1_1), some (.int v2_2), some (.int v2_3)], [.int v2_2], (I, L, tw_P tw dr rt sc, A, J, 57))) rfl ?_
      by_cases hc12 : v2_2 = 0
      · rw [if_pos hc12] at h
        refine tw_br (cd := tw_c211) rfl rfl rfl (by exact if_pos hc12) ?_
        refine tw_forget (ls2 := [some (.ref 44), some (.int v1_1), some (.int v2_2), none]) ⟨rfl, rfl, rfl, trivial⟩ ?_
        have h := Option.some.inj h
        subst h
        exact K
      · rw [if_neg hc12] at h
        refine tw_br (cd := tw_c211) rfl rfl rfl (by exact if_neg hc12) ?_
        refine tw_blk (cd := tw_c211) rfl 9 (c1 := (42, [some (.ref 44), some (.int v1_1), some (.int v2_2), some (.int v2_3)], [.int (((121 : Int32) + ((8 : Int32) * v1_1)) + v2_3), .ref 48], (I, L, tw_P tw dr rt sc, A, J, 57))) rfl ?_
        obtain ⟨x14, hx13, h⟩ := tw_bindE h
        refine tw_iald (cd := tw_c211) (N := 241) rfl rfl rfl rfl hx13 ?_
        refine tw_blk (cd := tw_c211) rfl 3 (c1 := (46, [some (.ref 44), some (.int v1_1), some (.int v2_2), some (.int v2_3)], [.int v2_3, .ref 46, .int x14], (I, L, tw_P tw dr rt sc, A, J, 57))) rfl ?_
        obtain ⟨x16, hx15, h⟩ := tw_bindE h
        refine tw_iald (cd := tw_c211) (N := 8) rfl rfl rfl rfl hx15 ?_
        obtain ⟨x18, hj19, h⟩ := tw_bindE h
        have K : tw_ME 211 (51, [some (.ref 44), some (.int v1_1), none, some (.int v2_3)], [.int x18], (I, L, tw_P tw dr rt sc, A, J, 57)) out := by
          refine tw_blk (cd := tw_c211) rfl 3 (c1 := (27, [some (.ref 44), some (.int v1_1), some (.int x18), some (.int (v2_3 + (1 : Int32)))], [], (I, L, tw_P tw dr rt sc, A, J, 57))) rfl ?_
          exact ih x18 (v2_3 + (1 : Int32)) _ h K
        by_cases hc17 : x14 = x16
        · rw [if_pos hc17] at hj19
          refine tw_br (cd := tw_c211) rfl rfl rfl (by exact if_pos hc17) ?_
          refine tw_blk (cd := tw_c211) rfl 2 (c1 := (51, [some (.ref 44), some (.int v1_1), some (.int v2_2), some (.int v2_3)], [.int 1], (I, L, tw_P tw dr rt sc, A, J, 57))) rfl ?_
          refine tw_forget (ls2 := [some (.ref 44), some (.int v1_1), none, some (.int v2_3)]) ⟨rfl, rfl, rfl, trivial⟩ ?_
          have hj19s := Option.some.inj hj19
          subst hj19s
          exact K
        · rw [if_neg hc17] at hj19
          refine tw_br (cd := tw_c211) rfl rfl rfl (by exact if_neg hc17) ?_
          refine tw_blk (cd := tw_c211) rfl 1 (c1 := (51, [some (.ref 44), some (.int v1_1), some (.int v2_2), some (.int v2_3)], [.int 0], (I, L, tw_P tw dr rt sc, A, J, 57))) rfl ?_
          refine tw_forget (ls2 := [some (.ref 44), some (.int v1_1), none, some (.int v2_3)]) ⟨rfl, rfl, rfl, trivial⟩ ?_
          have hj19s := Option.some.inj hj19
          subst hj19s
          exact K
theorem g_X10_find_L1_ok (I : Nat → Int32) (L : Nat → Int64) (A : Nat → Nat → Int32) (J : Nat → Nat → Int64) (tw : Nat) (dr : Nat) (rt : Nat) (sc : Nat) (kont : Unit → Option Int32) (r : Int32) : ∀ (n : Nat) (v1_1 : Int32), g_X10_find_L1 I A kont n v1_1 = some r → (∀ ex : Unit, kont ex = some r → tw_ME 211 (60, [none, none, none, none], [], (I, L, tw_P tw dr rt sc, A, J, 57)) (some (.int r), (I, L, tw_P tw dr rt sc, A, J, 57))) → tw_ME 211 (2, [some (.ref 44), some (.int v1_1), none, none], [], (I, L, tw_P tw dr rt sc, A, J, 57)) (some (.int r), (I, L, tw_P tw dr rt sc, A, J, 57)) := by
  intro n
  induction n with
  | zero =>
    intro v1_1 h _
    cases h
  | succ n ih =>
    intro v1_1 h K
    rw [g_X10_find_L1] at h
    refine tw_blk (cd := tw_c211) rfl 1 (c1 := (3, [some (.ref 44), some (.int v1_1), none, none], [.int v1_1], (I, L, tw_P tw dr rt sc, A, J, 57))) rfl ?_
    refine tw_blk (cd := tw_c211) rfl 1 (c1 := (4, [some (.ref 44), some (.int v1_1), none, none], [.int 15, .int v1_1], (I, L, tw_P tw dr rt sc, A, J, 57))) rfl ?_
    by_cases hc1 : (15 : Int32) ≤ v1_1
    · rw [if_pos hc1] at h
      refine tw_br (cd := tw_c211) rfl rfl rfl (by exact if_pos hc1) ?_
      refine tw_forget (ls2 := [none, none, none, none]) trivial ?_
      exact K _ h
    · rw [if_neg hc1] at h
      refine tw_br (cd := tw_c211) rfl rfl rfl (by exact if_neg hc1) ?_
      refine tw_blk (cd := tw_c211) rfl 5 (c1 := (10, [some (.ref 44), some (.int v1_1), none, none], [.int ((106 : Int32) + v1_1), .ref 48], (I, L, tw_P tw dr rt sc, A, J, 57))) rfl ?_
      obtain ⟨x3, hx2, h⟩ := tw_bindE h
      refine tw_iald (cd := tw_c211) (N := 241) rfl rfl rfl rfl hx2 ?_
      obtain ⟨x5, hj6, h⟩ := tw_bindE h
      have K : tw_ME 211 (24, [some (.ref 44), some (.int v1_1), none, none], [.int x5], (I, L, tw_P tw dr rt sc, A, J, 57)) (some (.int r), (I, L, tw_P tw dr rt sc, A, J, 57)) := by
        refine tw_blk (cd := tw_c211) rfl 3 (c1 := (27, [some (.ref 44), some (.int v1_1), some (.int x5), some (.int 0)], [], (I, L, tw_P tw dr rt sc, A, J, 57))) rfl ?_
        obtain ⟨x10, hx21, h⟩ := tw_bindE h
        refine g_X10_find_L2_ok I L A J tw dr rt sc v1_1 x3 x5 _ 4096 x5 (0 : Int32) _ hx21 ?_
        refine tw_blk (cd := tw_c211) rfl 1 (c1 := (55, [some (.ref 44), some (.int v1_1), some (.int x10), none], [.int x10], (I, L, tw_P tw dr rt sc, A, J, 57))) rfl ?_
        by_cases hc20 : x10 = 0
        · rw [if_pos hc20] at h
          refine tw_br (cd := tw_c211) rfl rfl rfl (by exact if_pos hc20) ?_
          refine tw_blk (cd := tw_c211) rfl 2 (c1 := (2, [some (.ref 44), some (.int (v1_1 + (1 : Int32))), some (.int x10), none], [], (I, L, tw_P tw dr rt sc, A, J, 57))) rfl ?_
          refine tw_forget (ls2 := [some (.ref 44), some (.int (v1_1 + (1 : Int32))), none, none]) ⟨rfl, rfl, trivial⟩ ?_
          exact ih (v1_1 + (1 : Int32)) h K
        · rw [if_neg hc20] at h
          refine tw_br (cd := tw_c211) rfl rfl rfl (by exact if_neg hc20) ?_
          refine tw_blk (cd := tw_c211) rfl 1 (c1 := (57, [some (.ref 44), some (.int v1_1), some (.int x10), none], [.int v1_1], (I, L, tw_P tw dr rt sc, A, J, 57))) rfl ?_
          have h := Option.some.inj h
          subst h
          exact tw_retE (cd := tw_c211) rfl rfl rfl rfl
      by_cases hc4 : x3 ≤ 0
      · rw [if_pos hc4] at hj6
        refine tw_br (cd := tw_c211) rfl rfl rfl (by exact if_pos hc4) ?_
        refine tw_blk (cd := tw_c211) rfl 1 (c1 := (24, [some (.ref 44), some (.int v1_1), none, none], [.int 0], (I, L, tw_P tw dr rt sc, A, J, 57))) rfl ?_
        have hj6s := Option.some.inj hj6
        subst hj6s
        exact K
      · rw [if_neg hc4] at hj6
        refine tw_br (cd := tw_c211) rfl rfl rfl (by exact if_neg hc4) ?_
        refine tw_blk (cd := tw_c211) rfl 5 (c1 := (17, [some (.ref 44), some (.int v1_1), none, none], [.int ((106 : Int32) + v1_1), .ref 48], (I, L, tw_P tw dr rt sc, A, J, 57))) rfl ?_
        obtain ⟨x8, hx7, hj6⟩ := tw_bindE hj6
        refine tw_iald (cd := tw_c211) (N := 241) rfl rfl rfl rfl hx7 ?_
        refine tw_blk (cd := tw_c211) rfl 2 (c1 := (20, [some (.ref 44), some (.int v1_1), none, none], [.int (I 4408), .int x8], (I, L, tw_P tw dr rt sc, A, J, 57))) rfl ?_
        by_cases hc9 : x8 = (I 4408)
        · rw [if_pos hc9] at hj6
          refine tw_br (cd := tw_c211) rfl rfl rfl (by exact if_pos hc9) ?_
          refine tw_blk (cd := tw_c211) rfl 2 (c1 := (24, [some (.ref 44), some (.int v1_1), none, none], [.int 1], (I, L, tw_P tw dr rt sc, A, J, 57))) rfl ?_
          have hj6s := Option.some.inj hj6
          subst hj6s
          exact K
        · rw [if_neg hc9] at hj6
          refine tw_br (cd := tw_c211) rfl rfl rfl (by exact if_neg hc9) ?_
          refine tw_blk (cd := tw_c211) rfl 1 (c1 := (24, [some (.ref 44), some (.int v1_1), none, none], [.int 0], (I, L, tw_P tw dr rt sc, A, J, 57))) rfl ?_
          have hj6s := Option.some.inj hj6
          subst hj6s
          exact K
theorem e_X10_find (I : Nat → Int32) (L : Nat → Int64) (A : Nat → Nat → Int32) (J : Nat → Nat → Int64) (tw dr : Nat) (rt : Nat) (sc : Nat) : ∀ r : Int32, g_X10_find I A = some r → tw_ME 211 (0, [some (.ref 44), none, none, none], [], (I, L, tw_P tw dr rt sc, A, J, 57)) (some (.int r), (I, L, tw_P tw dr rt sc, A, J, 57)) := by
  intro r h
  unfold g_X10_find at h
  refine tw_blk (cd := tw_c211) rfl 2 (c1 := (2, [some (.ref 44), some (.int 0), none, none], [], (I, L, tw_P tw dr rt sc, A, J, 57))) rfl ?_
  refine g_X10_find_L1_ok I L A J tw dr rt sc _ r 4096 (0 : Int32) h (fun ex h => ?_)
  refine tw_blk (cd := tw_c211) rfl 1 (c1 := (61, [none, none, none, none], [.int (-1)], (I, L, tw_P tw dr rt sc, A, J, 57))) rfl ?_
  have h := Option.some.inj h
  subst h
  exact tw_retE (cd := tw_c211) rfl rfl rfl rfl
theorem g_X10_newName_L1_ok (I : Nat → Int32) (L : Nat → Int64) (A : Nat → Nat → Int32) (J : Nat → Nat → Int64) (tw : Nat) (dr : Nat) (rt : Nat) (sc : Nat) (a1 : Int32) (I2 : Nat → Int32) (I5 : Nat → Int32) (out : Option Value × tw_S) : ∀ (n : Nat) (v1_2 : Int32) (A_1 : Nat → Nat → Int32) (ex : Nat → Nat → Int32), g_X10_newName_L1 a1 I5 n v1_2 A_1 = some ex → tw_ME 212 (43, [some (.ref 44), some (.int a1), none], [], (I5, L, tw_P tw dr rt sc, ex, J, 57)) out → tw_ME 212 (23, [some (.ref 44), some (.int a1), some (.int v1_2)], [], (I5, L, tw_P tw dr rt sc, A_1, J, 57)) out := by
  intro n
  induction n with
  | zero =>
    intro v1_2 A_1 ex h _
    cases h
  | succ n ih =>
    intro v1_2 A_1 ex h K
    rw [g_X10_newName_L1] at h
    refine tw_blk (cd := tw_c212) rfl 1 (c1 := (24, [some (.ref 44), some (.int a1), some (.int v1_2)], [.int v1_2], (I5, L, tw_P tw dr rt sc, A_1, J, 57))) rfl ?_
    refine tw_blk (cd := tw_c212) rfl 2 (c1 := (26, [some (.ref 44), some (.int a1), some (.int v1_2)], [.int (I5 4408), .int v1_2], (I5, L, tw_P tw dr rt sc, A_1, J, 57))) rfl ?_
    by_cases hc14 : (I5 4408) ≤ v1_2
    · rw [if_pos hc14] at h
      refine tw_br (cd := tw_c212) rfl rfl rfl (by exact if_pos hc14) ?_
      refine tw_forget (ls2 := [some (.ref 44), some (.int a1), none]) ⟨rfl, rfl, trivial⟩ ?_
      have h := Option.some.inj h
      subst h
      exact K
    · rw [if_neg hc14] at h
      refine tw_br (cd := tw_c212) rfl rfl rfl (by exact if_neg hc14) ?_
      refine tw_blk (cd := tw_c212) rfl 12 (c1 := (39, [some (.ref 44), some (.int a1), some (.int v1_2)], [.int v1_2, .ref 46, .int (((121 : Int32) + ((8 : Int32) * a1)) + v1_2), .ref 48], (I5, L, tw_P tw dr rt sc, A_1, J, 57))) rfl ?_
      obtain ⟨x16, hx15, h⟩ := tw_bindE h
      refine tw_iald (cd := tw_c212) (N := 8) rfl rfl rfl rfl hx15 ?_
      obtain ⟨w18, hx17, h⟩ := tw_bindE h
      refine tw_iast (cd := tw_c212) (N := 241) rfl rfl rfl rfl hx17 ?_
      refine tw_blk (cd := tw_c212) rfl 2 (c1 := (23, [some (.ref 44), some (.int a1), some (.int (v1_2 + (1 : Int32)))], [], (I5, L, tw_P tw dr rt sc, (va_up A_1 48 w18), J, 57))) rfl ?_
      exact ih (v1_2 + (1 : Int32)) (va_up A_1 48 w18) _ h K
theorem e_X10_newName (I : Nat → Int32) (L : Nat → Int64) (A : Nat → Nat → Int32) (J : Nat → Nat → Int64) (tw dr : Nat) (rt : Nat) (sc : Nat) (a1 : Int32) : ∀ r : ((Nat → Int32) × (Nat → Nat → Int32)), g_X10_newName I A a1 = some r → tw_ME 212 (0, [some (.ref 44), some (.int a1), none], [], (I, L, tw_P tw dr rt sc, A, J, 57)) (none, ((r.1), L, tw_P tw dr rt sc, (r.2), J, 57)) := by
  intro r h
  unfold g_X10_newName at h
  refine tw_blk (cd := tw_c212) rfl 2 (c1 := (2, [some (.ref 44), some (.int a1), none], [.int (I 4413)], (I, L, tw_P tw dr rt sc, A, J, 57))) rfl ?_
  by_cases hc1 : (I 4413) = 0
  · rw [if_pos hc1] at h
    refine tw_br (cd := tw_c212) rfl rfl rfl (by exact if_pos hc1) ?_
    refine tw_blk (cd := tw_c212) rfl 1 (c1 := (5, [some (.ref 44), some (.int a1), none], [.ref 44], (I, L, tw_P tw dr rt sc, A, J, 57))) rfl ?_
    obtain ⟨I2, hx3, h⟩ := tw_bindE h
    refine tw_callE (cd := tw_c212) rfl rfl rfl rfl rfl (e_X10_mustName I L A J tw dr rt sc _ hx3) (by exact Or.inl rfl) ?_
    refine tw_blk (cd := tw_c212) rfl 2 (c1 := (8, [some (.ref 44), some (.int a1), none], [.int (I2 4413)], (I2, L, tw_P tw dr rt sc, A, J, 57))) rfl ?_
    obtain ⟨I5, hj6, h⟩ := tw_bindE h
    have K : tw_ME 212 (17, [some (.ref 44), some (.int a1), none], [], (I5, L, tw_P tw dr rt sc, A, J, 57)) (none, ((r.1), L, tw_P tw dr rt sc, (r.2), J, 57)) := by
      refine tw_blk (cd := tw_c212) rfl 2 (c1 := (19, [some (.ref 44), some (.int a1), none], [.int (I5 4413)], (I5, L, tw_P tw dr rt sc, A, J, 57))) rfl ?_
      by_cases hc12 : (I5 4413) = 0
      · rw [if_pos hc12] at h
        refine tw_br (cd := tw_c212) rfl rfl rfl (by exact if_pos hc12) ?_
        refine tw_blk (cd := tw_c212) rfl 2 (c1 := (23, [some (.ref 44), some (.int a1), some (.int 0)], [], (I5, L, tw_P tw dr rt sc, A, J, 57))) rfl ?_
        obtain ⟨A13, hx24, h⟩ := tw_bindE h
        refine g_X10_newName_L1_ok I L A J tw dr rt sc a1 I2 I5 _ 4096 (0 : Int32) A _ hx24 ?_
        refine tw_blk (cd := tw_c212) rfl 7 (c1 := (50, [some (.ref 44), some (.int a1), none], [.int (I5 4408), .int ((106 : Int32) + a1), .ref 48], (I5, L, tw_P tw dr rt sc, A13, J, 57))) rfl ?_
        obtain ⟨w20, hx19, h⟩ := tw_bindE h
        refine tw_iast (cd := tw_c212) (N := 241) rfl rfl rfl rfl hx19 ?_
        refine tw_blk (cd := tw_c212) rfl 1 (c1 := (52, [some (.ref 44), some (.int a1), none], [.ref 44], (I5, L, tw_P tw dr rt sc, (va_up A13 48 w20), J, 57))) rfl ?_
        obtain ⟨⟨I21, A22⟩, hx23, h⟩ := tw_bindE h
        dsimp only at h
        refine tw_callE (cd := tw_c212) rfl rfl rfl rfl rfl (e_X10_next I5 L (va_up A13 48 w20) J tw dr rt sc _ hx23) (by exact Or.inl rfl) ?_
        have h := Option.some.inj h
        subst h
        exact tw_retE (cd := tw_c212) rfl rfl rfl rfl
      · rw [if_neg hc12] at h
        refine tw_br (cd := tw_c212) rfl rfl rfl (by exact if_neg hc12) ?_
        have h := Option.some.inj h
        subst h
        exact tw_retE (cd := tw_c212) rfl rfl rfl rfl
    by_cases hc4 : (I2 4413) = 0
    · rw [if_pos hc4] at hj6
      refine tw_br (cd := tw_c212) rfl rfl rfl (by exact if_pos hc4) ?_
      refine tw_blk (cd := tw_c212) rfl 1 (c1 := (10, [some (.ref 44), some (.int a1), none], [.ref 44], (I2, L, tw_P tw dr rt sc, A, J, 57))) rfl ?_
      obtain ⟨x7, hx8, hj6⟩ := tw_bindE hj6
      refine tw_callE (cd := tw_c212) rfl rfl rfl rfl rfl (e_X10_find I2 L A J tw dr rt sc _ hx8) (by exact Or.inl rfl) ?_
      by_cases hc9 : x7 < 0
      · rw [if_pos hc9] at hj6
        refine tw_br (cd := tw_c212) rfl rfl rfl (by exact if_pos hc9) ?_
        have hj6s := Option.some.inj hj6
        subst hj6s
        exact K
      · rw [if_neg hc9] at hj6
        refine tw_br (cd := tw_c212) rfl rfl rfl (by exact if_neg hc9) ?_
        refine tw_blk (cd := tw_c212) rfl 4 (c1 := (16, [some (.ref 44), some (.int a1), none], [.int (I2 4404), .int 3, .ref 44], (I2, L, tw_P tw dr rt sc, A, J, 57))) rfl ?_
        obtain ⟨I10, hx11, hj6⟩ := tw_letE hj6
        refine tw_callE (cd := tw_c212) rfl rfl rfl rfl rfl (e_X10_wrong I2 L A J tw dr rt sc (3 : Int32) (I2 4404) _ hx11) (by exact Or.inl rfl) ?_
        have hj6s := Option.some.inj hj6
        subst hj6s
        exact K
    · rw [if_neg hc4] at hj6
      refine tw_br (cd := tw_c212) rfl rfl rfl (by exact if_neg hc4) ?_
      have hj6s := Option.some.inj hj6
      subst hj6s
      exact K
  · rw [if_neg hc1] at h
    refine tw_br (cd := tw_c212) rfl rfl rfl (by exact if_neg hc1) ?_
    have h := Option.some.inj h
    subst h
    exact tw_retE (cd := tw_c212) rfl rfl rfl rfl
theorem e_X10_placeLine (I : Nat → Int32) (L : Nat → Int64) (A : Nat → Nat → Int32) (J : Nat → Nat → Int64) (tw dr : Nat) (rt : Nat) (sc : Nat) : ∀ r : ((Nat → Int32) × (Nat → Nat → Int32)), g_X10_placeLine I A = some r → tw_ME 225 (0, [some (.ref 44)], [], (I, L, tw_P tw dr rt sc, A, J, 57)) (none, ((r.1), L, tw_P tw dr rt sc, (r.2), J, 57)) := by
  intro r h
  unfold g_X10_placeLine at h
  refine tw_blk (cd := tw_c225) rfl 2 (c1 := (2, [some (.ref 44)], [.int (I 4413)], (I, L, tw_P tw dr rt sc, A, J, 57))) rfl ?_
  by_cases hc1 : (I 4413) = 0
  · rw [if_pos hc1] at h
    refine tw_br (cd := tw_c225) rfl rfl rfl (by exact if_pos hc1) ?_
    refine tw_blk (cd := tw_c225) rfl 4 (c1 := (8, [some (.ref 44)], [.int 1, .ref 48, .ref 44], (I, L, tw_P tw dr rt sc, A, J, 57))) rfl ?_
    obtain ⟨x3, hx2, h⟩ := tw_bindE h
    refine tw_iald (cd := tw_c225) (N := 241) rfl rfl rfl rfl hx2 ?_
    obtain ⟨⟨I4, A5⟩, hx6, h⟩ := tw_bindE h
    dsimp only at h
    refine tw_callE (cd := tw_c225) rfl rfl rfl rfl rfl (e_X10_newName I L A J tw dr rt sc x3 _ hx6) (by exact Or.inl rfl) ?_
    refine tw_blk (cd := tw_c225) rfl 2 (c1 := (12, [some (.ref 44)], [.int (I4 4413)], (I4, L, tw_P tw dr rt sc, A5, J, 57))) rfl ?_
    by_cases hc7 : (I4 4413) = 0
    · rw [if_pos hc7] at h
      refine tw_br (cd := tw_c225) rfl rfl rfl (by exact if_pos hc7) ?_
      refine tw_blk (cd := tw_c225) rfl 4 (c1 := (17, [some (.ref 44)], [.int 1, .ref 48, .int 1, .ref 48], (I4, L, tw_P tw dr rt sc, A5, J, 57))) rfl ?_
      obtain ⟨x9, hx8, h⟩ := tw_bindE h
      refine tw_iald (cd := tw_c225) (N := 241) rfl rfl rfl rfl hx8 ?_
      refine tw_blk (cd := tw_c225) rfl 2 (c1 := (20, [some (.ref 44)], [.int (x9 + (1 : Int32)), .int 1, .ref 48], (I4, L, tw_P tw dr rt sc, A5, J, 57))) rfl ?_
      obtain ⟨w11, hx10, h⟩ := tw_bindE h
      refine tw_iast (cd := tw_c225) (N := 241) rfl rfl rfl rfl hx10 ?_
      have h := Option.some.inj h
      subst h
      exact tw_retE (cd := tw_c225) rfl rfl rfl rfl
    · rw [if_neg hc7] at h
      refine tw_br (cd := tw_c225) rfl rfl rfl (by exact if_neg hc7) ?_
      have h := Option.some.inj h
      subst h
      exact tw_retE (cd := tw_c225) rfl rfl rfl rfl
  · rw [if_neg hc1] at h
    refine tw_br (cd := tw_c225) rfl rfl rfl (by exact if_neg hc1) ?_
    have h := Option.some.inj h
    subst h
    exact tw_retE (cd := tw_c225) rfl rfl rfl rfl
theorem e_X10_named (I : Nat → Int32) (L : Nat → Int64) (A : Nat → Nat → Int32) (J : Nat → Nat → Int64) (tw dr : Nat) (rt : Nat) (sc : Nat) (a1 : Int32) (a2 : Int32) : ∀ r : (Int32 × (Nat → Int32)), g_X10_named I A a1 a2 = some r → tw_ME 213 (0, [some (.ref 44), some (.int a1), some (.int a2), none], [], (I, L, tw_P tw dr rt sc, A, J, 57)) (some (.int r.1), ((r.2), L, tw_P tw dr rt sc, A, J, 57)) := by
  intro r h
  unfold g_X10_named at h
  refine tw_blk (cd := tw_c213) rfl 2 (c1 := (2, [some (.ref 44), some (.int a1), some (.int a2), none], [.int (I 4413)], (I, L, tw_P tw dr rt sc, A, J, 57))) rfl ?_
  by_cases hc1 : (I 4413) = 0
  · rw [if_pos hc1] at h
    refine tw_br (cd := tw_c213) rfl rfl rfl (by exact if_pos hc1) ?_
    refine tw_blk (cd := tw_c213) rfl 1 (c1 := (6, [some (.ref 44), some (.int a1), some (.int a2), none], [.ref 44], (I, L, tw_P tw dr rt sc, A, J, 57))) rfl ?_
    obtain ⟨I2, hx3, h⟩ := tw_bindE h
    refine tw_callE (cd := tw_c213) rfl rfl rfl rfl rfl (e_X10_mustName I L A J tw dr rt sc _ hx3) (by exact Or.inl rfl) ?_
    refine tw_blk (cd := tw_c213) rfl 2 (c1 := (9, [some (.ref 44), some (.int a1), some (.int a2), none], [.int (I2 4413)], (I2, L, tw_P tw dr rt sc, A, J, 57))) rfl ?_
    by_cases hc4 : (I2 4413) = 0
    · rw [if_pos hc4] at h
      refine tw_br (cd := tw_c213) rfl rfl rfl (by exact if_pos hc4) ?_
      refine tw_blk (cd := tw_c213) rfl 1 (c1 := (13, [some (.ref 44), some (.int a1), some (.int a2), none], [.ref 44], (I2, L, tw_P tw dr rt sc, A, J, 57))) rfl ?_
      obtain ⟨x5, hx6, h⟩ := tw_bindE h
      refine tw_callE (cd := tw_c213) rfl rfl rfl rfl rfl (e_X10_find I2 L A J tw dr rt sc _ hx6) (by exact Or.inl rfl) ?_
      refine tw_blk (cd := tw_c213) rfl 4 (c1 := (18, [some (.ref 44), some (.int a1), some (.int a2), some (.int x5)], [.int a2, .int a1, .int x5], (I2, L, tw_P tw dr rt sc, A, J, 57))) rfl ?_
      refine tw_callE (cd := tw_c213) rfl rfl rfl rfl rfl (e_X10_in I2 L A J tw dr rt sc x5 a1 a2 _ rfl) (by exact Or.inl rfl) ?_
      obtain ⟨I8, hj9, h⟩ := tw_bindE h
      have K : tw_ME 213 (25, [some (.ref 44), some (.int a1), none, some (.int x5)], [], (I8, L, tw_P tw dr rt sc, A, J, 57)) (some (.int r.1), ((r.2), L, tw_P tw dr rt sc, A, J, 57)) := by
        refine tw_blk (cd := tw_c213) rfl 2 (c1 := (27, [some (.ref 44), some (.int a1), none, some (.int x5)], [.int (I8 4413)], (I8, L, tw_P tw dr rt sc, A, J, 57))) rfl ?_
        by_cases hc12 : (I8 4413) = 0
        · rw [if_pos hc12] at h
          refine tw_br (cd := tw_c213) rfl rfl rfl (by exact if_pos hc12) ?_
          refine tw_blk (cd := tw_c213) rfl 3 (c1 := (33, [some (.ref 44), some (.int a1), none, some (.int x5)], [.int (x5 - a1)], (I8, L, tw_P tw dr rt sc, A, J, 57))) rfl ?_
          have h := Option.some.inj h
          subst h
          exact tw_retE (cd := tw_c213) rfl rfl rfl rfl
        · rw [if_neg hc12] at h
          refine tw_br (cd := tw_c213) rfl rfl rfl (by exact if_neg hc12) ?_
          refine tw_blk (cd := tw_c213) rfl 2 (c1 := (33, [some (.ref 44), some (.int a1), none, some (.int x5)], [.int 0], (I8, L, tw_P tw dr rt sc, A, J, 57))) rfl ?_
          have h := Option.some.inj h
          subst h
          exact tw_retE (cd := tw_c213) rfl rfl rfl rfl
      by_cases hc7 : (g_X10_in x5 a1 a2) = true
      · rw [if_pos hc7] at hj9
        refine tw_br (cd := tw_c213) rfl rfl rfl (by exact if_neg (tw_b_t hc7)) ?_
        refine tw_forget (ls2 := [some (.ref 44), some (.int a1), none, some (.int x5)]) ⟨rfl, rfl, rfl, trivial⟩ ?_
        have hj9s := Option.some.inj hj9
        subst hj9s
        exact K
      · rw [if_neg hc7] at hj9
        refine tw_br (cd := tw_c213) rfl rfl rfl (by exact if_pos (tw_b_f hc7)) ?_
        refine tw_blk (cd := tw_c213) rfl 4 (c1 := (24, [some (.ref 44), some (.int a1), some (.int a2), some (.int x5)], [.int (I2 4404), .int 2, .ref 44], (I2, L, tw_P tw dr rt sc, A, J, 57))) rfl ?_
        obtain ⟨I10, hx11, hj9⟩ := tw_letE hj9
        refine tw_callE (cd := tw_c213) rfl rfl rfl rfl rfl (e_X10_wrong I2 L A J tw dr rt sc (2 : Int32) (I2 4404) _ hx11) (by exact Or.inl rfl) ?_
        refine tw_forget (ls2 := [some (.ref 44), some (.int a1), none, some (.int x5)]) ⟨rfl, rfl, rfl, trivial⟩ ?_
        have hj9s := Option.some.inj hj9
        subst hj9s
        exact K
    · rw [if_neg hc4] at h
      refine tw_br (cd := tw_c213) rfl rfl rfl (by exact if_neg hc4) ?_
      refine tw_blk (cd := tw_c213) rfl 1 (c1 := (11, [some (.ref 44), some (.int a1), some (.int a2), none], [.int 0], (I2, L, tw_P tw dr rt sc, A, J, 57))) rfl ?_
      have h := Option.some.inj h
      subst h
      exact tw_retE (cd := tw_c213) rfl rfl rfl rfl
  · rw [if_neg hc1] at h
    refine tw_br (cd := tw_c213) rfl rfl rfl (by exact if_neg hc1) ?_
    refine tw_blk (cd := tw_c213) rfl 1 (c1 := (4, [some (.ref 44), some (.int a1), some (.int a2), none], [.int 0], (I, L, tw_P tw dr rt sc, A, J, 57))) rfl ?_
    have h := Option.some.inj h
    subst h
    exact tw_retE (cd := tw_c213) rfl rfl rfl rfl
theorem e_X10_placeHere (I : Nat → Int32) (L : Nat → Int64) (A : Nat → Nat → Int32) (J : Nat → Nat → Int64) (tw dr : Nat) (rt : Nat) (sc : Nat) : ∀ r : (Int32 × (Nat → Int32)), g_X10_placeHere I A = some r → tw_ME 214 (0, [some (.ref 44)], [], (I, L, tw_P tw dr rt sc, A, J, 57)) (some (.int r.1), ((r.2), L, tw_P tw dr rt sc, A, J, 57)) := by
  intro r h
  unfold g_X10_placeHere at h
  refine tw_blk (cd := tw_c214) rfl 3 (c1 := (3, [some (.ref 44)], [.int 5, .int 0, .ref 44], (I, L, tw_P tw dr rt sc, A, J, 57))) rfl ?_
  obtain ⟨⟨x1, I2⟩, hx3, h⟩ := tw_bindE h
  dsimp only at h
  refine tw_callE (cd := tw_c214) rfl rfl rfl rfl rfl (e_X10_named I L A J tw dr rt sc (0 : Int32) (5 : Int32) _ hx3) (by exact Or.inl rfl) ?_
  have h := Option.some.inj h
  subst h
  exact tw_retE (cd := tw_c214) rfl rfl rfl rfl
theorem e_X10_placePassed (I : Nat → Int32) (L : Nat → Int64) (A : Nat → Nat → Int32) (J : Nat → Nat → Int64) (tw dr : Nat) (rt : Nat) (sc : Nat) : ∀ r : (Int32 × (Nat → Int32) × (Nat → Nat → Int32)), g_X10_placePassed I A = some r → tw_ME 217 (0, [some (.ref 44), none], [], (I, L, tw_P tw dr rt sc, A, J, 57)) (some (.int r.1), ((r.2.1), L, tw_P tw dr rt sc, (r.2.2), J, 57)) := by
  intro r h
  unfold g_X10_placePassed at h
  refine tw_blk (cd := tw_c217) rfl 1 (c1 := (1, [some (.ref 44), none], [.ref 44], (I, L, tw_P tw dr rt sc, A, J, 57))) rfl ?_
  obtain ⟨⟨x1, I2⟩, hx3, h⟩ := tw_bindE h
  dsimp only at h
  refine tw_callE (cd := tw_c217) rfl rfl rfl rfl rfl (e_X10_placeHere I L A J tw dr rt sc _ hx3) (by exact Or.inl rfl) ?_
  refine tw_blk (cd := tw_c217) rfl 2 (c1 := (4, [some (.ref 44), some (.int x1)], [.ref 44], (I2, L, tw_P tw dr rt sc, A, J, 57))) rfl ?_
  obtain ⟨⟨I4, A5⟩, hx6, h⟩ := tw_bindE h
  dsimp only at h
  refine tw_callE (cd := tw_c217) rfl rfl rfl rfl rfl (e_X10_pass I2 L A J tw dr rt sc _ hx6) (by exact Or.inl rfl) ?_
  refine tw_blk (cd := tw_c217) rfl 1 (c1 := (6, [some (.ref 44), some (.int x1)], [.int x1], (I4, L, tw_P tw dr rt sc, A5, J, 57))) rfl ?_
  have h := Option.some.inj h
  subst h
  exact tw_retE (cd := tw_c217) rfl rfl rfl rfl
theorem g_X10_seesLine_L1_ok (I : Nat → Int32) (L : Nat → Int64) (A : Nat → Nat → Int32) (J : Nat → Nat → Int64) (tw : Nat) (dr : Nat) (rt : Nat) (sc : Nat) (x3 : Int32) (x4 : Int32) (I5 : Nat → Int32) (A6 : Nat → Nat → Int32) (x8 : Int32) (I9 : Nat → Int32) (x12 : Int32) (out : Option Value × tw_S) : ∀ (n : Nat) (v1_4 : Int32) (v1_5 : Int32) (ex : Int32), g_X10_seesLine_L1 x4 A6 x8 n v1_4 v1_5 = some ex → tw_ME 226 (64, [some (.ref 44), some (.int ((10 : Int32) + ((2 : Int32) * x3))), some (.int x4), some (.int x8), some (.int ex), none], [], (I9, L, tw_P tw dr rt sc, A6, J, 57)) out → tw_ME 226 (28, [some (.ref 44), some (.int ((10 : Int32) + ((2 : Int32) * x3))), some (.int x4), some (.int x8), some (.int v1_4), some (.int v1_5)], [], (I9, L, tw_P tw dr rt sc, A6, J, 57)) out := by
  intro n
  induction n with
  | zero =>
    intro v1_4 v1_5 ex h _
    cases h
  | succ n ih =>
    intro v1_4 v1_5 ex h K
    rw [g_X10_seesLine_L1] at h
    refine tw_blk (cd := tw_c226) rfl 1 (c1 := (29, [some (.ref 44), some (.int ((10 : Int32) + ((2 : Int32) * x3))), some (.int x4), some (.int x8), some (.int v1_4), some (.int v1_5)], [.int v1_5], (I9, L, tw_P tw dr rt sc, A6, J, 57))) rfl ?_
    refine tw_blk (cd := tw_c226) rfl 3 (c1 := (32, [some (.ref 44), some (.int ((10 : Int32) + ((2 : Int32) * x3))), some (.int x4), some (.int x8), some (.int v1_4), some (.int v1_5)], [.int 2, .ref 48, .int v1_5], (I9, L, tw_P tw dr rt sc, A6, J, 57))) rfl ?_
    obtain ⟨x16, hx15, h⟩ := tw_bindE h
    refine tw_iald (cd := tw_c226) (N := 241) rfl rfl rfl rfl hx15 ?_
    by_cases hc17 : x16 ≤ v1_5
    · rw [if_pos hc17] at h
      refine tw_br (cd := tw_c226) rfl rfl rfl (by exact if_pos hc17) ?_
      refine tw_forget (ls2 := [some (.ref 44), some (.int ((10 : Int32) + ((2 : Int32) * x3))), some (.int x4), some (.int x8), some (.int v1_4), none]) ⟨rfl, rfl, rfl, rfl, rfl, trivial⟩ ?_
      have h := Option.some.inj h
      subst h
      exact K
    · rw [if_neg hc17] at h
      refine tw_br (cd := tw_c226) rfl rfl rfl (by exact if_neg hc17) ?_
      refine tw_blk (cd := tw_c226) rfl 1 (c1 := (35, [some (.ref 44), some (.int ((10 : Int32) + ((2 : Int32) * x3))), some (.int x4), some (.int x8), some (.int v1_4), some (.int v1_5)], [.int v1_4], (I9, L, tw_P tw dr rt sc, A6, J, 57))) rfl ?_
      obtain ⟨x19, hj20, h⟩ := tw_bindE h
      have K : tw_ME 226 (61, [some (.ref 44), some (.int ((10 : Int32) + ((2 : Int32) * x3))), some (.int x4), some (.int x8), none, some (.int v1_5)], [.int x19], (I9, L, tw_P tw dr rt sc, A6, J, 57)) out := by
        refine tw_blk (cd := tw_c226) rfl 3 (c1 := (28, [some (.ref 44), some (.int ((10 : Int32) + ((2 : Int32) * x3))), some (.int x4), some (.int x8), some (.int x19), some (.int (v1_5 + (1 : Int32)))], [], (I9, L, tw_P tw dr rt sc, A6, J, 57))) rfl ?_
        exact ih x19 (v1_5 + (1 : Int32)) _ h K
      by_cases hc18 : v1_4 = 0
      · rw [if_pos hc18] at hj20
        refine tw_br (cd := tw_c226) rfl rfl rfl (by exact if_pos hc18) ?_
        refine tw_blk (cd := tw_c226) rfl 7 (c1 := (43, [some (.ref 44), some (.int ((10 : Int32) + ((2 : Int32) * x3))), some (.int x4), some (.int x8), some (.int v1_4), some (.int v1_5)], [.int ((10 : Int32) + ((2 : Int32) * v1_5)), .ref 48], (I9, L, tw_P tw dr rt sc, A6, J, 57))) rfl ?_
        obtain ⟨x22, hx21, hj20⟩ := tw_bindE hj20
        refine tw_iald (cd := tw_c226) (N := 241) rfl rfl rfl rfl hx21 ?_
        refine tw_blk (cd := tw_c226) rfl 1 (c1 := (45, [some (.ref 44), some (.int ((10 : Int32) + ((2 : Int32) * x3))), some (.int x4), some (.int x8), some (.int v1_4), some (.int v1_5)], [.int x4, .int x22], (I9, L, tw_P tw dr rt sc, A6, J, 57))) rfl ?_
        by_cases hc23 : x22 = x4
        · rw [if_pos hc23] at hj20
          refine tw_br (cd := tw_c226) rfl rfl rfl (by exact if_pos hc23) ?_
          refine tw_blk (cd := tw_c226) rfl 9 (c1 := (55, [some (.ref 44), some (.int ((10 : Int32) + ((2 : Int32) * x3))), some (.int x4), some (.int x8), some (.int v1_4), some (.int v1_5)], [.int (((10 : Int32) + ((2 : Int32) * v1_5)) + (1 : Int32)), .ref 48], (I9, L, tw_P tw dr rt sc, A6, J, 57))) rfl ?_
          obtain ⟨x25, hx24, hj20⟩ := tw_bindE hj20
          refine tw_iald (cd := tw_c226) (N := 241) rfl rfl rfl rfl hx24 ?_
          refine tw_blk (cd := tw_c226) rfl 1 (c1 := (57, [some (.ref 44), some (.int ((10 : Int32) + ((2 : Int32) * x3))), some (.int x4), some (.int x8), some (.int v1_4), some (.int v1_5)], [.int x8, .int x25], (I9, L, tw_P tw dr rt sc, A6, J, 57))) rfl ?_
          by_cases hc26 : x25 = x8
          · rw [if_pos hc26] at hj20
            refine tw_br (cd := tw_c226) rfl rfl rfl (by exact if_pos hc26) ?_
            refine tw_blk (cd := tw_c226) rfl 2 (c1 := (61, [some (.ref 44), some (.int ((10 : Int32) + ((2 : Int32) * x3))), some (.int x4), some (.int x8), some (.int v1_4), some (.int v1_5)], [.int 1], (I9, L, tw_P tw dr rt sc, A6, J, 57))) rfl ?_
            refine tw_forget (ls2 := [some (.ref 44), some (.int ((10 : Int32) + ((2 : Int32) * x3))), some (.int x4), some (.int x8), none, some (.int v1_5)]) ⟨rfl, rfl, rfl, rfl, rfl, trivial⟩ ?_
            have hj20s := Option.some.inj hj20
            subst hj20s
            exact K
          · rw [if_neg hc26] at hj20
            refine tw_br (cd := tw_c226) rfl rfl rfl (by exact if_neg hc26) ?_
            refine tw_blk (cd := tw_c226) rfl 1 (c1 := (61, [some (.ref 44), some (.int ((10 : Int32) + ((2 : Int32) * x3))), some (.int x4), some (.int x8), some (.int v1_4), some (.int v1_5)], [.int 0], (I9, L, tw_P tw dr rt sc, A6, J, 57))) rfl ?_
            refine tw_forget (ls2 := [some (.ref 44), some (.int ((10 : Int32) + ((2 : Int32) * x3))), some (.int x4), some (.int x8), none, some (.int v1_5)]) ⟨rfl, rfl, rfl, rfl, rfl, trivial⟩ ?_
            have hj20s := Option.some.inj hj20
            subst hj20s
            exact K
        · rw [if_neg hc23] at hj20
          refine tw_br (cd := tw_c226) rfl rfl rfl (by exact if_neg hc23) ?_
          refine tw_blk (cd := tw_c226) rfl 1 (c1 := (61, [some (.ref 44), some (.int ((10 : Int32) + ((2 : Int32) * x3))), some (.int x4), some (.int x8), some (.int v1_4), some (.int v1_5)], [.int 0], (I9, L, tw_P tw dr rt sc, A6, J, 57))) rfl ?_
          refine tw_forget (ls2 := [some (.ref 44), some (.int ((10 : Int32) + ((2 : Int32) * x3))), some (.int x4), some (.int x8), none, some (.int v1_5)]) ⟨rfl, rfl, rfl, rfl, rfl, trivial⟩ ?_
          have hj20s := Option.some.inj hj20
          subst hj20s
          exact K
      · rw [if_neg hc18] at hj20
        refine tw_br (cd := tw_c226) rfl rfl rfl (by exact if_neg hc18) ?_
        refine tw_blk (cd := tw_c226) rfl 2 (c1 := (61, [some (.ref 44), some (.int ((10 : Int32) + ((2 : Int32) * x3))), some (.int x4), some (.int x8), some (.int v1_4), some (.int v1_5)], [.int 1], (I9, L, tw_P tw dr rt sc, A6, J, 57))) rfl ?_
        refine tw_forget (ls2 := [some (.ref 44), some (.int ((10 : Int32) + ((2 : Int32) * x3))), some (.int x4), some (.int x8), none, some (.int v1_5)]) ⟨rfl, rfl, rfl, rfl, rfl, trivial⟩ ?_
        have hj20s := Option.some.inj hj20
        subst hj20s
        exact K
theorem e_X10_seesLine (I : Nat → Int32) (L : Nat → Int64) (A : Nat → Nat → Int32) (J : Nat → Nat → Int64) (tw dr : Nat) (rt : Nat) (sc : Nat) : ∀ r : ((Nat → Int32) × (Nat → Nat → Int32)), g_X10_seesLine I A = some r → tw_ME 226 (0, [some (.ref 44), none, none, none, none, none], [], (I, L, tw_P tw dr rt sc, A, J, 57)) (none, ((r.1), L, tw_P tw dr rt sc, (r.2), J, 57)) := by
  intro r h
  unfold g_X10_seesLine at h
  refine tw_blk (cd := tw_c226) rfl 2 (c1 := (2, [some (.ref 44), none, none, none, none, none], [.int (I 4413)], (I, L, tw_P tw dr rt sc, A, J, 57))) rfl ?_
  by_cases hc1 : (I 4413) = 0
  · rw [if_pos hc1] at h
    refine tw_br (cd := tw_c226) rfl rfl rfl (by exact if_pos hc1) ?_
    refine tw_blk (cd := tw_c226) rfl 5 (c1 := (9, [some (.ref 44), none, none, none, none, none], [.int 2, .ref 48, .int 2, .int 10], (I, L, tw_P tw dr rt sc, A, J, 57))) rfl ?_
    obtain ⟨x3, hx2, h⟩ := tw_bindE h
    refine tw_iald (cd := tw_c226) (N := 241) rfl rfl rfl rfl hx2 ?_
    refine tw_blk (cd := tw_c226) rfl 4 (c1 := (14, [some (.ref 44), some (.int ((10 : Int32) + ((2 : Int32) * x3))), none, none, none, none], [.ref 44], (I, L, tw_P tw dr rt sc, A, J, 57))) rfl ?_
    obtain ⟨⟨x4, I5, A6⟩, hx7, h⟩ := tw_bindE h
    dsimp only at h
    refine tw_callE (cd := tw_c226) rfl rfl rfl rfl rfl (e_X10_placePassed I L A J tw dr rt sc _ hx7) (by exact Or.inl rfl) ?_
    refine tw_blk (cd := tw_c226) rfl 2 (c1 := (17, [some (.ref 44), some (.int ((10 : Int32) + ((2 : Int32) * x3))), some (.int x4), none, none, none], [.ref 44], (I5, L, tw_P tw dr rt sc, A6, J, 57))) rfl ?_
    obtain ⟨⟨x8, I9⟩, hx10, h⟩ := tw_bindE h
    dsimp only at h
    refine tw_callE (cd := tw_c226) rfl rfl rfl rfl rfl (e_X10_placeHere I5 L A6 J tw dr rt sc _ hx10) (by exact Or.inl rfl) ?_
    refine tw_blk (cd := tw_c226) rfl 3 (c1 := (21, [some (.ref 44), some (.int ((10 : Int32) + ((2 : Int32) * x3))), some (.int x4), some (.int x8), none, none], [.int x8, .int x4], (I9, L, tw_P tw dr rt sc, A6, J, 57))) rfl ?_
    obtain ⟨x12, hj13, h⟩ := tw_bindE h
    have K : tw_ME 226 (25, [some (.ref 44), some (.int ((10 : Int32) + ((2 : Int32) * x3))), some (.int x4), some (.int x8), none, none], [.int x12], (I9, L, tw_P tw dr rt sc, A6, J, 57)) (none, ((r.1), L, tw_P tw dr rt sc, (r.2), J, 57)) := by
      refine tw_blk (cd := tw_c226) rfl 3 (c1 := (28, [some (.ref 44), some (.int ((10 : Int32) + ((2 : Int32) * x3))), some (.int x4), some (.int x8), some (.int x12), some (.int 0)], [], (I9, L, tw_P tw dr rt sc, A6, J, 57))) rfl ?_
      obtain ⟨x14, hx45, h⟩ := tw_bindE h
      refine g_X10_seesLine_L1_ok I L A J tw dr rt sc x3 x4 I5 A6 x8 I9 x12 _ 4096 x12 (0 : Int32) _ hx45 ?_
      refine tw_blk (cd := tw_c226) rfl 2 (c1 := (66, [some (.ref 44), some (.int ((10 : Int32) + ((2 : Int32) * x3))), some (.int x4), some (.int x8), some (.int x14), none], [.int (I9 4413)], (I9, L, tw_P tw dr rt sc, A6, J, 57))) rfl ?_
      obtain ⟨I28, hj29, h⟩ := tw_bindE h
      have K : tw_ME 226 (74, [some (.ref 44), some (.int ((10 : Int32) + ((2 : Int32) * x3))), some (.int x4), some (.int x8), none, none], [], (I28, L, tw_P tw dr rt sc, A6, J, 57)) (none, ((r.1), L, tw_P tw dr rt sc, (r.2), J, 57)) := by
        refine tw_blk (cd := tw_c226) rfl 1 (c1 := (75, [some (.ref 44), some (.int ((10 : Int32) + ((2 : Int32) * x3))), some (.int x4), some (.int x8), none, none], [.ref 44], (I28, L, tw_P tw dr rt sc, A6, J, 57))) rfl ?_
        obtain ⟨⟨I33, A34⟩, hx35, h⟩ := tw_bindE h
        dsimp only at h
        refine tw_callE (cd := tw_c226) rfl rfl rfl rfl rfl (e_X10_pass I28 L A6 J tw dr rt sc _ hx35) (by exact Or.inl rfl) ?_
        refine tw_blk (cd := tw_c226) rfl 2 (c1 := (78, [some (.ref 44), some (.int ((10 : Int32) + ((2 : Int32) * x3))), some (.int x4), some (.int x8), none, none], [.int (I33 4413)], (I33, L, tw_P tw dr rt sc, A34, J, 57))) rfl ?_
        by_cases hc36 : (I33 4413) = 0
        · rw [if_pos hc36] at h
          refine tw_br (cd := tw_c226) rfl rfl rfl (by exact if_pos hc36) ?_
          refine tw_blk (cd := tw_c226) rfl 4 (c1 := (84, [some (.ref 44), some (.int ((10 : Int32) + ((2 : Int32) * x3))), some (.int x4), some (.int x8), none, none], [.int x4, .int ((10 : Int32) + ((2 : Int32) * x3)), .ref 48], (I33, L, tw_P tw dr rt sc, A34, J, 57))) rfl ?_
          obtain ⟨w38, hx37, h⟩ := tw_bindE h
          refine tw_iast (cd := tw_c226) (N := 241) rfl rfl rfl rfl hx37 ?_
          refine tw_blk (cd := tw_c226) rfl 6 (c1 := (91, [some (.ref 44), some (.int ((10 : Int32) + ((2 : Int32) * x3))), some (.int x4), some (.int x8), none, none], [.int x8, .int (((10 : Int32) + ((2 : Int32) * x3)) + (1 : Int32)), .ref 48], (I33, L, tw_P tw dr rt sc, (va_up A34 48 w38), J, 57))) rfl ?_
          obtain ⟨w40, hx39, h⟩ := tw_bindE h
          refine tw_iast (cd := tw_c226) (N := 241) rfl rfl rfl rfl hx39 ?_
          refine tw_blk (cd := tw_c226) rfl 4 (c1 := (96, [some (.ref 44), some (.int ((10 : Int32) + ((2 : Int32) * x3))), some (.int x4), some (.int x8), none, none], [.int 2, .ref 48, .int 2, .ref 48], (I33, L, tw_P tw dr rt sc, (va_up (va_up A34 48 w38) 48 w40), J, 57))) rfl ?_
          obtain ⟨x42, hx41, h⟩ := tw_bindE h
          refine tw_iald (cd := tw_c226) (N := 241) rfl rfl rfl rfl hx41 ?_
          refine tw_blk (cd := tw_c226) rfl 2 (c1 := (99, [some (.ref 44), some (.int ((10 : Int32) + ((2 : Int32) * x3))), some (.int x4), some (.int x8), none, none], [.int (x42 + (1 : Int32)), .int 2, .ref 48], (I33, L, tw_P tw dr rt sc, (va_up (va_up A34 48 w38) 48 w40), J, 57))) rfl ?_
          obtain ⟨w44, hx43, h⟩ := tw_bindE h
          refine tw_iast (cd := tw_c226) (N := 241) rfl rfl rfl rfl hx43 ?_
          have h := Option.some.inj h
          subst h
          exact tw_retE (cd := tw_c226) rfl rfl rfl rfl
        · rw [if_neg hc36] at h
          refine tw_br (cd := tw_c226) rfl rfl rfl (by exact if_neg hc36) ?_
          have h := Option.some.inj h
          subst h
          exact tw_retE (cd := tw_c226) rfl rfl rfl rfl
      by_cases hc27 : (I9 4413) = 0
      · rw [if_pos hc27] at hj29
        refine tw_br (cd := tw_c226) rfl rfl rfl (by exact if_pos hc27) ?_
        refine tw_blk (cd := tw_c226) rfl 1 (c1 := (68, [some (.ref 44), some (.int ((10 : Int32) + ((2 : Int32) * x3))), some (.int x4), some (.int x8), some (.int x14), none], [.int x14], (I9, L, tw_P tw dr rt sc, A6, J, 57))) rfl ?_
        by_cases hc30 : x14 = 0
        · rw [if_pos hc30] at hj29
          refine tw_br (cd := tw_c226) rfl rfl rfl (by exact if_pos hc30) ?_
          refine tw_forget (ls2 := [some (.ref 44), some (.int ((10 : Int32) + ((2 : Int32) * x3))), some (.int x4), some (.int x8), none, none]) ⟨rfl, rfl, rfl, rfl, trivial⟩ ?_
          have hj29s := Option.some.inj hj29
          subst hj29s
          exact K
        · rw [if_neg hc30] at hj29
          refine tw_br (cd := tw_c226) rfl rfl rfl (by exact if_neg hc30) ?_
          refine tw_blk (cd := tw_c226) rfl 4 (c1 := (73, [some (.ref 44), some (.int ((10 : Int32) + ((2 : Int32) * x3))), some (.int x4), some (.int x8), some (.int x14), none], [.int (I9 4404), .int 3, .ref 44], (I9, L, tw_P tw dr rt sc, A6, J, 57))) rfl ?_
          obtain ⟨I31, hx32, hj29⟩ := tw_letE hj29
          refine tw_callE (cd := tw_c226) rfl rfl rfl rfl rfl (e_X10_wrong I9 L A6 J tw dr rt sc (3 : Int32) (I9 4404) _ hx32) (by exact Or.inl rfl) ?_
          refine tw_forget (ls2 := [some (.ref 44), some (.int ((10 : Int32) + ((2 : Int32) * x3))), some (.int x4), some (.int x8), none, none]) ⟨rfl, rfl, rfl, rfl, trivial⟩ ?_
          have hj29s := Option.some.inj hj29
          subst hj29s
          exact K
      · rw [if_neg hc27] at hj29
        refine tw_br (cd := tw_c226) rfl rfl rfl (by exact if_neg hc27) ?_
        refine tw_forget (ls2 := [some (.ref 44), some (.int ((10 : Int32) + ((2 : Int32) * x3))), some (.int x4), some (.int x8), none, none]) ⟨rfl, rfl, rfl, rfl, trivial⟩ ?_
        have hj29s := Option.some.inj hj29
        subst hj29s
        exact K
    by_cases hc11 : x4 = x8
    · rw [if_pos hc11] at hj13
      refine tw_br (cd := tw_c226) rfl rfl rfl (by exact if_pos hc11) ?_
      refine tw_blk (cd := tw_c226) rfl 2 (c1 := (25, [some (.ref 44), some (.int ((10 : Int32) + ((2 : Int32) * x3))), some (.int x4), some (.int x8), none, none], [.int 1], (I9, L, tw_P tw dr rt sc, A6, J, 57))) rfl ?_
      have hj13s := Option.some.inj hj13
      subst hj13s
      exact K
    · rw [if_neg hc11] at hj13
      refine tw_br (cd := tw_c226) rfl rfl rfl (by exact if_neg hc11) ?_
      refine tw_blk (cd := tw_c226) rfl 1 (c1 := (25, [some (.ref 44), some (.int ((10 : Int32) + ((2 : Int32) * x3))), some (.int x4), some (.int x8), none, none], [.int 0], (I9, L, tw_P tw dr rt sc, A6, J, 57))) rfl ?_
      have hj13s := Option.some.inj hj13
      subst hj13s
      exact K
  · rw [if_neg hc1] at h
    refine tw_br (cd := tw_c226) rfl rfl rfl (by exact if_neg hc1) ?_
    have h := Option.some.inj h
    subst h
    exact tw_retE (cd := tw_c226) rfl rfl rfl rfl
