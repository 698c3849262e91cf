/-! the machine does what the functions say -/
set_option maxRecDepth 16000
theorem e_X10_fits (I : Nat → Int32) (L : Nat → Int64) (A : Nat → Nat → Int32) (J : Nat → Nat → Int64) (tw dr : Nat) (rt : Nat) (sc : Nat) : ∀ r : (Int32 × (Nat → Int32) × (Nat → Nat → Int32)), g_X10_fits I A = some r → tw_ME 286 (0, [some (.ref 44)], [], (I, L, tw_P tw dr rt sc, A, J, 57)) (some (.int r.1), ((r.2.1), L, tw_P tw dr rt sc, (r.2.2), J, 57)) := by
  intro r h
  unfold g_X10_fits at h
  refine tw_blk (cd := tw_c286) rfl 1 (c1 := (1, [some (.ref 44)], [.ref 44], (I, L, tw_P tw dr rt sc, A, J, 57))) rfl ?_
  obtain ⟨I1, hx2, h⟩ := tw_letE h
  refine tw_callE (cd := tw_c286) rfl rfl rfl rfl rfl (e_X10_good I L A J tw dr rt sc _ hx2) (by exact Or.inl rfl) ?_
  refine tw_blk (cd := tw_c286) rfl 2 (c1 := (4, [some (.ref 44)], [.int (I1 4414)], (I1, L, tw_P tw dr rt sc, A, J, 57))) rfl ?_
  by_cases hc3 : (I1 4414) = 0
  · rw [if_pos hc3] at h
    refine tw_br (cd := tw_c286) rfl rfl rfl (by exact if_pos hc3) ?_
    refine tw_blk (cd := tw_c286) rfl 2 (c1 := (7, [some (.ref 44)], [.int 1, .ref 44], (I1, L, tw_P tw dr rt sc, A, J, 57))) rfl ?_
    obtain ⟨⟨x4, I5⟩, hx6, h⟩ := tw_letE h
    dsimp only at h
    refine tw_callE (cd := tw_c286) rfl rfl rfl rfl rfl (e_X10_no I1 L A J tw dr rt sc (1 : Int32) _ hx6) (by exact Or.inl rfl) ?_
    have h := Option.some.inj h
    subst h
    exact tw_retE (cd := tw_c286) rfl rfl rfl rfl
  · rw [if_neg hc3] at h
    refine tw_br (cd := tw_c286) rfl rfl rfl (by exact if_neg hc3) ?_
    refine tw_blk (cd := tw_c286) rfl 2 (c1 := (11, [some (.ref 44)], [.int (-1), .ref 44], (I1, L, tw_P tw dr rt sc, A, J, 57))) rfl ?_
    obtain ⟨⟨x7, I8, A9⟩, hx10, h⟩ := tw_bindE h
    dsimp only at h
    refine tw_callE (cd := tw_c286) rfl rfl rfl rfl rfl (e_X10_seekSets I1 L A J tw dr rt sc (-1 : Int32) _ hx10) (by exact Or.inl rfl) ?_
    refine tw_blk (cd := tw_c286) rfl 3 (c1 := (15, [some (.ref 44)], [.int (I8 4433)], (I8, L, tw_P tw dr rt sc, A9, J, 57))) rfl ?_
    have h := Option.some.inj h
    subst h
    exact tw_retE (cd := tw_c286) rfl rfl rfl rfl
theorem e_X9_fitAt (I : Nat → Int32) (L : Nat → Int64) (A : Nat → Nat → Int32) (J : Nat → Nat → Int64) (rt : Nat) (sc : Nat) (a1 : Int32) : ∀ r : (Int32 × (Nat → Int32) × (Nat → Nat → Int32) × Nat), g_X9_fitAt I A sc a1 = some r → tw_ME 144 (0, [some (.ref 0), some (.int a1)], [], (I, L, tw_P 2 14 rt sc, A, J, 57)) (some (.int r.1), ((r.2.1), L, tw_P 2 14 rt (r.2.2.2), (r.2.2.1), J, 57)) := by
  intro r h
  unfold g_X9_fitAt at h
  refine tw_blk (cd := tw_c144) rfl 1 (c1 := (1, [some (.ref 0), some (.int a1)], [.ref 0], (I, L, tw_P 2 14 rt sc, A, J, 57))) rfl ?_
  obtain ⟨⟨c1, I2, A3⟩, hx4, h⟩ := tw_bindE h
  dsimp only at h
  refine tw_callE (cd := tw_c144) rfl rfl rfl rfl rfl (e_X9_doubtsNow I L A J rt sc _ hx4) (by exact Or.inl rfl) ?_
  by_cases hc5 : c1 = true
  · subst hc5
    rw [if_pos rfl] at h
    refine tw_br (cd := tw_c144) rfl rfl rfl (by exact rfl) ?_
    refine tw_blk (cd := tw_c144) rfl 1 (c1 := (6, [some (.ref 0), some (.int a1)], [.int a1], (I2, L, tw_P 2 14 rt 2, A3, J, 57))) rfl ?_
    by_cases hc6 : a1 < 0
    · rw [if_pos hc6] at h
      refine tw_br (cd := tw_c144) rfl rfl rfl (by exact if_pos hc6) ?_
      refine tw_blk (cd := tw_c144) rfl 2 (c1 := (14, [some (.ref 0), some (.int a1)], [.int 1, .ref 0], (I2, L, tw_P 2 14 rt 2, A3, J, 57))) rfl ?_
      obtain ⟨⟨x7, I8⟩, hx9, h⟩ := tw_letE h
      dsimp only at h
      refine tw_callE (cd := tw_c144) rfl rfl rfl rfl rfl (e_X9_refuse I2 L A3 J 2 14 rt 2 (1 : Int32) _ hx9) (by exact Or.inl rfl) ?_
      have h := Option.some.inj h
      subst h
      exact tw_retE (cd := tw_c144) rfl rfl rfl rfl
    · rw [if_neg hc6] at h
      refine tw_br (cd := tw_c144) rfl rfl rfl (by exact if_neg hc6) ?_
      refine tw_blk (cd := tw_c144) rfl 4 (c1 := (11, [some (.ref 0), some (.int a1)], [.int (I2 4203), .int a1], (I2, L, tw_P 2 14 rt 2, A3, J, 57))) rfl ?_
      by_cases hc10 : a1 < (I2 4203)
      · rw [if_pos hc10] at h
        refine tw_br (cd := tw_c144) rfl rfl rfl (by exact if_pos hc10) ?_
        refine tw_blk (cd := tw_c144) rfl 5 (c1 := (21, [some (.ref 0), some (.int a1)], [.int a1, .ref 43, .ref 0], (I2, L, tw_P 2 14 rt 2, A3, J, 57))) rfl ?_
        refine tw_callE (cd := tw_c144) rfl rfl rfl rfl rfl (tw_e_get I2 L (tw_P 2 14 rt 2) A3 J (q := 43) (N := 16) rfl rfl (by decide) a1) (by exact Or.inl rfl) ?_
        obtain ⟨⟨x11, I12⟩, hx13, h⟩ := tw_letE h
        dsimp only at h
        refine tw_callE (cd := tw_c144) rfl rfl rfl rfl rfl (e_X9_grant I2 L A3 J 2 14 rt 2 (tw_get0 16 (A3 43) a1) _ hx13) (by exact Or.inl rfl) ?_
        have h := Option.some.inj h
        subst h
        exact tw_retE (cd := tw_c144) rfl rfl rfl rfl
      · rw [if_neg hc10] at h
        refine tw_br (cd := tw_c144) rfl rfl rfl (by exact if_neg hc10) ?_
        refine tw_blk (cd := tw_c144) rfl 2 (c1 := (14, [some (.ref 0), some (.int a1)], [.int 1, .ref 0], (I2, L, tw_P 2 14 rt 2, A3, J, 57))) rfl ?_
        obtain ⟨⟨x14, I15⟩, hx16, h⟩ := tw_letE h
        dsimp only at h
        refine tw_callE (cd := tw_c144) rfl rfl rfl rfl rfl (e_X9_refuse I2 L A3 J 2 14 rt 2 (1 : Int32) _ hx16) (by exact Or.inl rfl) ?_
        have h := Option.some.inj h
        subst h
        exact tw_retE (cd := tw_c144) rfl rfl rfl rfl
  · have hc5 := Bool.eq_false_iff.mpr hc5
    subst hc5
    rw [if_neg (by decide)] at h
    refine tw_br (cd := tw_c144) rfl rfl rfl (by exact rfl) ?_
    refine tw_blk (cd := tw_c144) rfl 1 (c1 := (4, [some (.ref 0), some (.int a1)], [.int (-1)], (I2, L, tw_P 2 14 rt sc, A3, J, 57))) rfl ?_
    have h := Option.some.inj h
    subst h
    exact tw_retE (cd := tw_c144) rfl rfl rfl rfl
theorem e_X10_fitAt (I : Nat → Int32) (L : Nat → Int64) (A : Nat → Nat → Int32) (J : Nat → Nat → Int64) (tw dr : Nat) (rt : Nat) (sc : Nat) (a1 : Int32) : ∀ r : (Int32 × (Nat → Int32) × (Nat → Nat → Int32)), g_X10_fitAt I A a1 = some r → tw_ME 287 (0, [some (.ref 44), some (.int a1), none], [], (I, L, tw_P tw dr rt sc, A, J, 57)) (some (.int r.1), ((r.2.1), L, tw_P tw dr rt sc, (r.2.2), J, 57)) := by
  intro r h
  unfold g_X10_fitAt at h
  refine tw_blk (cd := tw_c287) rfl 1 (c1 := (1, [some (.ref 44), some (.int a1), none], [.ref 44], (I, L, tw_P tw dr rt sc, A, J, 57))) rfl ?_
  obtain ⟨I1, hx2, h⟩ := tw_letE h
  refine tw_callE (cd := tw_c287) rfl rfl rfl rfl rfl (e_X10_good I L A J tw dr rt sc _ hx2) (by exact Or.inl rfl) ?_
  refine tw_blk (cd := tw_c287) rfl 2 (c1 := (4, [some (.ref 44), some (.int a1), none], [.int (I1 4414)], (I1, L, tw_P tw dr rt sc, A, J, 57))) rfl ?_
  by_cases hc3 : (I1 4414) = 0
  · rw [if_pos hc3] at h
    refine tw_br (cd := tw_c287) rfl rfl rfl (by exact if_pos hc3) ?_
    refine tw_blk (cd := tw_c287) rfl 2 (c1 := (9, [some (.ref 44), some (.int a1), none], [.int 1, .ref 44], (I1, L, tw_P tw dr rt sc, A, J, 57))) rfl ?_
    obtain ⟨⟨x4, I5⟩, hx6, h⟩ := tw_letE h
    dsimp only at h
    refine tw_callE (cd := tw_c287) rfl rfl rfl rfl rfl (e_X10_no I1 L A J tw dr rt sc (1 : Int32) _ hx6) (by exact Or.inl rfl) ?_
    have h := Option.some.inj h
    subst h
    exact tw_retE (cd := tw_c287) rfl rfl rfl rfl
  · rw [if_neg hc3] at h
    refine tw_br (cd := tw_c287) rfl rfl rfl (by exact if_neg hc3) ?_
    refine tw_blk (cd := tw_c287) rfl 1 (c1 := (6, [some (.ref 44), some (.int a1), none], [.int a1], (I1, L, tw_P tw dr rt sc, A, J, 57))) rfl ?_
    by_cases hc7 : 0 ≤ a1
    · rw [if_pos hc7] at h
      refine tw_br (cd := tw_c287) rfl rfl rfl (by exact if_pos hc7) ?_
      refine tw_blk (cd := tw_c287) rfl 2 (c1 := (13, [some (.ref 44), some (.int a1), none], [.int a1, .ref 44], (I1, L, tw_P tw dr rt sc, A, J, 57))) rfl ?_
      obtain ⟨⟨x8, I9, A10⟩, hx11, h⟩ := tw_bindE h
      dsimp only at h
      refine tw_callE (cd := tw_c287) rfl rfl rfl rfl rfl (e_X10_seekSets I1 L A J tw dr rt sc a1 _ hx11) (by exact Or.inl rfl) ?_
      refine tw_blk (cd := tw_c287) rfl 2 (c1 := (16, [some (.ref 44), some (.int a1), some (.int x8)], [.int x8], (I9, L, tw_P tw dr rt sc, A10, J, 57))) rfl ?_
      by_cases hc12 : 0 ≤ x8
      · rw [if_pos hc12] at h
        refine tw_br (cd := tw_c287) rfl rfl rfl (by exact if_pos hc12) ?_
        refine tw_blk (cd := tw_c287) rfl 1 (c1 := (22, [some (.ref 44), some (.int a1), some (.int x8)], [.int x8], (I9, L, tw_P tw dr rt sc, A10, J, 57))) rfl ?_
        have h := Option.some.inj h
        subst h
        exact tw_retE (cd := tw_c287) rfl rfl rfl rfl
      · rw [if_neg hc12] at h
        refine tw_br (cd := tw_c287) rfl rfl rfl (by exact if_neg hc12) ?_
        refine tw_blk (cd := tw_c287) rfl 2 (c1 := (19, [some (.ref 44), some (.int a1), some (.int x8)], [.int 1, .ref 44], (I9, L, tw_P tw dr rt sc, A10, J, 57))) rfl ?_
        obtain ⟨⟨x13, I14⟩, hx15, h⟩ := tw_letE h
        dsimp only at h
        refine tw_callE (cd := tw_c287) rfl rfl rfl rfl rfl (e_X10_no I9 L A10 J tw dr rt sc (1 : Int32) _ hx15) (by exact Or.inl rfl) ?_
        refine tw_blk (cd := tw_c287) rfl 1 (c1 := (22, [some (.ref 44), some (.int a1), some (.int x8)], [.int x13], (I14, L, tw_P tw dr rt sc, A10, J, 57))) rfl ?_
        have h := Option.some.inj h
        subst h
        exact tw_retE (cd := tw_c287) rfl rfl rfl rfl
    · rw [if_neg hc7] at h
      refine tw_br (cd := tw_c287) rfl rfl rfl (by exact if_neg hc7) ?_
      refine tw_blk (cd := tw_c287) rfl 2 (c1 := (9, [some (.ref 44), some (.int a1), none], [.int 1, .ref 44], (I1, L, tw_P tw dr rt sc, A, J, 57))) rfl ?_
      obtain ⟨⟨x16, I17⟩, hx18, h⟩ := tw_letE h
      dsimp only at h
      refine tw_callE (cd := tw_c287) rfl rfl rfl rfl rfl (e_X10_no I1 L A J tw dr rt sc (1 : Int32) _ hx18) (by exact Or.inl rfl) ?_
      have h := Option.some.inj h
      subst h
      exact tw_retE (cd := tw_c287) rfl rfl rfl rfl
theorem g_X2_inSome_L1_ok (I : Nat → Int32) (L : Nat → Int64) (A : Nat → Nat → Int32) (J : Nat → Nat → Int64) (tw : Nat) (dr : Nat) (rt : Nat) (out : Option Value × tw_S) : ∀ (n : Nat) (v1_1 : Int32) (v1_2 : Int32) (ex : Int32), g_X2_inSome_L1 I A n v1_1 v1_2 = some ex → tw_ME 26 (17, [none, some (.int ex), none], [], (I, L, tw_P tw dr rt 2, A, J, 57)) out → tw_ME 26 (4, [some (.ref 42), some (.int v1_1), some (.int v1_2)], [], (I, L, tw_P tw dr rt 2, A, J, 57)) out := by
  intro n
  induction n with
  | zero =>
    intro v1_1 v1_2 ex h _
    cases h
  | succ n ih =>
    intro v1_1 v1_2 ex h K
    rw [g_X2_inSome_L1] at h
    refine tw_blk (cd := tw_c26) rfl 1 (c1 := (5, [some (.ref 42), some (.int v1_1), some (.int v1_2)], [.int v1_2], (I, L, tw_P tw dr rt 2, A, J, 57))) rfl ?_
    refine tw_blk (cd := tw_c26) rfl 2 (c1 := (7, [some (.ref 42), some (.int v1_1), some (.int v1_2)], [.int (I 4203), .int v1_2], (I, L, tw_P tw dr rt 2, A, J, 57))) rfl ?_
    by_cases hc2 : (I 4203) ≤ v1_2
    · rw [if_pos hc2] at h
      refine tw_br (cd := tw_c26) rfl rfl rfl (by exact if_pos hc2) ?_
      refine tw_forget (ls2 := [none, some (.int v1_1), none]) ⟨rfl, trivial⟩ ?_
      have h := Option.some.inj h
      subst h
      exact K
    · rw [if_neg hc2] at h
      refine tw_br (cd := tw_c26) rfl rfl rfl (by exact if_neg hc2) ?_
      refine tw_blk (cd := tw_c26) rfl 4 (c1 := (12, [some (.ref 42), some (.int v1_1), some (.int v1_2)], [.int v1_2, .ref 43, .int v1_1], (I, L, tw_P tw dr rt 2, A, J, 57))) rfl ?_
      refine tw_callE (cd := tw_c26) rfl rfl rfl rfl rfl (tw_e_get I L (tw_P tw dr rt 2) A J (q := 43) (N := 16) rfl rfl (by decide) v1_2) (by exact Or.inl rfl) ?_
      refine tw_blk (cd := tw_c26) rfl 4 (c1 := (4, [some (.ref 42), some (.int (v1_1 ||| (tw_get0 16 (A 43) v1_2))), some (.int (v1_2 + (1 : Int32)))], [], (I, L, tw_P tw dr rt 2, A, J, 57))) rfl ?_
      exact ih (v1_1 ||| (tw_get0 16 (A 43) v1_2)) (v1_2 + (1 : Int32)) _ h K
theorem e_X2_inSome (I : Nat → Int32) (L : Nat → Int64) (A : Nat → Nat → Int32) (J : Nat → Nat → Int64) (tw dr : Nat) (rt : Nat) : ∀ r : Int32, g_X2_inSome I A = some r → tw_ME 26 (0, [some (.ref 42), none, none], [], (I, L, tw_P tw dr rt 2, A, J, 57)) (some (.int r), (I, L, tw_P tw dr rt 2, A, J, 57)) := by
  intro r h
  unfold g_X2_inSome at h
  refine tw_blk (cd := tw_c26) rfl 4 (c1 := (4, [some (.ref 42), some (.int 0), some (.int 0)], [], (I, L, tw_P tw dr rt 2, A, J, 57))) rfl ?_
  obtain ⟨x1, hx3, h⟩ := tw_bindE h
  refine g_X2_inSome_L1_ok I L A J tw dr rt _ 4096 (0 : Int32) (0 : Int32) _ hx3 ?_
  refine tw_blk (cd := tw_c26) rfl 1 (c1 := (18, [none, some (.int x1), none], [.int x1], (I, L, tw_P tw dr rt 2, A, J, 57))) rfl ?_
  have h := Option.some.inj h
  subst h
  exact tw_retE (cd := tw_c26) rfl rfl rfl rfl
theorem e_X9_could (I : Nat → Int32) (L : Nat → Int64) (A : Nat → Nat → Int32) (J : Nat → Nat → Int64) (rt : Nat) (sc : Nat) : ∀ r : (Int32 × (Nat → Int32) × (Nat → Nat → Int32) × Nat), g_X9_could I A sc = some r → tw_ME 145 (0, [some (.ref 0)], [], (I, L, tw_P 2 14 rt sc, A, J, 57)) (some (.int r.1), ((r.2.1), L, tw_P 2 14 rt (r.2.2.2), (r.2.2.1), J, 57)) := by
  intro r h
  unfold g_X9_could at h
  refine tw_blk (cd := tw_c145) rfl 1 (c1 := (1, [some (.ref 0)], [.ref 0], (I, L, tw_P 2 14 rt sc, A, J, 57))) rfl ?_
  obtain ⟨⟨c1, I2, A3⟩, hx4, h⟩ := tw_bindE h
  dsimp only at h
  refine tw_callE (cd := tw_c145) rfl rfl rfl rfl rfl (e_X9_doubtsNow I L A J rt sc _ hx4) (by exact Or.inl rfl) ?_
  by_cases hc5 : c1 = true
  · subst hc5
    rw [if_pos rfl] at h
    refine tw_br (cd := tw_c145) rfl rfl rfl (by exact rfl) ?_
    refine tw_blk (cd := tw_c145) rfl 3 (c1 := (6, [some (.ref 0)], [.ref 42, .ref 0], (I2, L, tw_P 2 14 rt 2, A3, J, 57))) rfl ?_
    obtain ⟨x6, hx7, h⟩ := tw_bindE h
    refine tw_callE (cd := tw_c145) rfl rfl rfl rfl rfl (e_X2_inSome I2 L A3 J 2 14 rt _ hx7) (by exact Or.inl rfl) ?_
    obtain ⟨⟨x8, I9⟩, hx10, h⟩ := tw_letE h
    dsimp only at h
    refine tw_callE (cd := tw_c145) rfl rfl rfl rfl rfl (e_X9_grant I2 L A3 J 2 14 rt 2 x6 _ hx10) (by exact Or.inl rfl) ?_
    refine tw_blk (cd := tw_c145) rfl 1 (c1 := (10, [some (.ref 0)], [.int x8], (I9, L, tw_P 2 14 rt 2, A3, J, 57))) rfl ?_
    have h := Option.some.inj h
    subst h
    exact tw_retE (cd := tw_c145) rfl rfl rfl rfl
  · have hc5 := Bool.eq_false_iff.mpr hc5
    subst hc5
    rw [if_neg (by decide)] at h
    refine tw_br (cd := tw_c145) rfl rfl rfl (by exact rfl) ?_
    refine tw_blk (cd := tw_c145) rfl 1 (c1 := (10, [some (.ref 0)], [.int (-1)], (I2, L, tw_P 2 14 rt sc, A3, J, 57))) rfl ?_
    have h := Option.some.inj h
    subst h
    exact tw_retE (cd := tw_c145) rfl rfl rfl rfl
theorem e_X10_could (I : Nat → Int32) (L : Nat → Int64) (A : Nat → Nat → Int32) (J : Nat → Nat → Int64) (tw dr : Nat) (rt : Nat) (sc : Nat) : ∀ r : (Int32 × (Nat → Int32) × (Nat → Nat → Int32)), g_X10_could I A = some r → tw_ME 288 (0, [some (.ref 44)], [], (I, L, tw_P tw dr rt sc, A, J, 57)) (some (.int r.1), ((r.2.1), L, tw_P tw dr rt sc, (r.2.2), J, 57)) := by
  intro r h
  unfold g_X10_could at h
  refine tw_blk (cd := tw_c288) rfl 1 (c1 := (1, [some (.ref 44)], [.ref 44], (I, L, tw_P tw dr rt sc, A, J, 57))) rfl ?_
  obtain ⟨I1, hx2, h⟩ := tw_letE h
  refine tw_callE (cd := tw_c288) rfl rfl rfl rfl rfl (e_X10_good I L A J tw dr rt sc _ hx2) (by exact Or.inl rfl) ?_
  refine tw_blk (cd := tw_c288) rfl 2 (c1 := (4, [some (.ref 44)], [.int (I1 4414)], (I1, L, tw_P tw dr rt sc, A, J, 57))) rfl ?_
  by_cases hc3 : (I1 4414) = 0
  · rw [if_pos hc3] at h
    refine tw_br (cd := tw_c288) rfl rfl rfl (by exact if_pos hc3) ?_
    refine tw_blk (cd := tw_c288) rfl 2 (c1 := (7, [some (.ref 44)], [.int 1, .ref 44], (I1, L, tw_P tw dr rt sc, A, J, 57))) rfl ?_
    obtain ⟨⟨x4, I5⟩, hx6, h⟩ := tw_letE h
    dsimp only at h
    refine tw_callE (cd := tw_c288) rfl rfl rfl rfl rfl (e_X10_no I1 L A J tw dr rt sc (1 : Int32) _ hx6) (by exact Or.inl rfl) ?_
    have h := Option.some.inj h
    subst h
    exact tw_retE (cd := tw_c288) rfl rfl rfl rfl
  · rw [if_neg hc3] at h
    refine tw_br (cd := tw_c288) rfl rfl rfl (by exact if_neg hc3) ?_
    refine tw_blk (cd := tw_c288) rfl 2 (c1 := (11, [some (.ref 44)], [.int (-1), .ref 44], (I1, L, tw_P tw dr rt sc, A, J, 57))) rfl ?_
    obtain ⟨⟨x7, I8, A9⟩, hx10, h⟩ := tw_bindE h
    dsimp only at h
    refine tw_callE (cd := tw_c288) rfl rfl rfl rfl rfl (e_X10_seekSets I1 L A J tw dr rt sc (-1 : Int32) _ hx10) (by exact Or.inl rfl) ?_
    refine tw_blk (cd := tw_c288) rfl 3 (c1 := (15, [some (.ref 44)], [.int (I8 4434)], (I8, L, tw_P tw dr rt sc, A9, J, 57))) rfl ?_
    have h := Option.some.inj h
    subst h
    exact tw_retE (cd := tw_c288) rfl rfl rfl rfl
theorem g_X2_inAll_L1_ok (I : Nat → Int32) (L : Nat → Int64) (A : Nat → Nat → Int32) (J : Nat → Nat → Int64) (tw : Nat) (dr : Nat) (rt : Nat) (x2 : Int32) (out : Option Value × tw_S) : ∀ (n : Nat) (v1_1 : Int32) (v1_2 : Int32) (ex : Int32), g_X2_inAll_L1 I A n v1_1 v1_2 = some ex → tw_ME 27 (22, [none, some (.int ex), none], [], (I, L, tw_P tw dr rt 2, A, J, 57)) out → tw_ME 27 (9, [some (.ref 42), some (.int v1_1), some (.int v1_2)], [], (I, L, tw_P tw dr rt 2, A, J, 57)) out := by
  intro n
  induction n with
  | zero =>
    intro v1_1 v1_2 ex h _
    cases h
  | succ n ih =>
    intro v1_1 v1_2 ex h K
    rw [g_X2_inAll_L1] at h
    refine tw_blk (cd := tw_c27) rfl 1 (c1 := (10, [some (.ref 42), some (.int v1_1), some (.int v1_2)], [.int v1_2], (I, L, tw_P tw dr rt 2, A, J, 57))) rfl ?_
    refine tw_blk (cd := tw_c27) rfl 2 (c1 := (12, [some (.ref 42), some (.int v1_1), some (.int v1_2)], [.int (I 4203), .int v1_2], (I, L, tw_P tw dr rt 2, A, J, 57))) rfl ?_
    by_cases hc5 : (I 4203) ≤ v1_2
    · rw [if_pos hc5] at h
      refine tw_br (cd := tw_c27) rfl rfl rfl (by exact if_pos hc5) ?_
      refine tw_forget (ls2 := [none, some (.int v1_1), none]) ⟨rfl, trivial⟩ ?_
      have h := Option.some.inj h
      subst h
      exact K
    · rw [if_neg hc5] at h
      refine tw_br (cd := tw_c27) rfl rfl rfl (by exact if_neg hc5) ?_
      refine tw_blk (cd := tw_c27) rfl 4 (c1 := (17, [some (.ref 42), some (.int v1_1), some (.int v1_2)], [.int v1_2, .ref 43, .int v1_1], (I, L, tw_P tw dr rt 2, A, J, 57))) rfl ?_
      refine tw_callE (cd := tw_c27) rfl rfl rfl rfl rfl (tw_e_get I L (tw_P tw dr rt 2) A J (q := 43) (N := 16) rfl rfl (by decide) v1_2) (by exact Or.inl rfl) ?_
      refine tw_blk (cd := tw_c27) rfl 4 (c1 := (9, [some (.ref 42), some (.int (v1_1 &&& (tw_get0 16 (A 43) v1_2))), some (.int (v1_2 + (1 : Int32)))], [], (I, L, tw_P tw dr rt 2, A, J, 57))) rfl ?_
      exact ih (v1_1 &&& (tw_get0 16 (A 43) v1_2)) (v1_2 + (1 : Int32)) _ h K
theorem e_X2_inAll (I : Nat → Int32) (L : Nat → Int64) (A : Nat → Nat → Int32) (J : Nat → Nat → Int64) (tw dr : Nat) (rt : Nat) : ∀ r : Int32, g_X2_inAll I A = some r → tw_ME 27 (0, [some (.ref 42), none, none], [], (I, L, tw_P tw dr rt 2, A, J, 57)) (some (.int r), (I, L, tw_P tw dr rt 2, A, J, 57)) := by
  intro r h
  unfold g_X2_inAll at h
  refine tw_blk (cd := tw_c27) rfl 2 (c1 := (2, [some (.ref 42), none, none], [.int (I 4203)], (I, L, tw_P tw dr rt 2, A, J, 57))) rfl ?_
  obtain ⟨x2, hj3, h⟩ := tw_bindE h
  have K : tw_ME 27 (6, [some (.ref 42), none, none], [.int x2], (I, L, tw_P tw dr rt 2, A, J, 57)) (some (.int r), (I, L, tw_P tw dr rt 2, A, J, 57)) := by
    refine tw_blk (cd := tw_c27) rfl 3 (c1 := (9, [some (.ref 42), some (.int x2), some (.int 0)], [], (I, L, tw_P tw dr rt 2, A, J, 57))) rfl ?_
    obtain ⟨x4, hx6, h⟩ := tw_bindE h
    refine g_X2_inAll_L1_ok I L A J tw dr rt x2 _ 4096 x2 (0 : Int32) _ hx6 ?_
    refine tw_blk (cd := tw_c27) rfl 1 (c1 := (23, [none, some (.int x4), none], [.int x4], (I, L, tw_P tw dr rt 2, A, J, 57))) rfl ?_
    have h := Option.some.inj h
    subst h
    exact tw_retE (cd := tw_c27) rfl rfl rfl rfl
  by_cases hc1 : (I 4203) ≤ 0
  · rw [if_pos hc1] at hj3
    refine tw_br (cd := tw_c27) rfl rfl rfl (by exact if_pos hc1) ?_
    refine tw_blk (cd := tw_c27) rfl 1 (c1 := (6, [some (.ref 42), none, none], [.int 0], (I, L, tw_P tw dr rt 2, A, J, 57))) rfl ?_
    have hj3s := Option.some.inj hj3
    subst hj3s
    exact K
  · rw [if_neg hc1] at hj3
    refine tw_br (cd := tw_c27) rfl rfl rfl (by exact if_neg hc1) ?_
    refine tw_blk (cd := tw_c27) rfl 2 (c1 := (6, [some (.ref 42), none, none], [.int 15], (I, L, tw_P tw dr rt 2, A, J, 57))) rfl ?_
    have hj3s := Option.some.inj hj3
    subst hj3s
    exact K
theorem e_X9_surely (I : Nat → Int32) (L : Nat → Int64) (A : Nat → Nat → Int32) (J : Nat → Nat → Int64) (rt : Nat) (sc : Nat) : ∀ r : (Int32 × (Nat → Int32) × (Nat → Nat → Int32) × Nat), g_X9_surely I A sc = some r → tw_ME 146 (0, [some (.ref 0)], [], (I, L, tw_P 2 14 rt sc, A, J, 57)) (some (.int r.1), ((r.2.1), L, tw_P 2 14 rt (r.2.2.2), (r.2.2.1), J, 57)) := by
  intro r h
  unfold g_X9_surely at h
  refine tw_blk (cd := tw_c146) rfl 1 (c1 := (1, [some (.ref 0)], [.ref 0], (I, L, tw_P 2 14 rt sc, A, J, 57))) rfl ?_
  obtain ⟨⟨c1, I2, A3⟩, hx4, h⟩ := tw_bindE h
  dsimp only at h
  refine tw_callE (cd := tw_c146) rfl rfl rfl rfl rfl (e_X9_doubtsNow I L A J rt sc _ hx4) (by exact Or.inl rfl) ?_
  by_cases hc5 : c1 = true
  · subst hc5
    rw [if_pos rfl] at h
    refine tw_br (cd := tw_c146) rfl rfl rfl (by exact rfl) ?_
    refine tw_blk (cd := tw_c146) rfl 3 (c1 := (6, [some (.ref 0)], [.ref 42, .ref 0], (I2, L, tw_P 2 14 rt 2, A3, J, 57))) rfl ?_
    obtain ⟨x6, hx7, h⟩ := tw_bindE h
    refine tw_callE (cd := tw_c146) rfl rfl rfl rfl rfl (e_X2_inAll I2 L A3 J 2 14 rt _ hx7) (by exact Or.inl rfl) ?_
    obtain ⟨⟨x8, I9⟩, hx10, h⟩ := tw_letE h
    dsimp only at h
    refine tw_callE (cd := tw_c146) rfl rfl rfl rfl rfl (e_X9_grant I2 L A3 J 2 14 rt 2 x6 _ hx10) (by exact Or.inl rfl) ?_
    refine tw_blk (cd := tw_c146) rfl 1 (c1 := (10, [some (.ref 0)], [.int x8], (I9, L, tw_P 2 14 rt 2, A3, J, 57))) rfl ?_
    have h := Option.some.inj h
    subst h
    exact tw_retE (cd := tw_c146) rfl rfl rfl rfl
  · have hc5 := Bool.eq_false_iff.mpr hc5
    subst hc5
    rw [if_neg (by decide)] at h
    refine tw_br (cd := tw_c146) rfl rfl rfl (by exact rfl) ?_
    refine tw_blk (cd := tw_c146) rfl 1 (c1 := (10, [some (.ref 0)], [.int (-1)], (I2, L, tw_P 2 14 rt sc, A3, J, 57))) rfl ?_
    have h := Option.some.inj h
    subst h
    exact tw_retE (cd := tw_c146) rfl rfl rfl rfl
theorem e_X10_surely (I : Nat → Int32) (L : Nat → Int64) (A : Nat → Nat → Int32) (J : Nat → Nat → Int64) (tw dr : Nat) (rt : Nat) (sc : Nat) : ∀ r : (Int32 × (Nat → Int32) × (Nat → Nat → Int32)), g_X10_surely I A = some r → tw_ME 289 (0, [some (.ref 44)], [], (I, L, tw_P tw dr rt sc, A, J, 57)) (some (.int r.1), ((r.2.1), L, tw_P tw dr rt sc, (r.2.2), J, 57)) := by
  intro r h
  unfold g_X10_surely at h
  refine tw_blk (cd := tw_c289) rfl 1 (c1 := (1, [some (.ref 44)], [.ref 44], (I, L, tw_P tw dr rt sc, A, J, 57))) rfl ?_
  obtain ⟨I1, hx2, h⟩ := tw_letE h
  refine tw_callE (cd := tw_c289) rfl rfl rfl rfl rfl (e_X10_good I L A J tw dr rt sc _ hx2) (by exact Or.inl rfl) ?_
  refine tw_blk (cd := tw_c289) rfl 2 (c1 := (4, [some (.ref 44)], [.int (I1 4414)], (I1, L, tw_P tw dr rt sc, A, J, 57))) rfl ?_
  by_cases hc3 : (I1 4414) = 0
  · rw [if_pos hc3] at h
    refine tw_br (cd := tw_c289) rfl rfl rfl (by exact if_pos hc3) ?_
    refine tw_blk (cd := tw_c289) rfl 2 (c1 := (7, [some (.ref 44)], [.int 1, .ref 44], (I1, L, tw_P tw dr rt sc, A, J, 57))) rfl ?_
    obtain ⟨⟨x4, I5⟩, hx6, h⟩ := tw_letE h
    dsimp only at h
    refine tw_callE (cd := tw_c289) rfl rfl rfl rfl rfl (e_X10_no I1 L A J tw dr rt sc (1 : Int32) _ hx6) (by exact Or.inl rfl) ?_
    have h := Option.some.inj h
    subst h
    exact tw_retE (cd := tw_c289) rfl rfl rfl rfl
  · rw [if_neg hc3] at h
    refine tw_br (cd := tw_c289) rfl rfl rfl (by exact if_neg hc3) ?_
    refine tw_blk (cd := tw_c289) rfl 2 (c1 := (11, [some (.ref 44)], [.int (-1), .ref 44], (I1, L, tw_P tw dr rt sc, A, J, 57))) rfl ?_
    obtain ⟨⟨x7, I8, A9⟩, hx10, h⟩ := tw_bindE h
    dsimp only at h
    refine tw_callE (cd := tw_c289) rfl rfl rfl rfl rfl (e_X10_seekSets I1 L A J tw dr rt sc (-1 : Int32) _ hx10) (by exact Or.inl rfl) ?_
    refine tw_blk (cd := tw_c289) rfl 3 (c1 := (15, [some (.ref 44)], [.int (I8 4435)], (I8, L, tw_P tw dr rt sc, A9, J, 57))) rfl ?_
    have h := Option.some.inj h
    subst h
    exact tw_retE (cd := tw_c289) rfl rfl rfl rfl
theorem g_X2_leftBy_L1_ok (I : Nat → Int32) (L : Nat → Int64) (A : Nat → Nat → Int32) (J : Nat → Nat → Int64) (tw : Nat) (dr : Nat) (rt : Nat) (a1 : Int32) (out : Option Value × tw_S) : ∀ (n : Nat) (v1_2 : Int32) (v1_3 : Int32) (ex : Int32), g_X2_leftBy_L1 I A a1 n v1_2 v1_3 = some ex → tw_ME 29 (21, [some (.ref 42), none, some (.int ex), none], [], (I, L, tw_P tw dr rt 2, A, J, 57)) out → tw_ME 29 (4, [some (.ref 42), some (.int a1), some (.int v1_2), some (.int v1_3)], [], (I, L, tw_P tw dr rt 2, A, J, 57)) out := by
  intro n
  induction n with
  | zero =>
    intro v1_2 v1_3 ex h _
    cases h
  | succ n ih =>
    intro v1_2 v1_3 ex h K
    rw [g_X2_leftBy_L1] at h
    refine tw_blk (cd := tw_c29) rfl 1 (c1 := (5, [some (.ref 42), some (.int a1), some (.int v1_2), some (.int v1_3)], [.int v1_3], (I, L, tw_P tw dr rt 2, A, J, 57))) rfl ?_
    refine tw_blk (cd := tw_c29) rfl 2 (c1 := (7, [some (.ref 42), some (.int a1), some (.int v1_2), some (.int v1_3)], [.int (I 4203), .int v1_3], (I, L, tw_P tw dr rt 2, A, J, 57))) rfl ?_
    by_cases hc2 : (I 4203) ≤ v1_3
    · rw [if_pos hc2] at h
      refine tw_br (cd := tw_c29) rfl rfl rfl (by exact if_pos hc2) ?_
      refine tw_forget (ls2 := [some (.ref 42), none, some (.int v1_2), none]) ⟨rfl, rfl, trivial⟩ ?_
      have h := Option.some.inj h
      subst h
      exact K
    · rw [if_neg hc2] at h
      refine tw_br (cd := tw_c29) rfl rfl rfl (by exact if_neg hc2) ?_
      refine tw_blk (cd := tw_c29) rfl 4 (c1 := (12, [some (.ref 42), some (.int a1), some (.int v1_2), some (.int v1_3)], [.int v1_3, .ref 43, .int v1_2], (I, L, tw_P tw dr rt 2, A, J, 57))) rfl ?_
      refine tw_callE (cd := tw_c29) rfl rfl rfl rfl rfl (tw_e_get I L (tw_P tw dr rt 2) A J (q := 43) (N := 16) rfl rfl (by decide) v1_3) (by exact Or.inl rfl) ?_
      refine tw_blk (cd := tw_c29) rfl 8 (c1 := (4, [some (.ref 42), some (.int a1), some (.int (v1_2 + (((tw_get0 16 (A 43) v1_3) >>> (a1 &&& 31)) &&& (1 : Int32)))), some (.int (v1_3 + (1 : Int32)))], [], (I, L, tw_P tw dr rt 2, A, J, 57))) rfl ?_
      exact ih (v1_2 + (((tw_get0 16 (A 43) v1_3) >>> (a1 &&& 31)) &&& (1 : Int32))) (v1_3 + (1 : Int32)) _ h K
theorem e_X2_leftBy (I : Nat → Int32) (L : Nat → Int64) (A : Nat → Nat → Int32) (J : Nat → Nat → Int64) (tw dr : Nat) (rt : Nat) (a1 : Int32) : ∀ r : Int32, g_X2_leftBy I A a1 = some r → tw_ME 29 (0, [some (.ref 42), some (.int a1), none, none], [], (I, L, tw_P tw dr rt 2, A, J, 57)) (some (.int r), (I, L, tw_P tw dr rt 2, A, J, 57)) := by
  intro r h
  unfold g_X2_leftBy at h
  refine tw_blk (cd := tw_c29) rfl 4 (c1 := (4, [some (.ref 42), some (.int a1), some (.int 0), some (.int 0)], [], (I, L, tw_P tw dr rt 2, A, J, 57))) rfl ?_
  obtain ⟨x1, hx3, h⟩ := tw_bindE h
  refine g_X2_leftBy_L1_ok I L A J tw dr rt a1 _ 4096 (0 : Int32) (0 : Int32) _ hx3 ?_
  refine tw_blk (cd := tw_c29) rfl 5 (c1 := (26, [some (.ref 42), none, some (.int x1), none], [.int ((I 4203) - x1), .int x1], (I, L, tw_P tw dr rt 2, A, J, 57))) rfl ?_
  refine tw_mmax (cd := tw_c29) rfl rfl rfl ?_
  have h := Option.some.inj h
  subst h
  exact tw_retE (cd := tw_c29) rfl rfl rfl rfl
theorem g_X2_whomToAsk_L1_ok (I : Nat → Int32) (L : Nat → Int64) (A : Nat → Nat → Int32) (J : Nat → Nat → Int64) (tw : Nat) (dr : Nat) (rt : Nat) (out : Option Value × tw_S) : ∀ (n : Nat) (v1_1 : Int32) (v1_2 : Int32) (v1_3 : Int32) (ex : Int32), g_X2_whomToAsk_L1 I A n v1_1 v1_2 v1_3 = some ex → tw_ME 28 (32, [none, some (.int ex), none, none], [], (I, L, tw_P tw dr rt 2, A, J, 57)) out → tw_ME 28 (9, [some (.ref 42), some (.int v1_1), some (.int v1_2), some (.int v1_3)], [], (I, L, tw_P tw dr rt 2, A, J, 57)) out := by
  intro n
  induction n with
  | zero =>
    intro v1_1 v1_2 v1_3 ex h _
    cases h
  | succ n ih =>
    intro v1_1 v1_2 v1_3 ex h K
    rw [g_X2_whomToAsk_L1] at h
    refine tw_blk (cd := tw_c28) rfl 1 (c1 := (10, [some (.ref 42), some (.int v1_1), some (.int v1_2), some (.int v1_3)], [.int v1_3], (I, L, tw_P tw dr rt 2, A, J, 57))) rfl ?_
    refine tw_blk (cd := tw_c28) rfl 4 (c1 := (14, [some (.ref 42), some (.int v1_1), some (.int v1_2), some (.int v1_3)], [.int 7, .ref 2, .int v1_3], (I, L, tw_P tw dr rt 2, A, J, 57))) rfl ?_
    refine tw_callE (cd := tw_c28) rfl rfl rfl rfl rfl (e_X8_count_2 I L A J tw dr rt 2 (7 : Int32) _ rfl) (by exact Or.inl rfl) ?_
    by_cases hc2 : (g_X8_count_2 A (7 : Int32)) ≤ v1_3
    · rw [if_pos hc2] at h
      refine tw_br (cd := tw_c28) rfl rfl rfl (by exact if_pos hc2) ?_
      refine tw_forget (ls2 := [none, some (.int v1_1), none, none]) ⟨rfl, trivial⟩ ?_
      have h := Option.some.inj h
      subst h
      exact K
    · rw [if_neg hc2] at h
      refine tw_br (cd := tw_c28) rfl rfl rfl (by exact if_neg hc2) ?_
      refine tw_blk (cd := tw_c28) rfl 2 (c1 := (18, [some (.ref 42), some (.int v1_1), some (.int v1_2), some (.int v1_3)], [.int (I 4203)], (I, L, tw_P tw dr rt 2, A, J, 57))) rfl ?_
      by_cases hc3 : (I 4203) ≤ 0
      · rw [if_pos hc3] at h
        refine tw_br (cd := tw_c28) rfl rfl rfl (by exact if_pos hc3) ?_
        refine tw_forget (ls2 := [none, some (.int v1_1), none, none]) ⟨rfl, trivial⟩ ?_
        have h := Option.some.inj h
        subst h
        exact K
      · rw [if_neg hc3] at h
        refine tw_br (cd := tw_c28) rfl rfl rfl (by exact if_neg hc3) ?_
        refine tw_blk (cd := tw_c28) rfl 2 (c1 := (21, [some (.ref 42), some (.int v1_1), some (.int v1_2), some (.int v1_3)], [.int v1_3, .ref 42], (I, L, tw_P tw dr rt 2, A, J, 57))) rfl ?_
        obtain ⟨x4, hx5, h⟩ := tw_bindE h
        refine tw_callE (cd := tw_c28) rfl rfl rfl rfl rfl (e_X2_leftBy I L A J tw dr rt v1_3 _ hx5) (by exact Or.inl rfl) ?_
        refine tw_blk (cd := tw_c28) rfl 1 (c1 := (23, [some (.ref 42), some (.int v1_1), some (.int v1_2), some (.int v1_3)], [.int v1_2, .int x4], (I, L, tw_P tw dr rt 2, A, J, 57))) rfl ?_
        obtain ⟨⟨x7, x8⟩, hj9, h⟩ := tw_bindE h
        dsimp only at h
        have K : tw_ME 28 (30, [some (.ref 42), some (.int x7), some (.int x8), some (.int v1_3)], [], (I, L, tw_P tw dr rt 2, A, J, 57)) out := by
          refine tw_blk (cd := tw_c28) rfl 2 (c1 := (9, [some (.ref 42), some (.int x7), some (.int x8), some (.int (v1_3 + (1 : Int32)))], [], (I, L, tw_P tw dr rt 2, A, J, 57))) rfl ?_
          exact ih x7 x8 (v1_3 + (1 : Int32)) _ h K
        by_cases hc6 : v1_2 ≤ x4
        · rw [if_pos hc6] at hj9
          refine tw_br (cd := tw_c28) rfl rfl rfl (by exact if_pos hc6) ?_
          have hj9s := Option.some.inj hj9
          obtain ⟨hj9_0, hj9r0⟩ := Prod.mk.inj hj9s
          subst hj9_0
          subst hj9r0
          exact K
        · rw [if_neg hc6] at hj9
          refine tw_br (cd := tw_c28) rfl rfl rfl (by exact if_neg hc6) ?_
          refine tw_blk (cd := tw_c28) rfl 2 (c1 := (26, [some (.ref 42), some (.int v1_1), some (.int v1_2), some (.int v1_3)], [.int v1_3, .ref 42], (I, L, tw_P tw dr rt 2, A, J, 57))) rfl ?_
          obtain ⟨x10, hx11, hj9⟩ := tw_bindE hj9
          refine tw_callE (cd := tw_c28) rfl rfl rfl rfl rfl (e_X2_leftBy I L A J tw dr rt v1_3 _ hx11) (by exact Or.inl rfl) ?_
          refine tw_blk (cd := tw_c28) rfl 3 (c1 := (30, [some (.ref 42), some (.int v1_3), some (.int x10), some (.int v1_3)], [], (I, L, tw_P tw dr rt 2, A, J, 57))) rfl ?_
          have hj9s := Option.some.inj hj9
          obtain ⟨hj9_0, hj9r0⟩ := Prod.mk.inj hj9s
          subst hj9_0
          subst hj9r0
          exact K
theorem e_X2_whomToAsk (I : Nat → Int32) (L : Nat → Int64) (A : Nat → Nat → Int32) (J : Nat → Nat → Int64) (tw dr : Nat) (rt : Nat) : ∀ r : Int32, g_X2_whomToAsk I A = some r → tw_ME 28 (0, [some (.ref 42), none, none, none], [], (I, L, tw_P tw dr rt 2, A, J, 57)) (some (.int r), (I, L, tw_P tw dr rt 2, A, J, 57)) := by
  intro r h
  unfold g_X2_whomToAsk at h
  refine tw_blk (cd := tw_c28) rfl 9 (c1 := (9, [some (.ref 42), some (.int (-2)), some (.int ((I 4203) + (1 : Int32))), some (.int 0)], [], (I, L, tw_P tw dr rt 2, A, J, 57))) rfl ?_
  obtain ⟨x1, hx12, h⟩ := tw_bindE h
  refine g_X2_whomToAsk_L1_ok I L A J tw dr rt _ 4096 (-2 : Int32) ((I 4203) + (1 : Int32)) (0 : Int32) _ hx12 ?_
  refine tw_blk (cd := tw_c28) rfl 1 (c1 := (33, [none, some (.int x1), none, none], [.int x1], (I, L, tw_P tw dr rt 2, A, J, 57))) rfl ?_
  have h := Option.some.inj h
  subst h
  exact tw_retE (cd := tw_c28) rfl rfl rfl rfl
theorem e_X9_ask (I : Nat → Int32) (L : Nat → Int64) (A : Nat → Nat → Int32) (J : Nat → Nat → Int64) (rt : Nat) (sc : Nat) : ∀ r : (Int32 × (Nat → Int32) × (Nat → Nat → Int32) × Nat), g_X9_ask I A sc = some r → tw_ME 147 (0, [some (.ref 0)], [], (I, L, tw_P 2 14 rt sc, A, J, 57)) (some (.int r.1), ((r.2.1), L, tw_P 2 14 rt (r.2.2.2), (r.2.2.1), J, 57)) := by
  intro r h
  unfold g_X9_ask at h
  refine tw_blk (cd := tw_c147) rfl 1 (c1 := (1, [some (.ref 0)], [.ref 0], (I, L, tw_P 2 14 rt sc, A, J, 57))) rfl ?_
  obtain ⟨⟨c1, I2, A3⟩, hx4, h⟩ := tw_bindE h
  dsimp only at h
  refine tw_callE (cd := tw_c147) rfl rfl rfl rfl rfl (e_X9_doubtsNow I L A J rt sc _ hx4) (by exact Or.inl rfl) ?_
  by_cases hc5 : c1 = true
  · subst hc5
    rw [if_pos rfl] at h
    refine tw_br (cd := tw_c147) rfl rfl rfl (by exact rfl) ?_
    refine tw_blk (cd := tw_c147) rfl 3 (c1 := (6, [some (.ref 0)], [.ref 42, .ref 0], (I2, L, tw_P 2 14 rt 2, A3, J, 57))) rfl ?_
    obtain ⟨x6, hx7, h⟩ := tw_bindE h
    refine tw_callE (cd := tw_c147) rfl rfl rfl rfl rfl (e_X2_whomToAsk I2 L A3 J 2 14 rt _ hx7) (by exact Or.inl rfl) ?_
    obtain ⟨⟨x8, I9⟩, hx10, h⟩ := tw_letE h
    dsimp only at h
    refine tw_callE (cd := tw_c147) rfl rfl rfl rfl rfl (e_X9_grant I2 L A3 J 2 14 rt 2 x6 _ hx10) (by exact Or.inl rfl) ?_
    refine tw_blk (cd := tw_c147) rfl 1 (c1 := (10, [some (.ref 0)], [.int x8], (I9, L, tw_P 2 14 rt 2, A3, J, 57))) rfl ?_
    have h := Option.some.inj h
    subst h
    exact tw_retE (cd := tw_c147) rfl rfl rfl rfl
  · have hc5 := Bool.eq_false_iff.mpr hc5
    subst hc5
    rw [if_neg (by decide)] at h
    refine tw_br (cd := tw_c147) rfl rfl rfl (by exact rfl) ?_
    refine tw_blk (cd := tw_c147) rfl 1 (c1 := (10, [some (.ref 0)], [.int (-1)], (I2, L, tw_P 2 14 rt sc, A3, J, 57))) rfl ?_
    have h := Option.some.inj h
    subst h
    exact tw_retE (cd := tw_c147) rfl rfl rfl rfl
theorem e_X10_leavesOf (I : Nat → Int32) (L : Nat → Int64) (A : Nat → Nat → Int32) (J : Nat → Nat → Int64) (tw dr : Nat) (rt : Nat) (sc : Nat) (a1 : Int32) : ∀ r : Int32, g_X10_leavesOf I A a1 = some r → tw_ME 290 (0, [some (.ref 44), some (.int a1)], [], (I, L, tw_P tw dr rt sc, A, J, 57)) (some (.int r), (I, L, tw_P tw dr rt sc, A, J, 57)) := by
  intro r h
  unfold g_X10_leavesOf at h
  refine tw_blk (cd := tw_c290) rfl 3 (c1 := (3, [some (.ref 44), some (.int a1)], [.int a1, .ref 55], (I, L, tw_P tw dr rt sc, A, J, 57))) rfl ?_
  obtain ⟨x2, hx1, h⟩ := tw_bindE h
  refine tw_iald (cd := tw_c290) (N := 4) rfl rfl rfl rfl hx1 ?_
  refine tw_blk (cd := tw_c290) rfl 5 (c1 := (9, [some (.ref 44), some (.int a1)], [.int a1, .ref 55, .int (I 4433), .int x2], (I, L, tw_P tw dr rt sc, A, J, 57))) rfl ?_
  obtain ⟨x4, hx3, h⟩ := tw_bindE h
  refine tw_iald (cd := tw_c290) (N := 4) rfl rfl rfl rfl hx3 ?_
  refine tw_blk (cd := tw_c290) rfl 1 (c1 := (11, [some (.ref 44), some (.int a1)], [.int ((I 4433) - x4), .int x2], (I, L, tw_P tw dr rt sc, A, J, 57))) rfl ?_
  by_cases hc5 : x2 ≤ ((I 4433) - x4)
  · rw [if_pos hc5] at h
    refine tw_br (cd := tw_c290) rfl rfl rfl (by exact if_pos hc5) ?_
    refine tw_blk (cd := tw_c290) rfl 5 (c1 := (22, [some (.ref 44), some (.int a1)], [.int a1, .ref 55, .int (I 4433)], (I, L, tw_P tw dr rt sc, A, J, 57))) rfl ?_
    obtain ⟨x7, hx6, h⟩ := tw_bindE h
    refine tw_iald (cd := tw_c290) (N := 4) rfl rfl rfl rfl hx6 ?_
    refine tw_blk (cd := tw_c290) rfl 1 (c1 := (24, [some (.ref 44), some (.int a1)], [.int ((I 4433) - x7)], (I, L, tw_P tw dr rt sc, A, J, 57))) rfl ?_
    have h := Option.some.inj h
    subst h
    exact tw_retE (cd := tw_c290) rfl rfl rfl rfl
  · rw [if_neg hc5] at h
    refine tw_br (cd := tw_c290) rfl rfl rfl (by exact if_neg hc5) ?_
    refine tw_blk (cd := tw_c290) rfl 3 (c1 := (15, [some (.ref 44), some (.int a1)], [.int a1, .ref 55], (I, L, tw_P tw dr rt sc, A, J, 57))) rfl ?_
    obtain ⟨x9, hx8, h⟩ := tw_bindE h
    refine tw_iald (cd := tw_c290) (N := 4) rfl rfl rfl rfl hx8 ?_
    refine tw_blk (cd := tw_c290) rfl 1 (c1 := (24, [some (.ref 44), some (.int a1)], [.int x9], (I, L, tw_P tw dr rt sc, A, J, 57))) rfl ?_
    have h := Option.some.inj h
    subst h
    exact tw_retE (cd := tw_c290) rfl rfl rfl rfl
theorem g_X10_askOf_L1_ok (I : Nat → Int32) (L : Nat → Int64) (A : Nat → Nat → Int32) (J : Nat → Nat → Int64) (tw : Nat) (dr : Nat) (rt : Nat) (sc : Nat) (x1 : Int32) (I2 : Nat → Int32) (A3 : Nat → Nat → Int32) (out : Option Value × tw_S) : ∀ (n : Nat) (v1_1 : Int32) (v1_2 : Int32) (ex : Int32), g_X10_askOf_L1 I2 A3 n v1_1 v1_2 = some ex → tw_ME 291 (30, [none, some (.int ex), none], [], (I2, L, tw_P tw dr rt sc, A3, J, 57)) out → tw_ME 291 (8, [some (.ref 44), some (.int v1_1), some (.int v1_2)], [], (I2, L, tw_P tw dr rt sc, A3, J, 57)) out := by
  intro n
  induction n with
  | zero =>
    intro v1_1 v1_2 ex h _
    cases h
  | succ n ih =>
    intro v1_1 v1_2 ex h K
    rw [g_X10_askOf_L1] at h
    refine tw_blk (cd := tw_c291) rfl 1 (c1 := (9, [some (.ref 44), some (.int v1_1), some (.int v1_2)], [.int v1_2], (I2, L, tw_P tw dr rt sc, A3, J, 57))) rfl ?_
    refine tw_blk (cd := tw_c291) rfl 3 (c1 := (12, [some (.ref 44), some (.int v1_1), some (.int v1_2)], [.int 7, .ref 47, .int v1_2], (I2, L, tw_P tw dr rt sc, A3, J, 57))) rfl ?_
    obtain ⟨x7, hx6, h⟩ := tw_bindE h
    refine tw_iald (cd := tw_c291) (N := 241) rfl rfl rfl rfl hx6 ?_
    by_cases hc8 : x7 ≤ v1_2
    · rw [if_pos hc8] at h
      refine tw_br (cd := tw_c291) rfl rfl rfl (by exact if_pos hc8) ?_
      refine tw_forget (ls2 := [none, some (.int v1_1), none]) ⟨rfl, trivial⟩ ?_
      have h := Option.some.inj h
      subst h
      exact K
    · rw [if_neg hc8] at h
      refine tw_br (cd := tw_c291) rfl rfl rfl (by exact if_neg hc8) ?_
      refine tw_blk (cd := tw_c291) rfl 2 (c1 := (16, [some (.ref 44), some (.int v1_1), some (.int v1_2)], [.int (I2 4433)], (I2, L, tw_P tw dr rt sc, A3, J, 57))) rfl ?_
      by_cases hc9 : (I2 4433) ≤ 0
      · rw [if_pos hc9] at h
        refine tw_br (cd := tw_c291) rfl rfl rfl (by exact if_pos hc9) ?_
        refine tw_forget (ls2 := [none, some (.int v1_1), none]) ⟨rfl, trivial⟩ ?_
        have h := Option.some.inj h
        subst h
        exact K
      · rw [if_neg hc9] at h
        refine tw_br (cd := tw_c291) rfl rfl rfl (by exact if_neg hc9) ?_
        refine tw_blk (cd := tw_c291) rfl 1 (c1 := (18, [some (.ref 44), some (.int v1_1), some (.int v1_2)], [.int v1_1], (I2, L, tw_P tw dr rt sc, A3, J, 57))) rfl ?_
        obtain ⟨x11, hj12, h⟩ := tw_bindE h
        have K : tw_ME 291 (28, [some (.ref 44), some (.int x11), some (.int v1_2)], [], (I2, L, tw_P tw dr rt sc, A3, J, 57)) out := by
          refine tw_blk (cd := tw_c291) rfl 2 (c1 := (8, [some (.ref 44), some (.int x11), some (.int (v1_2 + (1 : Int32)))], [], (I2, L, tw_P tw dr rt sc, A3, J, 57))) rfl ?_
          exact ih x11 (v1_2 + (1 : Int32)) _ h K
        by_cases hc10 : v1_1 < 0
        · rw [if_pos hc10] at hj12
          refine tw_br (cd := tw_c291) rfl rfl rfl (by exact if_pos hc10) ?_
          refine tw_blk (cd := tw_c291) rfl 2 (c1 := (28, [some (.ref 44), some (.int v1_2), some (.int v1_2)], [], (I2, L, tw_P tw dr rt sc, A3, J, 57))) rfl ?_
          have hj12s := Option.some.inj hj12
          subst hj12s
          exact K
        · rw [if_neg hc10] at hj12
          refine tw_br (cd := tw_c291) rfl rfl rfl (by exact if_neg hc10) ?_
          refine tw_blk (cd := tw_c291) rfl 2 (c1 := (21, [some (.ref 44), some (.int v1_1), some (.int v1_2)], [.int v1_2, .ref 44], (I2, L, tw_P tw dr rt sc, A3, J, 57))) rfl ?_
          obtain ⟨x13, hx14, hj12⟩ := tw_bindE hj12
          refine tw_callE (cd := tw_c291) rfl rfl rfl rfl rfl (e_X10_leavesOf I2 L A3 J tw dr rt sc v1_2 _ hx14) (by exact Or.inl rfl) ?_
          refine tw_blk (cd := tw_c291) rfl 2 (c1 := (24, [some (.ref 44), some (.int v1_1), some (.int v1_2)], [.int v1_1, .ref 44, .int x13], (I2, L, tw_P tw dr rt sc, A3, J, 57))) rfl ?_
          obtain ⟨x15, hx16, hj12⟩ := tw_bindE hj12
          refine tw_callE (cd := tw_c291) rfl rfl rfl rfl rfl (e_X10_leavesOf I2 L A3 J tw dr rt sc v1_1 _ hx16) (by exact Or.inl rfl) ?_
          by_cases hc17 : x15 ≤ x13
          · rw [if_pos hc17] at hj12
            refine tw_br (cd := tw_c291) rfl rfl rfl (by exact if_pos hc17) ?_
            have hj12s := Option.some.inj hj12
            subst hj12s
            exact K
          · rw [if_neg hc17] at hj12
            refine tw_br (cd := tw_c291) rfl rfl rfl (by exact if_neg hc17) ?_
            refine tw_blk (cd := tw_c291) rfl 2 (c1 := (28, [some (.ref 44), some (.int v1_2), some (.int v1_2)], [], (I2, L, tw_P tw dr rt sc, A3, J, 57))) rfl ?_
            have hj12s := Option.some.inj hj12
            subst hj12s
            exact K
theorem e_X10_askOf (I : Nat → Int32) (L : Nat → Int64) (A : Nat → Nat → Int32) (J : Nat → Nat → Int64) (tw dr : Nat) (rt : Nat) (sc : Nat) : ∀ r : (Int32 × (Nat → Int32) × (Nat → Nat → Int32)), g_X10_askOf I A = some r → tw_ME 291 (0, [some (.ref 44), none, none], [], (I, L, tw_P tw dr rt sc, A, J, 57)) (some (.int r.1), ((r.2.1), L, tw_P tw dr rt sc, (r.2.2), J, 57)) := by
  intro r h
  unfold g_X10_askOf at h
  refine tw_blk (cd := tw_c291) rfl 2 (c1 := (2, [some (.ref 44), none, none], [.int (-1), .ref 44], (I, L, tw_P tw dr rt sc, A, J, 57))) rfl ?_
  obtain ⟨⟨x1, I2, A3⟩, hx4, h⟩ := tw_bindE h
  dsimp only at h
  refine tw_callE (cd := tw_c291) rfl rfl rfl rfl rfl (e_X10_seekSets I L A J tw dr rt sc (-1 : Int32) _ hx4) (by exact Or.inl rfl) ?_
  refine tw_blk (cd := tw_c291) rfl 5 (c1 := (8, [some (.ref 44), some (.int (-2)), some (.int 0)], [], (I2, L, tw_P tw dr rt sc, A3, J, 57))) rfl ?_
  obtain ⟨x5, hx18, h⟩ := tw_bindE h
  refine g_X10_askOf_L1_ok I L A J tw dr rt sc x1 I2 A3 _ 4096 (-2 : Int32) (0 : Int32) _ hx18 ?_
  refine tw_blk (cd := tw_c291) rfl 1 (c1 := (31, [none, some (.int x5), none], [.int x5], (I2, L, tw_P tw dr rt sc, A3, J, 57))) rfl ?_
  have h := Option.some.inj h
  subst h
  exact tw_retE (cd := tw_c291) rfl rfl rfl rfl
theorem e_X10_ask (I : Nat → Int32) (L : Nat → Int64) (A : Nat → Nat → Int32) (J : Nat → Nat → Int64) (tw dr : Nat) (rt : Nat) (sc : Nat) : ∀ r : (Int32 × (Nat → Int32) × (Nat → Nat → Int32)), g_X10_ask I A = some r → tw_ME 292 (0, [some (.ref 44)], [], (I, L, tw_P tw dr rt sc, A, J, 57)) (some (.int r.1), ((r.2.1), L, tw_P tw dr rt sc, (r.2.2), J, 57)) := by
  intro r h
  unfold g_X10_ask at h
  refine tw_blk (cd := tw_c292) rfl 1 (c1 := (1, [some (.ref 44)], [.ref 44], (I, L, tw_P tw dr rt sc, A, J, 57))) rfl ?_
  obtain ⟨I1, hx2, h⟩ := tw_letE h
  refine tw_callE (cd := tw_c292) rfl rfl rfl rfl rfl (e_X10_good I L A J tw dr rt sc _ hx2) (by exact Or.inl rfl) ?_
  refine tw_blk (cd := tw_c292) rfl 2 (c1 := (4, [some (.ref 44)], [.int (I1 4414)], (I1, L, tw_P tw dr rt sc, A, J, 57))) rfl ?_
  by_cases hc3 : (I1 4414) = 0
  · rw [if_pos hc3] at h
    refine tw_br (cd := tw_c292) rfl rfl rfl (by exact if_pos hc3) ?_
    refine tw_blk (cd := tw_c292) rfl 2 (c1 := (10, [some (.ref 44)], [.int 1, .ref 44], (I1, L, tw_P tw dr rt sc, A, J, 57))) rfl ?_
    obtain ⟨⟨x4, I5⟩, hx6, h⟩ := tw_letE h
    dsimp only at h
    refine tw_callE (cd := tw_c292) rfl rfl rfl rfl rfl (e_X10_no I1 L A J tw dr rt sc (1 : Int32) _ hx6) (by exact Or.inl rfl) ?_
    have h := Option.some.inj h
    subst h
    exact tw_retE (cd := tw_c292) rfl rfl rfl rfl
  · rw [if_neg hc3] at h
    refine tw_br (cd := tw_c292) rfl rfl rfl (by exact if_neg hc3) ?_
    refine tw_blk (cd := tw_c292) rfl 1 (c1 := (6, [some (.ref 44)], [.ref 44], (I1, L, tw_P tw dr rt sc, A, J, 57))) rfl ?_
    obtain ⟨⟨x7, I8, A9⟩, hx10, h⟩ := tw_bindE h
    dsimp only at h
    refine tw_callE (cd := tw_c292) rfl rfl rfl rfl rfl (e_X10_askOf I1 L A J tw dr rt sc _ hx10) (by exact Or.inl rfl) ?_
    refine tw_blk (cd := tw_c292) rfl 1 (c1 := (11, [some (.ref 44)], [.int x7], (I8, L, tw_P tw dr rt sc, A9, J, 57))) rfl ?_
    have h := Option.some.inj h
    subst h
    exact tw_retE (cd := tw_c292) rfl rfl rfl rfl
theorem e_X9_askLeaves (I : Nat → Int32) (L : Nat → Int64) (A : Nat → Nat → Int32) (J : Nat → Nat → Int64) (rt : Nat) (sc : Nat) : ∀ r : (Int32 × (Nat → Int32) × (Nat → Nat → Int32) × Nat), g_X9_askLeaves I A sc = some r → tw_ME 148 (0, [some (.ref 0), none], [], (I, L, tw_P 2 14 rt sc, A, J, 57)) (some (.int r.1), ((r.2.1), L, tw_P 2 14 rt (r.2.2.2), (r.2.2.1), J, 57)) := by
  intro r h
  unfold g_X9_askLeaves at h
  refine tw_blk (cd := tw_c148) rfl 1 (c1 := (1, [some (.ref 0), none], [.ref 0], (I, L, tw_P 2 14 rt sc, A, J, 57))) rfl ?_
  obtain ⟨⟨c1, I2, A3⟩, hx4, h⟩ := tw_bindE h
  dsimp only at h
  refine tw_callE (cd := tw_c148) rfl rfl rfl rfl rfl (e_X9_doubtsNow I L A J rt sc _ hx4) (by exact Or.inl rfl) ?_
  by_cases hc5 : c1 = true
  · subst hc5
    rw [if_pos rfl] at h
    refine tw_br (cd := tw_c148) rfl rfl rfl (by exact rfl) ?_
    refine tw_blk (cd := tw_c148) rfl 2 (c1 := (7, [some (.ref 0), none], [.ref 42], (I2, L, tw_P 2 14 rt 2, A3, J, 57))) rfl ?_
    obtain ⟨x6, hx7, h⟩ := tw_bindE h
    refine tw_callE (cd := tw_c148) rfl rfl rfl rfl rfl (e_X2_whomToAsk I2 L A3 J 2 14 rt _ hx7) (by exact Or.inl rfl) ?_
    refine tw_blk (cd := tw_c148) rfl 4 (c1 := (12, [some (.ref 0), some (.int x6)], [.int (-2), .int x6, .ref 0], (I2, L, tw_P 2 14 rt 2, A3, J, 57))) rfl ?_
    obtain ⟨x9, hj10, h⟩ := tw_bindE h
    have K : tw_ME 148 (19, [none, none], [.int x9, .ref 0], (I2, L, tw_P 2 14 rt 2, A3, J, 57)) (some (.int r.1), ((r.2.1), L, tw_P 2 14 rt (r.2.2.2), (r.2.2.1), J, 57)) := by
      obtain ⟨⟨x13, I14⟩, hx15, h⟩ := tw_letE h
      dsimp only at h
      refine tw_callE (cd := tw_c148) rfl rfl rfl rfl rfl (e_X9_grant I2 L A3 J 2 14 rt 2 x9 _ hx15) (by exact Or.inl rfl) ?_
      have h := Option.some.inj h
      subst h
      exact tw_retE (cd := tw_c148) rfl rfl rfl rfl
    by_cases hc8 : x6 = (-2 : Int32)
    · rw [if_pos hc8] at hj10
      refine tw_br (cd := tw_c148) rfl rfl rfl (by exact if_pos hc8) ?_
      refine tw_blk (cd := tw_c148) rfl 2 (c1 := (19, [some (.ref 0), some (.int x6)], [.int (-2), .ref 0], (I2, L, tw_P 2 14 rt 2, A3, J, 57))) rfl ?_
      refine tw_forget (ls2 := [none, none]) trivial ?_
      have hj10s := Option.some.inj hj10
      subst hj10s
      exact K
    · rw [if_neg hc8] at hj10
      refine tw_br (cd := tw_c148) rfl rfl rfl (by exact if_neg hc8) ?_
      refine tw_blk (cd := tw_c148) rfl 3 (c1 := (18, [some (.ref 0), some (.int x6)], [.int x6, .ref 42, .ref 0], (I2, L, tw_P 2 14 rt 2, A3, J, 57))) rfl ?_
      obtain ⟨x11, hx12, hj10⟩ := tw_bindE hj10
      refine tw_callE (cd := tw_c148) rfl rfl rfl rfl rfl (e_X2_leftBy I2 L A3 J 2 14 rt x6 _ hx12) (by exact Or.inl rfl) ?_
      refine tw_forget (ls2 := [none, none]) trivial ?_
      have hj10s := Option.some.inj hj10
      subst hj10s
      exact K
  · have hc5 := Bool.eq_false_iff.mpr hc5
    subst hc5
    rw [if_neg (by decide)] at h
    refine tw_br (cd := tw_c148) rfl rfl rfl (by exact rfl) ?_
    refine tw_blk (cd := tw_c148) rfl 1 (c1 := (4, [some (.ref 0), none], [.int (-1)], (I2, L, tw_P 2 14 rt sc, A3, J, 57))) rfl ?_
    have h := Option.some.inj h
    subst h
    exact tw_retE (cd := tw_c148) rfl rfl rfl rfl
theorem e_X10_askLeaves (I : Nat → Int32) (L : Nat → Int64) (A : Nat → Nat → Int32) (J : Nat → Nat → Int64) (tw dr : Nat) (rt : Nat) (sc : Nat) : ∀ r : (Int32 × (Nat → Int32) × (Nat → Nat → Int32)), g_X10_askLeaves I A = some r → tw_ME 293 (0, [some (.ref 44), none], [], (I, L, tw_P tw dr rt sc, A, J, 57)) (some (.int r.1), ((r.2.1), L, tw_P tw dr rt sc, (r.2.2), J, 57)) := by
  intro r h
  unfold g_X10_askLeaves at h
  refine tw_blk (cd := tw_c293) rfl 1 (c1 := (1, [some (.ref 44), none], [.ref 44], (I, L, tw_P tw dr rt sc, A, J, 57))) rfl ?_
  obtain ⟨I1, hx2, h⟩ := tw_letE h
  refine tw_callE (cd := tw_c293) rfl rfl rfl rfl rfl (e_X10_good I L A J tw dr rt sc _ hx2) (by exact Or.inl rfl) ?_
  refine tw_blk (cd := tw_c293) rfl 2 (c1 := (4, [some (.ref 44), none], [.int (I1 4414)], (I1, L, tw_P tw dr rt sc, A, J, 57))) rfl ?_
  by_cases hc3 : (I1 4414) = 0
  · rw [if_pos hc3] at h
    refine tw_br (cd := tw_c293) rfl rfl rfl (by exact if_pos hc3) ?_
    refine tw_blk (cd := tw_c293) rfl 2 (c1 := (7, [some (.ref 44), none], [.int 1, .ref 44], (I1, L, tw_P tw dr rt sc, A, J, 57))) rfl ?_
    obtain ⟨⟨x4, I5⟩, hx6, h⟩ := tw_letE h
    dsimp only at h
    refine tw_callE (cd := tw_c293) rfl rfl rfl rfl rfl (e_X10_no I1 L A J tw dr rt sc (1 : Int32) _ hx6) (by exact Or.inl rfl) ?_
    have h := Option.some.inj h
    subst h
    exact tw_retE (cd := tw_c293) rfl rfl rfl rfl
  · rw [if_neg hc3] at h
    refine tw_br (cd := tw_c293) rfl rfl rfl (by exact if_neg hc3) ?_
    refine tw_blk (cd := tw_c293) rfl 1 (c1 := (10, [some (.ref 44), none], [.ref 44], (I1, L, tw_P tw dr rt sc, A, J, 57))) rfl ?_
    obtain ⟨⟨x7, I8, A9⟩, hx10, h⟩ := tw_bindE h
    dsimp only at h
    refine tw_callE (cd := tw_c293) rfl rfl rfl rfl rfl (e_X10_askOf I1 L A J tw dr rt sc _ hx10) (by exact Or.inl rfl) ?_
    refine tw_blk (cd := tw_c293) rfl 2 (c1 := (13, [some (.ref 44), some (.int x7)], [.int x7], (I8, L, tw_P tw dr rt sc, A9, J, 57))) rfl ?_
    by_cases hc11 : 0 ≤ x7
    · rw [if_pos hc11] at h
      refine tw_br (cd := tw_c293) rfl rfl rfl (by exact if_pos hc11) ?_
      refine tw_blk (cd := tw_c293) rfl 2 (c1 := (18, [some (.ref 44), some (.int x7)], [.int x7, .ref 44], (I8, L, tw_P tw dr rt sc, A9, J, 57))) rfl ?_
      obtain ⟨x12, hx13, h⟩ := tw_bindE h
      refine tw_callE (cd := tw_c293) rfl rfl rfl rfl rfl (e_X10_leavesOf I8 L A9 J tw dr rt sc x7 _ hx13) (by exact Or.inl rfl) ?_
      have h := Option.some.inj h
      subst h
      exact tw_retE (cd := tw_c293) rfl rfl rfl rfl
    · rw [if_neg hc11] at h
      refine tw_br (cd := tw_c293) rfl rfl rfl (by exact if_neg hc11) ?_
      refine tw_blk (cd := tw_c293) rfl 2 (c1 := (19, [some (.ref 44), some (.int x7)], [.int (-2)], (I8, L, tw_P tw dr rt sc, A9, J, 57))) rfl ?_
      have h := Option.some.inj h
      subst h
      exact tw_retE (cd := tw_c293) rfl rfl rfl rfl
theorem e_X9_judge (I : Nat → Int32) (L : Nat → Int64) (A : Nat → Nat → Int32) (J : Nat → Nat → Int64) (rt : Nat) (sc : Nat) : ∀ r : (Int32 × (Nat → Int32) × (Nat → Nat → Int32) × Nat), g_X9_judge I A sc = some r → tw_ME 149 (0, [some (.ref 0)], [], (I, L, tw_P 2 14 rt sc, A, J, 57)) (some (.int r.1), ((r.2.1), L, tw_P 2 14 rt (r.2.2.2), (r.2.2.1), J, 57)) := by
  intro r h
  unfold g_X9_judge at h
  refine tw_blk (cd := tw_c149) rfl 1 (c1 := (1, [some (.ref 0)], [.ref 0], (I, L, tw_P 2 14 rt sc, A, J, 57))) rfl ?_
  refine tw_callE (cd := tw_c149) rfl rfl rfl rfl rfl (e_X9_hasTown I L A J rt sc _ rfl) (by exact Or.inl rfl) ?_
  by_cases hc1 : (g_X9_hasTown A) = true
  · rw [if_pos hc1] at h
    refine tw_br (cd := tw_c149) rfl rfl rfl (by exact if_neg (tw_b_t hc1)) ?_
    refine tw_blk (cd := tw_c149) rfl 1 (c1 := (8, [some (.ref 0)], [.ref 0], (I, L, tw_P 2 14 rt sc, A, J, 57))) rfl ?_
    obtain ⟨⟨I2, A3⟩, hx4, h⟩ := tw_bindE h
    dsimp only at h
    refine tw_callE (cd := tw_c149) rfl rfl rfl rfl rfl (e_X9_showTold I L A J rt sc _ hx4) (by exact Or.inl rfl) ?_
    refine tw_blk (cd := tw_c149) rfl 3 (c1 := (12, [some (.ref 0)], [.ref 42, .ref 0], (I2, L, tw_P 2 14 rt 2, A3, J, 57))) rfl ?_
    obtain ⟨⟨x5, I6, A7⟩, hx8, h⟩ := tw_bindE h
    dsimp only at h
    refine tw_callE (cd := tw_c149) rfl rfl rfl rfl rfl (e_X2_firstOtherwise I2 L A3 J 2 14 rt _ hx8) (by exact Or.inl rfl) ?_
    obtain ⟨⟨x9, I10⟩, hx11, h⟩ := tw_letE h
    dsimp only at h
    refine tw_callE (cd := tw_c149) rfl rfl rfl rfl rfl (e_X9_grant I6 L A7 J 2 14 rt 2 x5 _ hx11) (by exact Or.inl rfl) ?_
    have h := Option.some.inj h
    subst h
    exact tw_retE (cd := tw_c149) rfl rfl rfl rfl
  · rw [if_neg hc1] at h
    refine tw_br (cd := tw_c149) rfl rfl rfl (by exact if_pos (tw_b_f hc1)) ?_
    refine tw_blk (cd := tw_c149) rfl 2 (c1 := (5, [some (.ref 0)], [.int 1, .ref 0], (I, L, tw_P 2 14 rt sc, A, J, 57))) rfl ?_
    obtain ⟨⟨x12, I13⟩, hx14, h⟩ := tw_letE h
    dsimp only at h
    refine tw_callE (cd := tw_c149) rfl rfl rfl rfl rfl (e_X9_refuse I L A J 2 14 rt sc (1 : Int32) _ hx14) (by exact Or.inl rfl) ?_
    have h := Option.some.inj h
    subst h
    exact tw_retE (cd := tw_c149) rfl rfl rfl rfl
theorem e_X10_judge (I : Nat → Int32) (L : Nat → Int64) (A : Nat → Nat → Int32) (J : Nat → Nat → Int64) (tw dr : Nat) (rt : Nat) (sc : Nat) : ∀ r : (Int32 × (Nat → Int32) × (Nat → Nat → Int32)), g_X10_judge I A = some r → tw_ME 294 (0, [some (.ref 44)], [], (I, L, tw_P tw dr rt sc, A, J, 57)) (some (.int r.1), ((r.2.1), L, tw_P tw dr rt sc, (r.2.2), J, 57)) := by
  intro r h
  unfold g_X10_judge at h
  refine tw_blk (cd := tw_c294) rfl 1 (c1 := (1, [some (.ref 44)], [.ref 44], (I, L, tw_P tw dr rt sc, A, J, 57))) rfl ?_
  obtain ⟨I1, hx2, h⟩ := tw_letE h
  refine tw_callE (cd := tw_c294) rfl rfl rfl rfl rfl (e_X10_good I L A J tw dr rt sc _ hx2) (by exact Or.inl rfl) ?_
  refine tw_blk (cd := tw_c294) rfl 2 (c1 := (4, [some (.ref 44)], [.int (I1 4414)], (I1, L, tw_P tw dr rt sc, A, J, 57))) rfl ?_
  by_cases hc3 : (I1 4414) = 0
  · rw [if_pos hc3] at h
    refine tw_br (cd := tw_c294) rfl rfl rfl (by exact if_pos hc3) ?_
    refine tw_blk (cd := tw_c294) rfl 2 (c1 := (11, [some (.ref 44)], [.int 1, .ref 44], (I1, L, tw_P tw dr rt sc, A, J, 57))) rfl ?_
    obtain ⟨⟨x4, I5⟩, hx6, h⟩ := tw_letE h
    dsimp only at h
    refine tw_callE (cd := tw_c294) rfl rfl rfl rfl rfl (e_X10_no I1 L A J tw dr rt sc (1 : Int32) _ hx6) (by exact Or.inl rfl) ?_
    have h := Option.some.inj h
    subst h
    exact tw_retE (cd := tw_c294) rfl rfl rfl rfl
  · rw [if_neg hc3] at h
    refine tw_br (cd := tw_c294) rfl rfl rfl (by exact if_neg hc3) ?_
    refine tw_blk (cd := tw_c294) rfl 2 (c1 := (7, [some (.ref 44)], [.int 0, .ref 44], (I1, L, tw_P tw dr rt sc, A, J, 57))) rfl ?_
    obtain ⟨⟨x7, I8, A9⟩, hx10, h⟩ := tw_bindE h
    dsimp only at h
    refine tw_callE (cd := tw_c294) rfl rfl rfl rfl rfl (e_X10_wrongBy I1 L A J tw dr rt sc (0 : Int32) _ hx10) (by exact Or.inl rfl) ?_
    refine tw_blk (cd := tw_c294) rfl 1 (c1 := (12, [some (.ref 44)], [.int x7], (I8, L, tw_P tw dr rt sc, A9, J, 57))) rfl ?_
    have h := Option.some.inj h
    subst h
    exact tw_retE (cd := tw_c294) rfl rfl rfl rfl
theorem g_X9_inLowestTerms_L1_ok (I : Nat → Int32) (L : Nat → Int64) (A : Nat → Nat → Int32) (J : Nat → Nat → Int64) (tw : Nat) (dr : Nat) (rt : Nat) (sc : Nat) (a0 : Int64) (a1 : Int64) (a2 : Int32) (out : Option Value × tw_S) : ∀ (n : Nat) (v1_5 : Int64) (v1_7 : Int64) (v1_9 : Int32) (ex : Int64), g_X9_inLowestTerms_L1 n v1_5 v1_7 v1_9 = some ex → tw_ME 190 (23, [some (.long a0), none, some (.long a1), none, some (.int a2), none, none, some (.long ex), none, none, none, none], [], (I, L, tw_P tw dr rt sc, A, J, 57)) out → tw_ME 190 (6, [some (.long a0), none, some (.long a1), none, some (.int a2), some (.long v1_5), none, some (.long v1_7), none, some (.int v1_9), none, none], [], (I, L, tw_P tw dr rt sc, A, J, 57)) out := by
  intro n
  induction n with
  | zero =>
    intro v1_5 v1_7 v1_9 ex h _
    cases h
  | succ n ih =>
    intro v1_5 v1_7 v1_9 ex h K
    rw [g_X9_inLowestTerms_L1] at h
    refine tw_blk (cd := tw_c190) rfl 1 (c1 := (7, [some (.long a0), none, some (.long a1), none, some (.int a2), some (.long v1_5), none, some (.long v1_7), none, some (.int v1_9), none, none], [.int v1_9], (I, L, tw_P tw dr rt sc, A, J, 57))) rfl ?_
    refine tw_blk (cd := tw_c190) rfl 1 (c1 := (8, [some (.long a0), none, some (.long a1), none, some (.int a2), some (.long v1_5), none, some (.long v1_7), none, some (.int v1_9), none, none], [.int 200, .int v1_9], (I, L, tw_P tw dr rt sc, A, J, 57))) rfl ?_
    by_cases hc2 : (200 : Int32) ≤ v1_9
    · rw [if_pos hc2] at h
      refine tw_br (cd := tw_c190) rfl rfl rfl (by exact if_pos hc2) ?_
      refine tw_forget (ls2 := [some (.long a0), none, some (.long a1), none, some (.int a2), none, none, some (.long v1_7), none, none, none, none]) ⟨rfl, rfl, rfl, rfl, trivial⟩ ?_
      have h := Option.some.inj h
      subst h
      exact K
    · rw [if_neg hc2] at h
      refine tw_br (cd := tw_c190) rfl rfl rfl (by exact if_neg hc2) ?_
      refine tw_blk (cd := tw_c190) rfl 3 (c1 := (12, [some (.long a0), none, some (.long a1), none, some (.int a2), some (.long v1_5), none, some (.long v1_7), none, some (.int v1_9), none, none], [.int (lg_cmp v1_5 (0 : Int64))], (I, L, tw_P tw dr rt sc, A, J, 57))) rfl ?_
      by_cases hc3 : (lg_cmp v1_5 (0 : Int64)) ≤ 0
      · rw [if_pos hc3] at h
        refine tw_br (cd := tw_c190) rfl rfl rfl (by exact if_pos hc3) ?_
        refine tw_forget (ls2 := [some (.long a0), none, some (.long a1), none, some (.int a2), none, none, some (.long v1_7), none, none, none, none]) ⟨rfl, rfl, rfl, rfl, trivial⟩ ?_
        have h := Option.some.inj h
        subst h
        exact K
      · rw [if_neg hc3] at h
        refine tw_br (cd := tw_c190) rfl rfl rfl (by exact if_neg hc3) ?_
        refine tw_blk (cd := tw_c190) rfl 2 (c1 := (15, [some (.long a0), none, some (.long a1), none, some (.int a2), some (.long v1_5), none, some (.long v1_7), none, some (.int v1_9), none, none], [.long v1_5, .long v1_7], (I, L, tw_P tw dr rt sc, A, J, 57))) rfl ?_
        by_cases hz4 : v1_5 = 0
        · rw [if_pos hz4] at h; cases h
        · rw [if_neg hz4] at h
          refine tw_br (cd := tw_c190) rfl rfl rfl (by exact if_neg hz4) ?_
          refine tw_blk (cd := tw_c190) rfl 7 (c1 := (6, [some (.long a0), none, some (.long a1), none, some (.int a2), some (.long (v1_7 - v1_7 / v1_5 * v1_5)), none, some (.long v1_5), none, some (.int (v1_9 + (1 : Int32))), some (.long (v1_7 - v1_7 / v1_5 * v1_5)), none], [], (I, L, tw_P tw dr rt sc, A, J, 57))) rfl ?_
          refine tw_forget (ls2 := [some (.long a0), none, some (.long a1), none, some (.int a2), some (.long (v1_7 - v1_7 / v1_5 * v1_5)), none, some (.long v1_5), none, some (.int (v1_9 + (1 : Int32))), none, none]) ⟨rfl, rfl, rfl, rfl, rfl, rfl, trivial⟩ ?_
          exact ih (v1_7 - v1_7 / v1_5 * v1_5) v1_5 (v1_9 + (1 : Int32)) _ h K
theorem e_X9_inLowestTerms (I : Nat → Int32) (L : Nat → Int64) (A : Nat → Nat → Int32) (J : Nat → Nat → Int64) (tw dr : Nat) (rt : Nat) (sc : Nat) (a0 : Int64) (a1 : Int64) (a2 : Int32) : ∀ r : Int64, g_X9_inLowestTerms a0 a1 a2 = some r → tw_ME 190 (0, [some (.long a0), none, some (.long a1), none, some (.int a2), none, none, none, none, none, none, none], [], (I, L, tw_P tw dr rt sc, A, J, 57)) (some (.long r), (I, L, tw_P tw dr rt sc, A, J, 57)) := by
  intro r h
  unfold g_X9_inLowestTerms at h
  refine tw_blk (cd := tw_c190) rfl 6 (c1 := (6, [some (.long a0), none, some (.long a1), none, some (.int a2), some (.long a0), none, some (.long a1), none, some (.int 0), none, none], [], (I, L, tw_P tw dr rt sc, A, J, 57))) rfl ?_
  obtain ⟨y1, hx10, h⟩ := tw_bindE h
  refine g_X9_inLowestTerms_L1_ok I L A J tw dr rt sc a0 a1 a2 _ 4096 a0 a1 (0 : Int32) _ hx10 ?_
  refine tw_blk (cd := tw_c190) rfl 1 (c1 := (24, [some (.long a0), none, some (.long a1), none, some (.int a2), none, none, some (.long y1), none, none, none, none], [.int a2], (I, L, tw_P tw dr rt sc, A, J, 57))) rfl ?_
  obtain ⟨y6, hj7, h⟩ := tw_bindE h
  have K : tw_ME 190 (28, [none, none, none, none, none, none, none, some (.long y1), none, none, none, none], [.long y6], (I, L, tw_P tw dr rt sc, A, J, 57)) (some (.long r), (I, L, tw_P tw dr rt sc, A, J, 57)) := by
    refine tw_blk (cd := tw_c190) rfl 4 (c1 := (32, [none, none, none, none, none, none, none, some (.long y1), none, some (.long y6), none, none], [.int (lg_cmp y1 (0 : Int64))], (I, L, tw_P tw dr rt sc, A, J, 57))) rfl ?_
    by_cases hc8 : (lg_cmp y1 (0 : Int64)) ≤ 0
    · rw [if_pos hc8] at h
      refine tw_br (cd := tw_c190) rfl rfl rfl (by exact if_pos hc8) ?_
      refine tw_blk (cd := tw_c190) rfl 1 (c1 := (38, [none, none, none, none, none, none, none, some (.long y1), none, some (.long y6), none, none], [.long y6], (I, L, tw_P tw dr rt sc, A, J, 57))) rfl ?_
      have h := Option.some.inj h
      subst h
      exact tw_retE (cd := tw_c190) rfl rfl rfl rfl
    · rw [if_neg hc8] at h
      refine tw_br (cd := tw_c190) rfl rfl rfl (by exact if_neg hc8) ?_
      refine tw_blk (cd := tw_c190) rfl 2 (c1 := (35, [none, none, none, none, none, none, none, some (.long y1), none, some (.long y6), none, none], [.long y1, .long y6], (I, L, tw_P tw dr rt sc, A, J, 57))) rfl ?_
      by_cases hz9 : y1 = 0
      · rw [if_pos hz9] at h; cases h
      · rw [if_neg hz9] at h
        refine tw_br (cd := tw_c190) rfl rfl rfl (by exact if_neg hz9) ?_
        refine tw_blk (cd := tw_c190) rfl 1 (c1 := (38, [none, none, none, none, none, none, none, some (.long y1), none, some (.long y6), none, none], [.long (y6 / y1)], (I, L, tw_P tw dr rt sc, A, J, 57))) rfl ?_
        have h := Option.some.inj h
        subst h
        exact tw_retE (cd := tw_c190) rfl rfl rfl rfl
  by_cases hc5 : a2 = 0
  · rw [if_pos hc5] at hj7
    refine tw_br (cd := tw_c190) rfl rfl rfl (by exact if_pos hc5) ?_
    refine tw_blk (cd := tw_c190) rfl 1 (c1 := (28, [some (.long a0), none, some (.long a1), none, some (.int a2), none, none, some (.long y1), none, none, none, none], [.long a0], (I, L, tw_P tw dr rt sc, A, J, 57))) rfl ?_
    refine tw_forget (ls2 := [none, none, none, none, none, none, none, some (.long y1), none, none, none, none]) ⟨rfl, trivial⟩ ?_
    have hj7s := Option.some.inj hj7
    subst hj7s
    exact K
  · rw [if_neg hc5] at hj7
    refine tw_br (cd := tw_c190) rfl rfl rfl (by exact if_neg hc5) ?_
    refine tw_blk (cd := tw_c190) rfl 2 (c1 := (28, [some (.long a0), none, some (.long a1), none, some (.int a2), none, none, some (.long y1), none, none, none, none], [.long a1], (I, L, tw_P tw dr rt sc, A, J, 57))) rfl ?_
    refine tw_forget (ls2 := [none, none, none, none, none, none, none, some (.long y1), none, none, none, none]) ⟨rfl, trivial⟩ ?_
    have hj7s := Option.some.inj hj7
    subst hj7s
    exact K
