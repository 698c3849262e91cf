/-! the machine does what the functions say -/
set_option maxRecDepth 16000
theorem e_X9_into (I : Nat → Int32) (L : Nat → Int64) (A : Nat → Nat → Int32) (J : Nat → Nat → Int64) (rt : Nat) (sc : Nat) (a1 : Int32) : ∀ r : (Int32 × (Nat → Int32) × (Nat → Nat → Int32) × Nat), g_X9_into I A sc a1 = some r → tw_ME 121 (0, [some (.ref 0), some (.int a1)], [], (I, L, tw_P 2 14 rt sc, A, J, 57)) (some (.int r.1), ((r.2.1), L, tw_P 2 14 rt (r.2.2.2), (r.2.2.1), J, 57)) := by
  intro r h
  unfold g_X9_into at h
  refine tw_blk (cd := tw_c121) rfl 2 (c1 := (2, [some (.ref 0), some (.int a1)], [.int a1, .ref 0], (I, L, tw_P 2 14 rt sc, A, J, 57))) rfl ?_
  refine tw_callE (cd := tw_c121) rfl rfl rfl rfl rfl (e_X9_isPlace I L A J rt sc a1 _ rfl) (by exact Or.inl rfl) ?_
  by_cases hc1 : (g_X9_isPlace A a1) = true
  · rw [if_pos hc1] at h
    refine tw_br (cd := tw_c121) rfl rfl rfl (by exact if_neg (tw_b_t hc1)) ?_
    refine tw_blk (cd := tw_c121) rfl 1 (c1 := (9, [some (.ref 0), some (.int a1)], [.ref 0], (I, L, tw_P 2 14 rt sc, A, J, 57))) rfl ?_
    obtain ⟨⟨I2, A3⟩, hx4, h⟩ := tw_bindE h
    dsimp only at h
    refine tw_callE (cd := tw_c121) rfl rfl rfl rfl rfl (e_X9_showNow I L A J rt sc _ hx4) (by exact Or.inl rfl) ?_
    refine tw_blk (cd := tw_c121) rfl 4 (c1 := (14, [some (.ref 0), some (.int a1)], [.int a1, .ref 36, .ref 0], (I2, L, tw_P 2 14 rt 2, A3, J, 57))) rfl ?_
    obtain ⟨x5, hx6, h⟩ := tw_bindE h
    refine tw_callE (cd := tw_c121) rfl rfl rfl rfl rfl (e_X6_viewFrom I2 L A3 J 2 14 rt a1 _ hx6) (by exact Or.inl rfl) ?_
    obtain ⟨⟨x7, I8⟩, hx9, h⟩ := tw_letE h
    dsimp only at h
    refine tw_callE (cd := tw_c121) rfl rfl rfl rfl rfl (e_X9_grant I2 L A3 J 2 14 rt 2 x5 _ hx9) (by exact Or.inl rfl) ?_
    have h := Option.some.inj h
    subst h
    exact tw_retE (cd := tw_c121) rfl rfl rfl rfl
  · rw [if_neg hc1] at h
    refine tw_br (cd := tw_c121) rfl rfl rfl (by exact if_pos (tw_b_f hc1)) ?_
    refine tw_blk (cd := tw_c121) rfl 2 (c1 := (6, [some (.ref 0), some (.int a1)], [.int 1, .ref 0], (I, L, tw_P 2 14 rt sc, A, J, 57))) rfl ?_
    obtain ⟨⟨x10, I11⟩, hx12, h⟩ := tw_letE h
    dsimp only at h
    refine tw_callE (cd := tw_c121) rfl rfl rfl rfl rfl (e_X9_refuse I L A J 2 14 rt sc (1 : Int32) _ hx12) (by exact Or.inl rfl) ?_
    have h := Option.some.inj h
    subst h
    exact tw_retE (cd := tw_c121) rfl rfl rfl rfl
theorem e_X10_isPlace (I : Nat → Int32) (L : Nat → Int64) (A : Nat → Nat → Int32) (J : Nat → Nat → Int64) (tw dr : Nat) (rt : Nat) (sc : Nat) (a1 : Int32) : ∀ r : Bool, g_X10_isPlace I A a1 = some r → tw_ME 235 (0, [some (.ref 44), some (.int a1)], [], (I, L, tw_P tw dr rt sc, A, J, 57)) (some (.int (tw_b r)), (I, L, tw_P tw dr rt sc, A, J, 57)) := by
  intro r h
  unfold g_X10_isPlace at h
  refine tw_blk (cd := tw_c235) rfl 2 (c1 := (2, [some (.ref 44), some (.int a1)], [.int (I 4414)], (I, L, tw_P tw dr rt sc, A, J, 57))) rfl ?_
  by_cases hc1 : (I 4414) = 0
  · rw [if_pos hc1] at h
    refine tw_br (cd := tw_c235) rfl rfl rfl (by exact if_pos hc1) ?_
    refine tw_blk (cd := tw_c235) rfl 1 (c1 := (16, [some (.ref 44), some (.int a1)], [.int 0], (I, L, tw_P tw dr rt sc, A, J, 57))) rfl ?_
    have h := Option.some.inj h
    subst h
    exact tw_retZ (cd := tw_c235) (b := false) rfl rfl rfl rfl
  · rw [if_neg hc1] at h
    refine tw_br (cd := tw_c235) rfl rfl rfl (by exact if_neg hc1) ?_
    refine tw_blk (cd := tw_c235) rfl 5 (c1 := (8, [some (.ref 44), some (.int a1)], [.int 1, .ref 47, .int 0, .int a1], (I, L, tw_P tw dr rt sc, A, J, 57))) rfl ?_
    obtain ⟨x3, hx2, h⟩ := tw_bindE h
    refine tw_iald (cd := tw_c235) (N := 241) rfl rfl rfl rfl hx2 ?_
    refine tw_blk (cd := tw_c235) rfl 2 (c1 := (11, [some (.ref 44), some (.int a1)], [.int (x3 - (1 : Int32)), .int 0, .int a1], (I, L, tw_P tw dr rt sc, A, J, 57))) rfl ?_
    refine tw_callE (cd := tw_c235) rfl rfl rfl rfl rfl (e_X10_in I L A J tw dr rt sc a1 (0 : Int32) (x3 - (1 : Int32)) _ rfl) (by exact Or.inl rfl) ?_
    by_cases hc4 : (g_X10_in a1 (0 : Int32) (x3 - (1 : Int32))) = true
    · rw [if_pos hc4] at h
      refine tw_br (cd := tw_c235) rfl rfl rfl (by exact if_neg (tw_b_t hc4)) ?_
      refine tw_blk (cd := tw_c235) rfl 2 (c1 := (16, [some (.ref 44), some (.int a1)], [.int 1], (I, L, tw_P tw dr rt sc, A, J, 57))) rfl ?_
      have h := Option.some.inj h
      subst h
      exact tw_retZ (cd := tw_c235) (b := true) rfl rfl rfl rfl
    · rw [if_neg hc4] at h
      refine tw_br (cd := tw_c235) rfl rfl rfl (by exact if_pos (tw_b_f hc4)) ?_
      refine tw_blk (cd := tw_c235) rfl 1 (c1 := (16, [some (.ref 44), some (.int a1)], [.int 0], (I, L, tw_P tw dr rt sc, A, J, 57))) rfl ?_
      have h := Option.some.inj h
      subst h
      exact tw_retZ (cd := tw_c235) (b := false) rfl rfl rfl rfl
theorem e_X10_hasBit (I : Nat → Int32) (L : Nat → Int64) (A : Nat → Nat → Int32) (J : Nat → Nat → Int64) (tw dr : Nat) (rt : Nat) (sc : Nat) (a0 : Int32) (a1 : Int32) : ∀ r : Bool, g_X10_hasBit a0 a1 = r → tw_ME 197 (0, [some (.int a0), some (.int a1)], [], (I, L, tw_P tw dr rt sc, A, J, 57)) (some (.int (tw_b r)), (I, L, tw_P tw dr rt sc, A, J, 57)) := by
  intro r h
  unfold g_X10_hasBit at h
  refine tw_blk (cd := tw_c197) rfl 6 (c1 := (6, [some (.int a0), some (.int a1)], [.int 1, .int ((a0 >>> (a1 &&& 31)) &&& (1 : Int32))], (I, L, tw_P tw dr rt sc, A, J, 57))) rfl ?_
  by_cases hc1 : ((a0 >>> (a1 &&& 31)) &&& (1 : Int32)) = (1 : Int32)
  · rw [if_pos hc1] at h
    refine tw_br (cd := tw_c197) rfl rfl rfl (by exact if_pos hc1) ?_
    refine tw_blk (cd := tw_c197) rfl 2 (c1 := (10, [some (.int a0), some (.int a1)], [.int 1], (I, L, tw_P tw dr rt sc, A, J, 57))) rfl ?_
    subst h
    exact tw_retZ (cd := tw_c197) (b := true) rfl rfl rfl rfl
  · rw [if_neg hc1] at h
    refine tw_br (cd := tw_c197) rfl rfl rfl (by exact if_neg hc1) ?_
    refine tw_blk (cd := tw_c197) rfl 1 (c1 := (10, [some (.int a0), some (.int a1)], [.int 0], (I, L, tw_P tw dr rt sc, A, J, 57))) rfl ?_
    subst h
    exact tw_retZ (cd := tw_c197) (b := false) rfl rfl rfl rfl
theorem g_X10_intoOf_L1_ok (I : Nat → Int32) (L : Nat → Int64) (A : Nat → Nat → Int32) (J : Nat → Nat → Int64) (tw : Nat) (dr : Nat) (rt : Nat) (sc : Nat) (a1 : Int32) (out : Option Value × tw_S) : ∀ (n : Nat) (v1_2 : Int32) (v1_3 : Int32) (ex : Int32), g_X10_intoOf_L1 A a1 n v1_2 v1_3 = some ex → tw_ME 242 (48, [none, none, some (.int ex), none], [], (I, L, tw_P tw dr rt sc, A, J, 57)) out → tw_ME 242 (6, [some (.ref 44), some (.int a1), some (.int v1_2), some (.int v1_3)], [], (I, L, tw_P tw dr rt sc, A, J, 57)) out := by
  intro n
  induction n with
  | zero =>
    intro v1_2 v1_3 ex h _
    cases h
  | succ n ih =>
    intro v1_2 v1_3 ex h K
    rw [g_X10_intoOf_L1] at h
    refine tw_blk (cd := tw_c242) rfl 1 (c1 := (7, [some (.ref 44), some (.int a1), some (.int v1_2), some (.int v1_3)], [.int v1_3], (I, L, tw_P tw dr rt sc, A, J, 57))) rfl ?_
    refine tw_blk (cd := tw_c242) rfl 3 (c1 := (10, [some (.ref 44), some (.int a1), some (.int v1_2), some (.int v1_3)], [.int 2, .ref 47, .int v1_3], (I, L, tw_P tw dr rt sc, A, J, 57))) rfl ?_
    obtain ⟨x3, hx2, h⟩ := tw_bindE h
    refine tw_iald (cd := tw_c242) (N := 241) rfl rfl rfl rfl hx2 ?_
    by_cases hc4 : x3 ≤ v1_3
    · rw [if_pos hc4] at h
      refine tw_br (cd := tw_c242) rfl rfl rfl (by exact if_pos hc4) ?_
      refine tw_forget (ls2 := [none, none, some (.int v1_2), none]) ⟨rfl, trivial⟩ ?_
      have h := Option.some.inj h
      subst h
      exact K
    · rw [if_neg hc4] at h
      refine tw_br (cd := tw_c242) rfl rfl rfl (by exact if_neg hc4) ?_
      refine tw_blk (cd := tw_c242) rfl 8 (c1 := (20, [some (.ref 44), some (.int a1), some (.int v1_2), some (.int v1_3)], [.int ((10 : Int32) + ((2 : Int32) * v1_3)), .ref 47, .int v1_2], (I, L, tw_P tw dr rt sc, A, J, 57))) rfl ?_
      obtain ⟨x6, hx5, h⟩ := tw_bindE h
      refine tw_iald (cd := tw_c242) (N := 241) rfl rfl rfl rfl hx5 ?_
      refine tw_blk (cd := tw_c242) rfl 1 (c1 := (22, [some (.ref 44), some (.int a1), some (.int v1_2), some (.int v1_3)], [.int a1, .int x6, .int v1_2], (I, L, tw_P tw dr rt sc, A, J, 57))) rfl ?_
      obtain ⟨x8, hj9, h⟩ := tw_bindE h
      have K : tw_ME 242 (44, [some (.ref 44), some (.int a1), none, some (.int v1_3)], [.int x8, .int v1_2], (I, L, tw_P tw dr rt sc, A, J, 57)) out := by
        refine tw_blk (cd := tw_c242) rfl 4 (c1 := (6, [some (.ref 44), some (.int a1), some (.int (v1_2 ||| x8)), some (.int (v1_3 + (1 : Int32)))], [], (I, L, tw_P tw dr rt sc, A, J, 57))) rfl ?_
        exact ih (v1_2 ||| x8) (v1_3 + (1 : Int32)) _ h K
      by_cases hc7 : x6 = a1
      · rw [if_pos hc7] at hj9
        refine tw_br (cd := tw_c242) rfl rfl rfl (by exact if_pos hc7) ?_
        refine tw_blk (cd := tw_c242) rfl 3 (c1 := (26, [some (.ref 44), some (.int a1), some (.int v1_2), some (.int v1_3)], [.int 6, .ref 52, .int v1_2], (I, L, tw_P tw dr rt sc, A, J, 57))) rfl ?_
        obtain ⟨x11, hx10, hj9⟩ := tw_bindE hj9
        refine tw_iald (cd := tw_c242) (N := 8) rfl rfl rfl rfl hx10 ?_
        refine tw_blk (cd := tw_c242) rfl 1 (c1 := (28, [some (.ref 44), some (.int a1), some (.int v1_2), some (.int v1_3)], [.int v1_3, .int x11, .int v1_2], (I, L, tw_P tw dr rt sc, A, J, 57))) rfl ?_
        refine tw_callE (cd := tw_c242) rfl rfl rfl rfl rfl (e_X10_hasBit I L A J tw dr rt sc x11 v1_3 _ rfl) (by exact Or.inl rfl) ?_
        by_cases hc12 : (g_X10_hasBit x11 v1_3) = true
        · rw [if_pos hc12] at hj9
          refine tw_br (cd := tw_c242) rfl rfl rfl (by exact if_neg (tw_b_t hc12)) ?_
          refine tw_blk (cd := tw_c242) rfl 1 (c1 := (44, [some (.ref 44), some (.int a1), some (.int v1_2), some (.int v1_3)], [.int 0, .int v1_2], (I, L, tw_P tw dr rt sc, A, J, 57))) rfl ?_
          refine tw_forget (ls2 := [some (.ref 44), some (.int a1), none, some (.int v1_3)]) ⟨rfl, rfl, rfl, trivial⟩ ?_
          have hj9s := Option.some.inj hj9
          subst hj9s
          exact K
        · rw [if_neg hc12] at hj9
          refine tw_br (cd := tw_c242) rfl rfl rfl (by exact if_pos (tw_b_f hc12)) ?_
          refine tw_blk (cd := tw_c242) rfl 10 (c1 := (40, [some (.ref 44), some (.int a1), some (.int v1_2), some (.int v1_3)], [.int (((10 : Int32) + ((2 : Int32) * v1_3)) + (1 : Int32)), .ref 47, .int 1, .int v1_2], (I, L, tw_P tw dr rt sc, A, J, 57))) rfl ?_
          obtain ⟨x14, hx13, hj9⟩ := tw_bindE hj9
          refine tw_iald (cd := tw_c242) (N := 241) rfl rfl rfl rfl hx13 ?_
          refine tw_blk (cd := tw_c242) rfl 2 (c1 := (44, [some (.ref 44), some (.int a1), some (.int v1_2), some (.int v1_3)], [.int ((1 : Int32) <<< (x14 &&& 31)), .int v1_2], (I, L, tw_P tw dr rt sc, A, J, 57))) rfl ?_
          refine tw_forget (ls2 := [some (.ref 44), some (.int a1), none, some (.int v1_3)]) ⟨rfl, rfl, rfl, trivial⟩ ?_
          have hj9s := Option.some.inj hj9
          subst hj9s
          exact K
      · rw [if_neg hc7] at hj9
        refine tw_br (cd := tw_c242) rfl rfl rfl (by exact if_neg hc7) ?_
        refine tw_blk (cd := tw_c242) rfl 1 (c1 := (44, [some (.ref 44), some (.int a1), some (.int v1_2), some (.int v1_3)], [.int 0, .int v1_2], (I, L, tw_P tw dr rt sc, A, J, 57))) rfl ?_
        refine tw_forget (ls2 := [some (.ref 44), some (.int a1), none, some (.int v1_3)]) ⟨rfl, rfl, rfl, trivial⟩ ?_
        have hj9s := Option.some.inj hj9
        subst hj9s
        exact K
theorem e_X10_intoOf (I : Nat → Int32) (L : Nat → Int64) (A : Nat → Nat → Int32) (J : Nat → Nat → Int64) (tw dr : Nat) (rt : Nat) (sc : Nat) (a1 : Int32) : ∀ r : Int32, g_X10_intoOf A a1 = some r → tw_ME 242 (0, [some (.ref 44), some (.int a1), none, none], [], (I, L, tw_P tw dr rt sc, A, J, 57)) (some (.int r), (I, L, tw_P tw dr rt sc, A, J, 57)) := by
  intro r h
  unfold g_X10_intoOf at h
  refine tw_blk (cd := tw_c242) rfl 6 (c1 := (6, [some (.ref 44), some (.int a1), some (.int ((1 : Int32) <<< (a1 &&& 31))), some (.int 0)], [], (I, L, tw_P tw dr rt sc, A, J, 57))) rfl ?_
  obtain ⟨x1, hx15, h⟩ := tw_bindE h
  refine g_X10_intoOf_L1_ok I L A J tw dr rt sc a1 _ 4096 ((1 : Int32) <<< (a1 &&& 31)) (0 : Int32) _ hx15 ?_
  refine tw_blk (cd := tw_c242) rfl 1 (c1 := (49, [none, none, some (.int x1), none], [.int x1], (I, L, tw_P tw dr rt sc, A, J, 57))) rfl ?_
  have h := Option.some.inj h
  subst h
  exact tw_retE (cd := tw_c242) rfl rfl rfl rfl
theorem e_X10_into (I : Nat → Int32) (L : Nat → Int64) (A : Nat → Nat → Int32) (J : Nat → Nat → Int64) (tw dr : Nat) (rt : Nat) (sc : Nat) (a1 : Int32) : ∀ r : (Int32 × (Nat → Int32) × (Nat → Nat → Int32)), g_X10_into I A a1 = some r → tw_ME 255 (0, [some (.ref 44), some (.int a1)], [], (I, L, tw_P tw dr rt sc, A, J, 57)) (some (.int r.1), ((r.2.1), L, tw_P tw dr rt sc, (r.2.2), J, 57)) := by
  intro r h
  unfold g_X10_into at h
  refine tw_blk (cd := tw_c255) rfl 1 (c1 := (1, [some (.ref 44), some (.int a1)], [.ref 44], (I, L, tw_P tw dr rt sc, A, J, 57))) rfl ?_
  obtain ⟨I1, hx2, h⟩ := tw_letE h
  refine tw_callE (cd := tw_c255) rfl rfl rfl rfl rfl (e_X10_good I L A J tw dr rt sc _ hx2) (by exact Or.inl rfl) ?_
  refine tw_blk (cd := tw_c255) rfl 2 (c1 := (4, [some (.ref 44), some (.int a1)], [.int a1, .ref 44], (I1, L, tw_P tw dr rt sc, A, J, 57))) rfl ?_
  obtain ⟨c3, hx4, h⟩ := tw_bindE h
  refine tw_callE (cd := tw_c255) rfl rfl rfl rfl rfl (e_X10_isPlace I1 L A J tw dr rt sc a1 _ hx4) (by exact Or.inl rfl) ?_
  by_cases hc5 : c3 = true
  · rw [if_pos hc5] at h
    refine tw_br (cd := tw_c255) rfl rfl rfl (by exact if_neg (tw_b_t hc5)) ?_
    refine tw_blk (cd := tw_c255) rfl 1 (c1 := (11, [some (.ref 44), some (.int a1)], [.ref 44], (I1, L, tw_P tw dr rt sc, A, J, 57))) rfl ?_
    obtain ⟨A6, hx7, h⟩ := tw_bindE h
    refine tw_callE (cd := tw_c255) rfl rfl rfl rfl rfl (e_X10_asNow I1 L A J tw dr rt sc _ hx7) (by exact Or.inl rfl) ?_
    refine tw_blk (cd := tw_c255) rfl 2 (c1 := (14, [some (.ref 44), some (.int a1)], [.int a1, .ref 44], (I1, L, tw_P tw dr rt sc, A6, J, 57))) rfl ?_
    obtain ⟨x8, hx9, h⟩ := tw_bindE h
    refine tw_callE (cd := tw_c255) rfl rfl rfl rfl rfl (e_X10_intoOf I1 L A6 J tw dr rt sc a1 _ hx9) (by exact Or.inl rfl) ?_
    have h := Option.some.inj h
    subst h
    exact tw_retE (cd := tw_c255) rfl rfl rfl rfl
  · rw [if_neg hc5] at h
    refine tw_br (cd := tw_c255) rfl rfl rfl (by exact if_pos (tw_b_f hc5)) ?_
    refine tw_blk (cd := tw_c255) rfl 2 (c1 := (8, [some (.ref 44), some (.int a1)], [.int 1, .ref 44], (I1, L, tw_P tw dr rt sc, A, J, 57))) rfl ?_
    obtain ⟨⟨x10, I11⟩, hx12, h⟩ := tw_letE h
    dsimp only at h
    refine tw_callE (cd := tw_c255) rfl rfl rfl rfl rfl (e_X10_no I1 L A J tw dr rt sc (1 : Int32) _ hx12) (by exact Or.inl rfl) ?_
    have h := Option.some.inj h
    subst h
    exact tw_retE (cd := tw_c255) rfl rfl rfl rfl
theorem e_X9_mayNotLook (I : Nat → Int32) (L : Nat → Int64) (A : Nat → Nat → Int32) (J : Nat → Nat → Int64) (rt : Nat) (sc : Nat) (a1 : Int32) (a2 : Int32) : ∀ r : (Bool × (Nat → Int32) × (Nat → Nat → Int32)), g_X9_mayNotLook I A a1 a2 = some r → tw_ME 185 (0, [some (.ref 0), some (.int a1), some (.int a2)], [], (I, L, tw_P 2 14 rt sc, A, J, 57)) (some (.int (tw_b r.1)), ((r.2.1), L, tw_P 2 14 rt (bif r.1 then sc else 2), (r.2.2), J, 57)) := by
  intro r h
  unfold g_X9_mayNotLook at h
  refine tw_blk (cd := tw_c185) rfl 2 (c1 := (2, [some (.ref 0), some (.int a1), some (.int a2)], [.int a1, .ref 0], (I, L, tw_P 2 14 rt sc, A, J, 57))) rfl ?_
  refine tw_callE (cd := tw_c185) rfl rfl rfl rfl rfl (e_X9_isPlace I L A J rt sc a1 _ rfl) (by exact Or.inl rfl) ?_
  by_cases hc1 : (g_X9_isPlace A a1) = true
  · rw [if_pos hc1] at h
    refine tw_br (cd := tw_c185) rfl rfl rfl (by exact if_neg (tw_b_t hc1)) ?_
    refine tw_blk (cd := tw_c185) rfl 1 (c1 := (10, [some (.ref 0), some (.int a1), some (.int a2)], [.int a2], (I, L, tw_P 2 14 rt sc, A, J, 57))) rfl ?_
    refine tw_callE (cd := tw_c185) rfl rfl rfl rfl rfl (e_X9_isMinute I L A J 2 14 rt sc a2 _ rfl) (by exact Or.inl rfl) ?_
    by_cases hc2 : (g_X9_isMinute a2) = true
    · rw [if_pos hc2] at h
      refine tw_br (cd := tw_c185) rfl rfl rfl (by exact if_neg (tw_b_t hc2)) ?_
      refine tw_blk (cd := tw_c185) rfl 1 (c1 := (18, [some (.ref 0), some (.int a1), some (.int a2)], [.ref 0], (I, L, tw_P 2 14 rt sc, A, J, 57))) rfl ?_
      obtain ⟨⟨I3, A4⟩, hx5, h⟩ := tw_bindE h
      dsimp only at h
      refine tw_callE (cd := tw_c185) rfl rfl rfl rfl rfl (e_X9_showNow I L A J rt sc _ hx5) (by exact Or.inl rfl) ?_
      refine tw_blk (cd := tw_c185) rfl 1 (c1 := (20, [some (.ref 0), some (.int a1), some (.int a2)], [.int 0], (I3, L, tw_P 2 14 rt 2, A4, J, 57))) rfl ?_
      have h := Option.some.inj h
      subst h
      exact tw_retZ (cd := tw_c185) (b := false) rfl rfl rfl rfl
    · rw [if_neg hc2] at h
      refine tw_br (cd := tw_c185) rfl rfl rfl (by exact if_pos (tw_b_f hc2)) ?_
      refine tw_blk (cd := tw_c185) rfl 4 (c1 := (16, [some (.ref 0), some (.int a1), some (.int a2)], [.int 1], ((upd I 12 (2 : Int32)), L, tw_P 2 14 rt sc, A, J, 57))) rfl ?_
      have h := Option.some.inj h
      subst h
      exact tw_retZ (cd := tw_c185) (b := true) rfl rfl rfl rfl
  · rw [if_neg hc1] at h
    refine tw_br (cd := tw_c185) rfl rfl rfl (by exact if_pos (tw_b_f hc1)) ?_
    refine tw_blk (cd := tw_c185) rfl 4 (c1 := (8, [some (.ref 0), some (.int a1), some (.int a2)], [.int 1], ((upd I 12 (1 : Int32)), L, tw_P 2 14 rt sc, A, J, 57))) rfl ?_
    have h := Option.some.inj h
    subst h
    exact tw_retZ (cd := tw_c185) (b := true) rfl rfl rfl rfl
theorem g_X6_lookouts_L1_ok (I : Nat → Int32) (L : Nat → Int64) (A : Nat → Nat → Int32) (J : Nat → Nat → Int64) (tw : Nat) (dr : Nat) (rt : Nat) (a1 : Int32) (out : Option Value × tw_S) : ∀ (n : Nat) (v1_2 : Int32) (v1_3 : Int32) (ex : Int32), g_X6_lookouts_L1 I A a1 n v1_2 v1_3 = some ex → tw_ME 85 (38, [none, none, some (.int ex), none], [], (I, L, tw_P tw dr rt 2, A, J, 57)) out → tw_ME 85 (6, [some (.ref 36), some (.int a1), some (.int v1_2), some (.int v1_3)], [], (I, L, tw_P tw dr rt 2, A, J, 57)) out := by
  intro n
  induction n with
  | zero =>
    intro v1_2 v1_3 ex h _
    cases h
  | succ n ih =>
    intro v1_2 v1_3 ex h K
    rw [g_X6_lookouts_L1] at h
    refine tw_blk (cd := tw_c85) rfl 1 (c1 := (7, [some (.ref 36), some (.int a1), some (.int v1_2), some (.int v1_3)], [.int v1_3], (I, L, tw_P tw dr rt 2, A, J, 57))) rfl ?_
    refine tw_blk (cd := tw_c85) rfl 3 (c1 := (10, [some (.ref 36), some (.int a1), some (.int v1_2), some (.int v1_3)], [.int 2, .ref 2, .int v1_3], (I, L, tw_P tw dr rt 2, A, J, 57))) rfl ?_
    refine tw_callE (cd := tw_c85) rfl rfl rfl rfl rfl (e_X8_count_2 I L A J tw dr rt 2 (2 : Int32) _ rfl) (by exact Or.inl rfl) ?_
    by_cases hc2 : (g_X8_count_2 A (2 : Int32)) ≤ v1_3
    · rw [if_pos hc2] at h
      refine tw_br (cd := tw_c85) rfl rfl rfl (by exact if_pos hc2) ?_
      refine tw_forget (ls2 := [none, none, some (.int v1_2), none]) ⟨rfl, trivial⟩ ?_
      have h := Option.some.inj h
      subst h
      exact K
    · rw [if_neg hc2] at h
      refine tw_br (cd := tw_c85) rfl rfl rfl (by exact if_neg hc2) ?_
      refine tw_blk (cd := tw_c85) rfl 4 (c1 := (16, [some (.ref 36), some (.int a1), some (.int v1_2), some (.int v1_3)], [.int v1_3, .ref 5], (I, L, tw_P tw dr rt 2, A, J, 57))) rfl ?_
      refine tw_callE (cd := tw_c85) rfl rfl rfl rfl rfl (tw_e_get I L (tw_P tw dr rt 2) A J (q := 5) (N := 8) rfl rfl (by decide) v1_3) (by exact Or.inl rfl) ?_
      refine tw_blk (cd := tw_c85) rfl 1 (c1 := (18, [some (.ref 36), some (.int a1), some (.int v1_2), some (.int v1_3)], [.int a1, .int (tw_get0 8 (A 5) v1_3)], (I, L, tw_P tw dr rt 2, A, J, 57))) rfl ?_
      obtain ⟨x4, hj5, h⟩ := tw_bindE h
      have K : tw_ME 85 (36, [some (.ref 36), some (.int a1), some (.int x4), some (.int v1_3)], [], (I, L, tw_P tw dr rt 2, A, J, 57)) out := by
        refine tw_blk (cd := tw_c85) rfl 2 (c1 := (6, [some (.ref 36), some (.int a1), some (.int x4), some (.int (v1_3 + (1 : Int32)))], [], (I, L, tw_P tw dr rt 2, A, J, 57))) rfl ?_
        exact ih x4 (v1_3 + (1 : Int32)) _ h K
      by_cases hc3 : (tw_get0 8 (A 5) v1_3) = a1
      · rw [if_pos hc3] at hj5
        refine tw_br (cd := tw_c85) rfl rfl rfl (by exact if_pos hc3) ?_
        refine tw_blk (cd := tw_c85) rfl 6 (c1 := (25, [some (.ref 36), some (.int a1), some (.int v1_2), some (.int v1_3)], [.int (((I 3601) >>> (v1_3 &&& 31)) &&& (1 : Int32))], (I, L, tw_P tw dr rt 2, A, J, 57))) rfl ?_
        by_cases hc6 : (((I 3601) >>> (v1_3 &&& 31)) &&& (1 : Int32)) = 0
        · rw [if_pos hc6] at hj5
          refine tw_br (cd := tw_c85) rfl rfl rfl (by exact if_pos hc6) ?_
          refine tw_blk (cd := tw_c85) rfl 6 (c1 := (32, [some (.ref 36), some (.int a1), some (.int v1_2), some (.int v1_3)], [.int v1_3, .ref 4, .int 1, .int v1_2], (I, L, tw_P tw dr rt 2, A, J, 57))) rfl ?_
          refine tw_callE (cd := tw_c85) rfl rfl rfl rfl rfl (tw_e_get I L (tw_P tw dr rt 2) A J (q := 4) (N := 8) rfl rfl (by decide) v1_3) (by exact Or.inl rfl) ?_
          refine tw_blk (cd := tw_c85) rfl 3 (c1 := (36, [some (.ref 36), some (.int a1), some (.int (v1_2 ||| ((1 : Int32) <<< ((tw_get0 8 (A 4) v1_3) &&& 31)))), some (.int v1_3)], [], (I, L, tw_P tw dr rt 2, A, J, 57))) rfl ?_
          have hj5s := Option.some.inj hj5
          subst hj5s
          exact K
        · rw [if_neg hc6] at hj5
          refine tw_br (cd := tw_c85) rfl rfl rfl (by exact if_neg hc6) ?_
          have hj5s := Option.some.inj hj5
          subst hj5s
          exact K
      · rw [if_neg hc3] at hj5
        refine tw_br (cd := tw_c85) rfl rfl rfl (by exact if_neg hc3) ?_
        have hj5s := Option.some.inj hj5
        subst hj5s
        exact K
theorem e_X6_lookouts (I : Nat → Int32) (L : Nat → Int64) (A : Nat → Nat → Int32) (J : Nat → Nat → Int64) (tw dr : Nat) (rt : Nat) (a1 : Int32) : ∀ r : Int32, g_X6_lookouts I A a1 = some r → tw_ME 85 (0, [some (.ref 36), some (.int a1), none, none], [], (I, L, tw_P tw dr rt 2, A, J, 57)) (some (.int r), (I, L, tw_P tw dr rt 2, A, J, 57)) := by
  intro r h
  unfold g_X6_lookouts at h
  refine tw_blk (cd := tw_c85) rfl 6 (c1 := (6, [some (.ref 36), some (.int a1), some (.int ((1 : Int32) <<< (a1 &&& 31))), some (.int 0)], [], (I, L, tw_P tw dr rt 2, A, J, 57))) rfl ?_
  obtain ⟨x1, hx7, h⟩ := tw_bindE h
  refine g_X6_lookouts_L1_ok I L A J tw dr rt a1 _ 4096 ((1 : Int32) <<< (a1 &&& 31)) (0 : Int32) _ hx7 ?_
  refine tw_blk (cd := tw_c85) rfl 1 (c1 := (39, [none, none, some (.int x1), none], [.int x1], (I, L, tw_P tw dr rt 2, A, J, 57))) rfl ?_
  have h := Option.some.inj h
  subst h
  exact tw_retE (cd := tw_c85) rfl rfl rfl rfl
theorem g_X6_peopleAt_L1_ok (I : Nat → Int32) (L : Nat → Int64) (A : Nat → Nat → Int32) (J : Nat → Nat → Int64) (tw : Nat) (dr : Nat) (rt : Nat) (a1 : Int32) (a2 : Int32) (out : Option Value × tw_S) : ∀ (n : Nat) (v1_3 : Int32) (v1_4 : Int32) (ex : Int32), g_X6_peopleAt_L1 I A a1 a2 n v1_3 v1_4 = some ex → tw_ME 86 (25, [none, none, none, some (.int ex), none], [], (I, L, tw_P tw dr rt 2, A, J, 57)) out → tw_ME 86 (4, [some (.ref 36), some (.int a1), some (.int a2), some (.int v1_3), some (.int v1_4)], [], (I, L, tw_P tw dr rt 2, A, J, 57)) out := by
  intro n
  induction n with
  | zero =>
    intro v1_3 v1_4 ex h _
    cases h
  | succ n ih =>
    intro v1_3 v1_4 ex h K
    rw [g_X6_peopleAt_L1] at h
    refine tw_blk (cd := tw_c86) rfl 1 (c1 := (5, [some (.ref 36), some (.int a1), some (.int a2), some (.int v1_3), some (.int v1_4)], [.int v1_4], (I, L, tw_P tw dr rt 2, A, J, 57))) rfl ?_
    refine tw_blk (cd := tw_c86) rfl 3 (c1 := (8, [some (.ref 36), some (.int a1), some (.int a2), some (.int v1_3), some (.int v1_4)], [.int 3, .ref 2, .int v1_4], (I, L, tw_P tw dr rt 2, A, J, 57))) rfl ?_
    refine tw_callE (cd := tw_c86) rfl rfl rfl rfl rfl (e_X8_count_2 I L A J tw dr rt 2 (3 : Int32) _ rfl) (by exact Or.inl rfl) ?_
    by_cases hc2 : (g_X8_count_2 A (3 : Int32)) ≤ v1_4
    · rw [if_pos hc2] at h
      refine tw_br (cd := tw_c86) rfl rfl rfl (by exact if_pos hc2) ?_
      refine tw_forget (ls2 := [none, none, none, some (.int v1_3), none]) ⟨rfl, trivial⟩ ?_
      have h := Option.some.inj h
      subst h
      exact K
    · rw [if_neg hc2] at h
      refine tw_br (cd := tw_c86) rfl rfl rfl (by exact if_neg hc2) ?_
      refine tw_blk (cd := tw_c86) rfl 5 (c1 := (15, [some (.ref 36), some (.int a1), some (.int a2), some (.int v1_3), some (.int v1_4)], [.int a2, .int v1_4, .ref 36, .int a1, .int v1_3], (I, L, tw_P tw dr rt 2, A, J, 57))) rfl ?_
      refine tw_callE (cd := tw_c86) rfl rfl rfl rfl rfl (e_X6_spotOf I L A J tw dr rt v1_4 a2 _ rfl) (by exact Or.inl rfl) ?_
      refine tw_blk (cd := tw_c86) rfl 9 (c1 := (4, [some (.ref 36), some (.int a1), some (.int a2), some (.int (v1_3 ||| (((a1 >>> ((g_X6_spotOf I A v1_4 a2) &&& 31)) &&& (1 : Int32)) <<< (v1_4 &&& 31)))), some (.int (v1_4 + (1 : Int32)))], [], (I, L, tw_P tw dr rt 2, A, J, 57))) rfl ?_
      exact ih (v1_3 ||| (((a1 >>> ((g_X6_spotOf I A v1_4 a2) &&& 31)) &&& (1 : Int32)) <<< (v1_4 &&& 31))) (v1_4 + (1 : Int32)) _ h K
theorem e_X6_peopleAt (I : Nat → Int32) (L : Nat → Int64) (A : Nat → Nat → Int32) (J : Nat → Nat → Int64) (tw dr : Nat) (rt : Nat) (a1 : Int32) (a2 : Int32) : ∀ r : Int32, g_X6_peopleAt I A a1 a2 = some r → tw_ME 86 (0, [some (.ref 36), some (.int a1), some (.int a2), none, none], [], (I, L, tw_P tw dr rt 2, A, J, 57)) (some (.int r), (I, L, tw_P tw dr rt 2, A, J, 57)) := by
  intro r h
  unfold g_X6_peopleAt at h
  refine tw_blk (cd := tw_c86) rfl 4 (c1 := (4, [some (.ref 36), some (.int a1), some (.int a2), some (.int 0), some (.int 0)], [], (I, L, tw_P tw dr rt 2, A, J, 57))) rfl ?_
  obtain ⟨x1, hx3, h⟩ := tw_bindE h
  refine g_X6_peopleAt_L1_ok I L A J tw dr rt a1 a2 _ 4096 (0 : Int32) (0 : Int32) _ hx3 ?_
  refine tw_blk (cd := tw_c86) rfl 1 (c1 := (26, [none, none, none, some (.int x1), none], [.int x1], (I, L, tw_P tw dr rt 2, A, J, 57))) rfl ?_
  have h := Option.some.inj h
  subst h
  exact tw_retE (cd := tw_c86) rfl rfl rfl rfl
theorem e_X6_seers (I : Nat → Int32) (L : Nat → Int64) (A : Nat → Nat → Int32) (J : Nat → Nat → Int64) (tw dr : Nat) (rt : Nat) (a1 : Int32) (a2 : Int32) : ∀ r : Int32, g_X6_seers I A a1 a2 = some r → tw_ME 87 (0, [some (.ref 36), some (.int a1), some (.int a2)], [], (I, L, tw_P tw dr rt 2, A, J, 57)) (some (.int r), (I, L, tw_P tw dr rt 2, A, J, 57)) := by
  intro r h
  unfold g_X6_seers at h
  refine tw_blk (cd := tw_c87) rfl 3 (c1 := (3, [some (.ref 36), some (.int a1), some (.int a2)], [.int a1, .ref 36, .ref 36], (I, L, tw_P tw dr rt 2, A, J, 57))) rfl ?_
  obtain ⟨x1, hx2, h⟩ := tw_bindE h
  refine tw_callE (cd := tw_c87) rfl rfl rfl rfl rfl (e_X6_lookouts I L A J tw dr rt a1 _ hx2) (by exact Or.inl rfl) ?_
  refine tw_blk (cd := tw_c87) rfl 1 (c1 := (5, [some (.ref 36), some (.int a1), some (.int a2)], [.int a2, .int x1, .ref 36], (I, L, tw_P tw dr rt 2, A, J, 57))) rfl ?_
  obtain ⟨x3, hx4, h⟩ := tw_bindE h
  refine tw_callE (cd := tw_c87) rfl rfl rfl rfl rfl (e_X6_peopleAt I L A J tw dr rt x1 a2 _ hx4) (by exact Or.inl rfl) ?_
  have h := Option.some.inj h
  subst h
  exact tw_retE (cd := tw_c87) rfl rfl rfl rfl
theorem e_X9_watchers (I : Nat → Int32) (L : Nat → Int64) (A : Nat → Nat → Int32) (J : Nat → Nat → Int64) (rt : Nat) (sc : Nat) (a1 : Int32) (a2 : Int32) : ∀ r : (Int32 × (Nat → Int32) × (Nat → Nat → Int32) × Nat), g_X9_watchers I A sc a1 a2 = some r → tw_ME 122 (0, [some (.ref 0), some (.int a1), some (.int a2)], [], (I, L, tw_P 2 14 rt sc, A, J, 57)) (some (.int r.1), ((r.2.1), L, tw_P 2 14 rt (r.2.2.2), (r.2.2.1), J, 57)) := by
  intro r h
  unfold g_X9_watchers at h
  refine tw_blk (cd := tw_c122) rfl 3 (c1 := (3, [some (.ref 0), some (.int a1), some (.int a2)], [.int a2, .int a1, .ref 0], (I, L, tw_P 2 14 rt sc, A, J, 57))) rfl ?_
  obtain ⟨⟨c1, I2, A3⟩, hx4, h⟩ := tw_bindE h
  dsimp only at h
  refine tw_callE (cd := tw_c122) rfl rfl rfl rfl rfl (e_X9_mayNotLook I L A J rt sc a1 a2 _ hx4) (by exact Or.inl rfl) ?_
  by_cases hc5 : c1 = true
  · subst hc5
    rw [if_pos rfl] at h
    refine tw_br (cd := tw_c122) rfl rfl rfl (by exact rfl) ?_
    refine tw_blk (cd := tw_c122) rfl 1 (c1 := (6, [some (.ref 0), some (.int a1), some (.int a2)], [.int (-1)], (I2, L, tw_P 2 14 rt sc, A3, J, 57))) rfl ?_
    have h := Option.some.inj h
    subst h
    exact tw_retE (cd := tw_c122) rfl rfl rfl rfl
  · have hc5 := Bool.eq_false_iff.mpr hc5
    subst hc5
    rw [if_neg (by decide)] at h
    refine tw_br (cd := tw_c122) rfl rfl rfl (by exact rfl) ?_
    refine tw_blk (cd := tw_c122) rfl 5 (c1 := (12, [some (.ref 0), some (.int a1), some (.int a2)], [.int a2, .int a1, .ref 36, .ref 0], (I2, L, tw_P 2 14 rt 2, A3, J, 57))) rfl ?_
    obtain ⟨x6, hx7, h⟩ := tw_bindE h
    refine tw_callE (cd := tw_c122) rfl rfl rfl rfl rfl (e_X6_seers I2 L A3 J 2 14 rt a1 a2 _ hx7) (by exact Or.inl rfl) ?_
    obtain ⟨⟨x8, I9⟩, hx10, h⟩ := tw_letE h
    dsimp only at h
    refine tw_callE (cd := tw_c122) rfl rfl rfl rfl rfl (e_X9_grant I2 L A3 J 2 14 rt 2 x6 _ hx10) (by exact Or.inl rfl) ?_
    have h := Option.some.inj h
    subst h
    exact tw_retE (cd := tw_c122) rfl rfl rfl rfl
theorem g_X10_watchersOf_L1_ok (I : Nat → Int32) (L : Nat → Int64) (A : Nat → Nat → Int32) (J : Nat → Nat → Int64) (tw : Nat) (dr : Nat) (rt : Nat) (sc : Nat) (a1 : Int32) (a2 : Int32) (out : Option Value × tw_S) : ∀ (n : Nat) (v1_3 : Int32) (v1_4 : Int32) (ex : Int32), g_X10_watchersOf_L1 A a1 a2 n v1_3 v1_4 = some ex → tw_ME 243 (29, [none, none, none, some (.int ex), none], [], (I, L, tw_P tw dr rt sc, A, J, 57)) out → tw_ME 243 (4, [some (.ref 44), some (.int a1), some (.int a2), some (.int v1_3), some (.int v1_4)], [], (I, L, tw_P tw dr rt sc, A, J, 57)) out := by
  intro n
  induction n with
  | zero =>
    intro v1_3 v1_4 ex h _
    cases h
  | succ n ih =>
    intro v1_3 v1_4 ex h K
    rw [g_X10_watchersOf_L1] at h
    refine tw_blk (cd := tw_c243) rfl 1 (c1 := (5, [some (.ref 44), some (.int a1), some (.int a2), some (.int v1_3), some (.int v1_4)], [.int v1_4], (I, L, tw_P tw dr rt sc, A, J, 57))) rfl ?_
    refine tw_blk (cd := tw_c243) rfl 3 (c1 := (8, [some (.ref 44), some (.int a1), some (.int a2), some (.int v1_3), some (.int v1_4)], [.int 3, .ref 47, .int v1_4], (I, L, tw_P tw dr rt sc, A, J, 57))) rfl ?_
    obtain ⟨x3, hx2, h⟩ := tw_bindE h
    refine tw_iald (cd := tw_c243) (N := 241) rfl rfl rfl rfl hx2 ?_
    by_cases hc4 : x3 ≤ v1_4
    · rw [if_pos hc4] at h
      refine tw_br (cd := tw_c243) rfl rfl rfl (by exact if_pos hc4) ?_
      refine tw_forget (ls2 := [none, none, none, some (.int v1_3), none]) ⟨rfl, trivial⟩ ?_
      have h := Option.some.inj h
      subst h
      exact K
    · rw [if_neg hc4] at h
      refine tw_br (cd := tw_c243) rfl rfl rfl (by exact if_neg hc4) ?_
      refine tw_blk (cd := tw_c243) rfl 5 (c1 := (15, [some (.ref 44), some (.int a1), some (.int a2), some (.int v1_3), some (.int v1_4)], [.int a2, .int v1_4, .ref 44, .ref 44, .int v1_3], (I, L, tw_P tw dr rt sc, A, J, 57))) rfl ?_
      obtain ⟨x5, hx6, h⟩ := tw_bindE h
      refine tw_callE (cd := tw_c243) rfl rfl rfl rfl rfl (e_X10_placeOf I L A J tw dr rt sc v1_4 a2 _ hx6) (by exact Or.inl rfl) ?_
      obtain ⟨x7, hx8, h⟩ := tw_bindE h
      refine tw_callE (cd := tw_c243) rfl rfl rfl rfl rfl (e_X10_intoOf I L A J tw dr rt sc x5 _ hx8) (by exact Or.inl rfl) ?_
      refine tw_blk (cd := tw_c243) rfl 1 (c1 := (18, [some (.ref 44), some (.int a1), some (.int a2), some (.int v1_3), some (.int v1_4)], [.int a1, .int x7, .int v1_3], (I, L, tw_P tw dr rt sc, A, J, 57))) rfl ?_
      refine tw_callE (cd := tw_c243) rfl rfl rfl rfl rfl (e_X10_hasBit I L A J tw dr rt sc x7 a1 _ rfl) (by exact Or.inl rfl) ?_
      obtain ⟨x10, hj11, h⟩ := tw_bindE h
      have K : tw_ME 243 (25, [some (.ref 44), some (.int a1), some (.int a2), none, some (.int v1_4)], [.int x10, .int v1_3], (I, L, tw_P tw dr rt sc, A, J, 57)) out := by
        refine tw_blk (cd := tw_c243) rfl 4 (c1 := (4, [some (.ref 44), some (.int a1), some (.int a2), some (.int (v1_3 ||| x10)), some (.int (v1_4 + (1 : Int32)))], [], (I, L, tw_P tw dr rt sc, A, J, 57))) rfl ?_
        exact ih (v1_3 ||| x10) (v1_4 + (1 : Int32)) _ h K
      by_cases hc9 : (g_X10_hasBit x7 a1) = true
      · rw [if_pos hc9] at hj11
        refine tw_br (cd := tw_c243) rfl rfl rfl (by exact if_neg (tw_b_t hc9)) ?_
        refine tw_blk (cd := tw_c243) rfl 4 (c1 := (25, [some (.ref 44), some (.int a1), some (.int a2), some (.int v1_3), some (.int v1_4)], [.int ((1 : Int32) <<< (v1_4 &&& 31)), .int v1_3], (I, L, tw_P tw dr rt sc, A, J, 57))) rfl ?_
        refine tw_forget (ls2 := [some (.ref 44), some (.int a1), some (.int a2), none, some (.int v1_4)]) ⟨rfl, rfl, rfl, rfl, trivial⟩ ?_
        have hj11s := Option.some.inj hj11
        subst hj11s
        exact K
      · rw [if_neg hc9] at hj11
        refine tw_br (cd := tw_c243) rfl rfl rfl (by exact if_pos (tw_b_f hc9)) ?_
        refine tw_blk (cd := tw_c243) rfl 1 (c1 := (25, [some (.ref 44), some (.int a1), some (.int a2), some (.int v1_3), some (.int v1_4)], [.int 0, .int v1_3], (I, L, tw_P tw dr rt sc, A, J, 57))) rfl ?_
        refine tw_forget (ls2 := [some (.ref 44), some (.int a1), some (.int a2), none, some (.int v1_4)]) ⟨rfl, rfl, rfl, rfl, trivial⟩ ?_
        have hj11s := Option.some.inj hj11
        subst hj11s
        exact K
theorem e_X10_watchersOf (I : Nat → Int32) (L : Nat → Int64) (A : Nat → Nat → Int32) (J : Nat → Nat → Int64) (tw dr : Nat) (rt : Nat) (sc : Nat) (a1 : Int32) (a2 : Int32) : ∀ r : Int32, g_X10_watchersOf A a1 a2 = some r → tw_ME 243 (0, [some (.ref 44), some (.int a1), some (.int a2), none, none], [], (I, L, tw_P tw dr rt sc, A, J, 57)) (some (.int r), (I, L, tw_P tw dr rt sc, A, J, 57)) := by
  intro r h
  unfold g_X10_watchersOf at h
  refine tw_blk (cd := tw_c243) rfl 4 (c1 := (4, [some (.ref 44), some (.int a1), some (.int a2), some (.int 0), some (.int 0)], [], (I, L, tw_P tw dr rt sc, A, J, 57))) rfl ?_
  obtain ⟨x1, hx12, h⟩ := tw_bindE h
  refine g_X10_watchersOf_L1_ok I L A J tw dr rt sc a1 a2 _ 4096 (0 : Int32) (0 : Int32) _ hx12 ?_
  refine tw_blk (cd := tw_c243) rfl 1 (c1 := (30, [none, none, none, some (.int x1), none], [.int x1], (I, L, tw_P tw dr rt sc, A, J, 57))) rfl ?_
  have h := Option.some.inj h
  subst h
  exact tw_retE (cd := tw_c243) rfl rfl rfl rfl
theorem e_X10_watchers (I : Nat → Int32) (L : Nat → Int64) (A : Nat → Nat → Int32) (J : Nat → Nat → Int64) (tw dr : Nat) (rt : Nat) (sc : Nat) (a1 : Int32) (a2 : Int32) : ∀ r : (Int32 × (Nat → Int32) × (Nat → Nat → Int32)), g_X10_watchers I A a1 a2 = some r → tw_ME 256 (0, [some (.ref 44), some (.int a1), some (.int a2), none], [], (I, L, tw_P tw dr rt sc, A, J, 57)) (some (.int r.1), ((r.2.1), L, tw_P tw dr rt sc, (r.2.2), J, 57)) := by
  intro r h
  unfold g_X10_watchers at h
  refine tw_blk (cd := tw_c256) rfl 1 (c1 := (1, [some (.ref 44), some (.int a1), some (.int a2), none], [.ref 44], (I, L, tw_P tw dr rt sc, A, J, 57))) rfl ?_
  obtain ⟨I1, hx2, h⟩ := tw_letE h
  refine tw_callE (cd := tw_c256) rfl rfl rfl rfl rfl (e_X10_good I L A J tw dr rt sc _ hx2) (by exact Or.inl rfl) ?_
  refine tw_blk (cd := tw_c256) rfl 3 (c1 := (5, [some (.ref 44), some (.int a1), some (.int a2), none], [.int a1, .ref 44, .ref 44], (I1, L, tw_P tw dr rt sc, A, J, 57))) rfl ?_
  obtain ⟨c3, hx4, h⟩ := tw_bindE h
  refine tw_callE (cd := tw_c256) rfl rfl rfl rfl rfl (e_X10_isPlace I1 L A J tw dr rt sc a1 _ hx4) (by exact Or.inl rfl) ?_
  refine tw_blk (cd := tw_c256) rfl 2 (c1 := (8, [some (.ref 44), some (.int a1), some (.int a2), none], [.int a2, .ref 44, .int (tw_b c3), .ref 44], (I1, L, tw_P tw dr rt sc, A, J, 57))) rfl ?_
  refine tw_callE (cd := tw_c256) rfl rfl rfl rfl rfl (e_X10_isMinute I1 L A J tw dr rt sc a2 _ rfl) (by exact Or.inl rfl) ?_
  refine tw_callE (cd := tw_c256) rfl rfl rfl rfl rfl (e_X10_why I1 L A J tw dr rt sc (tw_b c3) (tw_b (g_X10_isMinute a2)) _ rfl) (by exact Or.inl rfl) ?_
  refine tw_blk (cd := tw_c256) rfl 2 (c1 := (12, [some (.ref 44), some (.int a1), some (.int a2), some (.int (g_X10_why (tw_b c3) (tw_b (g_X10_isMinute a2))))], [.int (g_X10_why (tw_b c3) (tw_b (g_X10_isMinute a2)))], (I1, L, tw_P tw dr rt sc, A, J, 57))) rfl ?_
  by_cases hc5 : (g_X10_why (tw_b c3) (tw_b (g_X10_isMinute a2))) = 0
  · rw [if_pos hc5] at h
    refine tw_br (cd := tw_c256) rfl rfl rfl (by exact if_pos hc5) ?_
    refine tw_blk (cd := tw_c256) rfl 1 (c1 := (18, [some (.ref 44), some (.int a1), some (.int a2), some (.int (g_X10_why (tw_b c3) (tw_b (g_X10_isMinute a2))))], [.ref 44], (I1, L, tw_P tw dr rt sc, A, J, 57))) rfl ?_
    obtain ⟨A6, hx7, h⟩ := tw_bindE h
    refine tw_callE (cd := tw_c256) rfl rfl rfl rfl rfl (e_X10_asNow I1 L A J tw dr rt sc _ hx7) (by exact Or.inl rfl) ?_
    refine tw_blk (cd := tw_c256) rfl 3 (c1 := (22, [some (.ref 44), some (.int a1), some (.int a2), some (.int (g_X10_why (tw_b c3) (tw_b (g_X10_isMinute a2))))], [.int a2, .int a1, .ref 44], (I1, L, tw_P tw dr rt sc, A6, J, 57))) rfl ?_
    obtain ⟨x8, hx9, h⟩ := tw_bindE h
    refine tw_callE (cd := tw_c256) rfl rfl rfl rfl rfl (e_X10_watchersOf I1 L A6 J tw dr rt sc a1 a2 _ hx9) (by exact Or.inl rfl) ?_
    have h := Option.some.inj h
    subst h
    exact tw_retE (cd := tw_c256) rfl rfl rfl rfl
  · rw [if_neg hc5] at h
    refine tw_br (cd := tw_c256) rfl rfl rfl (by exact if_neg hc5) ?_
    refine tw_blk (cd := tw_c256) rfl 2 (c1 := (15, [some (.ref 44), some (.int a1), some (.int a2), some (.int (g_X10_why (tw_b c3) (tw_b (g_X10_isMinute a2))))], [.int (g_X10_why (tw_b c3) (tw_b (g_X10_isMinute a2))), .ref 44], (I1, L, tw_P tw dr rt sc, A, J, 57))) rfl ?_
    obtain ⟨⟨x10, I11⟩, hx12, h⟩ := tw_letE h
    dsimp only at h
    refine tw_callE (cd := tw_c256) rfl rfl rfl rfl rfl (e_X10_no I1 L A J tw dr rt sc (g_X10_why (tw_b c3) (tw_b (g_X10_isMinute a2))) _ hx12) (by exact Or.inl rfl) ?_
    have h := Option.some.inj h
    subst h
    exact tw_retE (cd := tw_c256) rfl rfl rfl rfl
theorem g_X6_eyesOf_L1_ok (I : Nat → Int32) (L : Nat → Int64) (A : Nat → Nat → Int32) (J : Nat → Nat → Int64) (tw : Nat) (dr : Nat) (rt : Nat) (a1 : Int32) (out : Option Value × tw_S) : ∀ (n : Nat) (v1_2 : Int32) (v1_3 : Int32) (ex : Int32), g_X6_eyesOf_L1 A a1 n v1_2 v1_3 = some ex → tw_ME 82 (24, [none, none, some (.int ex), none], [], (I, L, tw_P tw dr rt 2, A, J, 57)) out → tw_ME 82 (4, [some (.ref 36), some (.int a1), some (.int v1_2), some (.int v1_3)], [], (I, L, tw_P tw dr rt 2, A, J, 57)) out := by
  intro n
  induction n with
  | zero =>
    intro v1_2 v1_3 ex h _
    cases h
  | succ n ih =>
    intro v1_2 v1_3 ex h K
    rw [g_X6_eyesOf_L1] at h
    refine tw_blk (cd := tw_c82) rfl 1 (c1 := (5, [some (.ref 36), some (.int a1), some (.int v1_2), some (.int v1_3)], [.int v1_3], (I, L, tw_P tw dr rt 2, A, J, 57))) rfl ?_
    refine tw_blk (cd := tw_c82) rfl 1 (c1 := (6, [some (.ref 36), some (.int a1), some (.int v1_2), some (.int v1_3)], [.int 6, .int v1_3], (I, L, tw_P tw dr rt 2, A, J, 57))) rfl ?_
    by_cases hc2 : (6 : Int32) ≤ v1_3
    · rw [if_pos hc2] at h
      refine tw_br (cd := tw_c82) rfl rfl rfl (by exact if_pos hc2) ?_
      refine tw_forget (ls2 := [none, none, some (.int v1_2), none]) ⟨rfl, trivial⟩ ?_
      have h := Option.some.inj h
      subst h
      exact K
    · rw [if_neg hc2] at h
      refine tw_br (cd := tw_c82) rfl rfl rfl (by exact if_neg hc2) ?_
      refine tw_blk (cd := tw_c82) rfl 6 (c1 := (13, [some (.ref 36), some (.int a1), some (.int v1_2), some (.int v1_3)], [.int ((a1 >>> (v1_3 &&& 31)) &&& (1 : Int32)), .int v1_2], (I, L, tw_P tw dr rt 2, A, J, 57))) rfl ?_
      obtain ⟨x4, hj5, h⟩ := tw_bindE h
      have K : tw_ME 82 (20, [some (.ref 36), some (.int a1), none, some (.int v1_3)], [.int x4, .int v1_2], (I, L, tw_P tw dr rt 2, A, J, 57)) out := by
        refine tw_blk (cd := tw_c82) rfl 4 (c1 := (4, [some (.ref 36), some (.int a1), some (.int (v1_2 + x4)), some (.int (v1_3 + (1 : Int32)))], [], (I, L, tw_P tw dr rt 2, A, J, 57))) rfl ?_
        exact ih (v1_2 + x4) (v1_3 + (1 : Int32)) _ h K
      by_cases hc3 : ((a1 >>> (v1_3 &&& 31)) &&& (1 : Int32)) = 0
      · rw [if_pos hc3] at hj5
        refine tw_br (cd := tw_c82) rfl rfl rfl (by exact if_pos hc3) ?_
        refine tw_blk (cd := tw_c82) rfl 1 (c1 := (20, [some (.ref 36), some (.int a1), some (.int v1_2), some (.int v1_3)], [.int 0, .int v1_2], (I, L, tw_P tw dr rt 2, A, J, 57))) rfl ?_
        refine tw_forget (ls2 := [some (.ref 36), some (.int a1), none, some (.int v1_3)]) ⟨rfl, rfl, rfl, trivial⟩ ?_
        have hj5s := Option.some.inj hj5
        subst hj5s
        exact K
      · rw [if_neg hc3] at hj5
        refine tw_br (cd := tw_c82) rfl rfl rfl (by exact if_neg hc3) ?_
        refine tw_blk (cd := tw_c82) rfl 3 (c1 := (17, [some (.ref 36), some (.int a1), some (.int v1_2), some (.int v1_3)], [.int v1_3, .ref 38, .int v1_2], (I, L, tw_P tw dr rt 2, A, J, 57))) rfl ?_
        refine tw_callE (cd := tw_c82) rfl rfl rfl rfl rfl (tw_e_get I L (tw_P tw dr rt 2) A J (q := 38) (N := 6) rfl rfl (by decide) v1_3) (by exact Or.inl rfl) ?_
        refine tw_blk (cd := tw_c82) rfl 1 (c1 := (20, [some (.ref 36), some (.int a1), some (.int v1_2), some (.int v1_3)], [.int (tw_get0 6 (A 38) v1_3), .int v1_2], (I, L, tw_P tw dr rt 2, A, J, 57))) rfl ?_
        refine tw_forget (ls2 := [some (.ref 36), some (.int a1), none, some (.int v1_3)]) ⟨rfl, rfl, rfl, trivial⟩ ?_
        have hj5s := Option.some.inj hj5
        subst hj5s
        exact K
theorem e_X6_eyesOf (I : Nat → Int32) (L : Nat → Int64) (A : Nat → Nat → Int32) (J : Nat → Nat → Int64) (tw dr : Nat) (rt : Nat) (a1 : Int32) : ∀ r : Int32, g_X6_eyesOf A a1 = some r → tw_ME 82 (0, [some (.ref 36), some (.int a1), none, none], [], (I, L, tw_P tw dr rt 2, A, J, 57)) (some (.int r), (I, L, tw_P tw dr rt 2, A, J, 57)) := by
  intro r h
  unfold g_X6_eyesOf at h
  refine tw_blk (cd := tw_c82) rfl 4 (c1 := (4, [some (.ref 36), some (.int a1), some (.int 0), some (.int 0)], [], (I, L, tw_P tw dr rt 2, A, J, 57))) rfl ?_
  obtain ⟨x1, hx6, h⟩ := tw_bindE h
  refine g_X6_eyesOf_L1_ok I L A J tw dr rt a1 _ 4096 (0 : Int32) (0 : Int32) _ hx6 ?_
  refine tw_blk (cd := tw_c82) rfl 1 (c1 := (25, [none, none, some (.int x1), none], [.int x1], (I, L, tw_P tw dr rt 2, A, J, 57))) rfl ?_
  have h := Option.some.inj h
  subst h
  exact tw_retE (cd := tw_c82) rfl rfl rfl rfl
theorem e_X9_eyes (I : Nat → Int32) (L : Nat → Int64) (A : Nat → Nat → Int32) (J : Nat → Nat → Int64) (rt : Nat) (sc : Nat) (a1 : Int32) (a2 : Int32) : ∀ r : (Int32 × (Nat → Int32) × (Nat → Nat → Int32) × Nat), g_X9_eyes I A sc a1 a2 = some r → tw_ME 123 (0, [some (.ref 0), some (.int a1), some (.int a2)], [], (I, L, tw_P 2 14 rt sc, A, J, 57)) (some (.int r.1), ((r.2.1), L, tw_P 2 14 rt (r.2.2.2), (r.2.2.1), J, 57)) := by
  intro r h
  unfold g_X9_eyes at h
  refine tw_blk (cd := tw_c123) rfl 3 (c1 := (3, [some (.ref 0), some (.int a1), some (.int a2)], [.int a2, .int a1, .ref 0], (I, L, tw_P 2 14 rt sc, A, J, 57))) rfl ?_
  obtain ⟨⟨c1, I2, A3⟩, hx4, h⟩ := tw_bindE h
  dsimp only at h
  refine tw_callE (cd := tw_c123) rfl rfl rfl rfl rfl (e_X9_mayNotLook I L A J rt sc a1 a2 _ hx4) (by exact Or.inl rfl) ?_
  by_cases hc5 : c1 = true
  · subst hc5
    rw [if_pos rfl] at h
    refine tw_br (cd := tw_c123) rfl rfl rfl (by exact rfl) ?_
    refine tw_blk (cd := tw_c123) rfl 1 (c1 := (6, [some (.ref 0), some (.int a1), some (.int a2)], [.int (-1)], (I2, L, tw_P 2 14 rt sc, A3, J, 57))) rfl ?_
    have h := Option.some.inj h
    subst h
    exact tw_retE (cd := tw_c123) rfl rfl rfl rfl
  · have hc5 := Bool.eq_false_iff.mpr hc5
    subst hc5
    rw [if_neg (by decide)] at h
    refine tw_br (cd := tw_c123) rfl rfl rfl (by exact rfl) ?_
    refine tw_blk (cd := tw_c123) rfl 7 (c1 := (14, [some (.ref 0), some (.int a1), some (.int a2)], [.int a2, .int a1, .ref 36, .ref 36, .ref 0], (I2, L, tw_P 2 14 rt 2, A3, J, 57))) rfl ?_
    obtain ⟨x6, hx7, h⟩ := tw_bindE h
    refine tw_callE (cd := tw_c123) rfl rfl rfl rfl rfl (e_X6_seers I2 L A3 J 2 14 rt a1 a2 _ hx7) (by exact Or.inl rfl) ?_
    obtain ⟨x8, hx9, h⟩ := tw_bindE h
    refine tw_callE (cd := tw_c123) rfl rfl rfl rfl rfl (e_X6_eyesOf I2 L A3 J 2 14 rt x6 _ hx9) (by exact Or.inl rfl) ?_
    obtain ⟨⟨x10, I11⟩, hx12, h⟩ := tw_letE h
    dsimp only at h
    refine tw_callE (cd := tw_c123) rfl rfl rfl rfl rfl (e_X9_grant I2 L A3 J 2 14 rt 2 x8 _ hx12) (by exact Or.inl rfl) ?_
    have h := Option.some.inj h
    subst h
    exact tw_retE (cd := tw_c123) rfl rfl rfl rfl
theorem g_X10_eyesOf_L1_ok (I : Nat → Int32) (L : Nat → Int64) (A : Nat → Nat → Int32) (J : Nat → Nat → Int64) (tw : Nat) (dr : Nat) (rt : Nat) (sc : Nat) (a1 : Int32) (out : Option Value × tw_S) : ∀ (n : Nat) (v1_2 : Int32) (v1_3 : Int32) (ex : Int32), g_X10_eyesOf_L1 A a1 n v1_2 v1_3 = some ex → tw_ME 244 (25, [none, none, some (.int ex), none], [], (I, L, tw_P tw dr rt sc, A, J, 57)) out → tw_ME 244 (4, [some (.ref 44), some (.int a1), some (.int v1_2), some (.int v1_3)], [], (I, L, tw_P tw dr rt sc, A, J, 57)) out := by
  intro n
  induction n with
  | zero =>
    intro v1_2 v1_3 ex h _
    cases h
  | succ n ih =>
    intro v1_2 v1_3 ex h K
    rw [g_X10_eyesOf_L1] at h
    refine tw_blk (cd := tw_c244) rfl 1 (c1 := (5, [some (.ref 44), some (.int a1), some (.int v1_2), some (.int v1_3)], [.int v1_3], (I, L, tw_P tw dr rt sc, A, J, 57))) rfl ?_
    refine tw_blk (cd := tw_c244) rfl 3 (c1 := (8, [some (.ref 44), some (.int a1), some (.int v1_2), some (.int v1_3)], [.int 3, .ref 47, .int v1_3], (I, L, tw_P tw dr rt sc, A, J, 57))) rfl ?_
    obtain ⟨x3, hx2, h⟩ := tw_bindE h
    refine tw_iald (cd := tw_c244) (N := 241) rfl rfl rfl rfl hx2 ?_
    by_cases hc4 : x3 ≤ v1_3
    · rw [if_pos hc4] at h
      refine tw_br (cd := tw_c244) rfl rfl rfl (by exact if_pos hc4) ?_
      refine tw_forget (ls2 := [none, none, some (.int v1_2), none]) ⟨rfl, trivial⟩ ?_
      have h := Option.some.inj h
      subst h
      exact K
    · rw [if_neg hc4] at h
      refine tw_br (cd := tw_c244) rfl rfl rfl (by exact if_neg hc4) ?_
      refine tw_blk (cd := tw_c244) rfl 3 (c1 := (13, [some (.ref 44), some (.int a1), some (.int v1_2), some (.int v1_3)], [.int v1_3, .int a1, .int v1_2], (I, L, tw_P tw dr rt sc, A, J, 57))) rfl ?_
      refine tw_callE (cd := tw_c244) rfl rfl rfl rfl rfl (e_X10_hasBit I L A J tw dr rt sc a1 v1_3 _ rfl) (by exact Or.inl rfl) ?_
      obtain ⟨x6, hj7, h⟩ := tw_bindE h
      have K : tw_ME 244 (21, [some (.ref 44), some (.int a1), none, some (.int v1_3)], [.int x6, .int v1_2], (I, L, tw_P tw dr rt sc, A, J, 57)) out := by
        refine tw_blk (cd := tw_c244) rfl 4 (c1 := (4, [some (.ref 44), some (.int a1), some (.int (v1_2 + x6)), some (.int (v1_3 + (1 : Int32)))], [], (I, L, tw_P tw dr rt sc, A, J, 57))) rfl ?_
        exact ih (v1_2 + x6) (v1_3 + (1 : Int32)) _ h K
      by_cases hc5 : (g_X10_hasBit a1 v1_3) = true
      · rw [if_pos hc5] at hj7
        refine tw_br (cd := tw_c244) rfl rfl rfl (by exact if_neg (tw_b_t hc5)) ?_
        refine tw_blk (cd := tw_c244) rfl 3 (c1 := (18, [some (.ref 44), some (.int a1), some (.int v1_2), some (.int v1_3)], [.int v1_3, .ref 54, .int v1_2], (I, L, tw_P tw dr rt sc, A, J, 57))) rfl ?_
        obtain ⟨x9, hx8, hj7⟩ := tw_bindE hj7
        refine tw_iald (cd := tw_c244) (N := 6) rfl rfl rfl rfl hx8 ?_
        refine tw_blk (cd := tw_c244) rfl 1 (c1 := (21, [some (.ref 44), some (.int a1), some (.int v1_2), some (.int v1_3)], [.int x9, .int v1_2], (I, L, tw_P tw dr rt sc, A, J, 57))) rfl ?_
        refine tw_forget (ls2 := [some (.ref 44), some (.int a1), none, some (.int v1_3)]) ⟨rfl, rfl, rfl, trivial⟩ ?_
        have hj7s := Option.some.inj hj7
        subst hj7s
        exact K
      · rw [if_neg hc5] at hj7
        refine tw_br (cd := tw_c244) rfl rfl rfl (by exact if_pos (tw_b_f hc5)) ?_
        refine tw_blk (cd := tw_c244) rfl 1 (c1 := (21, [some (.ref 44), some (.int a1), some (.int v1_2), some (.int v1_3)], [.int 0, .int v1_2], (I, L, tw_P tw dr rt sc, A, J, 57))) rfl ?_
        refine tw_forget (ls2 := [some (.ref 44), some (.int a1), none, some (.int v1_3)]) ⟨rfl, rfl, rfl, trivial⟩ ?_
        have hj7s := Option.some.inj hj7
        subst hj7s
        exact K
theorem e_X10_eyesOf (I : Nat → Int32) (L : Nat → Int64) (A : Nat → Nat → Int32) (J : Nat → Nat → Int64) (tw dr : Nat) (rt : Nat) (sc : Nat) (a1 : Int32) : ∀ r : Int32, g_X10_eyesOf A a1 = some r → tw_ME 244 (0, [some (.ref 44), some (.int a1), none, none], [], (I, L, tw_P tw dr rt sc, A, J, 57)) (some (.int r), (I, L, tw_P tw dr rt sc, A, J, 57)) := by
  intro r h
  unfold g_X10_eyesOf at h
  refine tw_blk (cd := tw_c244) rfl 4 (c1 := (4, [some (.ref 44), some (.int a1), some (.int 0), some (.int 0)], [], (I, L, tw_P tw dr rt sc, A, J, 57))) rfl ?_
  obtain ⟨x1, hx10, h⟩ := tw_bindE h
  refine g_X10_eyesOf_L1_ok I L A J tw dr rt sc a1 _ 4096 (0 : Int32) (0 : Int32) _ hx10 ?_
  refine tw_blk (cd := tw_c244) rfl 1 (c1 := (26, [none, none, some (.int x1), none], [.int x1], (I, L, tw_P tw dr rt sc, A, J, 57))) rfl ?_
  have h := Option.some.inj h
  subst h
  exact tw_retE (cd := tw_c244) rfl rfl rfl rfl
theorem e_X10_eyes (I : Nat → Int32) (L : Nat → Int64) (A : Nat → Nat → Int32) (J : Nat → Nat → Int64) (tw dr : Nat) (rt : Nat) (sc : Nat) (a1 : Int32) (a2 : Int32) : ∀ r : (Int32 × (Nat → Int32) × (Nat → Nat → Int32)), g_X10_eyes I A a1 a2 = some r → tw_ME 257 (0, [some (.ref 44), some (.int a1), some (.int a2), none], [], (I, L, tw_P tw dr rt sc, A, J, 57)) (some (.int r.1), ((r.2.1), L, tw_P tw dr rt sc, (r.2.2), J, 57)) := by
  intro r h
  unfold g_X10_eyes at h
  refine tw_blk (cd := tw_c257) rfl 1 (c1 := (1, [some (.ref 44), some (.int a1), some (.int a2), none], [.ref 44], (I, L, tw_P tw dr rt sc, A, J, 57))) rfl ?_
  obtain ⟨I1, hx2, h⟩ := tw_letE h
  refine tw_callE (cd := tw_c257) rfl rfl rfl rfl rfl (e_X10_good I L A J tw dr rt sc _ hx2) (by exact Or.inl rfl) ?_
  refine tw_blk (cd := tw_c257) rfl 3 (c1 := (5, [some (.ref 44), some (.int a1), some (.int a2), none], [.int a1, .ref 44, .ref 44], (I1, L, tw_P tw dr rt sc, A, J, 57))) rfl ?_
  obtain ⟨c3, hx4, h⟩ := tw_bindE h
  refine tw_callE (cd := tw_c257) rfl rfl rfl rfl rfl (e_X10_isPlace I1 L A J tw dr rt sc a1 _ hx4) (by exact Or.inl rfl) ?_
  refine tw_blk (cd := tw_c257) rfl 2 (c1 := (8, [some (.ref 44), some (.int a1), some (.int a2), none], [.int a2, .ref 44, .int (tw_b c3), .ref 44], (I1, L, tw_P tw dr rt sc, A, J, 57))) rfl ?_
  refine tw_callE (cd := tw_c257) rfl rfl rfl rfl rfl (e_X10_isMinute I1 L A J tw dr rt sc a2 _ rfl) (by exact Or.inl rfl) ?_
  refine tw_callE (cd := tw_c257) rfl rfl rfl rfl rfl (e_X10_why I1 L A J tw dr rt sc (tw_b c3) (tw_b (g_X10_isMinute a2)) _ rfl) (by exact Or.inl rfl) ?_
  refine tw_blk (cd := tw_c257) rfl 2 (c1 := (12, [some (.ref 44), some (.int a1), some (.int a2), some (.int (g_X10_why (tw_b c3) (tw_b (g_X10_isMinute a2))))], [.int (g_X10_why (tw_b c3) (tw_b (g_X10_isMinute a2)))], (I1, L, tw_P tw dr rt sc, A, J, 57))) rfl ?_
  by_cases hc5 : (g_X10_why (tw_b c3) (tw_b (g_X10_isMinute a2))) = 0
  · rw [if_pos hc5] at h
    refine tw_br (cd := tw_c257) rfl rfl rfl (by exact if_pos hc5) ?_
    refine tw_blk (cd := tw_c257) rfl 1 (c1 := (18, [some (.ref 44), some (.int a1), some (.int a2), some (.int (g_X10_why (tw_b c3) (tw_b (g_X10_isMinute a2))))], [.ref 44], (I1, L, tw_P tw dr rt sc, A, J, 57))) rfl ?_
    obtain ⟨A6, hx7, h⟩ := tw_bindE h
    refine tw_callE (cd := tw_c257) rfl rfl rfl rfl rfl (e_X10_asNow I1 L A J tw dr rt sc _ hx7) (by exact Or.inl rfl) ?_
    refine tw_blk (cd := tw_c257) rfl 4 (c1 := (23, [some (.ref 44), some (.int a1), some (.int a2), some (.int (g_X10_why (tw_b c3) (tw_b (g_X10_isMinute a2))))], [.int a2, .int a1, .ref 44, .ref 44], (I1, L, tw_P tw dr rt sc, A6, J, 57))) rfl ?_
    obtain ⟨x8, hx9, h⟩ := tw_bindE h
    refine tw_callE (cd := tw_c257) rfl rfl rfl rfl rfl (e_X10_watchersOf I1 L A6 J tw dr rt sc a1 a2 _ hx9) (by exact Or.inl rfl) ?_
    obtain ⟨x10, hx11, h⟩ := tw_bindE h
    refine tw_callE (cd := tw_c257) rfl rfl rfl rfl rfl (e_X10_eyesOf I1 L A6 J tw dr rt sc x8 _ hx11) (by exact Or.inl rfl) ?_
    have h := Option.some.inj h
    subst h
    exact tw_retE (cd := tw_c257) rfl rfl rfl rfl
  · rw [if_neg hc5] at h
    refine tw_br (cd := tw_c257) rfl rfl rfl (by exact if_neg hc5) ?_
    refine tw_blk (cd := tw_c257) rfl 2 (c1 := (15, [some (.ref 44), some (.int a1), some (.int a2), some (.int (g_X10_why (tw_b c3) (tw_b (g_X10_isMinute a2))))], [.int (g_X10_why (tw_b c3) (tw_b (g_X10_isMinute a2))), .ref 44], (I1, L, tw_P tw dr rt sc, A, J, 57))) rfl ?_
    obtain ⟨⟨x12, I13⟩, hx14, h⟩ := tw_letE h
    dsimp only at h
    refine tw_callE (cd := tw_c257) rfl rfl rfl rfl rfl (e_X10_no I1 L A J tw dr rt sc (g_X10_why (tw_b c3) (tw_b (g_X10_isMinute a2))) _ hx14) (by exact Or.inl rfl) ?_
    have h := Option.some.inj h
    subst h
    exact tw_retE (cd := tw_c257) rfl rfl rfl rfl
theorem e_X9_hasTown (I : Nat → Int32) (L : Nat → Int64) (A : Nat → Nat → Int32) (J : Nat → Nat → Int64) (rt : Nat) (sc : Nat) : ∀ r : Bool, g_X9_hasTown A = r → tw_ME 177 (0, [some (.ref 0)], [], (I, L, tw_P 2 14 rt sc, A, J, 57)) (some (.int (tw_b r)), (I, L, tw_P 2 14 rt sc, A, J, 57)) := by
  intro r h
  unfold g_X9_hasTown at h
  refine tw_blk (cd := tw_c177) rfl 3 (c1 := (3, [some (.ref 0)], [.int 1, .ref 2], (I, L, tw_P 2 14 rt sc, A, J, 57))) rfl ?_
  refine tw_callE (cd := tw_c177) rfl rfl rfl rfl rfl (e_X8_count_2 I L A J 2 14 rt sc (1 : Int32) _ rfl) (by exact Or.inl rfl) ?_
  by_cases hc1 : (g_X8_count_2 A (1 : Int32)) ≤ 0
  · rw [if_pos hc1] at h
    refine tw_br (cd := tw_c177) rfl rfl rfl (by exact if_pos hc1) ?_
    refine tw_blk (cd := tw_c177) rfl 1 (c1 := (8, [some (.ref 0)], [.int 0], (I, L, tw_P 2 14 rt sc, A, J, 57))) rfl ?_
    subst h
    exact tw_retZ (cd := tw_c177) (b := false) rfl rfl rfl rfl
  · rw [if_neg hc1] at h
    refine tw_br (cd := tw_c177) rfl rfl rfl (by exact if_neg hc1) ?_
    refine tw_blk (cd := tw_c177) rfl 2 (c1 := (8, [some (.ref 0)], [.int 1], (I, L, tw_P 2 14 rt sc, A, J, 57))) rfl ?_
    subst h
    exact tw_retZ (cd := tw_c177) (b := true) rfl rfl rfl rfl
theorem g_X9_hidden_L1_ok (I : Nat → Int32) (L : Nat → Int64) (A : Nat → Nat → Int32) (J : Nat → Nat → Int64) (rt : Nat) (sc : Nat) (a1 : Int32) (I3 : Nat → Int32) (A4 : Nat → Nat → Int32) (out : Option Value × tw_S) : ∀ (n : Nat) (v1_2 : Int32) (v1_3 : Int32) (ex : Int32), g_X9_hidden_L1 a1 I3 A4 n v1_2 v1_3 = some ex → tw_ME 124 (43, [some (.ref 0), none, some (.int ex), none], [], (I3, L, tw_P 2 14 rt 2, A4, J, 57)) out → tw_ME 124 (20, [some (.ref 0), some (.int a1), some (.int v1_2), some (.int v1_3)], [], (I3, L, tw_P 2 14 rt 2, A4, J, 57)) out := by
  intro n
  induction n with
  | zero =>
    intro v1_2 v1_3 ex h _
    cases h
  | succ n ih =>
    intro v1_2 v1_3 ex h K
    rw [g_X9_hidden_L1] at h
    refine tw_blk (cd := tw_c124) rfl 1 (c1 := (21, [some (.ref 0), some (.int a1), some (.int v1_2), some (.int v1_3)], [.int v1_3], (I3, L, tw_P 2 14 rt 2, A4, J, 57))) rfl ?_
    refine tw_blk (cd := tw_c124) rfl 3 (c1 := (24, [some (.ref 0), some (.int a1), some (.int v1_2), some (.int v1_3)], [.int 1, .ref 2, .int v1_3], (I3, L, tw_P 2 14 rt 2, A4, J, 57))) rfl ?_
    refine tw_callE (cd := tw_c124) rfl rfl rfl rfl rfl (e_X8_count_2 I3 L A4 J 2 14 rt 2 (1 : Int32) _ rfl) (by exact Or.inl rfl) ?_
    by_cases hc7 : (g_X8_count_2 A4 (1 : Int32)) ≤ v1_3
    · rw [if_pos hc7] at h
      refine tw_br (cd := tw_c124) rfl rfl rfl (by exact if_pos hc7) ?_
      refine tw_forget (ls2 := [some (.ref 0), none, some (.int v1_2), none]) ⟨rfl, rfl, trivial⟩ ?_
      have h := Option.some.inj h
      subst h
      exact K
    · rw [if_neg hc7] at h
      refine tw_br (cd := tw_c124) rfl rfl rfl (by exact if_neg hc7) ?_
      refine tw_blk (cd := tw_c124) rfl 6 (c1 := (32, [some (.ref 0), some (.int a1), some (.int v1_2), some (.int v1_3)], [.int a1, .int v1_3, .ref 36, .ref 36], (I3, L, tw_P 2 14 rt 2, A4, J, 57))) rfl ?_
      obtain ⟨x8, hx9, h⟩ := tw_bindE h
      refine tw_callE (cd := tw_c124) rfl rfl rfl rfl rfl (e_X6_seers I3 L A4 J 2 14 rt v1_3 a1 _ hx9) (by exact Or.inl rfl) ?_
      obtain ⟨x10, hx11, h⟩ := tw_bindE h
      refine tw_callE (cd := tw_c124) rfl rfl rfl rfl rfl (e_X6_eyesOf I3 L A4 J 2 14 rt x8 _ hx11) (by exact Or.inl rfl) ?_
      obtain ⟨x13, hj14, h⟩ := tw_bindE h
      have K : tw_ME 124 (41, [some (.ref 0), some (.int a1), some (.int x13), some (.int v1_3)], [], (I3, L, tw_P 2 14 rt 2, A4, J, 57)) out := by
        refine tw_blk (cd := tw_c124) rfl 2 (c1 := (20, [some (.ref 0), some (.int a1), some (.int x13), some (.int (v1_3 + (1 : Int32)))], [], (I3, L, tw_P 2 14 rt 2, A4, J, 57))) rfl ?_
        exact ih x13 (v1_3 + (1 : Int32)) _ h K
      by_cases hc12 : x10 = 0
      · rw [if_pos hc12] at hj14
        refine tw_br (cd := tw_c124) rfl rfl rfl (by exact if_pos hc12) ?_
        refine tw_blk (cd := tw_c124) rfl 6 (c1 := (41, [some (.ref 0), some (.int a1), some (.int (v1_2 ||| ((1 : Int32) <<< (v1_3 &&& 31)))), some (.int v1_3)], [], (I3, L, tw_P 2 14 rt 2, A4, J, 57))) rfl ?_
        have hj14s := Option.some.inj hj14
        subst hj14s
        exact K
      · rw [if_neg hc12] at hj14
        refine tw_br (cd := tw_c124) rfl rfl rfl (by exact if_neg hc12) ?_
        have hj14s := Option.some.inj hj14
        subst hj14s
        exact K
theorem e_X9_hidden (I : Nat → Int32) (L : Nat → Int64) (A : Nat → Nat → Int32) (J : Nat → Nat → Int64) (rt : Nat) (sc : Nat) (a1 : Int32) : ∀ r : (Int32 × (Nat → Int32) × (Nat → Nat → Int32) × Nat), g_X9_hidden I A sc a1 = some r → tw_ME 124 (0, [some (.ref 0), some (.int a1), none, none], [], (I, L, tw_P 2 14 rt sc, A, J, 57)) (some (.int r.1), ((r.2.1), L, tw_P 2 14 rt (r.2.2.2), (r.2.2.1), J, 57)) := by
  intro r h
  unfold g_X9_hidden at h
  refine tw_blk (cd := tw_c124) rfl 1 (c1 := (1, [some (.ref 0), some (.int a1), none, none], [.ref 0], (I, L, tw_P 2 14 rt sc, A, J, 57))) rfl ?_
  refine tw_callE (cd := tw_c124) rfl rfl rfl rfl rfl (e_X9_hasTown I L A J rt sc _ rfl) (by exact Or.inl rfl) ?_
  by_cases hc1 : (g_X9_hasTown A) = true
  · rw [if_pos hc1] at h
    refine tw_br (cd := tw_c124) rfl rfl rfl (by exact if_neg (tw_b_t hc1)) ?_
    refine tw_blk (cd := tw_c124) rfl 1 (c1 := (8, [some (.ref 0), some (.int a1), none, none], [.int a1], (I, L, tw_P 2 14 rt sc, A, J, 57))) rfl ?_
    refine tw_callE (cd := tw_c124) rfl rfl rfl rfl rfl (e_X9_isMinute I L A J 2 14 rt sc a1 _ rfl) (by exact Or.inl rfl) ?_
    by_cases hc2 : (g_X9_isMinute a1) = true
    · rw [if_pos hc2] at h
      refine tw_br (cd := tw_c124) rfl rfl rfl (by exact if_neg (tw_b_t hc2)) ?_
      refine tw_blk (cd := tw_c124) rfl 1 (c1 := (15, [some (.ref 0), some (.int a1), none, none], [.ref 0], (I, L, tw_P 2 14 rt sc, A, J, 57))) rfl ?_
      obtain ⟨⟨I3, A4⟩, hx5, h⟩ := tw_bindE h
      dsimp only at h
      refine tw_callE (cd := tw_c124) rfl rfl rfl rfl rfl (e_X9_showNow I L A J rt sc _ hx5) (by exact Or.inl rfl) ?_
      refine tw_blk (cd := tw_c124) rfl 4 (c1 := (20, [some (.ref 0), some (.int a1), some (.int 0), some (.int 0)], [], (I3, L, tw_P 2 14 rt 2, A4, J, 57))) rfl ?_
      obtain ⟨x6, hx18, h⟩ := tw_bindE h
      refine g_X9_hidden_L1_ok I L A J rt sc a1 I3 A4 _ 4096 (0 : Int32) (0 : Int32) _ hx18 ?_
      refine tw_blk (cd := tw_c124) rfl 2 (c1 := (45, [some (.ref 0), none, some (.int x6), none], [.int x6, .ref 0], (I3, L, tw_P 2 14 rt 2, A4, J, 57))) rfl ?_
      obtain ⟨⟨x15, I16⟩, hx17, h⟩ := tw_letE h
      dsimp only at h
      refine tw_callE (cd := tw_c124) rfl rfl rfl rfl rfl (e_X9_grant I3 L A4 J 2 14 rt 2 x6 _ hx17) (by exact Or.inl rfl) ?_
      have h := Option.some.inj h
      subst h
      exact tw_retE (cd := tw_c124) rfl rfl rfl rfl
    · rw [if_neg hc2] at h
      refine tw_br (cd := tw_c124) rfl rfl rfl (by exact if_pos (tw_b_f hc2)) ?_
      refine tw_blk (cd := tw_c124) rfl 2 (c1 := (12, [some (.ref 0), some (.int a1), none, none], [.int 2, .ref 0], (I, L, tw_P 2 14 rt sc, A, J, 57))) rfl ?_
      obtain ⟨⟨x19, I20⟩, hx21, h⟩ := tw_letE h
      dsimp only at h
      refine tw_callE (cd := tw_c124) rfl rfl rfl rfl rfl (e_X9_refuse I L A J 2 14 rt sc (2 : Int32) _ hx21) (by exact Or.inl rfl) ?_
      have h := Option.some.inj h
      subst h
      exact tw_retE (cd := tw_c124) rfl rfl rfl rfl
  · rw [if_neg hc1] at h
    refine tw_br (cd := tw_c124) rfl rfl rfl (by exact if_pos (tw_b_f hc1)) ?_
    refine tw_blk (cd := tw_c124) rfl 2 (c1 := (5, [some (.ref 0), some (.int a1), none, none], [.int 1, .ref 0], (I, L, tw_P 2 14 rt sc, A, J, 57))) rfl ?_
    obtain ⟨⟨x22, I23⟩, hx24, h⟩ := tw_letE h
    dsimp only at h
    refine tw_callE (cd := tw_c124) rfl rfl rfl rfl rfl (e_X9_refuse I L A J 2 14 rt sc (1 : Int32) _ hx24) (by exact Or.inl rfl) ?_
    have h := Option.some.inj h
    subst h
    exact tw_retE (cd := tw_c124) rfl rfl rfl rfl
